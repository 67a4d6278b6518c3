def a_noc (x y z : Int32) : Prop := a_out x 100 ∨ (a_out y 10 ∨ y = nI 0) ∨ a_out z 10
theorem a_crowd (x y z : Int32) : a_noc x y z ∨ ∃ a m e, x = nI a ∧ y = nI m ∧ z = nI e ∧ a ≤ 99 ∧ 1 ≤ m ∧ m ≤ 9 ∧ e ≤ 9 := by
  unfold a_noc
  rcases a_cases x (n := 100) (by omega) with h | ⟨a, ha, rfl⟩
  · exact Or.inl (Or.inl h)
  rcases a_cases y (n := 10) (by omega) with h | ⟨m, hm, rfl⟩
  · exact Or.inl (Or.inr (Or.inl (Or.inl h)))
  by_cases c : m = 0
  · subst c; exact Or.inl (Or.inr (Or.inl (Or.inr rfl)))
  rcases a_cases z (n := 10) (by omega) with h | ⟨e, he, rfl⟩
  · exact Or.inl (Or.inr (Or.inr h))
  exact Or.inr ⟨a, m, e, rfl, rfl, rfl, by omega, by omega, by omega, by omega⟩
theorem c_isCrowd1 {fu a m e : Nat} {S : g_St} (ha : a ≤ 99) (h1 : 1 ≤ m) (hm : m ≤ 9) (he : e ≤ 9) : f_X7_isCrowd fu (nI a) (nI m) (nI e) S = some (1, S) := by
  unfold f_X7_isCrowd
  rw [if_neg (nI_pos (by omega)), if_neg (show ¬ (99 : Int32) < nI a from nI_nlt (a := 99) (by omega) (by omega)), if_neg (show ¬ nI m < 1 from nI_nlt (b := 1) (by omega) (by omega)), if_neg (show ¬ (9 : Int32) < nI m from nI_nlt (a := 9) (by omega) (by omega)), if_neg (nI_pos (by omega)), if_neg (show ¬ (9 : Int32) < nI e from nI_nlt (a := 9) (by omega) (by omega)), e_zb1]
theorem c_isCrowd0 {fu : Nat} {x y z : Int32} {S : g_St} (h : a_noc x y z) : f_X7_isCrowd fu x y z S = some (0, S) := by
  unfold f_X7_isCrowd
  simp only [e_zb0, e_zb1]
  rcases h with h | h | h
  · exact a_if1 (n := 99) h rfl (by omega)
  · have e := a_if5 (n := 9) (y := 9) (A := (some ((0 : Int32), S) : Option (Int32 × g_St))) (B := if z < 0 then some (0, S) else if 9 < z then some (0, S) else some (1, S)) h rfl (by omega)
    rw [e, ite_self, ite_self]
  · have e := a_if1 (n := 9) (y := 9) (A := (some ((0 : Int32), S) : Option (Int32 × g_St))) (B := some (1, S)) h rfl (by omega)
    rw [e, ite_self, ite_self, ite_self, ite_self]
theorem m_comes0 {fu : Nat} {x y z : Int32} {Im : Nat → Nat → Int32} {Rm : Nat → Nat → Option Nat} (h : a_noc x y z) : f_X8_comes fu 0 x y z (Im, Rm) = some (-1, (Im, Rm)) := by
  unfold f_X8_comes
  rcases h with h | h | h
  · rw [m_in0 (c := 99) (n := 99) h rfl (by omega), k_bd, if_pos rfl]
  · rw [m_in, k_bd, m_in10 (c := 9) (n := 9) h rfl (by omega), k_bd, if_pos (show (0 : Int32) = 0 from rfl), ite_self]
  · rw [m_in, k_bd, m_in, k_bd, m_in0 (c := 9) (n := 9) h rfl (by omega), k_bd, if_pos (show (0 : Int32) = 0 from rfl), ite_self, ite_self]
theorem m_comes3 {fu a m e : Nat} {Im : Nat → Nat → Int32} {Rm : Nat → Nat → Option Nat} {P : Nat → Nat} (hM : m_R Rm) (hg : m_pg Im 0 P) (ha : a ≤ 99) (h1 : 1 ≤ m) (hm : m ≤ 9) (he : e ≤ 9) (h8 : P 41 = 8) : f_X8_comes fu 0 (nI a) (nI m) (nI e) (Im, Rm) = some (-3, (Im, Rm)) := by
  have g := m_pg0 hg
  unfold f_X8_comes
  rw [m_in1 (c := 99) (n := 99) ha rfl (by omega), k_bd, if_neg (by decide), m_in11 (c := 9) (n := 9) h1 hm rfl (by omega), k_bd, if_neg (by decide), m_in1 (c := 9) (n := 9) he rfl (by omega), k_bd, if_neg (by decide)]
  simp (disch := omega) only [m_ld0 hM, l_41, k_ix, g]
  exact if_pos (by rw [h8]; rfl)
theorem m_comes1 {fu a m e T : Nat} {Im : Nat → Nat → Int32} {Rm : Nat → Nat → Option Nat} {P : Nat → Nat} (hM : m_R Rm) (hg : m_pg Im 0 P) (hp : p_ok T P) (ha : a ≤ 99) (h1 : 1 ≤ m) (hm : m ≤ 9) (he : e ≤ 9) (h8 : P 41 < 8) : ∃ Im', f_X8_comes fu 0 (nI a) (nI m) (nI e) (Im, Rm) = some (nI (P 41 + 1), (Im', Rm)) ∧ m_pg Im' 0 (p_add P a m e) ∧ (∀ k, 45 ≤ k → Im' 1 k = Im 1 k) ∧ ∀ b, b ≠ 1 → Im' b = Im b := by
  have g := m_pg0 hg
  refine ⟨g_u (g_u (g_u (g_u Im 1 (17 + P 41) (nI a)) 1 (25 + P 41) (nI m)) 1 (33 + P 41) (nI e)) 1 41 (nI (P 41 + 1)), ?_, fun j hj => ?_, fun k hk => ?_, fun b hb => ?_⟩
  · unfold f_X8_comes
    rw [m_in1 (c := 99) (n := 99) ha rfl (by omega), k_bd, if_neg (by decide), m_in11 (c := 9) (n := 9) h1 hm rfl (by omega), k_bd, if_neg (by decide), m_in1 (c := 9) (n := 9) he rfl (by omega), k_bd, if_neg (by decide)]
    simp (disch := omega) only [m_ld0 hM, l_41, l_17, l_25, l_33, nI_add, k_ix, g]
    rw [if_neg (show ¬ nI (P 41) = (8 : Int32) from fun q => by have := (nI_eq (b := 8) (by omega) (by omega)).mp q; omega)]
    have x41 : (g_u (g_u (g_u Im 1 (17 + P 41) (nI a)) 1 (25 + P 41) (nI m)) 1 (33 + P 41) (nI e)) 1 41 = nI (P 41) := by
      rw [u_nk (by omega), u_nk (by omega), u_nk (by omega)]; exact g 41 (by omega)
    simp only [x41, nI_1, u_at]
  · rw [Nat.zero_add]
    by_cases j3 : j = 41
    · subst j3
      rw [u_at, add_41 h8]
    · rw [u_nk j3]
      by_cases j2 : j = 33 + P 41
      · subst j2
        rw [u_at, add_2]
      · rw [u_nk j2]
        by_cases j1 : j = 25 + P 41
        · subst j1
          rw [u_at, add_1]
        · rw [u_nk j1]
          by_cases j0 : j = 17 + P 41
          · subst j0
            rw [u_at, add_0]
          · rw [u_nk j0, add_x j0 j1 j2 j3]; exact g j hj
  · rw [u_nk (by omega), u_nk (by omega), u_nk (by omega), u_nk (by omega)]
  · rw [g_u_ne hb, g_u_ne hb, g_u_ne hb, g_u_ne hb]
theorem o_come {fu : Nat} {I Im : Nat → Nat → Int32} {R Rm : Nat → Nat → Option Nat} {t P Q0 Q1 : Nat → Nat} (h : r_all I R Im Rm t P Q0 Q1) (x y z : Int32) : ∃ r Sc1 Sm1, f_X7_come fu 0 x y z (I, R) = some (r, Sc1) ∧ f_X8_come fu 0 x y z (Im, Rm) = some (r, Sm1) ∧ r_Rel Sc1 Sm1 := by
  obtain ⟨hR, hM, ⟨hr, hg, hp, ho⟩, -⟩ := id h
  have b41 := hp.2.1
  unfold f_X7_come f_X8_come
  rcases a_crowd x y z with hx | ⟨a, m, e, rfl, rfl, rfl, ha, h1, hm, he⟩
  · exact ⟨-1, (I, R), (Im, Rm), by rw [c_isCrowd0 hx, k_bd, if_pos rfl], by rw [m_comes0 hx, k_bd], r_same h⟩
  rw [c_isCrowd1 ha h1 hm he, k_bd, if_neg (by decide)]
  simp only [c_ld0 hR]
  by_cases h8 : P 41 = 8
  · refine ⟨-3, (I, R), (Im, Rm), ?_, by rw [m_comes3 hM hg ha h1 hm he h8, k_bd], r_same h⟩
    rw [c_addCrowd0 hr h8, k_bd, if_pos rfl]
  · obtain ⟨I', ec, hr', h3', hk'⟩ := c_addCrowd (fu := fu) (a := a) (m := m) (e := e) hR.1 hr hp (by omega)
    obtain ⟨Im', em, mg, mk, ma⟩ := m_comes1 (fu := fu) hM hg hp ha h1 hm he (by omega)
    refine ⟨_, _, _, ?_, by rw [em, k_bd], r_newR h hR ⟨hr', mg, p_ok_add hp (by omega) ha hm he, fun e he => ?_⟩ (fun a ha => hk' a (by omega) (by omega)) ⟨fun k _ => by rw [ma 0 (by decide)], fun k h1 _ => mk k h1, fun a _ h1 _ _ => ma a h1⟩⟩
    · rw [ec, k_bd, if_neg (by decide)]
      simp only [c_ld0 hR]
      rw [h3']
    · rw [hk' (4 + e) (by omega) (by omega)]; exact ho e he
/-! ===== one passes ===== -/
theorem c_firstShut {fu o T : Nat} {I : Nat → Nat → Int32} {R : Nat → Nat → Option Nat} {dr P : Nat → Nat} (hg : h_geo R o dr) (hr : h_rep I o dr P) (hp : p_ok T P) (hf : 10 < fu) : ∃ r, f_X2_firstShut fu o (I, R) = some (r, (I, R)) ∧ ((p_adm (fun _ => false) P 1 (P 16) = 1 ∧ r = -4) ∨ ∃ d, d < P 16 ∧ p_adm (fun _ => false) P 1 d = 1 ∧ p_adm (fun _ => false) P 1 (d + 1) = 0 ∧ r = nI d) := by
  have b16 := hp.1
  obtain ⟨b, e1, hb⟩ := e_lpx (body := fun t => b_X2_firstShut_2 fu o t.1 t.2) (P 16) (fun i t => t = (nI i, (I, R)) ∧ p_adm (fun _ => false) P 1 i = 1) (fun b => (b = .inl (I, R) ∧ p_adm (fun _ => false) P 1 (P 16) = 1) ∨ ∃ d, d < P 16 ∧ p_adm (fun _ => false) P 1 d = 1 ∧ p_adm (fun _ => false) P 1 (d + 1) = 0 ∧ b = .inr (nI d, (I, R))) (by
    rintro i t hi ⟨rfl, hA⟩
    obtain ⟨r0, r1, r2, r3⟩ := hr.2.2.2.2.2.1 i hi
    have hA1 := p_adm_room (opn := fun _ => false) (P := P) (m := 1) (d := i) rfl
    rw [hA] at hA1
    have hl := p_room_le hp (d := i) (by omega)
    have step : b_X2_firstShut_2 fu o (nI i) (I, R) = if p_room P i = 0 then some (.inr (.inr (nI i, (I, R)))) else some (.inl (nI (i + 1), (I, R))) := by
      unfold b_X2_firstShut_2
      refine (if_neg (by show ¬ I o 2 ≤ nI i; rw [hr.1]; exact nI_ge hi (by omega))).trans ?_
      refine (e_ld hg.1 hg.2.2.2.2.2.1).trans ?_
      refine (e_ix (m := i) rfl (by omega) (by omega)).trans ?_
      refine (e_ld (hg.2.2.1 i (by omega)) (hg.2.2.2.2.2.2.2.1 i (by omega))).trans ?_
      refine (e_bd (c_room r0 r1 r3 hp (by omega))).trans ?_
      simp (disch := omega) only [l_0, nI_eq, nI_1]
    by_cases c : p_room P i = 0
    · rw [if_pos c] at step
      exact Or.inr ⟨_, step, Or.inr ⟨i, hi, hA, by omega, rfl⟩⟩
    · rw [if_neg c] at step
      exact Or.inl ⟨_, step, rfl, by omega⟩) (by
    rintro t ⟨rfl, hA⟩
    refine ⟨.inl (I, R), ?_, Or.inl ⟨rfl, hA⟩⟩
    show b_X2_firstShut_2 fu o (nI (P 16)) (I, R) = _
    unfold b_X2_firstShut_2
    exact if_pos (by show I o 2 ≤ nI (P 16); rw [hr.1]; exact nI_le (Nat.le_refl _) (by omega))) 0 fu (nI 0, (I, R)) (Nat.zero_le _) (by omega) ⟨rfl, rfl⟩
  rcases hb with ⟨rfl, hA⟩ | ⟨d, hd, hA, hB, rfl⟩
  · exact ⟨-4, (e_th e1).trans rfl, Or.inl ⟨hA, rfl⟩⟩
  · exact ⟨nI d, (e_th e1).trans rfl, Or.inr ⟨d, hd, hA, hB, rfl⟩⟩
theorem p_first {P : Nat → Nat} {opn : Nat → Bool} {r r' : Int32} (h : (p_adm opn P 1 (P 16) = 1 ∧ r = -4) ∨ ∃ d, d < P 16 ∧ p_adm opn P 1 d = 1 ∧ p_adm opn P 1 (d + 1) = 0 ∧ r = nI d) (h' : (p_adm opn P 1 (P 16) = 1 ∧ r' = -4) ∨ ∃ d, d < P 16 ∧ p_adm opn P 1 d = 1 ∧ p_adm opn P 1 (d + 1) = 0 ∧ r' = nI d) : r = r' := by
  rcases h with ⟨a, rfl⟩ | ⟨d, hd, hA, hB, rfl⟩ <;> rcases h' with ⟨a', rfl⟩ | ⟨d', hd', hA', hB', rfl⟩
  · rfl
  · have := p_adm_z hB' (P 16) (by omega)
    omega
  · have := p_adm_z hB (P 16) (by omega)
    omega
  · rcases Nat.lt_trichotomy d d' with q | q | q
    · have := p_adm_z hB d' (by omega)
      omega
    · rw [q]
    · have := p_adm_z hB' d (by omega)
      omega
theorem m_opn_none {I : Nat → Nat → Int32} (h : I 0 13 = -4) : m_opn I (fun _ => false) := fun d hd => by
  rw [h]
  exact ⟨fun q => absurd q (a_n4 (by omega)), fun q => by cases q⟩
theorem h_opn_none {I : Nat → Nat → Int32} {P : Nat → Nat} (h4 : P 16 ≤ 4) (ho : ∀ d, d < 4 → I (4 + d) 5 = nI 0) : h_opn I (fun d => 4 + d) (P 16) (fun _ => false) := fun d hd => by
  show I (4 + d) 5 = _
  rw [ho d (by omega)]
  rfl
theorem ho_of {I' : Nat → Nat → Int32} {n : Nat} (h : h_opn I' (fun d => 4 + d) n (fun _ => false)) : ∀ d, d < n → I' (4 + d) 5 = nI 0 := fun d hd => by
  have := h d hd
  exact this.trans rfl
theorem o_pass {fu : Nat} {I Im : Nat → Nat → Int32} {R Rm : Nat → Nat → Option Nat} {t P Q0 Q1 : Nat → Nat} (h : r_all I R Im Rm t P Q0 Q1) (hf : 1000 < fu) : ∃ r Sc1 Sm1, f_X7_pass fu 0 (I, R) = some (r, Sc1) ∧ f_X8_pass fu 0 (Im, Rm) = some (r, Sm1) ∧ r_Rel Sc1 Sm1 := by
  obtain ⟨hR, hM, ⟨hr, hg, hp, ho⟩, -, -, -, -, -, -, h13, -⟩ := id h
  have b16 := hp.1
  obtain ⟨r, e1, s1⟩ := c_firstShut (fu := fu) hR.1 hr hp (by omega)
  obtain ⟨I', e2, hr', ho', hk', -⟩ := c_admit (fu := fu) (m := 1) hR.1 hr (h_opn_none b16 ho) hp (by omega) (by omega)
  obtain ⟨r', Im', e3, s3, mg, -, -, -, k0, k1, ka⟩ := m_passOn (fu := fu) hM hg (m_opn_none h13) hp (by omega) (by omega)
  have er := p_first s1 s3
  subst er
  refine ⟨r, (I', R), (Im', Rm), ?_, ?_, r_newR h hR ⟨hr', mg, p_ok_pass hp, fun d hd => ?_⟩ (fun a ha => hk' a (by omega) (fun d _ => by show a ≠ 4 + d; omega)) ⟨fun k hk => k0 k (by omega) (by omega), fun k h1 _ => k1 k (by omega), fun a x y z _ => ka a x y z⟩⟩
  · unfold f_X7_pass
    simp only [c_ld0 hR, e1, k_bd]
    have e2' : f_X2_admit fu 1 1 (I, R) = _ := e2
    rw [e2', k_bd]
  · unfold f_X8_pass
    have e3' : f_X8_passOn fu 0 0 (Im, Rm) = _ := e3
    rw [e3', k_bd]
  · rcases Nat.lt_or_ge d (P 16) with q | q
    · exact ho_of ho' d q
    · rw [hk' (4 + d) (by omega) (fun e he => by show 4 + d ≠ 4 + e; omega)]; exact ho d hd
