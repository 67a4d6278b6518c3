theorem m_alter_no {fu : Nat} {x y z : Int32} {Im : Nat → Nat → Int32} {Rm : Nat → Nat → Option Nat} (h : ∀ s, j_X8_alter_64 fu 0 x y z s (Im, Rm) = some (-1, (Im, Rm))) : f_X8_alter fu 0 x y z (Im, Rm) = some (-1, (Im, Rm)) := by
  unfold f_X8_alter j_X8_alter_63
  simp only [m_in, k_bd, h, ite_self]
theorem m_alter_w {fu w : Nat} {x z : Int32} {Im : Nat → Nat → Int32} {Rm : Nat → Nat → Option Nat} (hw : w < 4) (s : Nat) (hs : s ≤ 1) (h : (a_bad z w ∧ s = 0) ∨ ∃ v, z = nI v ∧ a_good w v ∧ s = 1) : f_X8_alter fu 0 x (nI w) z (Im, Rm) = j_X8_alter_64 fu 0 x (nI w) z (nI s) (Im, Rm) := by
  unfold f_X8_alter j_X8_alter_63
  rcases h with ⟨hb, rfl⟩ | ⟨v, rfl, hv, rfl⟩
  · unfold a_bad at hb
    rcases (show w = 0 ∨ w = 1 ∨ w = 2 ∨ w = 3 by omega) with rfl | rfl | rfl | rfl
    · rw [if_pos (show nI 0 = (0 : Int32) from rfl), m_in0 (c := 3) (n := 3) (by rcases hb with ⟨q, h⟩ | ⟨q, h⟩ | ⟨q, h⟩ <;> first | exact h | omega) rfl (by omega), k_bd]; rfl
    · rw [if_neg (by decide), if_pos (show nI 1 = (1 : Int32) from rfl), m_in10 (c := 9) (n := 9) (by rcases hb with ⟨q, h⟩ | ⟨q, h⟩ | ⟨q, h⟩ <;> first | exact h | omega) rfl (by omega), k_bd]; rfl
    · rw [if_neg (by decide), if_neg (by decide), m_in, if_pos (by decide), k_bd, if_neg (by decide), m_in0 (c := 9) (n := 9) (by rcases hb with ⟨q, h⟩ | ⟨q, h⟩ | ⟨q, h⟩ <;> first | exact h | omega) rfl (by omega), k_bd, if_pos rfl]; rfl
    · rw [if_neg (by decide), if_neg (by decide), m_in, if_pos (by decide), k_bd, if_neg (by decide), m_in0 (c := 9) (n := 9) (by rcases hb with ⟨q, h⟩ | ⟨q, h⟩ | ⟨q, h⟩ <;> first | exact h | omega) rfl (by omega), k_bd, if_pos rfl]; rfl
  · unfold a_good at hv
    rcases (show w = 0 ∨ w = 1 ∨ w = 2 ∨ w = 3 by omega) with rfl | rfl | rfl | rfl
    · rw [if_pos (show nI 0 = (0 : Int32) from rfl), m_in1 (c := 3) (n := 3) (by omega) rfl (by omega), k_bd]; rfl
    · rw [if_neg (by decide), if_pos (show nI 1 = (1 : Int32) from rfl), m_in11 (c := 9) (n := 9) (by omega) (by omega) rfl (by omega), k_bd]; rfl
    · rw [if_neg (by decide), if_neg (by decide), m_in, if_pos (by decide), k_bd, if_neg (by decide), m_in1 (c := 9) (n := 9) (by omega) rfl (by omega), k_bd, if_neg (by decide)]; rfl
    · rw [if_neg (by decide), if_neg (by decide), m_in, if_pos (by decide), k_bd, if_neg (by decide), m_in1 (c := 9) (n := 9) (by omega) rfl (by omega), k_bd, if_neg (by decide)]; rfl
theorem o_alter {fu : Nat} {I Im : Nat → Nat → Int32} {R Rm : Nat → Nat → Option Nat} {t P Q0 Q1 : Nat → Nat} (h : r_all I R Im Rm t P Q0 Q1) (x y z : Int32) : ∃ r Sc1 Sm1, f_X7_alter fu 0 x y z (I, R) = some (r, Sc1) ∧ f_X8_alter fu 0 x y z (Im, Rm) = some (r, Sm1) ∧ r_Rel Sc1 Sm1 := by
  obtain ⟨hR, hM, ⟨hr, hg, hp, ho⟩, -⟩ := id h
  have g := m_pg0 hg
  have b16 := hp.1
  rcases a_cases x (n := P 16) (by omega) with hx | ⟨d, hd, rfl⟩
  · refine ⟨-1, (I, R), (Im, Rm), ?_, m_alter_no (fun s => ?_), r_same h⟩
    · unfold f_X7_alter
      rw [c_isDoor0 hR hr b16 hx, k_bd, if_pos rfl]
    · unfold j_X8_alter_64
      rw [m_isDoor0 hM hg b16 hx, k_bd, if_pos rfl]
  have e1 := c_isDoor1 (fu := fu) hR hr b16 hd
  have e2 := m_isDoor1 (fu := fu) hM hg b16 hd
  rcases a_cases y (n := 4) (by omega) with hy | ⟨w, hw, rfl⟩
  · refine ⟨-1, (I, R), (Im, Rm), ?_, ?_, r_same h⟩
    · unfold f_X7_alter
      have e3 : f_X7_mayBecome fu y z (I, R) = some (0, (I, R)) := by
        unfold f_X7_mayBecome
        simp only [e_zb0, e_zb1]
        exact a_if1 (n := 3) hy rfl (by omega)
      rw [e1, k_bd, if_neg (by decide), e3, k_bd, if_pos rfl]
    · unfold f_X8_alter j_X8_alter_63 j_X8_alter_64
      rw [if_neg (show ¬ y = 0 from a_ne hy (j := 0) (by omega) (by omega)), if_neg (show ¬ y = 1 from a_ne hy (j := 1) (by omega) (by omega)), m_in, if_neg (by
        have := a_int hy (by omega)
        rw [Int32.toInt_toInt64]
        have e : (2 : Int64).toInt = 2 := rfl
        have e' : (3 : Int64).toInt = 3 := rfl
        omega), k_bd, if_pos rfl, e2, k_bd, if_neg (by decide), if_pos rfl]
  rcases a_may z w with hz | ⟨v, rfl, hv⟩
  · refine ⟨-1, (I, R), (Im, Rm), ?_, ?_, r_same h⟩
    · unfold f_X7_alter
      rw [e1, k_bd, if_neg (by decide), c_may0 hw hz, k_bd, if_pos rfl]
    · rw [m_alter_w hw 0 (by omega) (Or.inl ⟨hz, rfl⟩)]
      unfold j_X8_alter_64
      rw [e2, k_bd, if_neg (by decide), if_pos (show nI 0 = (0 : Int32) from rfl)]
  have r1 := (hr.2.2.2.2.2.1 d hd).2.1
  have b1 := (hp.2.2.1 d (by omega)).2.1
  have g4 := g (4 + d) (by omega)
  by_cases hst : w = 3 ∧ P (4 + d) < v
  · refine ⟨-2, (I, R), (Im, Rm), ?_, ?_, r_same h⟩
    · unfold f_X7_alter
      rw [e1, k_bd, if_neg (by decide), c_may1 hw hv, k_bd, if_neg (by decide)]
      simp (disch := omega) only [c_ld0 hR, c_now (fu := fu) hR]
      rw [if_pos (by rw [hst.1]; rfl)]
      refine if_neg ?_
      show ¬ nI v ≤ I (4 + d) 1
      rw [r1]
      exact nI_ge hst.2 (by unfold a_good at hv; omega)
    · rw [m_alter_w hw 1 (by omega) (Or.inr ⟨v, rfl, hv, rfl⟩)]
      unfold j_X8_alter_64
      rw [e2, k_bd, if_neg (by decide), if_neg (by decide)]
      simp (disch := omega) only [m_ld0 hM, l_4, nI_add, k_ix, g4]
      rw [if_pos (by rw [hst.1]; rfl), if_neg (nI_ge hst.2 (by unfold a_good at hv; omega))]
  · have hm : p_may P w d v := by unfold p_may; unfold a_good at hv; omega
    obtain ⟨I', ec, hr', hk', h4', h5'⟩ := c_change (fu := fu) hR.1 hr hp hd hm
    have hslot := h_slot (dr := fun d => 4 + d) hr hd hw
    have ecl : f_X7_alter fu 0 (nI d) (nI w) (nI v) (I, R) = some (nI (P (4 * w + d)), (I', R)) := by
      have ej : j_X7_alter_46 fu (nI w) (nI v) (4 + d) (I, R) = some (nI (P (4 * w + d)), (I', R)) := by
        unfold j_X7_alter_46
        rw [c_told hw, k_bd]
        have ec' : f_X1_change fu (4 + d) (nI w) (nI v) (I, R) = some ((), (I', R)) := ec
        rw [ec', k_bd]
        exact congrArg (fun q => some (q, (I', R))) hslot
      unfold f_X7_alter
      rw [e1, k_bd, if_neg (by decide), c_may1 hw hv, k_bd, if_neg (by decide)]
      simp (disch := omega) only [c_ld0 hR, c_now (fu := fu) hR, ej]
      by_cases c : nI w = 3
      · rw [if_pos c]
        have cw : w = 3 := (nI_eq (b := 3) (by omega) (by omega)).mp c
        refine if_pos ?_
        show nI v ≤ I (4 + d) 1
        rw [r1]
        exact nI_le (by omega) (by omega)
      · rw [if_neg c]
    have em : ∃ Im', f_X8_alter fu 0 (nI d) (nI w) (nI v) (Im, Rm) = some (nI (P (4 * w + d)), (Im', Rm)) ∧ m_pg Im' 0 (p_chg P w d v) ∧ (∀ k, 45 ≤ k → Im' 1 k = Im 1 k) ∧ ∀ a, a ≠ 1 → Im' a = Im a := by
      have key : ∀ Im', j_X8_alter_101 fu 0 (nI d) (nI w) (nI v) (Im, Rm) = some (nI (P (4 * w + d)), (Im', Rm)) → f_X8_alter fu 0 (nI d) (nI w) (nI v) (Im, Rm) = some (nI (P (4 * w + d)), (Im', Rm)) := by
        intro Im' he
        rw [m_alter_w hw 1 (by omega) (Or.inr ⟨v, rfl, hv, rfl⟩)]
        unfold j_X8_alter_64
        rw [e2, k_bd, if_neg (by decide), if_neg (by decide)]
        simp (disch := omega) only [m_ld0 hM, l_4, nI_add, k_ix, g4, he]
        by_cases c : nI w = 3
        · rw [if_pos c]
          have cw : w = 3 := (nI_eq (b := 3) (by omega) (by omega)).mp c
          exact if_pos (nI_le (by omega) (by omega))
        · rw [if_neg c]
      by_cases cw : w = 1
      · subst cw
        obtain ⟨Im', e, m1, m2, m3⟩ := m_deepOn (fu := fu) (d := d) (v := v) hM hg hp (by omega) (by unfold a_good at hv; omega) (by omega)
        refine ⟨Im', key _ ?_, m1, fun k hk => m2 k (by omega), m3⟩
        have e' : f_X8_deepOn fu 0 0 (nI d) (nI v) (Im, Rm) = some ((), (Im', Rm)) := e
        unfold j_X8_alter_101
        simp (disch := omega) only [m_ld0 hM, l_4, pk_mul, nI_add, k_ix, g, e', k_bd]
        exact if_pos rfl
      · refine ⟨g_u Im 1 (4 * w + d) (nI v), key _ ?_, ?_, fun k hk => u_nk (by omega), fun a ha => g_u_ne ha⟩
        · unfold j_X8_alter_101
          simp (disch := omega) only [m_ld0 hM, l_4, pk_mul, nI_add, k_ix, g]
          exact if_neg (fun q => cw ((nI_eq (b := 1) (by omega) (by omega)).mp q))
        · have := m_set (d := d) (v := v) hg cw
          rwa [Nat.zero_add] at this
    obtain ⟨Im', em, mg, mk, ma⟩ := em
    refine ⟨_, _, _, ecl, em, r_newR h hR ⟨hr', mg, p_ok_chg hp (by omega) hm, fun e he => ?_⟩ (fun a ha => hk' a (by show a ≠ 4 + d; omega)) ⟨fun k _ => by rw [ma 0 (by decide)], fun k h1 _ => mk k h1, fun a _ h1 _ _ => ma a h1⟩⟩
    by_cases c : e = d
    · subst c
      have : I' (4 + e) 5 = I (4 + e) 5 := h5'
      rw [this]; exact ho e he
    · rw [hk' (4 + e) (by show 4 + e ≠ 4 + d; omega)]; exact ho e he
theorem o_hang {fu : Nat} {I Im : Nat → Nat → Int32} {R Rm : Nat → Nat → Option Nat} {t P Q0 Q1 : Nat → Nat} (h : r_all I R Im Rm t P Q0 Q1) (x y z : Int32) : ∃ r Sc1 Sm1, f_X7_hang fu 0 x y z (I, R) = some (r, Sc1) ∧ f_X8_hang fu 0 x y z (Im, Rm) = some (r, Sm1) ∧ r_Rel Sc1 Sm1 := by
  obtain ⟨hR, hM, ⟨hr, hg, hp, ho⟩, -⟩ := id h
  have g := m_pg0 hg
  have b16 := hp.1
  rcases a_may x 0 with hx | ⟨k, rfl, hk⟩
  · have hx' : a_out x 4 := by unfold a_bad at hx; rcases hx with ⟨_, h⟩ | ⟨_, _⟩ | ⟨_, _⟩ <;> first | exact h | omega
    refine ⟨-1, (I, R), (Im, Rm), ?_, ?_, r_same h⟩
    · unfold f_X7_hang
      rw [l_0, c_may0 (by omega) hx, k_bd, ← l_0, if_pos rfl]
    · unfold f_X8_hang
      rw [m_in0 (c := 3) (n := 3) hx' rfl (by omega), k_bd, if_pos rfl]
  have k3 : k ≤ 3 := by unfold a_good at hk; omega
  have c0 : f_X7_mayBecome fu 0 (nI k) (I, R) = some (1, (I, R)) := c_may1 (w := 0) (by omega) hk
  have m0 : f_X8_in fu (Int32.toInt64 (nI k)) 0 3 (Im, Rm) = some (1, (Im, Rm)) := m_in1 (n := 3) (by omega) rfl (by omega)
  rcases a_may y 1 with hy | ⟨dp, rfl, hdp⟩
  · have hy' : a_out y 10 ∨ y = nI 0 := by unfold a_bad at hy; rcases hy with ⟨_, _⟩ | ⟨_, h⟩ | ⟨_, _⟩ <;> first | exact h | omega
    refine ⟨-1, (I, R), (Im, Rm), ?_, ?_, r_same h⟩
    · unfold f_X7_hang
      have c1 : f_X7_mayBecome fu 1 y (I, R) = some (0, (I, R)) := c_may0 (w := 1) (by omega) hy
      rw [c0, k_bd, if_neg (by decide), c1, k_bd, if_pos rfl]
    · unfold f_X8_hang
      rw [m0, k_bd, if_neg (by decide), m_in10 (c := 9) (n := 9) hy' rfl (by omega), k_bd, if_pos rfl]
  have d9 : 1 ≤ dp ∧ dp ≤ 9 := by unfold a_good at hdp; omega
  have c1 : f_X7_mayBecome fu 1 (nI dp) (I, R) = some (1, (I, R)) := c_may1 (w := 1) (by omega) hdp
  have m1 : f_X8_in fu (Int32.toInt64 (nI dp)) 1 9 (Im, Rm) = some (1, (Im, Rm)) := m_in11 (n := 9) (by omega) (by omega) rfl (by omega)
  rcases a_may z 2 with hz | ⟨rt, rfl, hrt⟩
  · have hz' : a_out z 10 := by unfold a_bad at hz; rcases hz with ⟨_, _⟩ | ⟨_, _⟩ | ⟨_, h⟩ <;> first | exact h | omega
    refine ⟨-1, (I, R), (Im, Rm), ?_, ?_, r_same h⟩
    · unfold f_X7_hang
      have c2 : f_X7_mayBecome fu 2 z (I, R) = some (0, (I, R)) := c_may0 (w := 2) (by omega) hz
      rw [c0, k_bd, if_neg (by decide), c1, k_bd, if_neg (by decide), c2, k_bd, if_pos rfl]
    · unfold f_X8_hang
      rw [m0, k_bd, if_neg (by decide), m1, k_bd, if_neg (by decide), m_in0 (c := 9) (n := 9) hz' rfl (by omega), k_bd, if_pos rfl]
  have r9 : rt ≤ 9 := by unfold a_good at hrt; omega
  have c2 : f_X7_mayBecome fu 2 (nI rt) (I, R) = some (1, (I, R)) := c_may1 (w := 2) (by omega) hrt
  have m2 : f_X8_in fu (Int32.toInt64 (nI rt)) 0 9 (Im, Rm) = some (1, (Im, Rm)) := m_in1 (n := 9) (by omega) rfl (by omega)
  by_cases h4 : P 16 = 4
  · refine ⟨-3, (I, R), (Im, Rm), ?_, ?_, r_same h⟩
    · unfold f_X7_hang
      rw [c0, k_bd, if_neg (by decide), c1, k_bd, if_neg (by decide), c2, k_bd, if_neg (by decide)]
      simp only [c_ld0 hR, c_addDoor0 hr h4, k_bd]
      rfl
    · unfold f_X8_hang
      rw [m0, k_bd, if_neg (by decide), m1, k_bd, if_neg (by decide), m2, k_bd, if_neg (by decide)]
      simp (disch := omega) only [m_ld0 hM, l_16, k_ix, g]
      exact if_pos (by rw [h4]; rfl)
  · obtain ⟨I', ec, hr', hk', h4', h5'⟩ := c_addDoor (fu := fu) (k := k) (dp := dp) (rt := rt) hR.1 hr hp (by omega) k3
    refine ⟨nI (P 16 + 1), (I', R), (g_u (g_u (g_u (g_u (g_u Im 1 (P 16) (nI k)) 1 (4 + P 16) (nI dp)) 1 (8 + P 16) (nI rt)) 1 (12 + P 16) (nI (if k = 0 then dp else 0))) 1 16 (nI (P 16 + 1)), Rm), ?_, ?_, r_newR h hR ⟨hr', fun j hj => ?_, p_ok_hang hp (by omega) k3 d9.2 r9, fun e he => ?_⟩ (fun a ha => hk' a (by omega) (by show a ≠ 4 + P 16; omega)) ⟨fun k _ => ?_, fun k h1 _ => ?_, fun a _ h1 _ _ => ?_⟩⟩
    · unfold f_X7_hang
      rw [c0, k_bd, if_neg (by decide), c1, k_bd, if_neg (by decide), c2, k_bd, if_neg (by decide)]
      simp only [c_ld0 hR, ec, k_bd]
      refine (if_neg (by decide)).trans ?_
      have := hr'.1
      rw [hang_16 (by omega)] at this
      rw [this]
    · unfold f_X8_hang j_X8_hang_103
      rw [m0, k_bd, if_neg (by decide), m1, k_bd, if_neg (by decide), m2, k_bd, if_neg (by decide)]
      simp (disch := omega) only [m_ld0 hM, l_16, l_12, l_8, l_4, nI_add, k_ix, g]
      rw [if_neg (by rw [nI_eq (by omega) (by omega)]; exact h4)]
      have x16 : ∀ v : Int32, (g_u (g_u (g_u (g_u Im 1 (P 16) (nI k)) 1 (4 + P 16) (nI dp)) 1 (8 + P 16) (nI rt)) 1 (12 + P 16) v) 1 16 = nI (P 16) := fun v => by
        rw [u_nk (by omega), u_nk (by omega), u_nk (by omega), u_nk (by omega)]; exact g 16 (by omega)
      simp only [x16, nI_1, u_at]
      by_cases ck : k = 0
      · rw [if_pos (by rw [ck]; rfl), if_pos ck]
      · rw [if_neg (nI_ne0 (by omega) (by omega)), if_neg ck]
        rfl
    · rw [Nat.zero_add]
      by_cases j4 : j = 16
      · subst j4
        rw [u_at, hang_16 (by omega)]
      · rw [u_nk j4]
        by_cases j3 : j = 12 + P 16
        · subst j3
          rw [u_at, hang_3]
        · rw [u_nk j3]
          by_cases j2 : j = 8 + P 16
          · subst j2
            rw [u_at, hang_2]
          · rw [u_nk j2]
            by_cases j1 : j = 4 + P 16
            · subst j1
              rw [u_at, hang_1]
            · rw [u_nk j1]
              by_cases j0 : j = P 16
              · subst j0
                rw [u_at, hang_0]
              · rw [u_nk j0, hang_x j0 j1 j2 j3 j4]; exact g j hj
    · by_cases c : e = P 16
      · subst c
        have : I' (4 + P 16) 5 = I (4 + P 16) 5 := h5'
        rw [this]; exact ho _ he
      · rw [hk' (4 + e) (by omega) (by show 4 + e ≠ 4 + P 16; omega)]; exact ho e he
    · rw [u_ni (by decide), u_ni (by decide), u_ni (by decide), u_ni (by decide), u_ni (by decide)]
    · rw [u_nk (by omega), u_nk (by omega), u_nk (by omega), u_nk (by omega), u_nk (by omega)]
    · rw [g_u_ne h1, g_u_ne h1, g_u_ne h1, g_u_ne h1, g_u_ne h1]
