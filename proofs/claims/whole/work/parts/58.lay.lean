theorem c_isSheet0 {fu : Nat} {x : Int32} {S : g_St} (h : a_out x 4) : f_X7_isSheet fu x S = some (0, S) := by
  unfold f_X7_isSheet
  simp only [e_zb0, e_zb1]
  exact a_if3 h rfl (by omega)
theorem c_isSheet1 {fu j : Nat} {S : g_St} (h : j < 4) : f_X7_isSheet fu (nI j) S = some (1, S) := by
  unfold f_X7_isSheet
  rw [if_neg (nI_pos (by omega)), if_neg (show ¬ (4 : Int32) ≤ nI j from nI_ge (b := 4) h (by omega)), e_zb1]
theorem c_isLane0 {fu : Nat} {x : Int32} {S : g_St} (h : a_out x 3) : f_X7_isLane fu x S = some (0, S) := by
  unfold f_X7_isLane
  simp only [e_zb0, e_zb1]
  exact a_if1 (n := 2) h rfl (by omega)
theorem c_isLane1 {fu j : Nat} {S : g_St} (h : j < 3) : f_X7_isLane fu (nI j) S = some (1, S) := by
  unfold f_X7_isLane
  rw [if_neg (nI_pos (by omega)), if_neg (show ¬ (2 : Int32) < nI j from nI_nlt (a := 2) (by omega) (by omega)), e_zb1]
theorem c_fill {fu a : Nat} {I : Nat → Nat → Int32} {R : Nat → Nat → Option Nat} (hf : 1000 < fu) : ∃ I', f_J7_fill_53178 fu a 0 (I, R) = some ((), (I', R)) ∧ (∀ i, i < 40 → I' a i = 0) ∧ ∀ b, b ≠ a → I' b = I b := by
  obtain ⟨b, e1, J, rfl, j1, j2⟩ := e_lp (body := fun t => b_J7_fill_53178_5 fu a 0 40 t.1 t.2) 40
    (fun i t => ∃ J, t = (nI i, (J, R)) ∧ (∀ j, j < i → J a j = 0) ∧ ∀ b, b ≠ a → J b = I b)
    (fun b => ∃ J, b = (J, R) ∧ (∀ j, j < 40 → J a j = 0) ∧ ∀ b, b ≠ a → J b = I b) (by
    rintro i s hi ⟨J, rfl, j1, j2⟩
    refine ⟨(nI (i + 1), (g_u J a i 0, R)), ?_, _, rfl, fun j hj => ?_, fun b hb => by rw [g_u_ne hb]; exact j2 b hb⟩
    · show b_J7_fill_53178_5 fu a 0 40 (nI i) (J, R) = _
      unfold b_J7_fill_53178_5
      rw [if_neg (show ¬ (40 : Int32) ≤ nI i from nI_ge (b := 40) hi (by omega)), k_ix hi (by omega), nI_1]
    · by_cases c : j = i
      · subst c; exact u_at
      · rw [u_nk c]; exact j1 j (by omega)) (by
    rintro s ⟨J, rfl, h⟩
    exact ⟨_, if_pos (show (40 : Int32) ≤ nI 40 from by decide), J, rfl, h⟩) 0 fu (nI 0, (I, R)) (Nat.zero_le _) (by omega) ⟨I, rfl, fun j hj => absurd hj (Nat.not_lt_zero _), fun _ _ => rfl⟩
  exact ⟨J, (e_th e1).trans rfl, j1, j2⟩
theorem m_zero {fu k : Nat} {I : Nat → Nat → Int32} {R : Nat → Nat → Option Nat} (hM : m_R R) (hk : k < 4) (hf : 1000 < fu) : ∃ I', g_lp (fun t => b_X8_sheet_56 fu 0 (nI k) t.1 t.2) fu ((0 : Int32), (I, R)) = some (I', R) ∧ (∀ i, i < 40 → I' 12 (40 * k + i) = 0) ∧ (∀ j, j < 40 * k ∨ 40 * k + 40 ≤ j → I' 12 j = I 12 j) ∧ ∀ b, b ≠ 12 → I' b = I b := by
  obtain ⟨b, e1, J, rfl, j1, j2, j3⟩ := e_lp (body := fun t => b_X8_sheet_56 fu 0 (nI k) t.1 t.2) 40
    (fun i t => ∃ J, t = (nI i, (J, R)) ∧ (∀ j, j < i → J 12 (40 * k + j) = 0) ∧ (∀ j, j < 40 * k ∨ 40 * k + 40 ≤ j → J 12 j = I 12 j) ∧ ∀ b, b ≠ 12 → J b = I b)
    (fun b => ∃ J, b = (J, R) ∧ (∀ j, j < 40 → J 12 (40 * k + j) = 0) ∧ (∀ j, j < 40 * k ∨ 40 * k + 40 ≤ j → J 12 j = I 12 j) ∧ ∀ b, b ≠ 12 → J b = I b) (by
    rintro i s hi ⟨J, rfl, j1, j2, j3⟩
    refine ⟨(nI (i + 1), (g_u J 12 (40 * k + i) 0, R)), ?_, _, rfl, fun j hj => ?_, fun j hj => by rw [u_nk (by omega)]; exact j2 j hj, fun b hb => by rw [g_u_ne hb]; exact j3 b hb⟩
    · show b_X8_sheet_56 fu 0 (nI k) (nI i) (J, R) = _
      unfold b_X8_sheet_56
      simp (disch := omega) only [m_ld25 hM, l_40, nI_leI, pk_mul, nI_add, k_ix, nI_1]
      rw [if_neg (by omega)]
    · by_cases c : j = i
      · subst c; exact u_at
      · rw [u_nk (by omega)]; exact j1 j (by omega)) (by
    rintro s ⟨J, rfl, h⟩
    exact ⟨_, if_pos (show (40 : Int32) ≤ nI 40 from by decide), J, rfl, h⟩) 0 fu (nI 0, (I, R)) (Nat.zero_le _) (by omega) ⟨I, rfl, fun j hj => absurd hj (Nat.not_lt_zero _), fun _ _ => rfl, fun _ _ => rfl⟩
  exact ⟨J, e1, j1, j2, j3⟩
/-- the sheets alone have changed -/
theorem r_sh {I I' Im Im' : Nat → Nat → Int32} {R Rm : Nat → Nat → Option Nat} {t P Q0 Q1 : Nat → Nat} (h : r_all I R Im Rm t P Q0 Q1) (h1 : ∀ a, a < 82 → I' a = I a) (h2 : ∀ a, a < 10 → Im' a = Im a) (h3 : r_sheet I' Im') : r_Rel (I', R) (Im', Rm) := by
  obtain ⟨hR, hM, x3, x4, x5, x6, -, x8⟩ := h
  exact r_same (t := t) (P := P) (Q0 := Q0) (Q1 := Q1) ⟨hR, hM, r_now_fr x3 (fun a _ _ => h1 a (by omega)) (fun k _ => by rw [h2 1 (by omega)]), r_img_fr x4 (fun a _ _ => h1 a (by omega)) (h1 32 (by omega)) (fun k _ _ => by rw [h2 1 (by omega)]) (h2 9 (by omega)), r_tape_fr x5 (by rw [h1 33 (by omega)]) (h1 34 (by omega)) (by rw [h2 0 (by omega)]) (h2 3 (by omega)), r_seen_fr x6 (by rw [h1 36 (by omega)]) (h1 37 (by omega)) (h1 38 (by omega)) (by rw [h2 0 (by omega)]) (h2 7 (by omega)), h3, r_rest_fr x8 (by rw [h1 35 (by omega)]) (by rw [h1 0 (by omega)]) (by rw [h2 0 (by omega)]) (by rw [h2 0 (by omega)]) (by rw [h2 0 (by omega)]) (h2 4 (by omega)) (h2 5 (by omega))⟩
theorem o_sheet {fu : Nat} {I Im : Nat → Nat → Int32} {R Rm : Nat → Nat → Option Nat} {t P Q0 Q1 : Nat → Nat} (h : r_all I R Im Rm t P Q0 Q1) (hf : 1000 < fu) (x y z : Int32) : ∃ r Sc1 Sm1, f_X7_sheet fu 0 x y z (I, R) = some (r, Sc1) ∧ f_X8_sheet fu 0 x y z (Im, Rm) = some (r, Sm1) ∧ r_Rel Sc1 Sm1 := by
  obtain ⟨hR, hM, -, -, -, -, h7, -⟩ := id h
  unfold f_X7_sheet f_X8_sheet
  rcases a_cases x (n := 4) (by omega) with hx | ⟨k, hk, rfl⟩
  · exact ⟨-1, (I, R), (Im, Rm), by rw [c_isSheet0 hx, k_bd, if_pos rfl], by rw [m_in0 (c := 3) (n := 3) hx rfl (by omega), k_bd, if_pos rfl], r_same h⟩
  rw [c_isSheet1 hk, m_in1 (c := 3) (n := 3) (by omega) rfl (by omega), k_bd, k_bd, if_neg (show ¬ (1 : Int32) = 0 by decide), if_neg (show ¬ (1 : Int32) = 0 by decide)]
  rcases a_cases y (n := 3) (by omega) with hx | ⟨l, hl, rfl⟩
  · exact ⟨-1, (I, R), (Im, Rm), by rw [c_isLane0 hx, k_bd, if_pos rfl], by rw [m_in0 (c := 2) (n := 2) hx rfl (by omega), k_bd, if_pos rfl], r_same h⟩
  rw [c_isLane1 hl, m_in1 (c := 2) (n := 2) (by omega) rfl (by omega), k_bd, k_bd, if_neg (show ¬ (1 : Int32) = 0 by decide), if_neg (show ¬ (1 : Int32) = 0 by decide)]
  by_cases h40 : ¬ z ≤ 40
  · rw [if_neg h40, if_neg h40]
    exact ⟨-1, (I, R), (Im, Rm), rfl, rfl, r_same h⟩
  have h40 := Decidable.not_not.mp h40
  rw [if_pos h40, if_pos h40]
  by_cases h0 : ¬ 0 ≤ z
  · rw [if_neg h0, if_neg h0]
    exact ⟨-14, (I, R), (Im, Rm), rfl, rfl, r_same h⟩
  have h0 := Decidable.not_not.mp h0
  rw [if_pos h0, if_pos h0]
  obtain ⟨n, hn, rfl⟩ := nI_of2 (x := z) (M := 40) (n := 40) rfl (Int32.not_lt.mpr h0) h40
  obtain ⟨J, e1, j1, j2⟩ := c_fill (fu := fu) (a := 83 + 2 * k) (I := g_u (g_u (g_u I (82 + 2 * k) 1 1) (82 + 2 * k) 2 (nI l)) (82 + 2 * k) 3 (nI n)) (R := R) hf
  obtain ⟨M, e2, m1, m2, m3⟩ := m_zero (fu := fu) (k := k) (I := g_u (g_u Im 10 k (nI l)) 11 k (nI n)) (R := Rm) hM hk hf
  refine ⟨1, (J, R), (M, Rm), ?_, ?_, r_sh h (fun a ha => by rw [j2 a (by omega), g_u_ne (by omega), g_u_ne (by omega), g_u_ne (by omega)]) (fun a ha => by rw [m3 a (by omega), g_u_ne (by omega), g_u_ne (by omega)]) (fun i hi => ?_)⟩
  · simp (disch := omega) only [c_ld7 hR]
    unfold f_X4_renew
    simp (disch := omega) only [c_ld7c hR, e1, k_bd]
  · simp (disch := omega) only [m_ld23 hM, m_ld24 hM, k_ix, e2, k_th]
  · by_cases c : i = k
    · subst c
      refine Or.inr ⟨l, n, by omega, hn, ?_, ?_, ?_, ?_, ?_, fun j hj => ?_⟩
      · rw [j2 _ (by omega), u_nk (by decide), u_nk (by decide), u_at]; rfl
      · rw [j2 _ (by omega), u_nk (by decide), u_at]
      · rw [m3 _ (by omega), u_ni (by decide), u_at]
      · rw [j2 _ (by omega), u_at]
      · rw [m3 _ (by omega), u_at]
      · rw [j1 j hj, m1 j hj]
    · rw [j2 (82 + 2 * i) (by omega), j2 (83 + 2 * i) (by omega), g_u_ne (show 82 + 2 * i ≠ 82 + 2 * k by omega), g_u_ne (show 82 + 2 * i ≠ 82 + 2 * k by omega), g_u_ne (show 82 + 2 * i ≠ 82 + 2 * k by omega), g_u_ne (show 83 + 2 * i ≠ 82 + 2 * k by omega), g_u_ne (show 83 + 2 * i ≠ 82 + 2 * k by omega), g_u_ne (show 83 + 2 * i ≠ 82 + 2 * k by omega), m3 10 (by omega), m3 11 (by omega), u_ni (show (10 : Nat) ≠ 11 by decide), u_nk c, u_nk c, u_ni (show (11 : Nat) ≠ 10 by decide)]
      rcases h7 i hi with q | ⟨l', z', q1, q2, q3, q4, q5, q6, q7, q8⟩
      · exact Or.inl q
      · refine Or.inr ⟨l', z', q1, q2, q3, q4, q5, q6, q7, fun j hj => ?_⟩
        rw [m2 _ (by omega), u_ni (by decide), u_ni (by decide)]; exact q8 j hj
theorem o_lay {fu : Nat} {I Im : Nat → Nat → Int32} {R Rm : Nat → Nat → Option Nat} {t P Q0 Q1 : Nat → Nat} (h : r_all I R Im Rm t P Q0 Q1) (hf : 1000 < fu) (x y z : Int32) : ∃ r Sc1 Sm1, f_X7_lay fu 0 x y z (I, R) = some (r, Sc1) ∧ f_X8_lay fu 0 x y z (Im, Rm) = some (r, Sm1) ∧ r_Rel Sc1 Sm1 := by
  obtain ⟨hR, hM, -, -, -, -, h7, -⟩ := id h
  unfold f_X7_lay f_X8_lay
  rcases a_cases x (n := 4) (by omega) with hx | ⟨k, hk, rfl⟩
  · exact ⟨-1, (I, R), (Im, Rm), by rw [c_isSheet0 hx, k_bd, if_pos rfl], by rw [m_in0 (c := 3) (n := 3) hx rfl (by omega), k_bd, if_pos rfl], r_same h⟩
  rw [c_isSheet1 hk, m_in1 (c := 3) (n := 3) (by omega) rfl (by omega), k_bd, k_bd, if_neg (show ¬ (1 : Int32) = 0 by decide), if_neg (show ¬ (1 : Int32) = 0 by decide)]
  simp (disch := omega) only [c_ld7 hR]
  rcases h7 k hk with ⟨q1, q2⟩ | ⟨l, n, q1, q2, q3, q4, q5, q6, q7, q8⟩
  · refine ⟨-11, (I, R), (Im, Rm), ?_, ?_, r_same h⟩
    · have ef : f_X4_faultAt fu (82 + 2 * k) y (I, R) = some (1, (I, R)) := if_pos q1
      rw [ef, k_bd, if_neg (by decide)]
      rfl
    · simp (disch := omega) only [m_ld23 hM, k_ix]
      exact if_pos q2
  rcases a_cases y (n := n) (by omega) with hy | ⟨i, hi, rfl⟩
  · refine ⟨-12, (I, R), (Im, Rm), ?_, ?_, r_same h⟩
    · have ef : f_X4_faultAt fu (82 + 2 * k) y (I, R) = some (2, (I, R)) := by
        unfold f_X4_faultAt j_X4_faultAt_21
        simp only [q3, q6]
        rw [if_neg (show ¬ nI 1 = (0 : Int32) by decide), a_if4 hy rfl (by omega)]
      rw [ef, k_bd, if_neg (by decide)]
      rfl
    · simp (disch := omega) only [m_ld23 hM, m_ld24 hM, k_ix, q5, q7, m_inp0 hy, k_bd]
      rw [if_neg (a_n4 (show l < 2 ^ 31 by omega)), if_pos trivial]
  have ef : f_X4_faultAt fu (82 + 2 * k) (nI i) (I, R) = some (0, (I, R)) := by
    unfold f_X4_faultAt
    simp only [q3, q6]
    rw [if_neg (show ¬ nI 1 = (0 : Int32) by decide), if_neg (nI_pos (by omega)), if_pos (nI_lt hi (by omega))]
  rw [ef, k_bd, if_pos (show (0 : Int32) = 0 from rfl)]
  simp (disch := omega) only [c_ld7 hR]
  obtain ⟨v, hv⟩ : ∃ v, (if nI l = 0 then z.toInt8.toInt32 else if nI l = 1 then z.toInt16.toInt32 else z) = v := ⟨_, rfl⟩
  have upd : r_Rel (g_u I (83 + 2 * k) i v, R) (g_u Im 12 (40 * k + i) v, Rm) := by
    refine r_sh h (fun a ha => g_u_ne (by omega)) (fun a ha => g_u_ne (by omega)) (fun j hj => ?_)
    rw [g_u_ne (show 82 + 2 * j ≠ 83 + 2 * k by omega), g_u_ne (show 10 ≠ 12 by decide), g_u_ne (show 11 ≠ 12 by decide)]
    rcases h7 j hj with w | ⟨l', z', w1, w2, w3, w4, w5, w6, w7, w8⟩
    · exact Or.inl w
    · refine Or.inr ⟨l', z', w1, w2, w3, w4, w5, w6, w7, fun s hs => ?_⟩
      by_cases c : j = k
      · subst c
        by_cases c2 : s = i
        · subst c2
          rw [u_at, u_at]
        · rw [u_nk c2, u_nk (by omega)]; exact w8 s hs
      · rw [u_ni (by omega), u_nk (by omega)]; exact w8 s hs
  refine ⟨1, _, _, ?_, ?_, upd⟩
  · have ep : f_X4_put fu (82 + 2 * k) (nI i) z (I, R) = some ((), (g_u I (83 + 2 * k) i v, R)) := by
      unfold f_X4_put
      simp (disch := omega) only [q4, c_ld7c hR, k_ix]
      rw [← hv]
      by_cases c0 : nI l = 0
      · rw [if_pos c0, if_pos c0]
      · rw [if_neg c0, if_neg c0]
        by_cases c1 : nI l = 1
        · rw [if_pos c1, if_pos c1]
        · rw [if_neg c1, if_neg c1]
    rw [ep, k_bd]
  · unfold j_X8_lay_99
    simp (disch := omega) only [m_ld23 hM, m_ld24 hM, m_ld25 hM, k_ix, q5, q7, m_inp1 hi, k_bd, l_40, pk_mul, nI_add]
    rw [if_neg (a_n4 (show l < 2 ^ 31 by omega)), if_neg (show ¬ (1 : Int32) = 0 by decide), ← hv]
    by_cases c0 : nI l = 0
    · rw [if_pos c0, if_pos c0, a_i8]
    · rw [if_neg c0, if_neg c0]
      by_cases c1 : nI l = 1
      · rw [if_pos c1, if_pos c1, a_i16]
      · rw [if_neg c1, if_neg c1]
