theorem h_slot {I : Nat → Nat → Int32} {o d w : Nat} {dr P : Nat → Nat} (hr : h_rep I o dr P) (hd : d < P 16) (hw : w < 4) : I (dr d) w = nI (P (4 * w + d)) := by
  obtain ⟨r0, r1, r2, r3⟩ := hr.2.2.2.2.2.1 d hd
  rcases (show w = 0 ∨ w = 1 ∨ w = 2 ∨ w = 3 by omega) with rfl | rfl | rfl | rfl
  · rw [r0, show 4 * 0 + d = d by omega]
  · exact r1
  · exact r2
  · exact r3
theorem c_told {fu a w : Nat} {S : g_St} (hw : w < 4) : f_X1_told fu a (nI w) S = some (S.1 a w, S) := by
  rcases (show w = 0 ∨ w = 1 ∨ w = 2 ∨ w = 3 by omega) with rfl | rfl | rfl | rfl <;> rfl
/-- a door of now -/
theorem c_now {β : Type} {fu d : Nat} {R : Nat → Nat → Option Nat} {t : Nat → Nat} (hR : c_R R t) (hd : d < 4) {k : Nat → Option β} : (g_ld g_KC 90 (.inr (3, 4, true)) (R 1 0) fun a => g_ix (nI d) 4 fun i => g_ld g_KC 90 g_kX1 (R a i) k) = k (4 + d) :=
  (e_ld hR.1.1 hR.1.2.2.2.2.2.1).trans ((e_ix (m := d) rfl (by omega) (by omega)).trans (e_ld (hR.1.2.2.1 d hd) (hR.1.2.2.2.2.2.2.2.1 d hd)))
theorem c_nowc {β : Type} {fu i : Nat} {R : Nat → Nat → Option Nat} {t : Nat → Nat} (hR : c_R R t) (hi : i < 8) {k : Nat → Option β} : (g_ld g_KC 90 (.inr (4, 8, true)) (R 1 1) fun a => g_ix (nI i) 8 fun i => g_ld g_KC 90 g_kX0 (R a i) k) = k (8 + i) :=
  (e_ld hR.1.2.1 hR.1.2.2.2.2.2.2.1).trans ((e_ix (m := i) rfl (by omega) (by omega)).trans (e_ld (hR.1.2.2.2.1 i hi) (hR.1.2.2.2.2.2.2.2.2.1 i hi)))
theorem o_door {fu : Nat} {I Im : Nat → Nat → Int32} {R Rm : Nat → Nat → Option Nat} {t P Q0 Q1 : Nat → Nat} (h : r_all I R Im Rm t P Q0 Q1) (hf : 1000 < fu) (x y : Int32) : ∃ r Sc1 Sm1, f_X7_door fu 0 x y (I, R) = some (r, Sc1) ∧ f_X8_door fu 0 x y (Im, Rm) = some (r, Sm1) ∧ r_Rel Sc1 Sm1 := by
  obtain ⟨hR, hM, ⟨hr, hg, hp, -⟩, -⟩ := id h
  have g := m_pg0 hg
  have b16 := hp.1
  rcases a_cases x (n := P 16) (by omega) with hx | ⟨d, hd, rfl⟩
  · refine ⟨-1, (I, R), (Im, Rm), ?_, ?_, r_same h⟩
    · unfold f_X7_door
      rw [c_isDoor0 hR hr b16 hx, k_bd, if_pos rfl]
    · unfold f_X8_door
      rw [m_isDoor0 hM hg b16 hx, k_bd, if_pos rfl]
  · have e1 := c_isDoor1 (fu := fu) hR hr b16 hd
    have e2 := m_isDoor1 (fu := fu) hM hg b16 hd
    rcases a_cases y (n := 5) (by omega) with hy | ⟨w, hw, rfl⟩
    · refine ⟨-1, (I, R), (Im, Rm), ?_, ?_, r_same h⟩
      · unfold f_X7_door
        rw [e1, k_bd, if_neg (by decide)]
        exact a_if2 (n := 4) hy rfl (by omega)
      · unfold f_X8_door
        rw [e2, k_bd, if_neg (by decide), m_in0 (c := 4) (n := 4) hy rfl (by omega), k_bd, if_pos rfl]
    · obtain ⟨r0, r1, r2, r3⟩ := hr.2.2.2.2.2.1 d hd
      have e3 := c_room (fu := fu) (R := R) r0 r1 r3 hp (by omega)
      have e4 := m_roomOn (fu := fu) hM hg hp (by omega) (show d < 4 by omega)
      refine ⟨if w = 4 then nI (p_room P d) else nI (P (4 * w + d)), (I, R), (Im, Rm), ?_, ?_, r_same h⟩
      · unfold f_X7_door
        rw [e1, k_bd, if_neg (by decide), if_neg (nI_pos (by omega)), if_pos (show nI w ≤ (4 : Int32) from nI_le (b := 4) (by omega) (by omega))]
        simp (disch := omega) only [c_ld0 hR, c_now (fu := fu) hR, l_4, nI_eq, e3, k_bd]
        by_cases c : w = 4
        · rw [if_pos c, if_pos c]
        · rw [if_neg c, if_neg c, c_told (by omega), k_bd]
          show some (I (4 + d) w, _) = _
          rw [h_slot (dr := fun d => 4 + d) hr hd (by omega)]
      · unfold f_X8_door
        rw [e2, k_bd, if_neg (by decide), m_in1 (c := 4) (n := 4) (by omega) rfl (by omega), k_bd, if_neg (by decide), l_0, e4]
        by_cases c : w = 4
        · rw [if_pos (by rw [c]; decide), if_pos c, k_bd]
        · rw [if_neg (show ¬ (4 : Int32) ≤ nI w from nI_ge (b := 4) (by omega) (by omega)), if_neg c]
          simp (disch := omega) only [m_ld0 hM, l_4, pk_mul, nI_add, k_ix, g]
theorem o_crowd {fu : Nat} {I Im : Nat → Nat → Int32} {R Rm : Nat → Nat → Option Nat} {t P Q0 Q1 : Nat → Nat} (h : r_all I R Im Rm t P Q0 Q1) (hf : 1000 < fu) (x y : Int32) : ∃ r Sc1 Sm1, f_X7_crowd fu 0 x y (I, R) = some (r, Sc1) ∧ f_X8_crowd fu 0 x y (Im, Rm) = some (r, Sm1) ∧ r_Rel Sc1 Sm1 := by
  obtain ⟨hR, hM, ⟨hr, hg, hp, -⟩, -⟩ := id h
  have g := m_pg0 hg
  have b41 := hp.2.1
  have g41 := g 41 (by omega)
  rcases a_cases x (n := P 41) (by omega) with hx | ⟨i, hi, rfl⟩
  · refine ⟨-1, (I, R), (Im, Rm), ?_, ?_, r_same h⟩
    · unfold f_X7_crowd
      simp only [c_ld0 hR]
      exact a_if4 hx hr.2.1 (by omega)
    · unfold f_X8_crowd f_X8_isCrowd
      simp (disch := omega) only [m_ld0 hM, l_41, k_ix, g41, m_inp0 hx, k_bd, e_zb0]
      rfl
  · have e2 : f_X8_isCrowd fu 0 (nI i) (Im, Rm) = some (1, (Im, Rm)) := by
      unfold f_X8_isCrowd
      simp (disch := omega) only [m_ld0 hM, l_41, k_ix, g41, m_inp1 hi, k_bd, e_zb1]
    obtain ⟨r0, r1, r2⟩ := hr.2.2.2.2.2.2 i hi
    have r0' : I (8 + i) 0 = nI (P (17 + i)) := by rw [show 8 + i = 1 + 7 + i by omega]; exact r0
    have r1' : I (8 + i) 1 = nI (P (25 + i)) := by rw [show 8 + i = 1 + 7 + i by omega]; exact r1
    have r2' : I (8 + i) 2 = nI (P (33 + i)) := by rw [show 8 + i = 1 + 7 + i by omega]; exact r2
    have ec : f_X7_crowd fu 0 (nI i) y (I, R) = some (if y = 0 then nI (P (17 + i)) else if y = 1 then nI (P (25 + i)) else if y = 2 then nI (P (33 + i)) else -1, (I, R)) := by
      unfold f_X7_crowd
      rw [if_neg (nI_pos (by omega))]
      simp (disch := omega) only [c_ld0 hR, c_nowc (fu := fu) hR, hr.2.1, r0', r1', r2', k_push]
      rw [if_pos (nI_lt hi (by omega))]
    rcases a_cases y (n := 3) (by omega) with hy | ⟨w, hw, rfl⟩
    · refine ⟨-1, (I, R), (Im, Rm), ?_, ?_, r_same h⟩
      · rw [ec, if_neg (show ¬ y = 0 from a_ne hy (j := 0) (by omega) (by omega)), if_neg (show ¬ y = 1 from a_ne hy (j := 1) (by omega) (by omega)), if_neg (show ¬ y = 2 from a_ne hy (j := 2) (by omega) (by omega))]
      · unfold f_X8_crowd
        rw [e2, k_bd, if_neg (by decide), m_in0 (c := 2) (n := 2) hy rfl (by omega), k_bd, if_pos rfl]
    · refine ⟨nI (P (17 + 8 * w + i)), (I, R), (Im, Rm), ?_, ?_, r_same h⟩
      · rw [ec]
        rcases (show w = 0 ∨ w = 1 ∨ w = 2 by omega) with rfl | rfl | rfl
        · rfl
        · rfl
        · rfl
      · unfold f_X8_crowd
        rw [e2, k_bd, if_neg (by decide), m_in1 (c := 2) (n := 2) (by omega) rfl (by omega), k_bd, if_neg (by decide)]
        simp (disch := omega) only [m_ld0 hM, l_17, l_8, pk_mul, nI_add, k_ix, g]
/-! ===== sums over doors, over crowds ===== -/
theorem c_held {fu o T : Nat} {I : Nat → Nat → Int32} {R : Nat → Nat → Option Nat} {dr P : Nat → Nat} (hg : h_geo R o dr) (hr : h_rep I o dr P) (hp : p_ok T P) (hf : 10 < fu) : f_X2_heldByAll fu o (I, R) = some (nI (p_sum (fun d => P (12 + d)) (P 16)), (I, R)) := by
  have b16 := hp.1
  obtain ⟨b, e1, rfl⟩ := e_lp (body := fun t => b_X2_heldByAll_4 fu o t.1 t.2.1 t.2.2) (P 16) (fun i t => t = (nI (p_sum (fun d => P (12 + d)) i), nI i, (I, R))) (fun b => b = (nI (p_sum (fun d => P (12 + d)) (P 16)), (I, R))) (by
    intro i t hi ht
    subst ht
    refine ⟨(nI (p_sum (fun d => P (12 + d)) (i + 1)), nI (i + 1), (I, R)), ?_, rfl⟩
    obtain ⟨r0, r1, r2, r3⟩ := hr.2.2.2.2.2.1 i hi
    show b_X2_heldByAll_4 fu o _ _ (I, R) = _
    unfold b_X2_heldByAll_4
    refine (if_neg (by show ¬ I o 2 ≤ nI i; rw [hr.1]; exact nI_ge hi (by omega))).trans ?_
    refine (e_ld hg.1 hg.2.2.2.2.2.1).trans ?_
    refine (e_ix (m := i) rfl (by omega) (by omega)).trans ?_
    refine (e_ld (hg.2.2.1 i (by omega)) (hg.2.2.2.2.2.2.2.1 i (by omega))).trans ?_
    show some (Sum.inl (nI _ + I (dr i) 3, nI i + 1, (I, R))) = _
    rw [r3, nI_add, nI_1]
    rfl) (by
    intro t ht
    subst ht
    refine ⟨_, ?_, rfl⟩
    show b_X2_heldByAll_4 fu o _ _ (I, R) = _
    unfold b_X2_heldByAll_4
    exact if_pos (by show I o 2 ≤ nI (P 16); rw [hr.1]; exact nI_le (Nat.le_refl _) (by omega))) 0 fu (nI 0, nI 0, (I, R)) (Nat.zero_le _) (by omega) rfl
  exact (e_th e1).trans rfl
theorem c_depths {fu o T : Nat} {I : Nat → Nat → Int32} {R : Nat → Nat → Option Nat} {dr P : Nat → Nat} (hg : h_geo R o dr) (hr : h_rep I o dr P) (hp : p_ok T P) (hf : 10 < fu) : f_X2_depthOfAll fu o (I, R) = some (nI (p_sum (fun d => P (4 + d)) (P 16)), (I, R)) := by
  have b16 := hp.1
  obtain ⟨b, e1, rfl⟩ := e_lp (body := fun t => b_X2_depthOfAll_4 fu o t.1 t.2.1 t.2.2) (P 16) (fun i t => t = (nI (p_sum (fun d => P (4 + d)) i), nI i, (I, R))) (fun b => b = (nI (p_sum (fun d => P (4 + d)) (P 16)), (I, R))) (by
    intro i t hi ht
    subst ht
    refine ⟨(nI (p_sum (fun d => P (4 + d)) (i + 1)), nI (i + 1), (I, R)), ?_, rfl⟩
    obtain ⟨r0, r1, r2, r3⟩ := hr.2.2.2.2.2.1 i hi
    show b_X2_depthOfAll_4 fu o _ _ (I, R) = _
    unfold b_X2_depthOfAll_4
    refine (if_neg (by show ¬ I o 2 ≤ nI i; rw [hr.1]; exact nI_ge hi (by omega))).trans ?_
    refine (e_ld hg.1 hg.2.2.2.2.2.1).trans ?_
    refine (e_ix (m := i) rfl (by omega) (by omega)).trans ?_
    refine (e_ld (hg.2.2.1 i (by omega)) (hg.2.2.2.2.2.2.2.1 i (by omega))).trans ?_
    show some (Sum.inl (nI _ + I (dr i) 1, nI i + 1, (I, R))) = _
    rw [r1, nI_add, nI_1]
    rfl) (by
    intro t ht
    subst ht
    refine ⟨_, ?_, rfl⟩
    show b_X2_depthOfAll_4 fu o _ _ (I, R) = _
    unfold b_X2_depthOfAll_4
    exact if_pos (by show I o 2 ≤ nI (P 16); rw [hr.1]; exact nI_le (Nat.le_refl _) (by omega))) 0 fu (nI 0, nI 0, (I, R)) (Nat.zero_le _) (by omega) rfl
  exact (e_th e1).trans rfl
theorem c_manys {fu o T : Nat} {I : Nat → Nat → Int32} {R : Nat → Nat → Option Nat} {dr P : Nat → Nat} (hg : h_geo R o dr) (hr : h_rep I o dr P) (hp : p_ok T P) (hf : 10 < fu) : f_X2_manyOfAll fu o (I, R) = some (nI (p_sum (fun d => P (25 + d)) (P 41)), (I, R)) := by
  have b41 := hp.2.1
  obtain ⟨b, e1, rfl⟩ := e_lp (body := fun t => b_X2_manyOfAll_4 fu o t.1 t.2.1 t.2.2) (P 41) (fun i t => t = (nI (p_sum (fun d => P (25 + d)) i), nI i, (I, R))) (fun b => b = (nI (p_sum (fun d => P (25 + d)) (P 41)), (I, R))) (by
    intro i t hi ht
    subst ht
    refine ⟨(nI (p_sum (fun d => P (25 + d)) (i + 1)), nI (i + 1), (I, R)), ?_, rfl⟩
    obtain ⟨r0, r1, r2⟩ := hr.2.2.2.2.2.2 i hi
    show b_X2_manyOfAll_4 fu o _ _ (I, R) = _
    unfold b_X2_manyOfAll_4
    refine (if_neg (by show ¬ I o 3 ≤ nI i; rw [hr.2.1]; exact nI_ge hi (by omega))).trans ?_
    refine (e_ld hg.2.1 hg.2.2.2.2.2.2.1).trans ?_
    refine (e_ix (m := i) rfl (by omega) (by omega)).trans ?_
    refine (e_ld (hg.2.2.2.1 i (by omega)) (hg.2.2.2.2.2.2.2.2.1 i (by omega))).trans ?_
    show some (Sum.inl (nI _ + I (o + 7 + i) 1, nI i + 1, (I, R))) = _
    rw [r1, nI_add, nI_1]
    rfl) (by
    intro t ht
    subst ht
    refine ⟨_, ?_, rfl⟩
    show b_X2_manyOfAll_4 fu o _ _ (I, R) = _
    unfold b_X2_manyOfAll_4
    exact if_pos (by show I o 3 ≤ nI (P 41); rw [hr.2.1]; exact nI_le (Nat.le_refl _) (by omega))) 0 fu (nI 0, nI 0, (I, R)) (Nat.zero_le _) (by omega) rfl
  exact (e_th e1).trans rfl
theorem m_held {fu p T : Nat} {I : Nat → Nat → Int32} {R : Nat → Nat → Option Nat} {P : Nat → Nat} (hR : m_R R) (hg : m_pg I p P) (hp : p_ok T P) (hq : p ≤ 225) (hf : 10 < fu) : f_X8_holdOn fu 0 (nI p) (I, R) = some (nI (p_sum (fun d => P (12 + d)) (P 16)), (I, R)) := by
  have b16 := hp.1
  have g16 := hg 16 (by omega)
  obtain ⟨b, e1, rfl⟩ := e_lp (body := fun t => b_X8_holdOn_4 fu 0 (nI p) t.1 t.2.1 t.2.2) (P 16) (fun i t => t = (nI (p_sum (fun d => P (12 + d)) i), nI i, (I, R))) (fun b => b = (nI (p_sum (fun d => P (12 + d)) (P 16)), (I, R))) (by
    intro i t hi ht
    subst ht
    refine ⟨(nI (p_sum (fun d => P (12 + d)) (i + 1)), nI (i + 1), (I, R)), ?_, rfl⟩
    have g12 := hg (12 + i) (by omega)
    rw [← Nat.add_assoc] at g12
    show b_X8_holdOn_4 fu 0 _ _ _ (I, R) = _
    unfold b_X8_holdOn_4
    simp (disch := omega) only [m_ld0 hR, l_16, l_12, l_1, nI_add, k_ix, g16, g12, nI_leI]
    rw [if_neg (by omega)]
    rfl) (by
    intro t ht
    subst ht
    refine ⟨_, ?_, rfl⟩
    show b_X8_holdOn_4 fu 0 _ _ _ (I, R) = _
    unfold b_X8_holdOn_4
    simp (disch := omega) only [m_ld0 hR, l_16, nI_add, k_ix, g16, nI_leI]
    exact if_pos (Nat.le_refl _)) 0 fu (nI 0, nI 0, (I, R)) (Nat.zero_le _) (by omega) rfl
  exact (e_th e1).trans rfl
theorem m_count7 {fu T : Nat} {x : Int32} {I : Nat → Nat → Int32} {R : Nat → Nat → Option Nat} {P : Nat → Nat} (hR : m_R R) (hg : m_pg I 0 P) (hp : p_ok T P) (hf : 10 < fu) : g_lp (fun t => b_X8_count_7 fu 0 x 0 t.1 t.2.1 t.2.2) fu ((0 : Int32), (0 : Int32), (I, R)) = some (nI (p_sum (fun d => P (4 + d)) (P 16)), (I, R)) := by
  have b16 := hp.1
  have g := m_pg0 hg
  obtain ⟨b, e1, rfl⟩ := e_lp (body := fun t => b_X8_count_7 fu 0 x 0 t.1 t.2.1 t.2.2) (P 16) (fun i t => t = (nI (p_sum (fun d => P (4 + d)) i), nI i, (I, R))) (fun b => b = (nI (p_sum (fun d => P (4 + d)) (P 16)), (I, R))) (by
    intro i t hi ht
    subst ht
    refine ⟨(nI (p_sum (fun d => P (4 + d)) (i + 1)), nI (i + 1), (I, R)), ?_, rfl⟩
    show b_X8_count_7 fu 0 x 0 _ _ (I, R) = _
    unfold b_X8_count_7
    simp (disch := omega) only [m_ld0 hR, l_16, l_4, l_1, nI_add, k_ix, g, nI_leI]
    rw [if_neg (by omega)]
    rfl) (by
    intro t ht
    subst ht
    refine ⟨_, ?_, rfl⟩
    show b_X8_count_7 fu 0 x 0 _ _ (I, R) = _
    unfold b_X8_count_7
    simp (disch := omega) only [m_ld0 hR, l_16, nI_add, k_ix, g, nI_leI]
    exact if_pos (Nat.le_refl _)) 0 fu (nI 0, nI 0, (I, R)) (Nat.zero_le _) (by omega) rfl
  exact e1
theorem m_count40 {fu T : Nat} {x y : Int32} {I : Nat → Nat → Int32} {R : Nat → Nat → Option Nat} {P : Nat → Nat} (hR : m_R R) (hg : m_pg I 0 P) (hp : p_ok T P) (hf : 10 < fu) : g_lp (fun t => b_X8_count_40 fu 0 x y t.1 t.2.1 t.2.2) fu ((0 : Int32), (0 : Int32), (I, R)) = some (nI (p_sum (fun d => P (25 + d)) (P 41)), (I, R)) := by
  have b41 := hp.2.1
  have g := m_pg0 hg
  obtain ⟨b, e1, rfl⟩ := e_lp (body := fun t => b_X8_count_40 fu 0 x y t.1 t.2.1 t.2.2) (P 41) (fun i t => t = (nI (p_sum (fun d => P (25 + d)) i), nI i, (I, R))) (fun b => b = (nI (p_sum (fun d => P (25 + d)) (P 41)), (I, R))) (by
    intro i t hi ht
    subst ht
    refine ⟨(nI (p_sum (fun d => P (25 + d)) (i + 1)), nI (i + 1), (I, R)), ?_, rfl⟩
    show b_X8_count_40 fu 0 x y _ _ (I, R) = _
    unfold b_X8_count_40
    simp (disch := omega) only [m_ld0 hR, l_41, l_25, l_1, nI_add, k_ix, g, nI_leI]
    rw [if_neg (by omega)]
    rfl) (by
    intro t ht
    subst ht
    refine ⟨_, ?_, rfl⟩
    show b_X8_count_40 fu 0 x y _ _ (I, R) = _
    unfold b_X8_count_40
    simp (disch := omega) only [m_ld0 hR, l_41, nI_add, k_ix, g, nI_leI]
    exact if_pos (Nat.le_refl _)) 0 fu (nI 0, nI 0, (I, R)) (Nat.zero_le _) (by omega) rfl
  exact e1
