/-! ===== the class: a hall ===== -/
def h_geo (R : Nat → Nat → Option Nat) (o : Nat) (dr : Nat → Nat) : Prop := R o 0 = some (o + 1) ∧ R o 1 = some (o + 2) ∧ (∀ d, d < 4 → R (o + 1) d = some (dr d)) ∧ (∀ i, i < 8 → R (o + 2) i = some (o + 7 + i)) ∧ (o < 90 ∧ g_KC o = g_kX2) ∧ (o + 1 < 90 ∧ g_KC (o + 1) = .inr (3, 4, true)) ∧ (o + 2 < 90 ∧ g_KC (o + 2) = .inr (4, 8, true)) ∧ (∀ d, d < 4 → dr d < 90 ∧ g_KC (dr d) = g_kX1) ∧ (∀ i, i < 8 → o + 7 + i < 90 ∧ g_KC (o + 7 + i) = g_kX0) ∧ (∀ d e, d < 4 → e < 4 → dr d = dr e → d = e) ∧ ∀ d, d < 4 → o + 3 ≤ dr d ∧ dr d < o + 7
/-- the hall o holds the page P -/
def h_rep (I : Nat → Nat → Int32) (o : Nat) (dr : Nat → Nat) (P : Nat → Nat) : Prop := I o 2 = nI (P 16) ∧ I o 3 = nI (P 41) ∧ I o 4 = nI (P 42) ∧ I o 5 = nI (P 43) ∧ I o 6 = nI (P 44) ∧ (∀ d, d < P 16 → I (dr d) 0 = nI (P d) ∧ I (dr d) 1 = nI (P (4 + d)) ∧ I (dr d) 2 = nI (P (8 + d)) ∧ I (dr d) 3 = nI (P (12 + d))) ∧ ∀ i, i < P 41 → I (o + 7 + i) 0 = nI (P (17 + i)) ∧ I (o + 7 + i) 1 = nI (P (25 + i)) ∧ I (o + 7 + i) 2 = nI (P (33 + i))
/-- which of its doors stand open -/
def h_opn (I : Nat → Nat → Int32) (dr : Nat → Nat) (n : Nat) (opn : Nat → Bool) : Prop := ∀ d, d < n → I (dr d) 5 = if opn d = true then 1 else 0
/-- nothing but the hall and its doors has changed -/
def h_kept (I I' : Nat → Nat → Int32) (o : Nat) (dr : Nat → Nat) (n : Nat) : Prop := ∀ a, a ≠ o → (∀ d, d < n → a ≠ dr d) → I' a = I a
theorem c_comesAt {fu a i T : Nat} {I : Nat → Nat → Int32} {R : Nat → Nat → Option Nat} {P : Nat → Nat} (h0 : I a 0 = nI (P (17 + i))) (h2 : I a 2 = nI (P (33 + i))) (hp : p_ok T P) (hi : i < 8) (hT : T ≤ 5000) : f_X0_comesAt fu a (nI (P 42)) (I, R) = some (if p_comes P i = true then 1 else 0, (I, R)) := by
  obtain ⟨b1, -, b3⟩ := hp.2.2.2.1 i hi
  have b2 := hp.2.2.2.2.1
  unfold f_X0_comesAt
  simp only [h0, h2]
  by_cases c1 : P 42 = P (17 + i)
  · rw [if_pos (by rw [c1]), e_zb1, if_pos (by simp [p_comes, c1])]
  · rw [if_neg (fun q => c1 ((nI_eq (by omega) (by omega)).mp q))]
    by_cases c2 : P (33 + i) = 0
    · rw [if_pos (by rw [c2]; decide), e_zb0, if_neg (by simp [p_comes, c1, c2])]
    · rw [if_neg (fun q => c2 (by have := (nI_leI (a := P (33 + i)) (b := 0) (by omega) (by omega)).mp q; omega))]
      by_cases c3 : P 42 ≤ P (17 + i)
      · rw [if_pos (nI_le c3 (by omega)), e_zb0, if_neg (by simp [p_comes, c1]; omega)]
      · rw [if_neg (fun q => c3 ((nI_leI (by omega) (by omega)).mp q)), e_nz (nI_ne0 (by omega) (by omega)), pk_sub (by omega), pk_rem (by omega) (by omega) (by omega)]
        by_cases c4 : (P 42 - P (17 + i)) % P (33 + i) = 0
        · rw [if_pos (by rw [c4]; rfl), e_zb1, if_pos (by simp [p_comes, c4]; omega)]
        · rw [if_neg (nI_ne0 (by omega) (by have := Nat.mod_le (P 42 - P (17 + i)) (P (33 + i)); omega)), e_zb0, if_neg (by simp [p_comes, c1, c4])]
theorem c_comers {fu o T : Nat} {I : Nat → Nat → Int32} {R : Nat → Nat → Option Nat} {dr P : Nat → Nat} (hg : h_geo R o dr) (hr : h_rep I o dr P) (hp : p_ok T P) (hT : T ≤ 5000) (hf : 10 < fu) : f_X2_comers fu o (I, R) = some (nI (p_come P), (I, R)) := by
  have b41 := hp.2.1
  obtain ⟨b, e1, rfl⟩ := e_lp (body := fun t => b_X2_comers_4 fu o t.1 t.2.1 t.2.2) (P 41) (fun i t => t = (nI (p_sum (fun i => if p_comes P i = true then P (25 + i) else 0) i), nI i, (I, R))) (fun b => b = (nI (p_come P), (I, R))) (by
    intro i t hi ht
    subst ht
    refine ⟨(nI (p_sum (fun i => if p_comes P i = true then P (25 + i) else 0) (i + 1)), nI (i + 1), (I, R)), ?_, rfl⟩
    obtain ⟨r0, r1, r2⟩ := hr.2.2.2.2.2.2 i hi
    show b_X2_comers_4 fu o _ _ (I, R) = _
    unfold b_X2_comers_4
    refine (if_neg (by show ¬ I o 3 ≤ nI i; rw [hr.2.1]; exact nI_ge hi (by omega))).trans ?_
    refine (e_ld hg.2.1 hg.2.2.2.2.2.2.1).trans ?_
    refine (e_ix (m := i) rfl (by omega) (by omega)).trans ?_
    refine (e_ld (hg.2.2.2.1 i (by omega)) (hg.2.2.2.2.2.2.2.2.1 i (by omega))).trans ?_
    refine (e_bd (r := if p_comes P i = true then 1 else 0) (S := (I, R)) (by show f_X0_comesAt fu (o + 7 + i) (I o 4) (I, R) = _; rw [hr.2.2.1]; exact c_comesAt r0 r2 hp (by omega) hT)).trans ?_
    by_cases c : p_comes P i = true
    · simp only [c, if_true]
      refine (if_neg (by decide)).trans ?_
      refine (e_ld hg.2.1 hg.2.2.2.2.2.2.1).trans ?_
      refine (e_ix (m := i) rfl (by omega) (by omega)).trans ?_
      refine (e_ld (hg.2.2.2.1 i (by omega)) (hg.2.2.2.2.2.2.2.2.1 i (by omega))).trans ?_
      unfold j_X2_comers_42_in4
      show some (Sum.inl (_ + I (o + 7 + i) 1, nI i + 1, (I, R))) = _
      rw [r1, nI_add, nI_1]
      simp only [p_sum, c, if_true]
    · simp only [c, if_false]
      refine (if_pos rfl).trans ?_
      unfold j_X2_comers_42_in4
      rw [nI_1, show (0 : Int32) = nI 0 from rfl, nI_add]
      simp [p_sum, c]) (by
    intro t ht
    subst ht
    refine ⟨_, ?_, rfl⟩
    show b_X2_comers_4 fu o _ _ (I, R) = _
    unfold b_X2_comers_4
    refine (if_pos (by show I o 3 ≤ nI (P 41); rw [hr.2.1]; exact nI_le (Nat.le_refl _) (by omega))).trans ?_
    rfl) 0 fu ((0 : Int32), (0 : Int32), (I, R)) (Nat.zero_le _) (by omega) rfl
  exact e_th e1
/-- room of a door -/
theorem c_room {fu a d T : Nat} {I : Nat → Nat → Int32} {R : Nat → Nat → Option Nat} {P : Nat → Nat} (h0 : I a 0 = nI (P d)) (h1 : I a 1 = nI (P (4 + d))) (h3 : I a 3 = nI (P (12 + d))) (hp : p_ok T P) (hd : d < 4) : f_X1_room fu a (I, R) = some (nI (p_room P d), (I, R)) := by
  obtain ⟨b0, b1, b2, b3⟩ := hp.2.2.1 d hd
  unfold f_X1_room p_room
  simp only [h0, h1, h3]
  by_cases c : P d = 0
  · rw [if_pos (by rw [c]; rfl), if_pos c]
  · rw [if_neg (nI_ne0 (by omega) (by omega)), if_neg c, pk_sub b3]
theorem p_room_le {T d : Nat} {P : Nat → Nat} (hp : p_ok T P) (hd : d < 4) : p_room P d ≤ 9 := by
  obtain ⟨b0, b1, b2, b3⟩ := hp.2.2.1 d hd
  unfold p_room
  by_cases c : P d = 0
  · rw [if_pos c]; omega
  · rw [if_neg c]; omega
/-- so many come to a door -/
theorem c_admit1 {fu a d T m : Nat} {I : Nat → Nat → Int32} {R : Nat → Nat → Option Nat} {P : Nat → Nat} {op : Bool} (h0 : I a 0 = nI (P d)) (h1 : I a 1 = nI (P (4 + d))) (h3 : I a 3 = nI (P (12 + d))) (h5 : I a 5 = if op = true then 1 else 0) (hp : p_ok T P) (hd : d < 4) (hm : m ≤ 100) : f_X1_admit fu a (nI m) (I, R) = some (nI (if op = true then m else min m (p_room P d)), (if op = true then I else g_u (g_u I a 3 (nI (if P d = 0 then P (12 + d) - min m (p_room P d) else P (12 + d) + min m (p_room P d)))) a 4 (I a 4 + nI (m - min m (p_room P d))), R)) := by
  obtain ⟨b0, b1, b2, b3⟩ := hp.2.2.1 d hd
  have br := p_room_le hp hd
  unfold f_X1_admit
  cases op with
  | true =>
    refine (if_neg (by show ¬ I a 5 = 0; rw [h5]; decide)).trans ?_
    rfl
  | false =>
    refine (if_pos (by show I a 5 = 0; rw [h5]; rfl)).trans ?_
    refine (e_bd (c_room h0 h1 h3 hp hd)).trans ?_
    have em : (if nI (p_room P d) < nI m then nI (p_room P d) else nI m) = nI (min m (p_room P d)) := by
      by_cases c : p_room P d < m
      · rw [if_pos (nI_lt c (by omega)), Nat.min_eq_right (by omega)]
      · rw [if_neg (nI_nlt (by omega) (by omega)), Nat.min_eq_left (by omega)]
    simp only [em, h0, h3]
    have e4 : nI m - nI (min m (p_room P d)) = nI (m - min m (p_room P d)) := pk_sub (by omega)
    by_cases c : P d = 0
    · refine (if_pos (by rw [c]; rfl)).trans ?_
      have hr : p_room P d = P (12 + d) := if_pos c
      unfold j_X1_admit_36
      have e3 : nI (P (12 + d)) + -nI (min m (p_room P d)) = nI (P (12 + d) - min m (p_room P d)) := by
        rw [← pk_sub (by omega), Int32.sub_eq_add_neg]
      dsimp only
      rw [e3, e4, u_nk (by decide)]
      simp [c]
    · refine (if_neg (nI_ne0 (by omega) (by omega))).trans ?_
      unfold j_X1_admit_36
      dsimp only
      rw [nI_add, e4, u_nk (by decide)]
      simp [c]
