/-! ===== a door more, a crowd more ===== -/
def p_hang (P : Nat → Nat) (k dp rt : Nat) : Nat → Nat := fun j => if j = P 16 then k else if j = 4 + P 16 then dp else if j = 8 + P 16 then rt else if j = 12 + P 16 then (if k = 0 then dp else 0) else if j = 16 then P 16 + 1 else P j
def p_add (P : Nat → Nat) (a m e : Nat) : Nat → Nat := fun j => if j = 17 + P 41 then a else if j = 25 + P 41 then m else if j = 33 + P 41 then e else if j = 41 then P 41 + 1 else P j
theorem hang_x {P : Nat → Nat} {k dp rt j : Nat} (h0 : j ≠ P 16) (h1 : j ≠ 4 + P 16) (h2 : j ≠ 8 + P 16) (h3 : j ≠ 12 + P 16) (h4 : j ≠ 16) : p_hang P k dp rt j = P j := by
  unfold p_hang
  rw [if_neg h0, if_neg h1, if_neg h2, if_neg h3, if_neg h4]
theorem hang_0 {P : Nat → Nat} {k dp rt : Nat} : p_hang P k dp rt (P 16) = k := if_pos rfl
theorem hang_1 {P : Nat → Nat} {k dp rt : Nat} : p_hang P k dp rt (4 + P 16) = dp := by
  unfold p_hang
  rw [if_neg (by omega), if_pos rfl]
theorem hang_2 {P : Nat → Nat} {k dp rt : Nat} : p_hang P k dp rt (8 + P 16) = rt := by
  unfold p_hang
  rw [if_neg (by omega), if_neg (by omega), if_pos rfl]
theorem hang_3 {P : Nat → Nat} {k dp rt : Nat} : p_hang P k dp rt (12 + P 16) = if k = 0 then dp else 0 := by
  unfold p_hang
  rw [if_neg (by omega), if_neg (by omega), if_neg (by omega), if_pos rfl]
theorem hang_16 {P : Nat → Nat} {k dp rt : Nat} (h : P 16 < 4) : p_hang P k dp rt 16 = P 16 + 1 := by
  unfold p_hang
  rw [if_neg (by omega), if_neg (by omega), if_neg (by omega), if_neg (by omega), if_pos rfl]
theorem add_x {P : Nat → Nat} {a m e j : Nat} (h0 : j ≠ 17 + P 41) (h1 : j ≠ 25 + P 41) (h2 : j ≠ 33 + P 41) (h3 : j ≠ 41) : p_add P a m e j = P j := by
  unfold p_add
  rw [if_neg h0, if_neg h1, if_neg h2, if_neg h3]
theorem add_0 {P : Nat → Nat} {a m e : Nat} : p_add P a m e (17 + P 41) = a := if_pos rfl
theorem add_1 {P : Nat → Nat} {a m e : Nat} : p_add P a m e (25 + P 41) = m := by
  unfold p_add
  rw [if_neg (by omega), if_pos rfl]
theorem add_2 {P : Nat → Nat} {a m e : Nat} : p_add P a m e (33 + P 41) = e := by
  unfold p_add
  rw [if_neg (by omega), if_neg (by omega), if_pos rfl]
theorem add_41 {P : Nat → Nat} {a m e : Nat} (h : P 41 < 8) : p_add P a m e 41 = P 41 + 1 := by
  unfold p_add
  rw [if_neg (by omega), if_neg (by omega), if_neg (by omega), if_pos rfl]
theorem p_ok_hang {T k dp rt : Nat} {P : Nat → Nat} (hp : p_ok T P) (h : P 16 < 4) (hk : k ≤ 3) (hd : dp ≤ 9) (ht : rt ≤ 9) : p_ok T (p_hang P k dp rt) := by
  have ex : ∀ j, 17 ≤ j → p_hang P k dp rt j = P j := fun j hj => hang_x (by omega) (by omega) (by omega) (by omega) (by omega)
  refine ⟨?_, ?_, fun d hd' => ?_, fun i hi => ?_, ?_, ?_, ?_⟩
  · rw [hang_16 h]; omega
  · rw [ex _ (by omega)]; exact hp.2.1
  · by_cases c : d = P 16
    · subst c
      rw [hang_0, hang_1, hang_2, hang_3]
      refine ⟨hk, hd, ht, ?_⟩
      by_cases c : k = 0
      · rw [if_pos c]; exact Nat.le_refl _
      · rw [if_neg c]; exact Nat.zero_le _
    · rw [hang_x (j := d) (by omega) (by omega) (by omega) (by omega) (by omega), hang_x (j := 4 + d) (by omega) (by omega) (by omega) (by omega) (by omega), hang_x (j := 8 + d) (by omega) (by omega) (by omega) (by omega) (by omega), hang_x (j := 12 + d) (by omega) (by omega) (by omega) (by omega) (by omega)]
      exact hp.2.2.1 d hd'
  · rw [ex _ (by omega), ex _ (by omega), ex _ (by omega)]; exact hp.2.2.2.1 i hi
  · rw [ex _ (by omega)]; exact hp.2.2.2.2.1
  · rw [ex _ (by omega)]; exact hp.2.2.2.2.2.1
  · rw [ex _ (by omega)]; exact hp.2.2.2.2.2.2
theorem p_ok_add {T a m e : Nat} {P : Nat → Nat} (hp : p_ok T P) (h : P 41 < 8) (ha : a ≤ 99) (hm : m ≤ 9) (he : e ≤ 9) : p_ok T (p_add P a m e) := by
  have ex : ∀ j, j < 17 ∨ 42 ≤ j → p_add P a m e j = P j := fun j hj => add_x (by omega) (by omega) (by omega) (by omega)
  refine ⟨?_, ?_, fun d hd' => ?_, fun i hi => ?_, ?_, ?_, ?_⟩
  · rw [ex _ (by omega)]; exact hp.1
  · rw [add_41 h]; omega
  · rw [ex _ (by omega), ex _ (by omega), ex _ (by omega), ex _ (by omega)]; exact hp.2.2.1 d hd'
  · by_cases c : i = P 41
    · subst c
      rw [add_0, add_1, add_2]
      exact ⟨ha, hm, he⟩
    · rw [add_x (j := 17 + i) (by omega) (by omega) (by omega) (by omega), add_x (j := 25 + i) (by omega) (by omega) (by omega) (by omega), add_x (j := 33 + i) (by omega) (by omega) (by omega) (by omega)]
      exact hp.2.2.2.1 i hi
  · rw [ex _ (by omega)]; exact hp.2.2.2.2.1
  · rw [ex _ (by omega)]; exact hp.2.2.2.2.2.1
  · rw [ex _ (by omega)]; exact hp.2.2.2.2.2.2
theorem c_addDoor {fu o T k dp rt : Nat} {I : Nat → Nat → Int32} {R : Nat → Nat → Option Nat} {dr P : Nat → Nat} (hg : h_geo R o dr) (hr : h_rep I o dr P) (hp : p_ok T P) (h : P 16 < 4) (hk : k ≤ 3) : ∃ I', f_X2_addDoor fu o (nI k) (nI dp) (nI rt) (I, R) = some (1, (I', R)) ∧ h_rep I' o dr (p_hang P k dp rt) ∧ (∀ a, a ≠ o → a ≠ dr (P 16) → I' a = I a) ∧ I' (dr (P 16)) 4 = I (dr (P 16)) 4 ∧ I' (dr (P 16)) 5 = I (dr (P 16)) 5 := by
  have hdo := hg.2.2.2.2.2.2.2.2.2.2
  have inj := hg.2.2.2.2.2.2.2.2.2.1
  have hn : dr (P 16) ≠ o := by have := hdo (P 16) h; omega
  have h8 := hp.2.1
  have ex : ∀ j, 17 ≤ j → p_hang P k dp rt j = P j := fun j hj => hang_x (by omega) (by omega) (by omega) (by omega) (by omega)
  refine ⟨g_u (g_u (g_u (g_u (g_u I (dr (P 16)) 0 (nI k)) (dr (P 16)) 1 (nI dp)) (dr (P 16)) 2 (nI rt)) (dr (P 16)) 3 (nI (if k = 0 then dp else 0))) o 2 (nI (P 16 + 1)), ?_, ⟨?_, ?_, ?_, ?_, ?_, fun d hd => ?_, fun i hi => ?_⟩, fun a h1 h2 => ?_, ?_, ?_⟩
  · unfold f_X2_addDoor
    refine (if_pos (by show I o 2 < 4; rw [hr.1]; exact nI_lt (b := 4) h (by omega))).trans ?_
    refine (e_ld hg.1 hg.2.2.2.2.2.1).trans ?_
    refine (e_ix (m := P 16) hr.1 (by omega) (by omega)).trans ?_
    refine (e_ld (hg.2.2.1 _ h) (hg.2.2.2.2.2.2.2.1 _ h)).trans ?_
    have em : f_X1_make fu (dr (P 16)) (nI k) (nI dp) (nI rt) (I, R) = some ((), (g_u (g_u (g_u (g_u I (dr (P 16)) 0 (nI k)) (dr (P 16)) 1 (nI dp)) (dr (P 16)) 2 (nI rt)) (dr (P 16)) 3 (nI (if k = 0 then dp else 0)), R)) := by
      unfold f_X1_make
      by_cases c : k = 0
      · rw [if_pos (by rw [c]; rfl), if_pos c]
      · rw [if_neg (nI_ne0 (by omega) (by omega)), if_neg c]
        rfl
    refine (e_bd em).trans ?_
    rw [e_zb1]
    dsimp only
    rw [u_ni hn.symm, u_ni hn.symm, u_ni hn.symm, u_ni hn.symm, hr.1, nI_1]
  · rw [u_at, hang_16 h]
  · rw [u_nk (by decide), g_u_ne hn.symm, g_u_ne hn.symm, g_u_ne hn.symm, g_u_ne hn.symm, ex _ (by omega)]; exact hr.2.1
  · rw [u_nk (by decide), g_u_ne hn.symm, g_u_ne hn.symm, g_u_ne hn.symm, g_u_ne hn.symm, ex _ (by omega)]; exact hr.2.2.1
  · rw [u_nk (by decide), g_u_ne hn.symm, g_u_ne hn.symm, g_u_ne hn.symm, g_u_ne hn.symm, ex _ (by omega)]; exact hr.2.2.2.1
  · rw [u_nk (by decide), g_u_ne hn.symm, g_u_ne hn.symm, g_u_ne hn.symm, g_u_ne hn.symm, ex _ (by omega)]; exact hr.2.2.2.2.1
  · rw [hang_16 h] at hd
    by_cases c : d = P 16
    · subst c
      rw [g_u_ne hn, hang_0, hang_1, hang_2, hang_3]
      refine ⟨?_, ?_, ?_, u_at⟩
      · rw [u_nk (by decide), u_nk (by decide), u_nk (by decide), u_at]
      · rw [u_nk (by decide), u_nk (by decide), u_at]
      · rw [u_nk (by decide), u_at]
    · have h1 : dr d ≠ o := by have := hdo d (by omega); omega
      have h2 : dr d ≠ dr (P 16) := fun q => c (inj d (P 16) (by omega) h q)
      rw [g_u_ne h1, g_u_ne h2, g_u_ne h2, g_u_ne h2, g_u_ne h2, hang_x (j := d) (by omega) (by omega) (by omega) (by omega) (by omega), hang_x (j := 4 + d) (by omega) (by omega) (by omega) (by omega) (by omega), hang_x (j := 8 + d) (by omega) (by omega) (by omega) (by omega) (by omega), hang_x (j := 12 + d) (by omega) (by omega) (by omega) (by omega) (by omega)]
      exact hr.2.2.2.2.2.1 d (by omega)
  · rw [ex _ (by omega)] at hi
    have h1 := hdo (P 16) h
    rw [g_u_ne (show o + 7 + i ≠ o by omega), g_u_ne (show o + 7 + i ≠ dr (P 16) by omega), g_u_ne (show o + 7 + i ≠ dr (P 16) by omega), g_u_ne (show o + 7 + i ≠ dr (P 16) by omega), g_u_ne (show o + 7 + i ≠ dr (P 16) by omega), ex _ (by omega), ex _ (by omega), ex _ (by omega)]
    exact hr.2.2.2.2.2.2 i hi
  · rw [g_u_ne h1, g_u_ne h2, g_u_ne h2, g_u_ne h2, g_u_ne h2]
  · rw [g_u_ne hn, u_nk (by decide), u_nk (by decide), u_nk (by decide), u_nk (by decide)]
  · rw [g_u_ne hn, u_nk (by decide), u_nk (by decide), u_nk (by decide), u_nk (by decide)]
theorem c_addDoor0 {fu o : Nat} {x y z : Int32} {I : Nat → Nat → Int32} {R : Nat → Nat → Option Nat} {dr P : Nat → Nat} (hr : h_rep I o dr P) (h : P 16 = 4) : f_X2_addDoor fu o x y z (I, R) = some (0, (I, R)) := by
  unfold f_X2_addDoor
  refine (if_neg (by show ¬ I o 2 < 4; rw [hr.1, h]; decide)).trans ?_
  rw [e_zb0]
theorem c_addCrowd {fu o T a m e : Nat} {I : Nat → Nat → Int32} {R : Nat → Nat → Option Nat} {dr P : Nat → Nat} (hg : h_geo R o dr) (hr : h_rep I o dr P) (hp : p_ok T P) (h : P 41 < 8) : ∃ I', f_X2_addCrowd fu o (nI a) (nI m) (nI e) (I, R) = some (1, (I', R)) ∧ h_rep I' o dr (p_add P a m e) ∧ I' o 3 = nI (P 41 + 1) ∧ ∀ b, b ≠ o → b ≠ o + 7 + P 41 → I' b = I b := by
  have hdo := hg.2.2.2.2.2.2.2.2.2.2
  have hn : o + 7 + P 41 ≠ o := by omega
  have h4 := hp.1
  have ex : ∀ j, j < 17 ∨ 42 ≤ j → p_add P a m e j = P j := fun j hj => add_x (by omega) (by omega) (by omega) (by omega)
  refine ⟨g_u (g_u (g_u (g_u I (o + 7 + P 41) 0 (nI a)) (o + 7 + P 41) 1 (nI m)) (o + 7 + P 41) 2 (nI e)) o 3 (nI (P 41 + 1)), ?_, ⟨?_, ?_, ?_, ?_, ?_, fun d hd => ?_, fun i hi => ?_⟩, u_at, fun b h1 h2 => ?_⟩
  · unfold f_X2_addCrowd
    refine (if_pos (by show I o 3 < 8; rw [hr.2.1]; exact nI_lt (b := 8) h (by omega))).trans ?_
    refine (e_ld hg.2.1 hg.2.2.2.2.2.2.1).trans ?_
    refine (e_ix (m := P 41) hr.2.1 (by omega) (by omega)).trans ?_
    refine (e_ld (hg.2.2.2.1 _ h) (hg.2.2.2.2.2.2.2.2.1 _ h)).trans ?_
    refine (e_bd (r := ()) rfl).trans ?_
    rw [e_zb1]
    dsimp only
    rw [u_ni hn.symm, u_ni hn.symm, u_ni hn.symm, hr.2.1, nI_1]
  · rw [u_nk (by decide), g_u_ne hn.symm, g_u_ne hn.symm, g_u_ne hn.symm, ex _ (by omega)]; exact hr.1
  · rw [u_at, add_41 h]
  · rw [u_nk (by decide), g_u_ne hn.symm, g_u_ne hn.symm, g_u_ne hn.symm, ex _ (by omega)]; exact hr.2.2.1
  · rw [u_nk (by decide), g_u_ne hn.symm, g_u_ne hn.symm, g_u_ne hn.symm, ex _ (by omega)]; exact hr.2.2.2.1
  · rw [u_nk (by decide), g_u_ne hn.symm, g_u_ne hn.symm, g_u_ne hn.symm, ex _ (by omega)]; exact hr.2.2.2.2.1
  · rw [ex _ (by omega)] at hd
    have h1 := hdo d (by omega)
    have h2 : dr d ≠ o := by omega
    have h3 : dr d ≠ o + 7 + P 41 := by omega
    rw [g_u_ne h2, g_u_ne h3, g_u_ne h3, g_u_ne h3, ex _ (by omega), ex _ (by omega), ex _ (by omega), ex _ (by omega)]
    exact hr.2.2.2.2.2.1 d hd
  · rw [add_41 h] at hi
    by_cases c : i = P 41
    · subst c
      rw [g_u_ne hn, add_0, add_1, add_2]
      refine ⟨?_, ?_, u_at⟩
      · rw [u_nk (by decide), u_nk (by decide), u_at]
      · rw [u_nk (by decide), u_at]
    · have h2 : o + 7 + i ≠ o := by omega
      have h3 : o + 7 + i ≠ o + 7 + P 41 := by omega
      rw [g_u_ne h2, g_u_ne h3, g_u_ne h3, g_u_ne h3, add_x (j := 17 + i) (by omega) (by omega) (by omega) (by omega), add_x (j := 25 + i) (by omega) (by omega) (by omega) (by omega), add_x (j := 33 + i) (by omega) (by omega) (by omega) (by omega)]
      exact hr.2.2.2.2.2.2 i (by omega)
  · rw [g_u_ne h1, g_u_ne h2, g_u_ne h2, g_u_ne h2]
theorem c_addCrowd0 {fu o : Nat} {x y z : Int32} {I : Nat → Nat → Int32} {R : Nat → Nat → Option Nat} {dr P : Nat → Nat} (hr : h_rep I o dr P) (h : P 41 = 8) : f_X2_addCrowd fu o x y z (I, R) = some (0, (I, R)) := by
  unfold f_X2_addCrowd
  refine (if_neg (by show ¬ I o 3 < 8; rw [hr.2.1, h]; decide)).trans ?_
  rw [e_zb0]
/-! ===== what a number may be ===== -/
theorem a_if5 {α : Type} {x y : Int32} {n : Nat} {A B : α} (h : a_out x (n + 1) ∨ x = nI 0) (hy : y = nI n) (hn : n + 1 < 2 ^ 31) : (if x < 1 then A else if y < x then A else B) = A := by
  subst hy
  by_cases c : x < 1
  · rw [if_pos c]
  · rw [if_neg c]
    rw [i_lt] at c
    have e1 : (1 : Int32).toInt = 1 := rfl
    rcases h with h | h
    · have := a_int h hn
      rw [if_pos (by rw [i_lt, nI_toInt (by omega)]; omega)]
    · rw [h, nI_toInt (by omega)] at c
      omega
def a_bad (z : Int32) (w : Nat) : Prop := (w = 0 ∧ a_out z 4) ∨ (w = 1 ∧ (a_out z 10 ∨ z = nI 0)) ∨ (2 ≤ w ∧ a_out z 10)
def a_good (w v : Nat) : Prop := (w = 0 ∧ v ≤ 3) ∨ (w = 1 ∧ 1 ≤ v ∧ v ≤ 9) ∨ (2 ≤ w ∧ v ≤ 9)
theorem a_may (z : Int32) (w : Nat) : a_bad z w ∨ ∃ v, z = nI v ∧ a_good w v := by
  unfold a_bad a_good
  rcases (show w = 0 ∨ w = 1 ∨ 2 ≤ w by omega) with hw | hw | hw
  · rcases a_cases z (n := 4) (by omega) with h | ⟨v, hv, rfl⟩
    · exact Or.inl (Or.inl ⟨hw, h⟩)
    · exact Or.inr ⟨v, rfl, by omega⟩
  · rcases a_cases z (n := 10) (by omega) with h | ⟨v, hv, rfl⟩
    · exact Or.inl (Or.inr (Or.inl ⟨hw, Or.inl h⟩))
    · by_cases c : v = 0
      · subst c
        exact Or.inl (Or.inr (Or.inl ⟨hw, Or.inr rfl⟩))
      · exact Or.inr ⟨v, rfl, by omega⟩
  · rcases a_cases z (n := 10) (by omega) with h | ⟨v, hv, rfl⟩
    · exact Or.inl (Or.inr (Or.inr ⟨hw, h⟩))
    · exact Or.inr ⟨v, rfl, by omega⟩
theorem c_may0 {fu w : Nat} {z : Int32} {S : g_St} (hw : w < 4) (h : a_bad z w) : f_X7_mayBecome fu (nI w) z S = some (0, S) := by
  unfold f_X7_mayBecome f_X7_lowest f_X7_highest a_bad at *
  rw [if_neg (nI_pos (by omega)), if_neg (show ¬ (3 : Int32) < nI w from nI_nlt (a := 3) (by omega) (by omega))]
  simp only [e_zb0, e_zb1]
  rcases (show w = 0 ∨ w = 1 ∨ w = 2 ∨ w = 3 by omega) with rfl | rfl | rfl | rfl
  · exact a_if1 (n := 3) (by rcases h with ⟨q, h⟩ | ⟨q, h⟩ | ⟨q, h⟩ <;> first | exact h | omega) rfl (by omega)
  · exact a_if5 (n := 9) (by rcases h with ⟨q, h⟩ | ⟨q, h⟩ | ⟨q, h⟩ <;> first | exact h | omega) rfl (by omega)
  · exact a_if1 (n := 9) (by rcases h with ⟨q, h⟩ | ⟨q, h⟩ | ⟨q, h⟩ <;> first | exact h | omega) rfl (by omega)
  · exact a_if1 (n := 9) (by rcases h with ⟨q, h⟩ | ⟨q, h⟩ | ⟨q, h⟩ <;> first | exact h | omega) rfl (by omega)
theorem c_may1 {fu w v : Nat} {S : g_St} (hw : w < 4) (h : a_good w v) : f_X7_mayBecome fu (nI w) (nI v) S = some (1, S) := by
  unfold f_X7_mayBecome f_X7_lowest f_X7_highest a_good at *
  rw [if_neg (nI_pos (by omega)), if_neg (show ¬ (3 : Int32) < nI w from nI_nlt (a := 3) (by omega) (by omega))]
  simp only [e_zb0, e_zb1]
  rcases (show w = 0 ∨ w = 1 ∨ w = 2 ∨ w = 3 by omega) with rfl | rfl | rfl | rfl
  · exact (if_neg (nI_pos (by omega))).trans (if_neg (show ¬ (3 : Int32) < nI v from nI_nlt (a := 3) (by omega) (by omega)))
  · exact (if_neg (show ¬ nI v < 1 from nI_nlt (b := 1) (by omega) (by omega))).trans (if_neg (show ¬ (9 : Int32) < nI v from nI_nlt (a := 9) (by omega) (by omega)))
  · exact (if_neg (nI_pos (by omega))).trans (if_neg (show ¬ (9 : Int32) < nI v from nI_nlt (a := 9) (by omega) (by omega)))
  · exact (if_neg (nI_pos (by omega))).trans (if_neg (show ¬ (9 : Int32) < nI v from nI_nlt (a := 9) (by omega) (by omega)))
