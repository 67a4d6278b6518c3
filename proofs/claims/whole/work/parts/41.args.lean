/-! ===== arguments ===== -/
theorem i_lt {x y : Int32} : x < y ↔ x.toInt < y.toInt := Int32.lt_iff_toInt_lt
theorem i_le {x y : Int32} : x ≤ y ↔ x.toInt ≤ y.toInt := Int32.le_iff_toInt_le
theorem m_in {fu : Nat} {a b c : Int64} {S : g_St} : f_X8_in fu a b c S = some (if b.toInt ≤ a.toInt ∧ a.toInt ≤ c.toInt then 1 else 0, S) := by
  unfold f_X8_in
  by_cases h1 : lg_cmp a b < 0
  · have := (lg_cmp_lt a b).mp h1
    rw [Int64.lt_iff_toInt_lt] at this
    rw [if_pos h1, if_neg (by omega), e_zb0]
  · rw [if_neg h1]
    have h1' : ¬ a < b := fun q => h1 ((lg_cmp_lt a b).mpr q)
    rw [Int64.lt_iff_toInt_lt] at h1'
    by_cases h2 : 0 < lg_cmp a c
    · have := (lg_cmp_gt a c).mp h2
      rw [Int64.lt_iff_toInt_lt] at this
      rw [if_pos h2, if_neg (by omega), e_zb0]
    · have h2' : ¬ c < a := fun q => h2 ((lg_cmp_gt a c).mpr q)
      rw [Int64.lt_iff_toInt_lt] at h2'
      rw [if_neg h2, if_pos (by omega), e_zb1]
/-- outside of 0 .. n - 1 -/
def a_out (x : Int32) (n : Nat) : Prop := x < 0 ∨ nI n ≤ x
theorem a_cases (x : Int32) {n : Nat} (hn : n < 2 ^ 31) : a_out x n ∨ ∃ j, j < n ∧ x = nI j := by
  rcases pk_ix x hn with h | h | h
  · exact Or.inl (Or.inl h)
  · exact Or.inl (Or.inr h)
  · exact Or.inr h
theorem a_int {x : Int32} {n : Nat} (h : a_out x n) (hn : n < 2 ^ 31) : x.toInt < 0 ∨ (n : Int) ≤ x.toInt := by
  rcases h with h | h
  · exact Or.inl (i_lt.mp h)
  · rw [i_le, nI_toInt hn] at h
    exact Or.inr h
theorem a_if1 {α : Type} {x y : Int32} {n : Nat} {A B : α} (h : a_out x (n + 1)) (hy : y = nI n) (hn : n + 1 < 2 ^ 31) : (if x < 0 then A else if y < x then A else B) = A := by
  subst hy
  by_cases c : x < 0
  · rw [if_pos c]
  · rw [if_neg c]
    have := a_int h hn
    rw [i_lt] at c
    rw [if_pos (by rw [i_lt, nI_toInt (by omega)]; have : (0 : Int32).toInt = 0 := rfl; omega)]
theorem a_if2 {α : Type} {x y : Int32} {n : Nat} {A B : α} (h : a_out x (n + 1)) (hy : y = nI n) (hn : n + 1 < 2 ^ 31) : (if x < 0 then A else if x ≤ y then B else A) = A := by
  subst hy
  by_cases c : x < 0
  · rw [if_pos c]
  · rw [if_neg c]
    have := a_int h hn
    rw [i_lt] at c
    rw [if_neg (by rw [i_le, nI_toInt (by omega)]; have : (0 : Int32).toInt = 0 := rfl; omega)]
theorem a_if3 {α : Type} {x y : Int32} {n : Nat} {A B : α} (h : a_out x n) (hy : y = nI n) (hn : n < 2 ^ 31) : (if x < 0 then A else if y ≤ x then A else B) = A := by
  subst hy
  by_cases c : x < 0
  · rw [if_pos c]
  · rw [if_neg c]
    have := a_int h hn
    rw [i_lt] at c
    rw [if_pos (by rw [i_le, nI_toInt (by omega)]; have : (0 : Int32).toInt = 0 := rfl; omega)]
theorem a_if4 {α : Type} {x y : Int32} {n : Nat} {A B : α} (h : a_out x n) (hy : y = nI n) (hn : n < 2 ^ 31) : (if x < 0 then A else if x < y then B else A) = A := by
  subst hy
  by_cases c : x < 0
  · rw [if_pos c]
  · rw [if_neg c]
    have := a_int h hn
    rw [i_lt] at c
    rw [if_neg (by rw [i_lt, nI_toInt (by omega)]; have : (0 : Int32).toInt = 0 := rfl; omega)]
theorem m_in0 {fu n : Nat} {x : Int32} {c : Int64} {S : g_St} (h : a_out x (n + 1)) (hc : c = lN n) (hn : n + 1 < 2 ^ 31) : f_X8_in fu (Int32.toInt64 x) 0 c S = some (0, S) := by
  subst hc
  have := a_int h hn
  rw [m_in, if_neg]
  rw [Int32.toInt_toInt64, lN_toInt (by omega)]
  have : (0 : Int64).toInt = 0 := rfl
  omega
theorem m_in1 {fu n j : Nat} {c : Int64} {S : g_St} (h : j ≤ n) (hc : c = lN n) (hn : n + 1 < 2 ^ 31) : f_X8_in fu (Int32.toInt64 (nI j)) 0 c S = some (1, S) := by
  subst hc
  rw [m_in, if_pos]
  rw [Int32.toInt_toInt64, lN_toInt (by omega), nI_toInt (by omega)]
  have : (0 : Int64).toInt = 0 := rfl
  omega
/-- from 1 on -/
theorem m_in10 {fu n : Nat} {x : Int32} {c : Int64} {S : g_St} (h : a_out x (n + 1) ∨ x = nI 0) (hc : c = lN n) (hn : n + 1 < 2 ^ 31) : f_X8_in fu (Int32.toInt64 x) 1 c S = some (0, S) := by
  subst hc
  rw [m_in, if_neg]
  rw [Int32.toInt_toInt64, lN_toInt (by omega)]
  have e : (1 : Int64).toInt = 1 := rfl
  rcases h with h | h
  · have := a_int h hn
    omega
  · rw [h, nI_toInt (by omega)]
    omega
theorem m_in11 {fu n j : Nat} {c : Int64} {S : g_St} (h1 : 1 ≤ j) (h : j ≤ n) (hc : c = lN n) (hn : n + 1 < 2 ^ 31) : f_X8_in fu (Int32.toInt64 (nI j)) 1 c S = some (1, S) := by
  subst hc
  rw [m_in, if_pos]
  rw [Int32.toInt_toInt64, lN_toInt (by omega), nI_toInt (by omega)]
  have : (1 : Int64).toInt = 1 := rfl
  omega
theorem m_pred {n : Nat} (hn : n < 2 ^ 30) : (Int32.toInt64 (nI n - 1)).toInt = (n : Int) - 1 := by
  rw [Int32.toInt_toInt64, show (1 : Int32) = nI 1 from rfl, pk_sub_toInt hn (by omega)]
  rfl
theorem m_inp0 {fu n : Nat} {x : Int32} {S : g_St} (h : a_out x n) (hn : n < 2 ^ 30) : f_X8_in fu (Int32.toInt64 x) 0 (Int32.toInt64 (nI n - 1)) S = some (0, S) := by
  have := a_int h (by omega)
  rw [m_in, if_neg]
  rw [Int32.toInt_toInt64, m_pred hn]
  have : (0 : Int64).toInt = 0 := rfl
  omega
theorem m_inp1 {fu n j : Nat} {S : g_St} (h : j < n) (hn : n < 2 ^ 30) : f_X8_in fu (Int32.toInt64 (nI j)) 0 (Int32.toInt64 (nI n - 1)) S = some (1, S) := by
  rw [m_in, if_pos]
  rw [Int32.toInt_toInt64, m_pred hn, nI_toInt (by omega)]
  have : (0 : Int64).toInt = 0 := rfl
  omega
theorem m_inn0 {fu n : Nat} {x : Int32} {S : g_St} (h : a_out x (n + 1)) (hn : n < 2 ^ 30) : f_X8_in fu (Int32.toInt64 x) 0 (Int32.toInt64 (nI n)) S = some (0, S) := by
  rw [nI_l (by omega)]
  exact m_in0 h rfl (by omega)
theorem m_inn1 {fu n j : Nat} {S : g_St} (h : j ≤ n) (hn : n < 2 ^ 30) : f_X8_in fu (Int32.toInt64 (nI j)) 0 (Int32.toInt64 (nI n)) S = some (1, S) := by
  rw [nI_l (n := n) (by omega)]
  exact m_in1 h rfl (by omega)
/-! ===== a door, a run, a choice ===== -/
theorem m_isDoor0 {fu : Nat} {x : Int32} {I : Nat → Nat → Int32} {R : Nat → Nat → Option Nat} {P : Nat → Nat} (hR : m_R R) (hg : m_pg I 0 P) (h4 : P 16 ≤ 4) (h : a_out x (P 16)) : f_X8_isDoor fu 0 x (I, R) = some (0, (I, R)) := by
  have g16 := hg 16 (by omega)
  rw [Nat.zero_add] at g16
  unfold f_X8_isDoor
  simp (disch := omega) only [m_ld0 hR, l_16, k_ix, g16, m_inp0 h, k_bd, e_zb0]
theorem m_isDoor1 {fu j : Nat} {I : Nat → Nat → Int32} {R : Nat → Nat → Option Nat} {P : Nat → Nat} (hR : m_R R) (hg : m_pg I 0 P) (h4 : P 16 ≤ 4) (h : j < P 16) : f_X8_isDoor fu 0 (nI j) (I, R) = some (1, (I, R)) := by
  have g16 := hg 16 (by omega)
  rw [Nat.zero_add] at g16
  unfold f_X8_isDoor
  simp (disch := omega) only [m_ld0 hR, l_16, k_ix, g16, m_inp1 h, k_bd, e_zb1]
theorem c_isDoor0 {fu : Nat} {x : Int32} {I : Nat → Nat → Int32} {R : Nat → Nat → Option Nat} {t P : Nat → Nat} (hR : c_R R t) (hr : h_rep I 1 (fun d => 4 + d) P) (h4 : P 16 ≤ 4) (h : a_out x (P 16)) : f_X7_isDoor fu 0 x (I, R) = some (0, (I, R)) := by
  unfold f_X7_isDoor
  simp only [c_ld0 hR, e_zb0, e_zb1]
  exact a_if3 h hr.1 (by omega)
theorem c_isDoor1 {fu j : Nat} {I : Nat → Nat → Int32} {R : Nat → Nat → Option Nat} {t P : Nat → Nat} (hR : c_R R t) (hr : h_rep I 1 (fun d => 4 + d) P) (h4 : P 16 ≤ 4) (h : j < P 16) : f_X7_isDoor fu 0 (nI j) (I, R) = some (1, (I, R)) := by
  unfold f_X7_isDoor
  simp only [c_ld0 hR, e_zb0, e_zb1]
  rw [if_neg (nI_pos (by omega)), hr.1, if_neg (nI_ge h (by omega))]
theorem c_isRun0 {fu : Nat} {x : Int32} {S : g_St} (h : a_out x 101) : f_X7_isRun fu x S = some (0, S) := by
  unfold f_X7_isRun
  simp only [e_zb0, e_zb1]
  exact a_if1 h rfl (by omega)
theorem c_isRun1 {fu j : Nat} {S : g_St} (h : j ≤ 100) : f_X7_isRun fu (nI j) S = some (1, S) := by
  unfold f_X7_isRun
  simp only [e_zb0, e_zb1]
  rw [if_neg (nI_pos (by omega)), if_neg (show ¬ (100 : Int32) < nI j from nI_nlt (b := j) (a := 100) h (by omega))]
theorem m_isLong0 {fu : Nat} {x : Int32} {S : g_St} (h : a_out x 101) : f_X8_isLong fu x S = some (0, S) := by
  unfold f_X8_isLong
  rw [m_in0 (c := 100) (n := 100) h rfl (by omega), k_bd, e_zb0]
theorem m_isLong1 {fu j : Nat} {S : g_St} (h : j ≤ 100) : f_X8_isLong fu (nI j) S = some (1, S) := by
  unfold f_X8_isLong
  rw [m_in1 (c := 100) (n := 100) h rfl (by omega), k_bd, e_zb1]
theorem a_ne {x : Int32} {n j : Nat} (h : a_out x n) (hj : j < n) (hn : n < 2 ^ 31) : ¬ x = nI j := by
  intro e
  have := a_int h hn
  rw [e, nI_toInt (by omega)] at this
  omega
theorem c_isChoice0 {fu : Nat} {x : Int32} {S : g_St} (h : a_out x 2) : f_X7_isChoice fu x S = some (0, S) := by
  have h0 : ¬ x = 0 := a_ne h (j := 0) (by omega) (by omega)
  have h1 : ¬ x = 1 := a_ne h (j := 1) (by omega) (by omega)
  unfold f_X7_isChoice
  simp [h0, h1, e_zb0, e_zb1]
theorem c_isChoice1 {fu j : Nat} {S : g_St} (h : j < 2) : f_X7_isChoice fu (nI j) S = some (1, S) := by
  rcases (show j = 0 ∨ j = 1 by omega) with rfl | rfl
  · rfl
  · rfl
