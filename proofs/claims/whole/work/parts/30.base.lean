/-! ===== pure: equations of the words, numbers ===== -/
theorem e_ld {β : Type} {K : Nat → g_Kd} {N : Nat} {kd : g_Kd} {r : Option Nat} {j : Nat} {k : Nat → Option β} (hr : r = some j) (hj : j < N ∧ K j = kd) : g_ld K N kd r k = k j := by
  subst hr
  exact if_pos hj
theorem e_ix {β : Type} {i : Int32} {n m : Nat} {k : Nat → Option β} (hi : i = nI m) (hm : m < n) (hn : n < 2 ^ 31) : g_ix i n k = k m := by
  subst hi
  have h : ¬ (nI m < 0 ∨ n ≤ (nI m).toNatClampNeg) := nI_in hm hn
  unfold g_ix
  rw [if_neg h, nI_clamp (by omega)]
theorem e_bd {α β : Type} {x : Option (α × g_St)} {r : α} {S : g_St} {k : α → g_St → Option β} (h : x = some (r, S)) : g_bd x k = k r S := by
  subst h
  rfl
theorem e_th {α β : Type} {x : Option α} {r : α} {k : α → Option β} (h : x = some r) : g_th x k = k r := by
  subst h
  rfl
theorem e_nz {β : Type} {y : Int32} {k : Option β} (h : ¬ y = 0) : g_nz y k = k := if_neg h
theorem e_nl {β : Type} {y : Int64} {k : Option β} (h : ¬ y = 0) : g_nl y k = k := if_neg h
theorem e_zb0 {β : Type} {k : Option β} : g_zb 0 k = k := if_pos (Or.inl rfl)
theorem e_zb1 {β : Type} {k : Option β} : g_zb 1 k = k := if_pos (Or.inr rfl)
/-- a loop, by its invariant -/
theorem e_lp {τ β : Type} {body : τ → Option (τ ⊕ β)} (n : Nat) (Inv : Nat → τ → Prop) (Post : β → Prop) (hs : ∀ i t, i < n → Inv i t → ∃ t', body t = some (.inl t') ∧ Inv (i + 1) t') (he : ∀ t, Inv n t → ∃ b, body t = some (.inr b) ∧ Post b) : ∀ (i : Nat) (fu : Nat) (t : τ), i ≤ n → n - i < fu → Inv i t → ∃ b, g_lp body fu t = some b ∧ Post b := by
  intro i fu
  induction fu generalizing i with
  | zero => intro t _ h; exact absurd h (Nat.not_lt_zero _)
  | succ f ih =>
    intro t hi hf hI
    unfold g_lp
    rcases Nat.lt_or_ge i n with h | h
    · obtain ⟨t', e1, h1⟩ := hs i t h hI
      rw [e1]
      exact ih (i + 1) t' h (by omega) h1
    · have e : i = n := by omega
      subst e
      obtain ⟨b, e1, h1⟩ := he t hI
      rw [e1]
      exact ⟨b, rfl, h1⟩
/-- a loop that may end early -/
theorem e_lpx {τ β : Type} {body : τ → Option (τ ⊕ β)} (n : Nat) (Inv : Nat → τ → Prop) (Post : β → Prop) (hs : ∀ i t, i < n → Inv i t → (∃ t', body t = some (.inl t') ∧ Inv (i + 1) t') ∨ ∃ b, body t = some (.inr b) ∧ Post b) (he : ∀ t, Inv n t → ∃ b, body t = some (.inr b) ∧ Post b) : ∀ (i : Nat) (fu : Nat) (t : τ), i ≤ n → n - i < fu → Inv i t → ∃ b, g_lp body fu t = some b ∧ Post b := by
  intro i fu
  induction fu generalizing i with
  | zero => intro t _ h; exact absurd h (Nat.not_lt_zero _)
  | succ f ih =>
    intro t hi hf hI
    unfold g_lp
    rcases Nat.lt_or_ge i n with h | h
    · rcases hs i t h hI with ⟨t', e1, h1⟩ | ⟨b, e1, h1⟩
      · rw [e1]
        exact ih (i + 1) t' h (by omega) h1
      · rw [e1]
        exact ⟨b, rfl, h1⟩
    · have e : i = n := by omega
      subst e
      obtain ⟨b, e1, h1⟩ := he t hI
      rw [e1]
      exact ⟨b, rfl, h1⟩
theorem u_at {α : Type} {f : Nat → Nat → α} {i k : Nat} {v : α} : g_u f i k v i k = v := if_pos ⟨rfl, rfl⟩
theorem u_nk {α : Type} {f : Nat → Nat → α} {i k : Nat} {v : α} {a b : Nat} (h : b ≠ k) : g_u f i k v a b = f a b := if_neg (fun q => h q.2)
theorem u_ni {α : Type} {f : Nat → Nat → α} {i k : Nat} {v : α} {a b : Nat} (h : a ≠ i) : g_u f i k v a b = f a b := if_neg (fun q => h q.1)
theorem n_lt0 {m : Nat} (h : m < 2 ^ 31) : ¬ nI m < 0 := nI_pos h
/-- an int is a small number, or out of its bounds -/
theorem n_cases (x : Int32) (n : Nat) (hn : n < 2 ^ 31) : (x < 0 ∨ nI n < x) ∨ ∃ j, j ≤ n ∧ x = nI j := by
  by_cases h : x < 0
  · exact Or.inl (Or.inl h)
  · obtain ⟨j, hj, e⟩ := nI_of h
    rcases Nat.lt_or_ge n j with q | q
    · exact Or.inl (Or.inr (by rw [e]; exact nI_lt q hj))
    · exact Or.inr ⟨j, q, e⟩
/-! ===== pages: 45 numbers (kind, depth, rate, holds of 4 doors; how many; start, many, every of 8 crowds; how many; tick, let, turned) ===== -/
def p_room (P : Nat → Nat) (d : Nat) : Nat := if P d = 0 then P (12 + d) else P (4 + d) - P (12 + d)
/-- how many of m reach door d -/
def p_adm (opn : Nat → Bool) (P : Nat → Nat) (m : Nat) : Nat → Nat
  | 0 => m
  | d + 1 => if opn d = true then p_adm opn P m d else min (p_adm opn P m d) (p_room P d)
def p_comes (P : Nat → Nat) (i : Nat) : Bool := decide (P 42 = P (17 + i)) || (decide (0 < P (33 + i)) && decide (P (17 + i) < P 42) && decide ((P 42 - P (17 + i)) % P (33 + i) = 0))
def p_sum (f : Nat → Nat) : Nat → Nat
  | 0 => 0
  | n + 1 => p_sum f n + f n
def p_come (P : Nat → Nat) : Nat := p_sum (fun i => if p_comes P i = true then P (25 + i) else 0) (P 41)
/-- behind m who came -/
def p_pass (opn : Nat → Bool) (P : Nat → Nat) (m : Nat) : Nat → Nat := fun k =>
  if 12 ≤ k ∧ k < 12 + P 16 ∧ opn (k - 12) = false then (if P (k - 12) = 0 then P k - p_adm opn P m (k - 12 + 1) else P k + p_adm opn P m (k - 12 + 1))
  else if k = 43 then min 99999 (P 43 + p_adm opn P m (P 16))
  else if k = 44 then min 99999 (P 44 + (m - p_adm opn P m (P 16)))
  else P k
def p_set (kind depth rate holds tick : Nat) : Nat :=
  if kind = 0 then min depth (holds + rate)
  else if kind = 1 then holds - rate
  else if 0 < rate ∧ (tick + 1) % rate = 0 then (if kind = 2 then 0 else holds / 2)
  else holds
def p_settle (opn : Nat → Bool) (P : Nat → Nat) : Nat → Nat := fun k =>
  if 12 ≤ k ∧ k < 12 + P 16 ∧ opn (k - 12) = false then p_set (P (k - 12)) (P (k - 12 + 4)) (P (k - 12 + 8)) (P k) (P 42)
  else if k = 42 then P 42 + 1
  else P k
/-- a tick in which m come -/
def p_tick (opn : Nat → Bool) (P : Nat → Nat) (m : Nat) : Nat → Nat := p_settle opn (p_pass opn P m)
/-- a page is as it should be -/
def p_ok (T : Nat) (P : Nat → Nat) : Prop := P 16 ≤ 4 ∧ P 41 ≤ 8 ∧ (∀ d, d < 4 → P d ≤ 3 ∧ P (4 + d) ≤ 9 ∧ P (8 + d) ≤ 9 ∧ P (12 + d) ≤ P (4 + d)) ∧ (∀ i, i < 8 → P (17 + i) ≤ 99 ∧ P (25 + i) ≤ 9 ∧ P (33 + i) ≤ 9) ∧ P 42 ≤ T ∧ P 43 ≤ 99999 ∧ P 44 ≤ 99999
theorem p_adm_le {opn : Nat → Bool} {P : Nat → Nat} {m : Nat} : ∀ d, p_adm opn P m d ≤ m
  | 0 => Nat.le_refl _
  | d + 1 => by
    have := p_adm_le (opn := opn) (P := P) (m := m) d
    unfold p_adm
    by_cases h : opn d = true
    · rw [if_pos h]; exact this
    · rw [if_neg h]; omega
theorem p_adm_mono {opn : Nat → Bool} {P : Nat → Nat} {m d : Nat} : p_adm opn P m (d + 1) ≤ p_adm opn P m d := by
  show (if opn d = true then p_adm opn P m d else min (p_adm opn P m d) (p_room P d)) ≤ _
  by_cases h : opn d = true
  · rw [if_pos h]; exact Nat.le_refl _
  · rw [if_neg h]; omega
theorem p_adm_room {opn : Nat → Bool} {P : Nat → Nat} {m d : Nat} (h : opn d = false) : p_adm opn P m (d + 1) = min (p_adm opn P m d) (p_room P d) := by
  show (if opn d = true then p_adm opn P m d else min (p_adm opn P m d) (p_room P d)) = _
  rw [if_neg (by rw [h]; decide)]
theorem p_adm_open {opn : Nat → Bool} {P : Nat → Nat} {m d : Nat} (h : opn d = true) : p_adm opn P m (d + 1) = p_adm opn P m d := by
  show (if opn d = true then p_adm opn P m d else min (p_adm opn P m d) (p_room P d)) = _
  rw [if_pos h]
theorem p_sum_le {f : Nat → Nat} {B : Nat} (h : ∀ i, f i ≤ B) : ∀ n, p_sum f n ≤ B * n
  | 0 => Nat.zero_le _
  | n + 1 => by
    have h1 := p_sum_le h n
    have h2 := h n
    show p_sum f n + f n ≤ B * (n + 1)
    rw [Nat.mul_succ]
    omega
theorem p_come_le {T : Nat} {P : Nat → Nat} (h : p_ok T P) : p_come P ≤ 72 := by
  unfold p_come
  have key : ∀ n, n ≤ 8 → p_sum (fun i => if p_comes P i = true then P (25 + i) else 0) n ≤ 9 * n := by
    intro n
    induction n with
    | zero => intro _; exact Nat.zero_le _
    | succ n ih =>
      intro hn
      have h1 := ih (by omega)
      have h2 := (h.2.2.2.1 n (by omega)).2.1
      show p_sum _ n + (if p_comes P n = true then P (25 + n) else 0) ≤ 9 * (n + 1)
      by_cases c : p_comes P n = true
      · rw [if_pos c]; omega
      · rw [if_neg c]; omega
  have := key (P 41) h.2.1
  have := h.2.1
  omega
