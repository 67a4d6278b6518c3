theorem c_ld3 {β : Type} {R : Nat → Nat → Option Nat} {t : Nat → Nat} (h : c_R R t) {k : Nat → Option β} : g_ld g_KC 90 (.inr (2, 2, false)) (R 0 3) k = k 32 := e_ld h.2.2.2.2.2.2.2.2.2.1 ⟨by decide, rfl⟩
theorem c_ld4 {β : Type} {R : Nat → Nat → Option Nat} {t : Nat → Nat} (h : c_R R t) {k : Nat → Option β} : g_ld g_KC 90 g_kX5 (R 0 4) k = k 33 := e_ld h.2.2.2.2.2.2.2.2.2.2.1 ⟨by decide, rfl⟩
theorem c_ld5 {β : Type} {R : Nat → Nat → Option Nat} {t : Nat → Nat} (h : c_R R t) {k : Nat → Option β} : g_ld g_KC 90 g_kX6 (R 0 5) k = k 35 := e_ld h.2.2.2.2.2.2.2.2.2.2.2.1 ⟨by decide, rfl⟩
theorem c_ld50 {β : Type} {R : Nat → Nat → Option Nat} {t : Nat → Nat} (h : c_R R t) {k : Nat → Option β} : g_ld g_KC 90 g_kX5 (R 35 0) k = k 33 := e_ld h.2.2.2.2.2.2.2.2.2.2.2.2.1 ⟨by decide, rfl⟩
theorem c_ld51 {β : Type} {R : Nat → Nat → Option Nat} {t : Nat → Nat} (h : c_R R t) {k : Nat → Option β} : g_ld g_KC 90 g_kX2 (R 35 1) k = k 16 := e_ld h.2.2.2.2.2.2.2.2.2.2.2.2.2.1 ⟨by decide, rfl⟩
theorem c_ld40 {β : Type} {R : Nat → Nat → Option Nat} {t : Nat → Nat} (h : c_R R t) {k : Nat → Option β} : g_ld g_KC 90 (.inr (1, 160, false)) (R 33 0) k = k 34 := e_ld h.2.2.2.2.2.2.2.2.2.2.2.2.2.2.1 ⟨by decide, rfl⟩
theorem c_ld6 {β : Type} {R : Nat → Nat → Option Nat} {t : Nat → Nat} (h : c_R R t) {k : Nat → Option β} : g_ld g_KC 90 g_kX3 (R 0 6) k = k 36 := e_ld h.2.2.2.2.2.2.2.2.2.2.2.2.2.2.2.1 ⟨by decide, rfl⟩
theorem c_ld60 {β : Type} {R : Nat → Nat → Option Nat} {t : Nat → Nat} (h : c_R R t) {k : Nat → Option β} : g_ld g_KC 90 (.inr (0, 6, false)) (R 36 0) k = k 37 := e_ld h.2.2.2.2.2.2.2.2.2.2.2.2.2.2.2.2.1 ⟨by decide, rfl⟩
theorem c_ld61 {β : Type} {R : Nat → Nat → Option Nat} {t : Nat → Nat} (h : c_R R t) {k : Nat → Option β} : g_ld g_KC 90 (.inr (0, 6, false)) (R 36 1) k = k 38 := e_ld h.2.2.2.2.2.2.2.2.2.2.2.2.2.2.2.2.2.1 ⟨by decide, rfl⟩
theorem c_ld8 {β : Type} {R : Nat → Nat → Option Nat} {t : Nat → Nat} (h : c_R R t) {k : Nat → Option β} : g_ld g_KC 90 (.inr (7, 10, true)) (R 0 8) k = k 40 := e_ld h.2.2.2.2.2.2.2.2.2.2.2.2.2.2.2.2.2.2.2.2.1 ⟨by decide, rfl⟩
theorem c_ld9 {β : Type} {R : Nat → Nat → Option Nat} {t : Nat → Nat} (h : c_R R t) {k : Nat → Option β} : g_ld g_KC 90 (.inr (0, 41, false)) (R 0 9) k = k 51 := e_ld h.2.2.2.2.2.2.2.2.2.2.2.2.2.2.2.2.2.2.2.2.2.2 ⟨by decide, rfl⟩
theorem c_ld8v {β : Type} {R : Nat → Nat → Option Nat} {t : Nat → Nat} {v : Nat} (h : c_R R t) (hv : v < 10) {k : Nat → Option β} : (g_ld g_KC 90 (.inr (7, 10, true)) (R 0 8) fun a => g_ix (nI v) 10 fun i => g_ld g_KC 90 (.inr (0, 41, false)) (R a i) k) = k (41 + v) := by
  rw [c_ld8 h, k_ix hv (by omega)]
  refine e_ld (h.2.2.2.2.2.2.2.2.2.2.2.2.2.2.2.2.2.2.2.2.2.1 v hv) ?_
  rcases (show v = 0 ∨ v = 1 ∨ v = 2 ∨ v = 3 ∨ v = 4 ∨ v = 5 ∨ v = 6 ∨ v = 7 ∨ v = 8 ∨ v = 9 by omega) with rfl | rfl | rfl | rfl | rfl | rfl | rfl | rfl | rfl | rfl <;> exact ⟨by decide, rfl⟩
/-- a sheet -/
theorem c_ld7 {β : Type} {R : Nat → Nat → Option Nat} {t : Nat → Nat} {v : Nat} (h : c_R R t) (hv : v < 4) {k : Nat → Option β} : (g_ld g_KC 90 (.inr (6, 4, true)) (R 0 7) fun a => g_ix (nI v) 4 fun i => g_ld g_KC 90 g_kX4 (R a i) k) = k (82 + 2 * v) := by
  refine (e_ld h.2.2.2.2.2.2.2.2.2.2.2.2.2.2.2.2.2.2.1 ⟨by decide, rfl⟩).trans ?_
  rw [k_ix hv (by omega)]
  refine e_ld (h.2.2.2.2.2.2.2.2.2.2.2.2.2.2.2.2.2.2.2.1 v hv).1 ?_
  rcases (show v = 0 ∨ v = 1 ∨ v = 2 ∨ v = 3 by omega) with rfl | rfl | rfl | rfl <;> exact ⟨by decide, rfl⟩
theorem c_ld7c {β : Type} {R : Nat → Nat → Option Nat} {t : Nat → Nat} {v : Nat} (h : c_R R t) (hv : v < 4) {k : Nat → Option β} : g_ld g_KC 90 (.inr (0, 40, false)) (R (82 + 2 * v) 0) k = k (83 + 2 * v) := by
  refine e_ld (h.2.2.2.2.2.2.2.2.2.2.2.2.2.2.2.2.2.2.2.1 v hv).2 ?_
  rcases (show v = 0 ∨ v = 1 ∨ v = 2 ∨ v = 3 by omega) with rfl | rfl | rfl | rfl <;> exact ⟨by decide, rfl⟩
/-- an image -/
theorem c_ldi {β : Type} {R : Nat → Nat → Option Nat} {t : Nat → Nat} {v : Nat} (h : c_R R t) (hv : v < 2) {k : Nat → Option β} : (g_ld g_KC 90 (.inr (5, 2, true)) (R 0 2) fun a => g_ix (nI v) 2 fun i => g_ld g_KC 90 g_kX2 (R a i) k) = k (52 + 15 * v) := by
  refine (e_ld h.2.2.2.2.2.2.1 ⟨by decide, rfl⟩).trans ?_
  rw [k_ix hv (by omega)]
  rcases (show v = 0 ∨ v = 1 by omega) with rfl | rfl
  · exact e_ld h.2.2.2.2.2.2.2.1 ⟨by decide, rfl⟩
  · exact e_ld h.2.2.2.2.2.2.2.2.1 ⟨by decide, rfl⟩
theorem a_n4 {l : Nat} (h : l < 2 ^ 31) : ¬ nI l = -4 := by
  intro e
  have := congrArg Int32.toInt e
  rw [nI_toInt h] at this
  have h4 : (-4 : Int32).toInt = -4 := rfl
  omega
theorem o_count {fu : Nat} {I Im : Nat → Nat → Int32} {R Rm : Nat → Nat → Option Nat} {t P Q0 Q1 : Nat → Nat} (h : r_all I R Im Rm t P Q0 Q1) (hf : 1000 < fu) (x : Int32) : ∃ r Sc1 Sm1, f_X7_count fu 0 x (I, R) = some (r, Sc1) ∧ f_X8_count fu 0 x (Im, Rm) = some (r, Sm1) ∧ r_Rel Sc1 Sm1 := by
  obtain ⟨hR, hM, ⟨hr, hg, hp, -⟩, ⟨-, -, hk⟩, ⟨L, -, tL, mL, -⟩, ⟨s, -, cs, ms, -⟩, hsh, -⟩ := id h
  have e1 := c_depths (fu := fu) hR.1 hr hp (by omega)
  have e2 := c_manys (fu := fu) hR.1 hr hp (by omega)
  have e3 := m_count7 (fu := fu) (x := x) hM hg hp (by omega)
  have e4 := fun y => m_count40 (fu := fu) (x := x) (y := y) hM hg hp (by omega)
  obtain ⟨b0, l0, c0, m0⟩ := hk 0 (by omega)
  obtain ⟨b1, l1, c1, m1⟩ := hk 1 (by omega)
  have e5 : f_X7_imagesKept fu 0 (I, R) = some (nI (b0 + b1), (I, R)) := by
    obtain ⟨b, e, hb⟩ := e_lp (body := fun t => b_X7_imagesKept_4 fu 0 t.1 t.2.1 t.2.2) 2 (fun i t => t = (nI (if i = 0 then 0 else if i = 1 then b0 else b0 + b1), nI i, (I, R))) (fun b => b = (nI (b0 + b1), (I, R))) (by
      intro i s hi hs
      subst hs
      refine ⟨_, ?_, rfl⟩
      show b_X7_imagesKept_4 fu 0 _ _ (I, R) = _
      unfold b_X7_imagesKept_4 j_X7_imagesKept_24_in4
      simp (disch := omega) only [c_ld3 hR, l_2, l_0, l_1, k_ix, nI_leI, nI_add]
      rw [if_neg (by omega)]
      rcases (show i = 0 ∨ i = 1 by omega) with rfl | rfl
      · rw [c0]
        simp (disch := omega) only [nI_eq]
        rcases (show b0 = 0 ∨ b0 = 1 by omega) with rfl | rfl <;> rfl
      · rw [c1]
        simp (disch := omega) only [nI_eq]
        rcases (show b1 = 0 ∨ b1 = 1 by omega) with rfl | rfl <;> rfl) (by
      intro s hs
      subst hs
      refine ⟨_, ?_, rfl⟩
      exact if_pos (show (2 : Int32) ≤ nI 2 from by decide)) 0 fu (nI 0, nI 0, (I, R)) (Nat.zero_le _) (by omega) rfl
    subst hb
    exact (e_th e).trans rfl
  have e6 : (if Im 9 0 = 0 then j_X8_count_131 fu 0 0 (Im, Rm) else j_X8_count_131 fu 0 1 (Im, Rm)) = some (nI (b0 + b1), (Im, Rm)) := by
    unfold j_X8_count_131
    simp (disch := omega) only [m_ld22 hM, l_0, l_1, k_ix, m0, m1, nI_eq, nI_add]
    rcases (show b0 = 0 ∨ b0 = 1 by omega) with rfl | rfl <;> rcases (show b1 = 0 ∨ b1 = 1 by omega) with rfl | rfl <;> rfl
  have e7 : ∃ r, (if I 82 1 = 0 then (-4 : Int32) else I 82 3) = r ∧ (if Im 10 0 = -4 then (-4 : Int32) else Im 11 0) = r := by
    rcases hsh 0 (by omega) with ⟨q1, q2⟩ | ⟨l, z, hl, hz, q1, q2, q3, q4, q5, -⟩
    · exact ⟨-4, if_pos q1, if_pos q2⟩
    · exact ⟨nI z, (if_neg (by rw [q1]; decide)).trans q4, (if_neg (by rw [q3]; exact a_n4 (by omega))).trans q5⟩
  obtain ⟨r7, e7, e8⟩ := e7
  refine ⟨if x = 0 then nI s else if x = 1 then nI (b0 + b1) else if x = 2 then nI L else if x = 3 then r7 else if x = 4 then nI (p_sum (fun d => P (4 + d)) (P 16)) else if x = 5 then nI (p_sum (fun d => P (25 + d)) (P 41)) else -1, (I, R), (Im, Rm), ?_, ?_, r_same h⟩
  · have c7 := fun {β : Type} {k : Nat → Option β} => c_ld7 (β := β) (v := 0) hR (by omega) (k := k)
    rw [← l_0] at c7
    unfold f_X7_count
    simp only [c_ld0 hR, c_ld6 hR, c_ld4 hR, c7, e1, e2, e5, k_bd, cs, tL, k_push, e7, Nat.mul_zero, Nat.add_zero]
  · unfold f_X8_count
    have k0 : ∀ {n : Nat} {β : Type} {k : Nat → Option β}, 0 < n → n < 2 ^ 31 → g_ix (0 : Int32) n k = k 0 := fun h1 h2 => k_ix h1 h2
    simp (disch := omega) only [e3, e4, k_th, m_ld22 hM, m_ld23 hM, m_ld24 hM, k0, e6, ms, mL, k_push, e8]
