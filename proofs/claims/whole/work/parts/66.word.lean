/-! ===== two loops, step by step beside each other ===== -/
theorem e_lpl {τ β : Type} {body : τ → Option (τ ⊕ β)} {f : Nat} {t t' : τ} (h : body t = some (.inl t')) : g_lp body (f + 1) t = g_lp body f t' := by rw [g_lp, h]
theorem e_lpr {τ β : Type} {body : τ → Option (τ ⊕ β)} {f : Nat} {t : τ} {b : β} (h : body t = some (.inr b)) : g_lp body (f + 1) t = some b := by rw [g_lp, h]
theorem e_lp2 {τ β σ γ : Type} {bA : τ → Option (τ ⊕ β)} {bB : σ → Option (σ ⊕ γ)} (n : Nat) (Inv : Nat → τ → σ → Prop) (Post : β → γ → Prop) (hs : ∀ i a c, i < n → Inv i a c → (∃ a' c', bA a = some (.inl a') ∧ bB c = some (.inl c') ∧ Inv (i + 1) a' c') ∨ ∃ x y, bA a = some (.inr x) ∧ (bB c = some (.inr y) ∨ ∃ c', bB c = some (.inl c') ∧ bB c' = some (.inr y)) ∧ Post x y) (he : ∀ a c, ¬ Inv n a c) : ∀ (fu i : Nat) (a : τ) (c : σ), i ≤ n → n - i + 1 < fu → Inv i a c → ∃ x y, g_lp bA fu a = some x ∧ g_lp bB fu c = some y ∧ Post x y
  | 0, i, a, c, _, h, _ => absurd h (Nat.not_lt_zero _)
  | f + 1, i, a, c, hi, h, hI => by
    have hin : i < n := by
      rcases Nat.lt_or_ge i n with q | q
      · exact q
      · have e : i = n := by omega
        subst e
        exact absurd hI (he a c)
    rcases hs i a c hin hI with ⟨a', c', h1, h2, h3⟩ | ⟨x, y, h1, h2, h3⟩
    · rw [e_lpl h1, e_lpl h2]
      exact e_lp2 n Inv Post hs he f (i + 1) a' c' hin (by omega) h3
    · refine ⟨x, y, e_lpr h1, ?_, h3⟩
      rcases h2 with h2 | ⟨c', h2, h4⟩
      · exact e_lpr h2
      · rw [e_lpl h2]
        cases f with
        | zero => omega
        | succ f => exact e_lpr h4
/-! ===== names ===== -/
def q_nm (b : Nat → Nat) (s e n : Nat) : Prop := e - s = w_end (n + 1) - w_end n ∧ ∀ i, i < e - s → b (s + i) = w_let (w_end n + i)
theorem w_len : ∀ n, n < 5 → g_len.getD n 0 = w_end (n + 1) - w_end n ∧ w_end n + g_len.getD n 0 ≤ 24 ∧ 0 < g_len.getD n 0 := by decide +kernel
theorem w_ch : ∀ n, n < 5 → ∀ i, i < g_len.getD n 0 → g_ch n i = nI (w_let (w_end n + i)) := by decide +kernel
theorem w_let_le : ∀ i, i < 24 → w_let i ≤ 127 := by decide +kernel
theorem w_end_le : ∀ i, i < 6 → w_end i ≤ 24 := by decide +kernel
theorem c_nameIs {fu L s e n : Nat} {b : Nat → Nat} {J : Nat → Nat → Int32} {R : Nat → Nat → Option Nat} {t : Nat → Nat} (hR : c_R R t) (ht : t_c b L J) (h2 : J 33 2 = nI e) (h3 : J 33 3 = nI s) (hn : n < 5) (h1 : s ≤ e) (he : e ≤ L) (hf : 1000 < fu) : (q_nm b s e n → f_X5_nameIs fu 33 n (J, R) = some (1, (J, R))) ∧ (¬ q_nm b s e n → f_X5_nameIs fu 33 n (J, R) = some (0, (J, R))) := by
  have hL := ht.1
  obtain ⟨l1, l2, l3⟩ := w_len n hn
  have head : f_X5_nameIs fu 33 n (J, R) = if e - s = g_len.getD n 0 then (g_th (g_lp (fun t => b_X5_nameIs_20 fu 33 n t.1 t.2) fu ((0 : Int32), (J, R))) fun e => match e with | .inl S1 => (g_zb (1 : Int32) (some ((1 : Int32), S1))) | .inr q => some q) else some (0, (J, R)) := by
    unfold f_X5_nameIs
    show (if J 33 2 - J 33 3 = nI (g_len.getD n 0) then _ else _) = _
    rw [h2, h3, pk_sub h1, e_zb0]
    by_cases c : e - s = g_len.getD n 0
    · rw [if_pos c, if_pos (by rw [c])]
      rfl
    · rw [if_neg c, if_neg (fun q => c ((nI_eq (by omega) (by omega)).mp q))]
  by_cases c : e - s = g_len.getD n 0
  · rw [if_pos c] at head
    obtain ⟨r, e1, hr⟩ := e_lpx (body := fun t => b_X5_nameIs_20 fu 33 n t.1 t.2) (g_len.getD n 0)
      (fun i q => q = (nI i, (J, R)) ∧ ∀ j, j < i → b (s + j) = w_let (w_end n + j))
      (fun r => (r = .inl (J, R) ∧ q_nm b s e n) ∨ (r = .inr (0, (J, R)) ∧ ¬ q_nm b s e n)) (by
      rintro i q hi ⟨rfl, hj⟩
      have hb := ht.2.2 (s + i) (by omega)
      have hw := w_let_le (w_end n + i) (by omega)
      have step : b_X5_nameIs_20 fu 33 n (nI i) (J, R) = if b (s + i) = w_let (w_end n + i) then some (.inl (nI (i + 1), (J, R))) else some (.inr (.inr (0, (J, R)))) := by
        unfold b_X5_nameIs_20
        rw [if_neg (nI_ge hi (by omega))]
        simp (disch := omega) only [c_ld40 hR, h3, nI_add, k_ix, hb.2, w_ch n hn i hi, nI_eq, nI_1, e_zb0]
      by_cases d : b (s + i) = w_let (w_end n + i)
      · rw [if_pos d] at step
        refine Or.inl ⟨_, step, rfl, fun j hj' => ?_⟩
        rcases Nat.lt_or_ge j i with z | z
        · exact hj j z
        · rw [show j = i by omega]; exact d
      · rw [if_neg d] at step
        exact Or.inr ⟨_, step, Or.inr ⟨rfl, fun q => d (q.2 i (by omega))⟩⟩) (by
      rintro q ⟨rfl, hj⟩
      refine ⟨.inl (J, R), ?_, Or.inl ⟨rfl, by omega, fun i hi => hj i (by omega)⟩⟩
      show b_X5_nameIs_20 fu 33 n (nI (g_len.getD n 0)) (J, R) = _
      unfold b_X5_nameIs_20
      exact if_pos (nI_le (Nat.le_refl _) (by omega))) 0 fu (nI 0, (J, R)) (Nat.zero_le _) (by omega) ⟨rfl, fun j hj => absurd hj (Nat.not_lt_zero _)⟩
    have head2 := head.trans (e_th e1)
    rcases hr with ⟨rfl, z⟩ | ⟨rfl, z⟩
    · exact ⟨fun _ => head2.trans e_zb1, fun q => absurd z q⟩
    · exact ⟨fun q => absurd q z, fun _ => head2⟩
  · rw [if_neg c] at head
    exact ⟨fun q => absurd (by rw [l1]; exact q.1) c, fun _ => head⟩
/-- the first name that it is; 5: none -/
def q_ln (b : Nat → Nat) (s e m : Nat) : Prop := m ≤ 5 ∧ (∀ n, n < m → ¬ q_nm b s e n) ∧ (m < 5 → q_nm b s e m)
theorem q_ln_ex (b : Nat → Nat) (s e : Nat) : ∃ m, q_ln b s e m := by
  have key : ∀ k, k ≤ 5 → (∀ n, n < 5 - k → ¬ q_nm b s e n) → ∃ m, q_ln b s e m := by
    intro k
    induction k with
    | zero => intro _ h; exact ⟨5, Nat.le_refl _, h, fun q => absurd q (by decide)⟩
    | succ k ih =>
      intro hk h
      by_cases c : q_nm b s e (5 - (k + 1))
      · exact ⟨5 - (k + 1), by omega, h, fun _ => c⟩
      · refine ih (by omega) (fun n hn => ?_)
        rcases Nat.lt_or_ge n (5 - (k + 1)) with z | z
        · exact h n z
        · rw [show n = 5 - (k + 1) by omega]; exact c
  exact key 5 (Nat.le_refl _) (fun n hn => absurd hn (by omega))
theorem c_begun {fu L s e m : Nat} {b : Nat → Nat} {J : Nat → Nat → Int32} {R : Nat → Nat → Option Nat} {t : Nat → Nat} (hR : c_R R t) (ht : t_c b L J) (h2 : J 33 2 = nI e) (h3 : J 33 3 = nI s) (h1 : s ≤ e) (he : e ≤ L) (hm : q_ln b s e m) (hf : 1000 < fu) : f_X6_lineBegun fu 35 (J, R) = some (nI m, (J, R)) := by
  have A := fun n hn => c_nameIs (fu := fu) (n := n) hR ht h2 h3 hn h1 he hf
  obtain ⟨m5, q1, q2⟩ := hm
  have Z : ∀ n, n < m → n < 5 → f_X5_nameIs fu 33 n (J, R) = some (0, (J, R)) := fun n a c => (A n c).2 (q1 n a)
  have O : m < 5 → f_X5_nameIs fu 33 m (J, R) = some (1, (J, R)) := fun a => (A m a).1 (q2 a)
  have i0 : ¬ (1 : Int32) = 0 := by decide
  have i1 : (0 : Int32) = 0 := rfl
  unfold f_X6_lineBegun
  rcases (show m = 0 ∨ m = 1 ∨ m = 2 ∨ m = 3 ∨ m = 4 ∨ m = 5 by omega) with rfl | rfl | rfl | rfl | rfl | rfl
  · rw [c_ld50 hR, O (by omega), k_bd, if_neg i0]; rfl
  · rw [c_ld50 hR, Z 0 (by omega) (by omega), k_bd, if_pos i1]
    show g_ld g_KC 90 g_kX5 (R 35 0) _ = _
    rw [c_ld50 hR, O (by omega), k_bd, if_neg i0]; rfl
  · rw [c_ld50 hR, Z 0 (by omega) (by omega), k_bd, if_pos i1]
    show g_ld g_KC 90 g_kX5 (R 35 0) _ = _
    rw [c_ld50 hR, Z 1 (by omega) (by omega), k_bd, if_pos i1]
    show g_ld g_KC 90 g_kX5 (R 35 0) _ = _
    rw [c_ld50 hR, O (by omega), k_bd, if_neg i0]; rfl
  · rw [c_ld50 hR, Z 0 (by omega) (by omega), k_bd, if_pos i1]
    show g_ld g_KC 90 g_kX5 (R 35 0) _ = _
    rw [c_ld50 hR, Z 1 (by omega) (by omega), k_bd, if_pos i1]
    show g_ld g_KC 90 g_kX5 (R 35 0) _ = _
    rw [c_ld50 hR, Z 2 (by omega) (by omega), k_bd, if_pos i1]
    show g_ld g_KC 90 g_kX5 (R 35 0) _ = _
    rw [c_ld50 hR, O (by omega), k_bd, if_neg i0]; rfl
  · rw [c_ld50 hR, Z 0 (by omega) (by omega), k_bd, if_pos i1]
    show g_ld g_KC 90 g_kX5 (R 35 0) _ = _
    rw [c_ld50 hR, Z 1 (by omega) (by omega), k_bd, if_pos i1]
    show g_ld g_KC 90 g_kX5 (R 35 0) _ = _
    rw [c_ld50 hR, Z 2 (by omega) (by omega), k_bd, if_pos i1]
    show g_ld g_KC 90 g_kX5 (R 35 0) _ = _
    rw [c_ld50 hR, Z 3 (by omega) (by omega), k_bd, if_pos i1]
    show g_ld g_KC 90 g_kX5 (R 35 0) _ = _
    rw [c_ld50 hR, O (by omega), k_bd, if_neg i0]; rfl
  · rw [c_ld50 hR, Z 0 (by omega) (by omega), k_bd, if_pos i1]
    show g_ld g_KC 90 g_kX5 (R 35 0) _ = _
    rw [c_ld50 hR, Z 1 (by omega) (by omega), k_bd, if_pos i1]
    show g_ld g_KC 90 g_kX5 (R 35 0) _ = _
    rw [c_ld50 hR, Z 2 (by omega) (by omega), k_bd, if_pos i1]
    show g_ld g_KC 90 g_kX5 (R 35 0) _ = _
    rw [c_ld50 hR, Z 3 (by omega) (by omega), k_bd, if_pos i1]
    show g_ld g_KC 90 g_kX5 (R 35 0) _ = _
    rw [c_ld50 hR, Z 4 (by omega) (by omega), k_bd, if_pos i1]; rfl
def t_wd (J : Nat → Nat → Int32) : Prop := (∀ i, i < 6 → J 4 i = nI (w_end i)) ∧ ∀ i, i < 24 → J 5 i = nI (w_let i)
theorem m_nm1 {fu L s e n : Nat} {b : Nat → Nat} {J : Nat → Nat → Int32} {R : Nat → Nat → Option Nat} (hM : m_R R) (ht : t_m b L J) (hw : t_wd J) (h7 : J 0 7 = nI e) (h8 : J 0 8 = nI s) (hn : n < 5) (h1 : s ≤ e) (he : e ≤ L) (hlen : e - s = w_end (n + 1) - w_end n) (hf : 1000 < fu) : (q_nm b s e n → g_lp (fun t => b_X8_nameHere_50 fu 0 (nI n) t.1 t.2.1 t.2.2) fu (nI 1, nI 0, (J, R)) = some (nI 1, (J, R))) ∧ (¬ q_nm b s e n → g_lp (fun t => b_X8_nameHere_50 fu 0 (nI n) t.1 t.2.1 t.2.2) fu (nI 1, nI 0, (J, R)) = some (nI 0, (J, R))) := by
  have hL := ht.1
  obtain ⟨l1, l2, l3⟩ := w_len n hn
  obtain ⟨r, e1, hr⟩ := e_lpx (body := fun t => b_X8_nameHere_50 fu 0 (nI n) t.1 t.2.1 t.2.2) (e - s)
    (fun k q => (q = (nI 1, nI k, (J, R)) ∧ ∀ j, j < k → b (s + j) = w_let (w_end n + j)) ∨ (q = (nI 0, nI k, (J, R)) ∧ ¬ q_nm b s e n))
    (fun r => (r = (nI 1, (J, R)) ∧ q_nm b s e n) ∨ (r = (nI 0, (J, R)) ∧ ¬ q_nm b s e n)) (by
    rintro k q hk (⟨rfl, hj⟩ | ⟨rfl, hj⟩)
    · have hb := ht.2.2 (s + k) (by omega)
      have hl := w_let_le (w_end n + k) (by omega)
      have hwe := hw.1 n (by omega)
      have hwl := hw.2 (w_end n + k) (by omega)
      have eb : q_by b L (s + k) = nI (b (s + k)) := if_pos (by omega)
      have step : b_X8_nameHere_50 fu 0 (nI n) (nI 1) (nI k) (J, R) = if b (s + k) = w_let (w_end n + k) then some (.inl (nI 1, nI (k + 1), (J, R))) else some (.inl (nI 0, nI (k + 1), (J, R))) := by
        unfold b_X8_nameHere_50 j_X8_nameHere_98_in50
        rw [if_neg (show ¬ nI 1 = (0 : Int32) by decide)]
        show (if J 0 7 - J 0 8 ≤ nI k then _ else _) = _
        rw [h7, h8, pk_sub h1, if_neg (nI_ge hk (by omega))]
        dsimp only
        rw [h8, nI_add, m_byte hM ht (by omega), k_bd, eb]
        simp (disch := omega) only [m_ld11 hM, m_ld12 hM, k_ix, hwe, nI_add, hwl, nI_eq, nI_1]
        rfl
      by_cases d : b (s + k) = w_let (w_end n + k)
      · rw [if_pos d] at step
        refine Or.inl ⟨_, step, Or.inl ⟨rfl, fun j hj' => ?_⟩⟩
        rcases Nat.lt_or_ge j k with z | z
        · exact hj j z
        · rw [show j = k by omega]; exact d
      · rw [if_neg d] at step
        exact Or.inl ⟨_, step, Or.inr ⟨rfl, fun q => d (q.2 k hk)⟩⟩
    · exact Or.inr ⟨(nI 0, (J, R)), if_pos (show nI 0 = (0 : Int32) from rfl), Or.inr ⟨rfl, hj⟩⟩) (by
    rintro q (⟨rfl, hj⟩ | ⟨rfl, hj⟩)
    · refine ⟨(nI 1, (J, R)), ?_, Or.inl ⟨rfl, hlen, hj⟩⟩
      show b_X8_nameHere_50 fu 0 (nI n) (nI 1) (nI (e - s)) (J, R) = _
      unfold b_X8_nameHere_50
      rw [if_neg (show ¬ nI 1 = (0 : Int32) by decide)]
      show (if J 0 7 - J 0 8 ≤ nI (e - s) then _ else _) = _
      rw [h7, h8, pk_sub h1, if_pos (nI_le (Nat.le_refl _) (by omega))]
    · exact ⟨(nI 0, (J, R)), if_pos (show nI 0 = (0 : Int32) from rfl), Or.inr ⟨rfl, hj⟩⟩) 0 fu (nI 1, nI 0, (J, R)) (Nat.zero_le _) (by omega) (Or.inl ⟨rfl, fun j hj => absurd hj (Nat.not_lt_zero _)⟩)
  rcases hr with ⟨rfl, z⟩ | ⟨rfl, z⟩
  · exact ⟨fun _ => e1, fun q => absurd z q⟩
  · exact ⟨fun q => absurd q z, fun _ => e1⟩
theorem m_here {fu L s e m : Nat} {b : Nat → Nat} {J : Nat → Nat → Int32} {R : Nat → Nat → Option Nat} (hM : m_R R) (ht : t_m b L J) (hw : t_wd J) (h7 : J 0 7 = nI e) (h8 : J 0 8 = nI s) (h9 : J 0 9 = nI 1) (h1 : s ≤ e) (he : e ≤ L) (hm : q_ln b s e m) (hf : 1000 < fu) : f_X8_nameHere fu 0 (J, R) = some ((if m = 5 then -4 else nI m), (J, R)) := by
  have hL := ht.1
  have step : ∀ n, n < 5 → (q_nm b s e n → b_X8_nameHere_2 fu 0 (nI n) (J, R) = some (.inr (.inr (nI n, (J, R))))) ∧ (¬ q_nm b s e n → b_X8_nameHere_2 fu 0 (nI n) (J, R) = some (.inl (nI (n + 1), (J, R)))) := by
    intro n hn
    have hw1 := hw.1 n (by omega)
    have hw2 := hw.1 (n + 1) (by omega)
    have lw1 := w_end_le n (by omega)
    have lw2 := w_end_le (n + 1) (by omega)
    obtain ⟨l1, l2, l3⟩ := w_len n hn
    have head : b_X8_nameHere_2 fu 0 (nI n) (J, R) = if e - s = w_end (n + 1) - w_end n then j_X8_nameHere_47_in2 fu 0 (nI n) (nI 1) (J, R) else j_X8_nameHere_47_in2 fu 0 (nI n) (nI 0) (J, R) := by
      unfold b_X8_nameHere_2
      rw [if_neg (show ¬ (5 : Int32) ≤ nI n from nI_ge (b := 5) hn (by omega))]
      show (if J 0 9 = 1 then _ else _) = _
      rw [h9, if_pos (show nI 1 = (1 : Int32) from rfl)]
      simp (disch := omega) only [m_ld11 hM, k_ix, nI_1, hw1, hw2, h7, h8, pk_sub, nI_eq]
      rfl
    have z0 : j_X8_nameHere_47_in2 fu 0 (nI n) (nI 0) (J, R) = some (.inl (nI (n + 1), (J, R))) := by
      obtain ⟨r, e1, rfl⟩ := e_lp (body := fun t => b_X8_nameHere_50 fu 0 (nI n) t.1 t.2.1 t.2.2) 0 (fun _ q => q = (nI 0, nI 0, (J, R))) (fun r => r = (nI 0, (J, R))) (fun i q hi => absurd hi (Nat.not_lt_zero _)) (by
        rintro q rfl
        exact ⟨_, if_pos (show nI 0 = (0 : Int32) from rfl), rfl⟩) 0 fu (nI 0, nI 0, (J, R)) (Nat.zero_le _) (by omega) rfl
      unfold j_X8_nameHere_47_in2
      refine (e_th e1).trans ?_
      dsimp only
      rw [if_pos (show nI 0 = (0 : Int32) from rfl), nI_1]
    by_cases c : e - s = w_end (n + 1) - w_end n
    · rw [if_pos c] at head
      obtain ⟨x1, x2⟩ := m_nm1 (fu := fu) hM ht hw h7 h8 hn h1 he c hf
      refine ⟨fun q => head.trans ?_, fun q => head.trans ?_⟩
      · unfold j_X8_nameHere_47_in2
        refine (e_th (x1 q)).trans ?_
        dsimp only
        rw [if_neg (show ¬ nI 1 = (0 : Int32) by decide)]
      · unfold j_X8_nameHere_47_in2
        refine (e_th (x2 q)).trans ?_
        dsimp only
        rw [if_pos (show nI 0 = (0 : Int32) from rfl), nI_1]
    · rw [if_neg c] at head
      exact ⟨fun q => absurd q.1 c, fun _ => head.trans z0⟩
  obtain ⟨m5, q1, q2⟩ := hm
  obtain ⟨r, e1, hr⟩ := e_lpx (body := fun t => b_X8_nameHere_2 fu 0 t.1 t.2) m
    (fun i q => q = (nI i, (J, R))) (fun r => (m = 5 ∧ r = .inl (J, R)) ∨ (m < 5 ∧ r = .inr (nI m, (J, R)))) (by
    rintro i q hi rfl
    exact Or.inl ⟨_, (step i (by omega)).2 (q1 i hi), rfl⟩) (by
    rintro q rfl
    rcases Nat.lt_or_ge m 5 with z | z
    · exact ⟨_, (step m z).1 (q2 z), Or.inr ⟨z, rfl⟩⟩
    · have e5 : m = 5 := by omega
      subst e5
      exact ⟨_, if_pos (show (5 : Int32) ≤ nI 5 by decide), Or.inl ⟨rfl, rfl⟩⟩) 0 fu (nI 0, (J, R)) (Nat.zero_le _) (by omega) rfl
  unfold f_X8_nameHere
  refine (e_th e1).trans ?_
  rcases hr with ⟨rfl, rfl⟩ | ⟨z, rfl⟩
  · rw [if_pos rfl]
  · rw [if_neg (by omega)]
