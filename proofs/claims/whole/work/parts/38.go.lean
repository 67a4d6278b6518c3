/-! ===== ticks in which so many come as is said ===== -/
def p_go (opn : Nat → Bool) (cm : Nat → (Nat → Nat) → Nat) (P : Nat → Nat) : Nat → (Nat → Nat)
  | 0 => P
  | n + 1 => p_tick opn (p_go opn cm P n) (cm n (p_go opn cm P n))
def p_gl (opn : Nat → Bool) (cm : Nat → (Nat → Nat) → Nat) (P : Nat → Nat) (n : Nat) : Nat := p_adm opn (p_go opn cm P n) (cm n (p_go opn cm P n)) (P 16)
def p_gt (opn : Nat → Bool) (cm : Nat → (Nat → Nat) → Nat) (P : Nat → Nat) (n : Nat) : Nat := cm n (p_go opn cm P n) - p_gl opn cm P n
def p_gr (opn : Nat → Bool) (cm : Nat → (Nat → Nat) → Nat) (P : Nat → Nat) (d n : Nat) : Nat := p_adm opn (p_go opn cm P n) (cm n (p_go opn cm P n)) d - p_adm opn (p_go opn cm P n) (cm n (p_go opn cm P n)) (d + 1)
def p_gb (opn : Nat → Bool) (cm : Nat → (Nat → Nat) → Nat) (P : Nat → Nat) (n : Nat) : Nat := if 0 < p_gt opn cm P n then 1 else 0
def p_max (f : Nat → Nat) : Nat → Nat
  | 0 => 0
  | n + 1 => max (p_max f n) (f n)
def p_cm : Nat → (Nat → Nat) → Nat := fun _ Q => p_come Q
/-- those who come are few, whatever has been counted -/
def p_few (cm : Nat → (Nat → Nat) → Nat) : Prop := (∀ T n Q, p_ok T Q → cm n Q ≤ 100) ∧ ∀ T n Q Q', p_ok T Q → (∀ k, k ≠ 43 → k ≠ 44 → Q k = Q' k) → cm n Q = cm n Q'
theorem p_run_go {opn : Nat → Bool} {P : Nat → Nat} : ∀ n, p_run opn P n = p_go opn p_cm P n
  | 0 => rfl
  | n + 1 => by
    show p_tick opn (p_run opn P n) (p_come (p_run opn P n)) = _
    rw [p_run_go n]
    rfl
theorem p_let1_go {opn : Nat → Bool} {P : Nat → Nat} (n : Nat) : p_let1 opn P n = p_gl opn p_cm P n := by
  unfold p_let1 p_gl
  rw [p_run_go]
  rfl
theorem p_ref1_go {opn : Nat → Bool} {P : Nat → Nat} {d : Nat} (n : Nat) : p_ref1 opn P d n = p_gr opn p_cm P d n := by
  unfold p_ref1 p_gr
  rw [p_run_go]
  rfl
theorem p_lets_go {opn : Nat → Bool} {P : Nat → Nat} (n : Nat) : p_lets opn P n = p_sum (p_gl opn p_cm P) n := by
  unfold p_lets
  congr 1
  funext i
  exact p_let1_go i
theorem p_refs_go {opn : Nat → Bool} {P : Nat → Nat} {d : Nat} (n : Nat) : p_sum (p_ref1 opn P d) n = p_sum (p_gr opn p_cm P d) n := by
  congr 1
  funext i
  exact p_ref1_go i
theorem p_ok_go {T : Nat} {opn : Nat → Bool} {cm : Nat → (Nat → Nat) → Nat} {P : Nat → Nat} (hp : p_ok T P) : ∀ n, p_ok (T + n) (p_go opn cm P n)
  | 0 => hp
  | n + 1 => p_ok_tick (p_ok_go hp n)
theorem p_go_16 {T : Nat} {opn : Nat → Bool} {cm : Nat → (Nat → Nat) → Nat} {P : Nat → Nat} (hp : p_ok T P) : ∀ n, p_go opn cm P n 16 = P 16
  | 0 => rfl
  | n + 1 => by
    show p_tick opn (p_go opn cm P n) _ 16 = P 16
    rw [p_tick_16 (p_ok_go hp n).1, p_go_16 hp n]
theorem p_gl_le {T : Nat} {opn : Nat → Bool} {cm : Nat → (Nat → Nat) → Nat} {P : Nat → Nat} (hp : p_ok T P) (hc : p_few cm) (n : Nat) : p_gl opn cm P n ≤ 100 := Nat.le_trans (p_adm_le _) (hc.1 _ _ _ (p_ok_go hp n))
theorem p_gt_le {T : Nat} {opn : Nat → Bool} {cm : Nat → (Nat → Nat) → Nat} {P : Nat → Nat} (hp : p_ok T P) (hc : p_few cm) (n : Nat) : p_gt opn cm P n ≤ 100 := by
  have := hc.1 _ n _ (p_ok_go (opn := opn) (cm := cm) hp n)
  unfold p_gt
  omega
theorem p_gr_le {T d : Nat} {opn : Nat → Bool} {cm : Nat → (Nat → Nat) → Nat} {P : Nat → Nat} (hp : p_ok T P) (hc : p_few cm) (n : Nat) : p_gr opn cm P d n ≤ 100 := by
  have h1 := hc.1 _ n _ (p_ok_go (opn := opn) (cm := cm) hp n)
  have h2 := p_adm_le (opn := opn) (P := p_go opn cm P n) (m := cm n (p_go opn cm P n)) d
  unfold p_gr
  omega
theorem p_max_le {f : Nat → Nat} {B : Nat} (h : ∀ i, f i ≤ B) : ∀ n, p_max f n ≤ B
  | 0 => Nat.zero_le _
  | n + 1 => by
    have := p_max_le h n
    have := h n
    show max (p_max f n) (f n) ≤ B
    omega
theorem p_few_cm : p_few p_cm := by
  refine ⟨fun T n Q hq => Nat.le_trans (p_come_le hq) (by omega), fun T n Q Q' hq he => ?_⟩
  show p_come Q = p_come Q'
  unfold p_come
  rw [← he 41 (by omega) (by omega)]
  have h8 := hq.2.1
  have key : ∀ i, i ≤ Q 41 → p_sum (fun i => if p_comes Q i = true then Q (25 + i) else 0) i = p_sum (fun i => if p_comes Q' i = true then Q' (25 + i) else 0) i := by
    intro i
    induction i with
    | zero => intro _; rfl
    | succ i ih =>
      intro hi
      show p_sum _ i + _ = p_sum _ i + _
      rw [ih (by omega)]
      have e : p_comes Q' i = p_comes Q i := by
        unfold p_comes
        rw [he 42 (by omega) (by omega), he (17 + i) (by omega) (by omega), he (33 + i) (by omega) (by omega)]
      simp only [e, he (25 + i) (by omega) (by omega)]
  exact key _ (Nat.le_refl _)
/-! ===== what is counted makes no difference ===== -/
def p_eqx (Q Q' : Nat → Nat) : Prop := ∀ k, k ≠ 43 → k ≠ 44 → Q k = Q' k
theorem p_room_eqx {Q Q' : Nat → Nat} {d : Nat} (h : p_eqx Q Q') (hd : d < 4) : p_room Q d = p_room Q' d := by
  unfold p_room
  rw [h d (by omega) (by omega), h (4 + d) (by omega) (by omega), h (12 + d) (by omega) (by omega)]
theorem p_adm_eqx {opn : Nat → Bool} {Q Q' : Nat → Nat} {m : Nat} (h : p_eqx Q Q') : ∀ d, d ≤ 4 → p_adm opn Q m d = p_adm opn Q' m d
  | 0, _ => rfl
  | d + 1, hd => by
    have ih := p_adm_eqx (opn := opn) (m := m) h d (by omega)
    show (if opn d = true then p_adm opn Q m d else min (p_adm opn Q m d) (p_room Q d)) = if opn d = true then p_adm opn Q' m d else min (p_adm opn Q' m d) (p_room Q' d)
    rw [ih, p_room_eqx h (by omega)]
theorem p_pass_eqx {opn : Nat → Bool} {Q Q' : Nat → Nat} {m : Nat} (h : p_eqx Q Q') (h4 : Q 16 ≤ 4) : p_eqx (p_pass opn Q m) (p_pass opn Q' m) := by
  intro k k3 k4
  unfold p_pass
  rw [← h 16 (by omega) (by omega), if_neg k3, if_neg k4, if_neg k3, if_neg k4]
  by_cases c : 12 ≤ k ∧ k < 12 + Q 16 ∧ opn (k - 12) = false
  · rw [if_pos c, if_pos c, h (k - 12) (by omega) (by omega), h k k3 k4, p_adm_eqx h _ (by omega)]
  · rw [if_neg c, if_neg c, h k k3 k4]
theorem p_tick_eqx {opn : Nat → Bool} {Q Q' : Nat → Nat} {m : Nat} (h : p_eqx Q Q') (h4 : Q 16 ≤ 4) : p_eqx (p_tick opn Q m) (p_tick opn Q' m) := by
  have hp := p_pass_eqx (opn := opn) (m := m) h h4
  have e16 := p_pass_16 (opn := opn) (P := Q) (m := m) h4
  intro k k3 k4
  show p_settle opn (p_pass opn Q m) k = p_settle opn (p_pass opn Q' m) k
  unfold p_settle
  rw [← hp 16 (by omega) (by omega), ← hp 42 (by omega) (by omega)]
  by_cases c : 12 ≤ k ∧ k < 12 + p_pass opn Q m 16 ∧ opn (k - 12) = false
  · rw [if_pos c, if_pos c, hp (k - 12) (by omega) (by omega), hp (k - 12 + 4) (by omega) (by omega), hp (k - 12 + 8) (by omega) (by omega), hp k k3 k4]
  · rw [if_neg c, if_neg c, hp k k3 k4]
theorem p_go_eqx {T : Nat} {opn : Nat → Bool} {cm : Nat → (Nat → Nat) → Nat} {Q Q' : Nat → Nat} (hq : p_ok T Q) (hc : p_few cm) (h : p_eqx Q Q') : ∀ n, p_eqx (p_go opn cm Q n) (p_go opn cm Q' n)
  | 0 => h
  | n + 1 => by
    have ih := p_go_eqx (opn := opn) hq hc h n
    show p_eqx (p_tick opn (p_go opn cm Q n) (cm n (p_go opn cm Q n))) (p_tick opn (p_go opn cm Q' n) (cm n (p_go opn cm Q' n)))
    rw [← hc.2 _ n _ _ (p_ok_go hq n) ih]
    exact p_tick_eqx ih (p_ok_go hq n).1
theorem p_gl_eqx {T : Nat} {opn : Nat → Bool} {cm : Nat → (Nat → Nat) → Nat} {Q Q' : Nat → Nat} (hq : p_ok T Q) (hc : p_few cm) (h : p_eqx Q Q') (n : Nat) : p_gl opn cm Q n = p_gl opn cm Q' n := by
  have ih := p_go_eqx (opn := opn) hq hc h n
  have h4 := hq.1
  unfold p_gl
  rw [← hc.2 _ n _ _ (p_ok_go hq n) ih, ← h 16 (by omega) (by omega), p_adm_eqx ih _ (by omega)]
theorem p_gt_eqx {T : Nat} {opn : Nat → Bool} {cm : Nat → (Nat → Nat) → Nat} {Q Q' : Nat → Nat} (hq : p_ok T Q) (hc : p_few cm) (h : p_eqx Q Q') (n : Nat) : p_gt opn cm Q n = p_gt opn cm Q' n := by
  have ih := p_go_eqx (opn := opn) hq hc h n
  unfold p_gt
  rw [← hc.2 _ n _ _ (p_ok_go hq n) ih, p_gl_eqx hq hc h]
theorem p_gr_eqx {T d : Nat} {opn : Nat → Bool} {cm : Nat → (Nat → Nat) → Nat} {Q Q' : Nat → Nat} (hq : p_ok T Q) (hc : p_few cm) (h : p_eqx Q Q') (hd : d < 4) (n : Nat) : p_gr opn cm Q d n = p_gr opn cm Q' d n := by
  have ih := p_go_eqx (opn := opn) hq hc h n
  unfold p_gr
  rw [← hc.2 _ n _ _ (p_ok_go hq n) ih, p_adm_eqx ih _ (by omega), p_adm_eqx ih _ (by omega)]
/-- a page from which counting begins anew -/
def p_z (P : Nat → Nat) : Nat → Nat := fun k => if k = 43 ∨ k = 44 then 0 else P k
theorem p_z_eqx {P : Nat → Nat} : p_eqx (p_z P) P := fun k h3 h4 => if_neg (by omega)
theorem p_z_ok {T : Nat} {P : Nat → Nat} (h : p_ok T P) : p_ok T (p_z P) := by
  have e := @p_z_eqx P
  refine ⟨?_, ?_, fun d hd => ?_, fun i hi => ?_, ?_, ?_, ?_⟩
  · rw [e 16 (by omega) (by omega)]; exact h.1
  · rw [e 41 (by omega) (by omega)]; exact h.2.1
  · rw [e d (by omega) (by omega), e (4 + d) (by omega) (by omega), e (8 + d) (by omega) (by omega), e (12 + d) (by omega) (by omega)]; exact h.2.2.1 d hd
  · rw [e (17 + i) (by omega) (by omega), e (25 + i) (by omega) (by omega), e (33 + i) (by omega) (by omega)]; exact h.2.2.2.1 i hi
  · rw [e 42 (by omega) (by omega)]; exact h.2.2.2.2.1
  · exact Nat.zero_le _
  · exact Nat.zero_le _
/-- what is then counted -/
theorem p_z_43 {T : Nat} {opn : Nat → Bool} {cm : Nat → (Nat → Nat) → Nat} {P : Nat → Nat} (hp : p_ok T P) (hc : p_few cm) : ∀ n, n ≤ 200 → p_go opn cm (p_z P) n 43 = p_sum (p_gl opn cm P) n ∧ p_go opn cm (p_z P) n 44 = p_sum (p_gt opn cm P) n
  | 0, _ => ⟨rfl, rfl⟩
  | n + 1, hn => by
    have ih := p_z_43 (opn := opn) hp hc n (by omega)
    have hz := p_z_ok hp
    have h16 := (p_ok_go (opn := opn) (cm := cm) hz n).1
    have e1 := p_gl_eqx (opn := opn) hz hc p_z_eqx n
    have e2 := p_gt_eqx (opn := opn) hz hc p_z_eqx n
    have l1 := p_sum_le (p_gl_le (opn := opn) hp hc) n
    have l2 := p_sum_le (p_gt_le (opn := opn) hp hc) n
    have m1 := p_gl_le (opn := opn) hp hc n
    have m2 := p_gt_le (opn := opn) hp hc n
    have f16 := p_go_16 (opn := opn) (cm := cm) hz n
    have g16 := p_pass_16 (opn := opn) (P := p_go opn cm (p_z P) n) (m := cm n (p_go opn cm (p_z P) n)) h16
    constructor
    · show p_settle opn (p_pass opn (p_go opn cm (p_z P) n) (cm n (p_go opn cm (p_z P) n))) 43 = p_sum (p_gl opn cm P) n + p_gl opn cm P n
      rw [p_settle_x (by omega) (by omega) (by omega), p_pass_43 h16, ih.1, f16]
      show min 99999 (_ + p_gl opn cm (p_z P) n) = _
      rw [e1]; omega
    · show p_settle opn (p_pass opn (p_go opn cm (p_z P) n) (cm n (p_go opn cm (p_z P) n))) 44 = p_sum (p_gt opn cm P) n + p_gt opn cm P n
      rw [p_settle_x (by omega) (by omega) (by omega), p_pass_44 h16, ih.2, f16]
      show min 99999 (_ + p_gt opn cm (p_z P) n) = _
      rw [e2]; omega
/-! ===== the reference: n ticks ===== -/
def m_at (I : Nat → Nat → Int32) (p : Nat) (opn : Nat → Bool) (cm : Nat → (Nat → Nat) → Nat) (P : Nat → Nat) (n : Nat) : Prop := m_pg I p (p_go opn cm P n) ∧ I 0 14 = nI (p_sum (p_gl opn cm P) n) ∧ I 0 15 = nI (p_sum (p_gt opn cm P) n) ∧ I 0 16 = nI (p_sum (p_gb opn cm P) n) ∧ I 0 17 = nI (p_max (p_gt opn cm P) n) ∧ ∀ d, d < P 16 → I 6 d = nI (p_sum (p_gr opn cm P d) n)
theorem m_go1 {fu p T n : Nat} {I : Nat → Nat → Int32} {R : Nat → Nat → Option Nat} {P : Nat → Nat} {opn : Nat → Bool} {cm : Nat → (Nat → Nat) → Nat} (hR : m_R R) (ha : m_at I p opn cm P n) (ho : m_opn I opn) (hp : p_ok T P) (hc : p_few cm) (hT : T + n ≤ 5000) (hn : n ≤ 200) (hq : p ≤ 225) (hf : 120 < fu) : ∃ I', f_X8_tickOn fu 0 (nI p) (nI (cm n (p_go opn cm P n))) (I, R) = some (nI (p_gl opn cm P n), (I', R)) ∧ m_at I' p opn cm P (n + 1) ∧ m_kept I I' p := by
  obtain ⟨hg, h14, h15, h16, h17, h6⟩ := ha
  have e16 := p_go_16 (opn := opn) (cm := cm) hp n
  have l2 := p_sum_le (p_gt_le (opn := opn) hp hc) n
  have l3 := p_max_le (p_gt_le (opn := opn) hp hc) n
  have lm := hc.1 _ n _ (p_ok_go (opn := opn) (cm := cm) hp n)
  obtain ⟨I', e, q1, q2, q3, q4, q5, q6, q7⟩ := m_tickOn (fu := fu) (opn := opn) hR hg ho (p_ok_go hp n) hT hq lm h14 h15 h16 h17 (by rw [e16]; exact h6) (by omega) l3 (by omega)
  rw [e16] at e q2 q3 q4 q5 q6
  exact ⟨I', e, ⟨q1, q2, q3, q4, q5, q6⟩, q7⟩
theorem m_goesOn {fu p T n : Nat} {I : Nat → Nat → Int32} {R : Nat → Nat → Option Nat} {P : Nat → Nat} {opn : Nat → Bool} (hR : m_R R) (ha : m_at I p opn p_cm P n) (ho : m_opn I opn) (hp : p_ok T P) (hT : T + n ≤ 5000) (hn : n ≤ 200) (hq : p ≤ 225) (hf : 120 < fu) : ∃ I', f_X8_goesOn fu 0 (nI p) (I, R) = some (nI (p_gl opn p_cm P n), (I', R)) ∧ m_at I' p opn p_cm P (n + 1) ∧ m_kept I I' p := by
  obtain ⟨I', e, h⟩ := m_go1 (fu := fu) hR ha ho hp p_few_cm hT hn hq hf
  refine ⟨I', ?_, h⟩
  unfold f_X8_goesOn
  rw [m_comeOn hR ha.1 (p_ok_go hp n) hT hq (by omega), k_bd]
  show g_bd (f_X8_tickOn fu 0 (nI p) (nI (p_cm n (p_go opn p_cm P n))) (I, R)) _ = _
  rw [e, k_bd]
/-- a page is copied -/
theorem m_copies {fu p q : Nat} {I : Nat → Nat → Int32} {R : Nat → Nat → Option Nat} {P : Nat → Nat} (hR : m_R R) (hg : m_pg I p P) (hp : p ≤ 225) (hq : q ≤ 225) (hne : p + 45 ≤ q ∨ q + 45 ≤ p) (hf : 50 < fu) : ∃ I', f_X8_copies fu 0 (nI p) (nI q) (I, R) = some ((), (I', R)) ∧ m_pg I' q P ∧ (∀ k, k < q ∨ q + 45 ≤ k → I' 1 k = I 1 k) ∧ ∀ a, a ≠ 1 → I' a = I a := by
  obtain ⟨b, e1, J, rfl, ja, j1, jd⟩ := e_lp (body := fun t => b_X8_copies_2 fu 0 (nI p) (nI q) t.1 t.2) 45
    (fun i t => ∃ J, t = (nI i, (J, R)) ∧ (∀ a, a ≠ 1 → J a = I a) ∧ (∀ k, k < q ∨ q + i ≤ k → J 1 k = I 1 k) ∧ ∀ k, k < i → J 1 (q + k) = nI (P k))
    (fun b => ∃ J, b = (J, R) ∧ (∀ a, a ≠ 1 → J a = I a) ∧ (∀ k, k < q ∨ q + 45 ≤ k → J 1 k = I 1 k) ∧ ∀ k, k < 45 → J 1 (q + k) = nI (P k)) (by
    rintro i t hi ⟨J, rfl, ja, j1, jd⟩
    refine ⟨(nI (i + 1), (g_u J 1 (q + i) (nI (P i)), R)), ?_, _, rfl, fun a h => by rw [g_u_ne h, ja a h], fun k hk => by rw [u_nk (by omega), j1 k (by omega)], fun k hk => ?_⟩
    · show b_X8_copies_2 fu 0 (nI p) (nI q) (nI i) (J, R) = _
      unfold b_X8_copies_2
      simp (disch := omega) only [m_ld0 hR, l_45, nI_add, k_ix, nI_leI, nI_1]
      rw [if_neg (by omega), j1 (p + i) (by omega), hg i hi]
    · rcases Nat.lt_or_ge k i with z | z
      · rw [u_nk (by omega)]; exact jd k z
      · rw [show k = i by omega, u_at]) (by
    rintro t ⟨J, rfl, h⟩
    exact ⟨_, if_pos (show (45 : Int32) ≤ nI 45 from by decide), J, rfl, h⟩) 0 fu (nI 0, (I, R)) (Nat.zero_le _) (by omega) ⟨I, rfl, fun _ _ => rfl, fun _ _ => rfl, fun d hd => absurd hd (Nat.not_lt_zero _)⟩
  exact ⟨J, (e_th e1).trans rfl, jd, j1, ja⟩
/-- a page is copied to be tried, and counting begins -/
theorem m_begin {fu p : Nat} {I : Nat → Nat → Int32} {R : Nat → Nat → Option Nat} {P : Nat → Nat} {β : Type} {k : Unit → g_St → Option β} (opn : Nat → Bool) (cm : Nat → (Nat → Nat) → Nat) (hR : m_R R) (hg : m_pg I p P) (hp : p + 45 ≤ 180 ∨ p = 225) (h4 : P 16 ≤ 4) (hf : 50 < fu) : ∃ I', (g_bd (f_X8_copies fu 0 (nI p) (nI 180) (I, R)) fun _ S1 => g_bd (f_X8_starts fu 0 S1) k) = k () (I', R) ∧ m_at I' 180 opn cm P 0 ∧ m_kept I I' 180 := by
  obtain ⟨I1, e1, g1, h1, a1⟩ := m_copies (fu := fu) (q := 180) hR hg (by omega) (by omega) (by omega) hf
  obtain ⟨I2, e2, z1, z2, z3, z4⟩ := m_starts (fu := fu) (I := I1) hR (by omega)
  refine ⟨I2, ?_, ⟨fun k hk => ?_, z1 14 (by omega) (by omega), z1 15 (by omega) (by omega), z1 16 (by omega) (by omega), z1 17 (by omega) (by omega), fun d hd => z2 d (by omega)⟩, fun k hk => ?_, fun k hk => ?_, fun a x y z => ?_⟩
  · rw [e1, k_bd, e2, k_bd]
  · rw [z4 1 (by decide) (by decide)]; exact g1 k hk
  · rw [z3 k hk, a1 0 (by decide)]
  · rw [z4 1 (by decide) (by decide)]; exact h1 k hk
  · rw [z4 a x z, a1 a y]
/-- ticks of a page, tried -/
theorem m_ticksGo {fu p T n : Nat} {I : Nat → Nat → Int32} {R : Nat → Nat → Option Nat} {P : Nat → Nat} {opn : Nat → Bool} (hR : m_R R) (hg : m_pg I p P) (ho : m_opn I opn) (hp : p_ok T P) (hT : T + n ≤ 5000) (hn : n ≤ 200) (hq : p + 45 ≤ 180 ∨ p = 225) (hf : 220 < fu) : ∃ I', f_X8_ticksGo fu 0 (nI p) (nI n) (I, R) = some (nI (p_sum (p_gl opn p_cm P) n), (I', R)) ∧ m_at I' 180 opn p_cm P n ∧ m_kept I I' 180 := by
  unfold f_X8_ticksGo
  obtain ⟨I1, e1, a1, k1⟩ := m_begin (fu := fu) (k := fun _ Sr2 => g_th (g_lp (fun t => b_X8_ticksGo_14 fu 0 (nI n) t.1 t.2) fu ((0 : Int32), Sr2)) fun e => match e with | S1 => some ((S1.1 0 14), S1)) opn p_cm hR hg hq hp.1 (by omega)
  refine Exists.imp (fun I' (h : _ ∧ _) => ⟨e1.trans h.1, h.2⟩) ?_
  obtain ⟨b, e2, J, rfl, aJ, kJ⟩ := e_lp (body := fun t => b_X8_ticksGo_14 fu 0 (nI n) t.1 t.2) n
    (fun i t => ∃ J, t = (nI i, (J, R)) ∧ m_at J 180 opn p_cm P i ∧ m_kept I J 180)
    (fun b => ∃ J, b = (J, R) ∧ m_at J 180 opn p_cm P n ∧ m_kept I J 180) (by
    rintro i t hi ⟨J, rfl, aJ, kJ⟩
    obtain ⟨J2, e, a2, k2⟩ := m_goesOn (fu := fu) hR aJ (m_kept_opn kJ ho) hp (by omega) (by omega) (by omega) (by omega)
    refine ⟨(nI (i + 1), (J2, R)), ?_, J2, rfl, a2, m_kept_trans kJ k2⟩
    show b_X8_ticksGo_14 fu 0 (nI n) (nI i) (J, R) = _
    unfold b_X8_ticksGo_14
    rw [if_neg (nI_ge hi (by omega)), l_180, e, k_bd, nI_1]) (by
    rintro t ⟨J, rfl, h⟩
    refine ⟨_, ?_, J, rfl, h⟩
    show b_X8_ticksGo_14 fu 0 (nI n) (nI n) (J, R) = _
    unfold b_X8_ticksGo_14
    exact if_pos (nI_le (Nat.le_refl _) (by omega))) 0 fu (nI 0, (I1, R)) (Nat.zero_le _) (by omega) ⟨I1, rfl, a1, k1⟩
  refine ⟨J, (e_th e2).trans ?_, aJ, kJ⟩
  show some (J 0 14, (J, R)) = _
  rw [aJ.2.1]
