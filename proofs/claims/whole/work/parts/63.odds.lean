/-! ===== ticks in which nobody comes, by odds ===== -/
def q_cm (X : Int32) : Nat → (Nat → Nat) → Nat := fun k Q => if q_bit X k = true then 0 else p_come Q
theorem q_few {X : Int32} : p_few (q_cm X) := by
  refine ⟨fun T n Q hq => ?_, fun T n Q Q' hq he => ?_⟩
  · unfold q_cm
    by_cases c : q_bit X n = true
    · rw [if_pos c]; omega
    · rw [if_neg c]; exact p_few_cm.1 T n Q hq
  · unfold q_cm
    by_cases c : q_bit X n = true
    · rw [if_pos c, if_pos c]
    · rw [if_neg c, if_neg c]; exact p_few_cm.2 T n Q Q' hq he
def q_ct (X : Int32) : Nat → Nat := p_sum (fun k => if q_bit X k = true then 1 else 0)
theorem q_ct_le {X : Int32} (n : Nat) : q_ct X n ≤ n := by
  have := p_sum_le (f := fun k => if q_bit X k = true then 1 else 0) (B := 1) (fun i => by
    by_cases c : q_bit X i = true
    · rw [if_pos c]; exact Nat.le_refl _
    · rw [if_neg c]; exact Nat.zero_le _) n
  unfold q_ct
  omega
theorem q_bcn : ∀ n, n < 9 → ∀ q, q < 2 ^ n → q_bc (nI q) 10 = nI (q_ct (nI q) n) := by decide +kernel
theorem q_2n : ∀ n, n < 9 → (1 : Int32) <<< (nI n &&& 31) = nI (2 ^ n) ∧ 2 ^ n ≤ 256 := by decide +kernel
theorem q_10n : ∀ n, n < 9 → 10 ^ n < 2 ^ 27 ∧ 0 < 10 ^ n := by decide +kernel
/-- the odds of such a run, over ten to the ticks -/
def q_od (v : Nat) (X : Int32) : Nat → Nat
  | 0 => 1
  | k + 1 => q_od v X k * (if q_bit X k = true then v else 10 - v)
theorem q_od_eq {v : Nat} {X : Int32} : ∀ k, q_od v X k = v ^ q_ct X k * (10 - v) ^ (k - q_ct X k)
  | 0 => rfl
  | k + 1 => by
    have ih := q_od_eq (v := v) (X := X) k
    have hl := q_ct_le (X := X) k
    have e1 : q_od v X (k + 1) = q_od v X k * (if q_bit X k = true then v else 10 - v) := rfl
    have e2 : q_ct X (k + 1) = q_ct X k + if q_bit X k = true then 1 else 0 := rfl
    rw [e1, e2, ih]
    by_cases c : q_bit X k = true
    · rw [if_pos c, if_pos c, show k + 1 - (q_ct X k + 1) = k - q_ct X k by omega, Nat.pow_succ, Nat.mul_right_comm]
    · rw [if_neg c, if_neg c, Nat.add_zero, show k + 1 - q_ct X k = k - q_ct X k + 1 by omega, Nat.pow_succ, Nat.mul_assoc]
theorem q_od_le {v : Nat} {X : Int32} (hv : v ≤ 10) : ∀ k, q_od v X k ≤ 10 ^ k
  | 0 => Nat.le_refl _
  | k + 1 => by
    have e1 : q_od v X (k + 1) = q_od v X k * (if q_bit X k = true then v else 10 - v) := rfl
    rw [e1, Nat.pow_succ]
    refine Nat.mul_le_mul (q_od_le hv k) ?_
    by_cases c : q_bit X k = true
    · rw [if_pos c]; exact hv
    · rw [if_neg c]; omega
def q_val (P : Nat → Nat) (n y q : Nat) : Nat := if y = 0 then (if p_sum (p_gt (fun _ => false) (q_cm (nI q)) P) n = 0 then 1 else 0) else p_sum (p_gl (fun _ => false) (q_cm (nI q)) P) n
theorem q_val_le {P : Nat → Nat} {n y q T : Nat} (hp : p_ok T P) (hn : n ≤ 8) : q_val P n y q ≤ 800 := by
  have l1 := p_sum_le (p_gl_le (opn := fun _ => false) hp (q_few (X := nI q))) n
  unfold q_val
  by_cases c : y = 0
  · rw [if_pos c]
    by_cases c2 : p_sum (p_gt (fun _ => false) (q_cm (nI q)) P) n = 0
    · rw [if_pos c2]; omega
    · rw [if_neg c2]; omega
  · rw [if_neg c]; omega
def q_U (P : Nat → Nat) (v n y : Nat) : Nat → Nat := p_sum (fun q => q_od v (nI q) n * q_val P n y q)
theorem q_U_le {P : Nat → Nat} {v n y T : Nat} (hp : p_ok T P) (hn : n ≤ 8) (hv : v ≤ 10) (m : Nat) : q_U P v n y m ≤ 2 ^ 27 * 800 * m := p_sum_le (fun q => Nat.mul_le_mul (Nat.le_trans (q_od_le hv n) (Nat.le_of_lt (q_10n n (by omega)).1)) (q_val_le hp hn)) m
theorem q_lz {w : Nat} (h : w < 2 ^ 63) : (lg_cmp (lN w) 0 = 0) = (w = 0) := propext ((lg_cmp_eq _ _).trans (pk_lEQ (b := 0) h (by decide)))
theorem c_power {fu a m : Nat} {S : g_St} (ha : a ≤ 10) (hm : m ≤ 8) (hf : 1000 < fu) : f_X7_power fu (nI a) (nI m) S = some (lN (a ^ m), S) := by
  obtain ⟨b, e1, rfl⟩ := e_lp (body := fun q => b_X7_power_5 fu (nI a) (nI m) q.1 q.2.1 q.2.2) m
    (fun i q => q = (lN (a ^ i), nI i, S)) (fun b => b = (lN (a ^ m), S)) (by
    rintro i q hi rfl
    refine ⟨_, ?_, rfl⟩
    show b_X7_power_5 fu (nI a) (nI m) _ (nI i) S = _
    unfold b_X7_power_5
    rw [if_neg (nI_ge hi (by omega)), nI_l (by omega), lN_mul, nI_1, Nat.pow_succ]) (by
    rintro q rfl
    refine ⟨_, ?_, rfl⟩
    show b_X7_power_5 fu (nI a) (nI m) _ (nI m) S = _
    unfold b_X7_power_5
    exact if_pos (nI_le (Nat.le_refl _) (by omega))) 0 fu (lN (a ^ 0), nI 0, S) (Nat.zero_le _) (by omega) rfl
  exact (e_th e1).trans rfl
theorem c_quiet {fu n : Nat} {X : Int32} {I : Nat → Nat → Int32} {R : Nat → Nat → Option Nat} {t P : Nat → Nat} (hR : c_R R t) (hr : h_rep I 1 (fun d => 4 + d) P) (hp : p_ok 999 P) (hn : n ≤ 8) (hf : 1000 < fu) : ∃ J, f_X7_runQuiet fu 0 X (nI n) (I, R) = some ((), (J, R)) ∧ c_at J t (fun _ => false) (q_cm X) P n ∧ c_kept I J := by
  obtain ⟨I1, e1, a1, k1⟩ := c_startTrial (fu := fu) (q_cm X) hR hr hp (by omega)
  obtain ⟨b, e2, J, rfl, aJ, kJ⟩ := e_lp (body := fun q => b_X7_runQuiet_6 fu 0 X (nI n) q.1 q.2) n
    (fun i q => ∃ J, q = (nI i, (J, R)) ∧ c_at J t (fun _ => false) (q_cm X) P i ∧ c_kept I J)
    (fun b => ∃ J, b = (J, R) ∧ c_at J t (fun _ => false) (q_cm X) P n ∧ c_kept I J) (by
    rintro i q hi ⟨J, rfl, aJ, kJ⟩
    obtain ⟨J2, e3, a3, k3⟩ := c_go1 (fu := fu) hR.2.1 aJ hp q_few (by omega) (by omega)
    have e4 := c_come1 (fu := fu) hR.2.1 aJ hp q_few (by omega) (by omega)
    refine ⟨(nI (i + 1), (J2, R)), ?_, J2, rfl, a3, c_kept_trans kJ k3⟩
    show b_X7_runQuiet_6 fu 0 X (nI n) (nI i) (J, R) = _
    unfold b_X7_runQuiet_6 j_X7_runQuiet_35_in6
    rw [if_neg (nI_ge hi (by omega))]
    simp only [c_ld1 hR, q_if, e4, k_bd]
    by_cases c : q_bit X i = true
    · rw [show q_cm X i (p_go (fun _ => false) (q_cm X) P i) = 0 from if_pos c] at e3
      have e3' : f_X2_tickWith fu 16 0 (J, R) = _ := e3
      rw [if_pos c, e3', k_bd, nI_1]
    · rw [show q_cm X i (p_go (fun _ => false) (q_cm X) P i) = p_come (p_go (fun _ => false) (q_cm X) P i) from if_neg c] at e3
      rw [if_neg c, e3, k_bd, nI_1]) (by
    rintro q ⟨J, rfl, h⟩
    refine ⟨_, ?_, J, rfl, h⟩
    show b_X7_runQuiet_6 fu 0 X (nI n) (nI n) (J, R) = _
    unfold b_X7_runQuiet_6
    exact if_pos (nI_le (Nat.le_refl _) (by omega))) 0 fu (nI 0, (I1, R)) (Nat.zero_le _) (by omega) ⟨I1, rfl, a1, k1⟩
  refine ⟨J, ?_, aJ, kJ⟩
  unfold f_X7_runQuiet
  rw [e1, k_bd]
  exact (e_th e2).trans rfl
theorem c_weigh {fu v n y : Nat} {I : Nat → Nat → Int32} {R : Nat → Nat → Option Nat} {t P : Nat → Nat} (hR : c_R R t) (hr : h_rep I 1 (fun d => 4 + d) P) (hp : p_ok 999 P) (hn : n ≤ 8) (hv : v ≤ 10) (hy : y ≤ 1) (hf : 1000 < fu) : ∃ J, f_X7_weighAll fu 0 (nI v) (nI n) (nI y) (I, R) = some (lN (q_U P v n y (2 ^ n)), (J, R)) ∧ c_fr I J := by
  obtain ⟨e2n, l2n⟩ := q_2n n (by omega)
  obtain ⟨b, e2, J, rfl, kJ⟩ := e_lp (body := fun q => b_X7_weighAll_6 fu 0 (nI v) (nI n) (nI y) q.1 q.2.1 q.2.2) (2 ^ n)
    (fun i q => ∃ J, q = (lN (q_U P v n y i), nI i, (J, R)) ∧ c_fr I J)
    (fun b => ∃ J, b = (lN (q_U P v n y (2 ^ n)), (J, R)) ∧ c_fr I J) (by
    rintro i q hi ⟨J, rfl, kJ⟩
    have hc := q_ct_le (X := nI i) n
    have eb := q_cnt (fu := fu) (m := i) (S := (J, R)) (by omega)
    rw [q_bcn n (by omega) i hi] at eb
    have p1 := c_power (fu := fu) (a := v) (m := q_ct (nI i) n) (S := (J, R)) hv (by omega) hf
    have p2 := c_power (fu := fu) (a := 10 - v) (m := n - q_ct (nI i) n) (S := (J, R)) (by omega) (by omega) hf
    have ew := q_od_eq (v := v) (X := nI i) n
    have lw := Nat.le_trans (q_od_le (v := v) (X := nI i) hv n) (Nat.le_of_lt (q_10n n (by omega)).1)
    have s10 : (10 : Int32) - nI v = nI (10 - v) := pk_sub (a := 10) hv
    obtain ⟨J2, e3, a3, k3⟩ := c_quiet (fu := fu) (X := nI i) (n := n) hR (h_rep_cfr hr hp kJ) hp hn hf
    obtain ⟨l5, t6⟩ := c_at_43 a3 hp q_few (by omega)
    have b5 := p_sum_le (p_gl_le (opn := fun _ => false) hp (q_few (X := nI i))) n
    have b6 := p_sum_le (p_gt_le (opn := fun _ => false) hp (q_few (X := nI i))) n
    have estep : q_U P v n y (i + 1) = q_U P v n y i + q_od v (nI i) n * q_val P n y i := rfl
    have hval : (if p_sum (p_gt (fun _ => false) (q_cm (nI i)) P) n = 0 then (if y = 0 then (1 : Int32) else J2 16 5) else if y = 0 then (0 : Int32) else J2 16 5) = nI (q_val P n y i) := by
      unfold q_val
      rw [l5]
      by_cases c : y = 0
      · rw [if_pos c, if_pos c, if_pos c]
        by_cases c2 : p_sum (p_gt (fun _ => false) (q_cm (nI i)) P) n = 0
        · rw [if_pos c2, if_pos c2]; rfl
        · rw [if_neg c2, if_neg c2]; rfl
      · rw [if_neg c, if_neg c, if_neg c, ite_self]
    have lv := q_val_le (n := n) (y := y) (q := i) hp hn
    have body : b_X7_weighAll_6 fu 0 (nI v) (nI n) (nI y) (lN (q_U P v n y i)) (nI i) (J, R) = if q_od v (nI i) n = 0 then some (.inl (lN (q_U P v n y i), nI (i + 1), (J, R))) else some (.inl (lN (q_U P v n y (i + 1)), nI (i + 1), (J2, R))) := by
      unfold b_X7_weighAll_6 j_X7_weighAll_70_in6 j_X7_weighAll_92_in6 j_X7_weighAll_97_in6
      rw [e2n, if_neg (nI_ge hi (by omega)), eb, k_bd, p1, k_bd, s10, pk_sub hc, p2, k_bd, lN_mul, ← ew, e3, k_bd]
      simp only [q_lz (show q_od v (nI i) n < 2 ^ 63 by omega), nI_1]
      by_cases c : q_od v (nI i) n = 0
      · rw [if_pos c, if_pos c]
      · rw [if_neg c, if_neg c, estep]
        simp (disch := omega) only [c_ld1 hR, t6, l_0, nI_eq]
        rw [← lN_add, ← lN_mul, ← nI_l (show q_val P n y i < 2 ^ 31 by omega), ← hval]
        by_cases c2 : p_sum (p_gt (fun _ => false) (q_cm (nI i)) P) n = 0
        · rw [if_pos c2, if_pos c2]
          by_cases c3 : y = 0
          · rw [if_pos c3, if_pos c3]
          · rw [if_neg c3, if_neg c3]
        · rw [if_neg c2, if_neg c2]
          by_cases c3 : y = 0
          · rw [if_pos c3, if_pos c3]; rfl
          · rw [if_neg c3, if_neg c3]
    by_cases c : q_od v (nI i) n = 0
    · rw [if_pos c] at body
      refine ⟨_, body, J, ?_, kJ⟩
      rw [estep, c, Nat.zero_mul]
      rfl
    · rw [if_neg c] at body
      exact ⟨_, body, J2, rfl, c_fr_trans kJ (c_fr_kept k3)⟩) (by
    rintro q ⟨J, rfl, h⟩
    refine ⟨_, ?_, J, rfl, h⟩
    show b_X7_weighAll_6 fu 0 (nI v) (nI n) (nI y) _ (nI (2 ^ n)) (J, R) = _
    unfold b_X7_weighAll_6
    rw [e2n]
    exact if_pos (nI_le (Nat.le_refl _) (by omega))) 0 fu (lN (q_U P v n y 0), nI 0, (I, R)) (Nat.zero_le _) (by omega) ⟨I, rfl, fun _ _ => rfl⟩
  exact ⟨J, (e_th e2).trans rfl, kJ⟩
/-- a page is copied to be tried, and counting begins -/
theorem m_begin2 {fu p : Nat} {I : Nat → Nat → Int32} {R : Nat → Nat → Option Nat} {P : Nat → Nat} (opn : Nat → Bool) (cm : Nat → (Nat → Nat) → Nat) (hR : m_R R) (hg : m_pg I p P) (hp : p + 45 ≤ 180 ∨ p = 225) (h4 : P 16 ≤ 4) (hf : 50 < fu) : ∃ I', (∀ {β : Type} (k : Unit → g_St → Option β), (g_bd (f_X8_copies fu 0 (nI p) (nI 180) (I, R)) fun _ S1 => g_bd (f_X8_starts fu 0 S1) k) = k () (I', R)) ∧ m_at I' 180 opn cm P 0 ∧ m_kept I I' 180 := by
  obtain ⟨I1, e1, g1, h1, a1⟩ := m_copies (fu := fu) (q := 180) hR hg (by omega) (by omega) (by omega) hf
  obtain ⟨I2, e2, z1, z2, z3, z4⟩ := m_starts (fu := fu) (I := I1) hR (by omega)
  refine ⟨I2, ?_, ⟨fun k hk => ?_, z1 14 (by omega) (by omega), z1 15 (by omega) (by omega), z1 16 (by omega) (by omega), z1 17 (by omega) (by omega), fun d hd => z2 d (by omega)⟩, fun k hk => ?_, fun k hk => ?_, fun a x y z => ?_⟩
  · intro β k
    rw [e1, k_bd, e2, k_bd]
  · rw [z4 1 (by decide) (by decide)]; exact g1 k hk
  · rw [z3 k hk, a1 0 (by decide)]
  · rw [z4 1 (by decide) (by decide)]; exact h1 k hk
  · rw [z4 a x z, a1 a y]
theorem m_weigh {fu v n y : Nat} {z : Int32} {I : Nat → Nat → Int32} {R : Nat → Nat → Option Nat} {P : Nat → Nat} (hM : m_R R) (hg : m_pg I 0 P) (h13 : I 0 13 = -4) (hp : p_ok 999 P) (hn : n ≤ 8) (hv : v ≤ 10) (hy : y ≤ 1) (hf : 1000 < fu) : ∃ J, g_lp (fun t => b_X8_byNobody_32 fu 0 (nI v) (nI n) (nI y) z (lN (10 ^ n)) t.1 t.2.1 t.2.2) fu (lN 0, nI 0, (I, R)) = some (lN (q_U P v n y (2 ^ n)), (J, R)) ∧ m_fr I J := by
  obtain ⟨e2n, l2n⟩ := q_2n n (by omega)
  obtain ⟨b, e2, J, rfl, kJ⟩ := e_lp (body := fun t => b_X8_byNobody_32 fu 0 (nI v) (nI n) (nI y) z (lN (10 ^ n)) t.1 t.2.1 t.2.2) (2 ^ n)
    (fun i q => ∃ J, q = (lN (q_U P v n y i), nI i, (J, R)) ∧ m_fr I J)
    (fun b => ∃ J, b = (lN (q_U P v n y (2 ^ n)), (J, R)) ∧ m_fr I J) (by
    rintro i q hi ⟨J, rfl, kJ⟩
    obtain ⟨J1, e1, a1, k1⟩ := m_begin2 (fu := fu) (p := 0) (fun _ => false) (q_cm (nI i)) hM (m_fr_pg kJ hg) (by omega) hp.1 (by omega)
    have s10 : (10 : Int32) - nI v = nI (10 - v) := pk_sub (a := 10) hv
    obtain ⟨b2, e3, J2, rfl, a3, k3⟩ := e_lp (body := fun t => b_X8_byNobody_58 fu 0 (nI v) (nI n) (nI y) z (lN (q_U P v n y i)) (lN (10 ^ n)) (nI i) t.1 t.2.1 t.2.2) n
      (fun k q => ∃ J', q = (lN (q_od v (nI i) k), nI k, (J', R)) ∧ m_at J' 180 (fun _ => false) (q_cm (nI i)) P k ∧ m_kept J J' 180)
      (fun b => ∃ J', b = (lN (q_od v (nI i) n), (J', R)) ∧ m_at J' 180 (fun _ => false) (q_cm (nI i)) P n ∧ m_kept J J' 180) (by
      rintro k q hk ⟨J', rfl, a', k'⟩
      have h13' : J' 0 13 = -4 := m_fr_opn (m_fr_trans kJ (m_fr_kept (by omega) k')) h13
      obtain ⟨J'', e4, a4, k4⟩ := m_go1 (fu := fu) hM a' (m_opn_none h13') hp q_few (by omega) (by omega) (by omega) (by omega)
      have e5 := m_comeOn (fu := fu) hM a'.1 (p_ok_go hp k) (by omega) (by omega) (by omega)
      have e5' : f_X8_comeOn fu 0 180 (J', R) = _ := e5
      refine ⟨(lN (q_od v (nI i) (k + 1)), nI (k + 1), (J'', R)), ?_, J'', rfl, a4, m_kept_trans k' k4⟩
      show b_X8_byNobody_58 fu 0 (nI v) (nI n) (nI y) z _ _ (nI i) _ (nI k) (J', R) = _
      have estep : q_od v (nI i) (k + 1) = q_od v (nI i) k * (if q_bit (nI i) k = true then v else 10 - v) := rfl
      unfold b_X8_byNobody_58 j_X8_byNobody_80_in58 j_X8_byNobody_99_in58 j_X8_byNobody_122_in58
      rw [if_neg (nI_ge hk (by omega)), q_if, estep]
      by_cases c : q_bit (nI i) k = true
      · rw [show q_cm (nI i) k (p_go (fun _ => false) (q_cm (nI i)) P k) = 0 from if_pos c] at e4
        have e4' : f_X8_tickOn fu 0 180 0 (J', R) = _ := e4
        rw [if_pos c, if_neg (show ¬ (1 : Int32) = 0 by decide), if_neg (show ¬ (1 : Int32) = 0 by decide), e4', k_bd, nI_1, if_pos c, nI_l (by omega), lN_mul]
      · rw [show q_cm (nI i) k (p_go (fun _ => false) (q_cm (nI i)) P k) = p_come (p_go (fun _ => false) (q_cm (nI i)) P k) from if_neg c] at e4
        have e4' : f_X8_tickOn fu 0 180 (nI (p_come (p_go (fun _ => false) (q_cm (nI i)) P k))) (J', R) = _ := e4
        rw [if_neg c, if_pos rfl, if_pos rfl, e5', k_bd, e4', k_bd, nI_1, if_neg c, s10, nI_l (by omega), lN_mul]) (by
      rintro q ⟨J', rfl, h⟩
      refine ⟨_, ?_, J', rfl, h⟩
      show b_X8_byNobody_58 fu 0 (nI v) (nI n) (nI y) z _ _ (nI i) _ (nI n) (J', R) = _
      unfold b_X8_byNobody_58
      exact if_pos (nI_le (Nat.le_refl _) (by omega))) 0 fu (lN 1, nI 0, (J1, R)) (Nat.zero_le _) (by omega) ⟨J1, rfl, a1, k1⟩
    have b5 := p_sum_le (p_gl_le (opn := fun _ => false) hp (q_few (X := nI i))) n
    have b6 := p_sum_le (p_gt_le (opn := fun _ => false) hp (q_few (X := nI i))) n
    have lv := q_val_le (n := n) (y := y) (q := i) hp hn
    refine ⟨(lN (q_U P v n y (i + 1)), nI (i + 1), (J2, R)), ?_, J2, rfl, m_fr_trans kJ (m_fr_kept (by omega) k3)⟩
    show b_X8_byNobody_32 fu 0 (nI v) (nI n) (nI y) z _ _ (nI i) (J, R) = _
    have estep : q_U P v n y (i + 1) = q_U P v n y i + q_od v (nI i) n * q_val P n y i := rfl
    unfold b_X8_byNobody_32 j_X8_byNobody_159_in32
    rw [e2n, if_neg (nI_ge hi (by omega))]
    refine (e1 _).trans ?_
    refine (e_th e3).trans ?_
    dsimp only
    rw [estep, ← lN_add, ← lN_mul, ← nI_l (show q_val P n y i < 2 ^ 31 by omega)]
    unfold q_val
    simp (disch := omega) only [a3.2.1, a3.2.2.1, l_0, nI_eq, nI_1]
    by_cases c : y = 0
    · rw [if_pos c, if_pos c]
      by_cases c2 : p_sum (p_gt (fun _ => false) (q_cm (nI i)) P) n = 0
      · rw [if_pos c2, if_pos c2]; rfl
      · rw [if_neg c2, if_neg c2]
    · rw [if_neg c, if_neg c]) (by
    rintro q ⟨J, rfl, h⟩
    refine ⟨_, ?_, J, rfl, h⟩
    show b_X8_byNobody_32 fu 0 (nI v) (nI n) (nI y) z _ _ (nI (2 ^ n)) (J, R) = _
    unfold b_X8_byNobody_32
    rw [e2n]
    exact if_pos (nI_le (Nat.le_refl _) (by omega))) 0 fu (lN (q_U P v n y 0), nI 0, (I, R)) (Nat.zero_le _) (by omega) ⟨I, rfl, m_fr_refl⟩
  exact ⟨J, e2, kJ⟩
/-! ===== the greatest common divisor ===== -/
def q_ei (G i a b : Nat) : Prop := Nat.gcd a b = G ∧ a < 2 ^ 63 ∧ b < 2 ^ 63 ∧ ((i = 0 ∧ b < 2 ^ 27) ∨ (b < a ∧ a * b * 2 ^ i < 2 ^ 55))
theorem q_ei_step {G i a b : Nat} (h : q_ei G i a b) (hb : 0 < b) : q_ei G (i + 1) b (a % b) := by
  obtain ⟨h1, h2, h3, h4⟩ := h
  have hm := Nat.mod_lt a hb
  refine ⟨?_, h3, by omega, Or.inr ⟨hm, ?_⟩⟩
  · rw [← h1, Nat.gcd_comm a b, Nat.gcd_rec b a, Nat.gcd_comm]
  rcases h4 with ⟨rfl, h5⟩ | ⟨h5, h6⟩
  · have := Nat.mul_le_mul (show b ≤ 134217727 by omega) (show a % b ≤ 134217727 by omega)
    rw [show 2 ^ (0 + 1) = 2 from rfl]
    omega
  · have hd : 1 ≤ a / b := Nat.div_pos (Nat.le_of_lt h5) hb
    have hdm := Nat.div_add_mod a b
    have hle : b ≤ b * (a / b) := Nat.le_mul_of_pos_right b hd
    have h7 : 2 * (a % b) ≤ a := by omega
    have h8 : 2 * (a % b) * b ≤ a * b := Nat.mul_le_mul_right b h7
    have h9 := Nat.mul_le_mul_right (2 ^ i) h8
    have e : b * (a % b) * 2 ^ (i + 1) = 2 * (a % b) * b * 2 ^ i := by
      rw [Nat.pow_succ, Nat.mul_comm (2 ^ i) 2, ← Nat.mul_assoc, Nat.mul_comm b (a % b), Nat.mul_assoc 2, Nat.mul_comm 2]
    rw [e]
    omega
theorem q_ei_end {G a b : Nat} (h : q_ei G 60 a b) : b = 0 := by
  obtain ⟨h1, h2, h3, h4⟩ := h
  rcases h4 with ⟨h5, _⟩ | ⟨h5, h6⟩
  · omega
  · rcases Nat.eq_zero_or_pos b with z | z
    · exact z
    · have := Nat.mul_pos (show 0 < a by omega) z
      omega
theorem q_ei_0 {G i a : Nat} (h : q_ei G i a 0) : a = G := by rw [← h.1, Nat.gcd_zero_right]
theorem c_gcd {fu u d : Nat} {S : g_St} (hu : u < 2 ^ 63) (hd : d < 2 ^ 27) (hf : 1000 < fu) : f_X7_commonDivisor fu (lN u) (lN d) S = some (lN (Nat.gcd u d), S) := by
  obtain ⟨b, e1, rfl⟩ := e_lpx (body := fun q => b_X7_commonDivisor_9 fu q.1 q.2.1 q.2.2.1 q.2.2.2) 60
    (fun i q => ∃ a b, q = (lN a, lN b, nI i, S) ∧ q_ei (Nat.gcd u d) i a b) (fun b => b = (lN (Nat.gcd u d), S)) (by
    rintro i q hi ⟨a, b, rfl, he⟩
    have body : b_X7_commonDivisor_9 fu (lN a) (lN b) (nI i) S = if b = 0 then some (.inr (lN a, S)) else some (.inl (lN b, lN (a % b), nI (i + 1), S)) := by
      unfold b_X7_commonDivisor_9
      rw [if_neg (show ¬ (200 : Int32) ≤ nI i from nI_ge (b := 200) (by omega) (by omega))]
      simp only [q_lz he.2.2.1]
      by_cases c : b = 0
      · rw [if_pos c, if_pos c]
      · rw [if_neg c, if_neg c, e_nl (fun z => c ((pk_lEQ (b := 0) he.2.2.1 (by decide)).mp z)), pk_lRem he.2.1 (by omega) he.2.2.1, nI_1]
    by_cases c : b = 0
    · rw [if_pos c] at body
      subst c
      exact Or.inr ⟨_, body, by rw [q_ei_0 he]⟩
    · rw [if_neg c] at body
      exact Or.inl ⟨_, body, b, a % b, rfl, q_ei_step he (by omega)⟩) (by
    rintro q ⟨a, b, rfl, he⟩
    have hb := q_ei_end he
    subst hb
    refine ⟨_, ?_, rfl⟩
    show b_X7_commonDivisor_9 fu (lN a) (lN 0) (nI 60) S = _
    unfold b_X7_commonDivisor_9
    rw [if_neg (show ¬ (200 : Int32) ≤ nI 60 by decide)]
    simp only [q_lz (show 0 < 2 ^ 63 by decide)]
    rw [if_pos trivial, q_ei_0 he]) 0 fu (lN u, lN d, nI 0, S) (Nat.zero_le _) (by omega) ⟨u, d, rfl, rfl, hu, by omega, Or.inl ⟨rfl, hd⟩⟩
  exact (e_th e1).trans rfl
theorem c_part {fu u d : Nat} {y : Int32} {S : g_St} (hu : u < 2 ^ 63) (hd : d < 2 ^ 27) (hd0 : 0 < d) (hf : 1000 < fu) : f_X7_part fu (lN u) (lN d) y S = some ((if y = 0 then lN u else lN d) / lN (Nat.gcd u d), S) := by
  have hG : 0 < Nat.gcd u d := Nat.gcd_pos_of_pos_right u hd0
  have hl : Nat.gcd u d ≤ d := Nat.gcd_le_right u hd0
  have h1 : ¬ lN (Nat.gcd u d) < (1 : Int64) := fun z => by
    have := (pk_lLT (b := 1) (show Nat.gcd u d < 2 ^ 63 by omega) (by decide)).mp z
    omega
  have h0 : ¬ lN (Nat.gcd u d) = 0 := fun z => by
    have := (pk_lEQ (b := 0) (show Nat.gcd u d < 2 ^ 63 by omega) (by decide)).mp z
    omega
  unfold f_X7_part j_X7_part_21
  rw [c_gcd hu hd hf, k_bd, if_neg h1, e_nl h0, e_nl h0, k_push]
  by_cases c : y = 0
  · rw [if_pos c, if_pos c]
  · rw [if_neg c, if_neg c]
theorem m_lowest {fu u d : Nat} {y : Int32} {S : g_St} (hu : u < 2 ^ 63) (hd : d < 2 ^ 27) (hd0 : 0 < d) (hf : 1000 < fu) : f_X8_lowest fu (lN u) (lN d) y S = some ((if y = 0 then lN u else lN d) / lN (Nat.gcd u d), S) := by
  have hG : 0 < Nat.gcd u d := Nat.gcd_pos_of_pos_right u hd0
  have hl : Nat.gcd u d ≤ d := Nat.gcd_le_right u hd0
  have h0 : ¬ lN (Nat.gcd u d) = 0 := fun z => by
    have := (pk_lEQ (b := 0) (show Nat.gcd u d < 2 ^ 63 by omega) (by decide)).mp z
    omega
  obtain ⟨b, e1, rfl⟩ := e_lpx (body := fun q => b_X8_lowest_6 fu (lN u) (lN d) y q.1 q.2.1 q.2.2) 60
    (fun i q => ∃ a b, q = (lN a, lN b, S) ∧ q_ei (Nat.gcd u d) i a b) (fun b => b = (lN (Nat.gcd u d), S)) (by
    rintro i q hi ⟨a, b, rfl, he⟩
    have body : b_X8_lowest_6 fu (lN u) (lN d) y (lN a) (lN b) S = if b = 0 then some (.inr (lN a, S)) else some (.inl (lN b, lN (a % b), S)) := by
      unfold b_X8_lowest_6
      simp only [q_lz he.2.2.1]
      by_cases c : b = 0
      · rw [if_pos c, if_pos c]
      · rw [if_neg c, if_neg c, e_nl (fun z => c ((pk_lEQ (b := 0) he.2.2.1 (by decide)).mp z)), pk_lRem he.2.1 (by omega) he.2.2.1]
    by_cases c : b = 0
    · rw [if_pos c] at body
      subst c
      exact Or.inr ⟨_, body, by rw [q_ei_0 he]⟩
    · rw [if_neg c] at body
      exact Or.inl ⟨_, body, b, a % b, rfl, q_ei_step he (by omega)⟩) (by
    rintro q ⟨a, b, rfl, he⟩
    have hb := q_ei_end he
    subst hb
    refine ⟨_, ?_, rfl⟩
    show b_X8_lowest_6 fu (lN u) (lN d) y (lN a) (lN 0) S = _
    unfold b_X8_lowest_6
    simp only [q_lz (show 0 < 2 ^ 63 by decide)]
    rw [if_pos trivial, q_ei_0 he]) 0 fu (lN u, lN d, S) (Nat.zero_le _) (by omega) ⟨u, d, rfl, rfl, hu, by omega, Or.inl ⟨rfl, hd⟩⟩
  unfold f_X8_lowest j_X8_lowest_41
  refine (e_th e1).trans ?_
  dsimp only
  rw [e_nl h0, e_nl h0, k_push]
  by_cases c : y = 0
  · rw [if_pos c, if_pos c]
  · rw [if_neg c, if_neg c]
theorem m_byNobody {fu v n y : Nat} {z : Int32} {I : Nat → Nat → Int32} {R : Nat → Nat → Option Nat} {P : Nat → Nat} (hM : m_R R) (hg : m_pg I 0 P) (h13 : I 0 13 = -4) (hp : p_ok 999 P) (hn : n ≤ 8) (hv : v ≤ 10) (hy : y ≤ 1) (hf : 1000 < fu) : ∃ J, f_X8_byNobody fu 0 (nI v) (nI n) (nI y) z (I, R) = some ((if z = 0 then lN (q_U P v n y (2 ^ n)) else lN (10 ^ n)) / lN (Nat.gcd (q_U P v n y (2 ^ n)) (10 ^ n)), (J, R)) ∧ m_fr I J := by
  obtain ⟨b, e1, rfl⟩ := e_lp (body := fun q => b_X8_byNobody_9 fu 0 (nI v) (nI n) (nI y) z 0 q.1 q.2.1 q.2.2) n
    (fun i q => q = (lN (10 ^ i), nI i, (I, R))) (fun b => b = (lN (10 ^ n), (I, R))) (by
    rintro i q hi rfl
    refine ⟨_, ?_, rfl⟩
    show b_X8_byNobody_9 fu 0 (nI v) (nI n) (nI y) z 0 _ (nI i) (I, R) = _
    unfold b_X8_byNobody_9
    rw [if_neg (nI_ge hi (by omega)), show (10 : Int64) = lN 10 from rfl, lN_mul, nI_1, Nat.pow_succ]) (by
    rintro q rfl
    refine ⟨_, ?_, rfl⟩
    show b_X8_byNobody_9 fu 0 (nI v) (nI n) (nI y) z 0 _ (nI n) (I, R) = _
    unfold b_X8_byNobody_9
    exact if_pos (nI_le (Nat.le_refl _) (by omega))) 0 fu (lN (10 ^ 0), nI 0, (I, R)) (Nat.zero_le _) (by omega) rfl
  obtain ⟨J, e2, kJ⟩ := m_weigh (fu := fu) (y := y) (z := z) hM hg h13 hp hn hv hy hf
  have hU := q_U_le (y := y) hp hn hv (2 ^ n)
  obtain ⟨e2n, l2n⟩ := q_2n n (by omega)
  obtain ⟨t1, t2⟩ := q_10n n (by omega)
  have e3 := m_lowest (fu := fu) (u := q_U P v n y (2 ^ n)) (d := 10 ^ n) (y := z) (S := (J, R)) (by omega) t1 t2 hf
  refine ⟨J, ?_, kJ⟩
  unfold f_X8_byNobody
  refine (e_th e1).trans ?_
  dsimp only
  refine (e_th e2).trans ?_
  dsimp only
  rw [e3, k_bd]
theorem c_isOdds0 {fu : Nat} {x y : Int32} {S : g_St} (h : a_out x 11 ∨ a_out y 9) : f_X7_isOdds fu x y S = some (0, S) := by
  unfold f_X7_isOdds
  rw [e_zb0, e_zb1]
  rcases h with h | h
  · exact a_if1 (n := 10) h rfl (by omega)
  · rw [a_if1 (n := 8) (y := 8) h rfl (by omega)]
    by_cases c : x < 0
    · rw [if_pos c]
    · rw [if_neg c, ite_self]
theorem c_isOdds1 {fu v n : Nat} {S : g_St} (hv : v ≤ 10) (hn : n ≤ 8) : f_X7_isOdds fu (nI v) (nI n) S = some (1, S) := by
  unfold f_X7_isOdds
  rw [e_zb0, e_zb1, if_neg (nI_pos (by omega)), if_neg (show ¬ (10 : Int32) < nI v from nI_nlt (a := 10) hv (by omega)), if_neg (nI_pos (by omega)), if_neg (show ¬ (8 : Int32) < nI n from nI_nlt (a := 8) hn (by omega))]
theorem o_luck {fu : Nat} {I Im : Nat → Nat → Int32} {R Rm : Nat → Nat → Option Nat} {t P Q0 Q1 : Nat → Nat} (h : r_all I R Im Rm t P Q0 Q1) (hf : 1000 < fu) (x y z : Int32) : ∃ r Sc1 Sm1, f_X7_luck fu 0 x y z (I, R) = some (r, Sc1) ∧ f_X8_luck fu 0 x y z (Im, Rm) = some (r, Sm1) ∧ r_Rel Sc1 Sm1 := by
  obtain ⟨hR, hM, ⟨hr, hg, hp, ho⟩, -, -, hse, -, -, -, h13, -⟩ := id h
  unfold f_X7_luck f_X8_luck
  rcases a_cases x (n := 11) (by omega) with hx | ⟨v, hv, rfl⟩
  · exact ⟨-1, (I, R), (Im, Rm), by rw [c_isOdds0 (Or.inl hx), k_bd, if_pos rfl], by rw [m_in0 (c := 10) (n := 10) hx rfl (by omega), k_bd, if_pos rfl], r_same h⟩
  rw [m_in1 (c := 10) (n := 10) (by omega) rfl (by omega), k_bd, if_neg (show ¬ (1 : Int32) = 0 by decide)]
  rcases a_cases y (n := 9) (by omega) with hy | ⟨n, hn, rfl⟩
  · exact ⟨-1, (I, R), (Im, Rm), by rw [c_isOdds0 (Or.inr hy), k_bd, if_pos rfl], by rw [m_in0 (c := 8) (n := 8) hy rfl (by omega), k_bd, if_pos rfl], r_same h⟩
  rw [c_isOdds1 (by omega) (by omega), m_in1 (c := 8) (n := 8) (by omega) rfl (by omega), k_bd, k_bd, if_neg (show ¬ (1 : Int32) = 0 by decide), if_neg (show ¬ (1 : Int32) = 0 by decide)]
  rcases a_cases z (n := 2) (by omega) with hz | ⟨j, hj, rfl⟩
  · exact ⟨-1, (I, R), (Im, Rm), by rw [c_isChoice0 hz, k_bd, if_pos rfl], by rw [m_in0 (c := 1) (n := 1) hz rfl (by omega), k_bd, if_pos rfl], r_same h⟩
  rw [c_isChoice1 hj, m_in1 (c := 1) (n := 1) (by omega) rfl (by omega), k_bd, k_bd, if_neg (show ¬ (1 : Int32) = 0 by decide), if_neg (show ¬ (1 : Int32) = 0 by decide)]
  obtain ⟨J, e1, kJ⟩ := c_weigh (fu := fu) (v := v) (n := n) (y := 0) hR hr hp (by omega) (by omega) (by omega) hf
  obtain ⟨Jm, e2, kM⟩ := m_byNobody (fu := fu) (v := v) (n := n) (y := 0) (z := nI j) hM hg h13 hp (by omega) (by omega) (by omega) hf
  have hU := q_U_le (y := 0) hp (show n ≤ 8 by omega) (show v ≤ 10 by omega) (2 ^ n)
  obtain ⟨e2n, l2n⟩ := q_2n n (by omega)
  obtain ⟨t1, t2⟩ := q_10n n (by omega)
  have e3 := c_part (fu := fu) (u := q_U P v n 0 (2 ^ n)) (d := 10 ^ n) (y := nI j) (S := (J, R)) (by omega) t1 t2 hf
  have e4 := c_power (fu := fu) (a := 10) (m := n) (S := (J, R)) (by omega) (by omega) hf
  have e1' : f_X7_weighAll fu 0 (nI v) (nI n) 0 (I, R) = _ := e1
  have e2' : f_X8_byNobody fu 0 (nI v) (nI n) 0 (nI j) (Im, Rm) = _ := e2
  have e4' : f_X7_power fu 10 (nI n) (J, R) = _ := e4
  exact ⟨_, (J, R), (Jm, Rm), by rw [e1', k_bd, e4', k_bd, e3, k_bd], by rw [e2', k_bd], r_frame h hR kJ kM⟩
theorem o_mean {fu : Nat} {I Im : Nat → Nat → Int32} {R Rm : Nat → Nat → Option Nat} {t P Q0 Q1 : Nat → Nat} (h : r_all I R Im Rm t P Q0 Q1) (hf : 1000 < fu) (x y z : Int32) : ∃ r Sc1 Sm1, f_X7_mean fu 0 x y z (I, R) = some (r, Sc1) ∧ f_X8_mean fu 0 x y z (Im, Rm) = some (r, Sm1) ∧ r_Rel Sc1 Sm1 := by
  obtain ⟨hR, hM, ⟨hr, hg, hp, ho⟩, -, -, hse, -, -, -, h13, -⟩ := id h
  unfold f_X7_mean f_X8_mean
  rcases a_cases x (n := 11) (by omega) with hx | ⟨v, hv, rfl⟩
  · exact ⟨-1, (I, R), (Im, Rm), by rw [c_isOdds0 (Or.inl hx), k_bd, if_pos rfl], by rw [m_in0 (c := 10) (n := 10) hx rfl (by omega), k_bd, if_pos rfl], r_same h⟩
  rw [m_in1 (c := 10) (n := 10) (by omega) rfl (by omega), k_bd, if_neg (show ¬ (1 : Int32) = 0 by decide)]
  rcases a_cases y (n := 9) (by omega) with hy | ⟨n, hn, rfl⟩
  · exact ⟨-1, (I, R), (Im, Rm), by rw [c_isOdds0 (Or.inr hy), k_bd, if_pos rfl], by rw [m_in0 (c := 8) (n := 8) hy rfl (by omega), k_bd, if_pos rfl], r_same h⟩
  rw [c_isOdds1 (by omega) (by omega), m_in1 (c := 8) (n := 8) (by omega) rfl (by omega), k_bd, k_bd, if_neg (show ¬ (1 : Int32) = 0 by decide), if_neg (show ¬ (1 : Int32) = 0 by decide)]
  rcases a_cases z (n := 2) (by omega) with hz | ⟨j, hj, rfl⟩
  · exact ⟨-1, (I, R), (Im, Rm), by rw [c_isChoice0 hz, k_bd, if_pos rfl], by rw [m_in0 (c := 1) (n := 1) hz rfl (by omega), k_bd, if_pos rfl], r_same h⟩
  rw [c_isChoice1 hj, m_in1 (c := 1) (n := 1) (by omega) rfl (by omega), k_bd, k_bd, if_neg (show ¬ (1 : Int32) = 0 by decide), if_neg (show ¬ (1 : Int32) = 0 by decide)]
  obtain ⟨J, e1, kJ⟩ := c_weigh (fu := fu) (v := v) (n := n) (y := 1) hR hr hp (by omega) (by omega) (by omega) hf
  obtain ⟨Jm, e2, kM⟩ := m_byNobody (fu := fu) (v := v) (n := n) (y := 1) (z := nI j) hM hg h13 hp (by omega) (by omega) (by omega) hf
  have hU := q_U_le (y := 1) hp (show n ≤ 8 by omega) (show v ≤ 10 by omega) (2 ^ n)
  obtain ⟨e2n, l2n⟩ := q_2n n (by omega)
  obtain ⟨t1, t2⟩ := q_10n n (by omega)
  have e3 := c_part (fu := fu) (u := q_U P v n 1 (2 ^ n)) (d := 10 ^ n) (y := nI j) (S := (J, R)) (by omega) t1 t2 hf
  have e4 := c_power (fu := fu) (a := 10) (m := n) (S := (J, R)) (by omega) (by omega) hf
  have e1' : f_X7_weighAll fu 0 (nI v) (nI n) 1 (I, R) = _ := e1
  have e2' : f_X8_byNobody fu 0 (nI v) (nI n) 1 (nI j) (Im, Rm) = _ := e2
  have e4' : f_X7_power fu 10 (nI n) (J, R) = _ := e4
  exact ⟨_, (J, R), (Jm, Rm), by rw [e1', k_bd, e4', k_bd, e3, k_bd], by rw [e2', k_bd], r_frame h hR kJ kM⟩
