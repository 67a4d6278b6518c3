theorem o_runs {fu : Nat} {I Im : Nat → Nat → Int32} {R Rm : Nat → Nat → Option Nat} {t P Q0 Q1 : Nat → Nat} (h : r_all I R Im Rm t P Q0 Q1) (hf : 1000 < fu) (x y : Int32) : ∃ r Sc1 Sm1, f_X7_runs fu 0 x y (I, R) = some (r, Sc1) ∧ f_X8_runs fu 0 x y (Im, Rm) = some (r, Sm1) ∧ r_Rel Sc1 Sm1 := by
  obtain ⟨hR, hM, ⟨hr, hg, hp, ho⟩, -, -, -, -, -, -, h13, -⟩ := id h
  have b16 := hp.1
  unfold f_X7_runs f_X8_runs
  rcases a_cases x (n := 101) (by omega) with hx | ⟨n, hn, rfl⟩
  · exact ⟨-1, (I, R), (Im, Rm), by rw [c_isRun0 hx, k_bd, if_pos rfl], by rw [m_isLong0 hx, k_bd, if_pos rfl], r_same h⟩
  rw [c_isRun1 (by omega), m_isLong1 (by omega), k_bd, k_bd, if_neg (show ¬ (1 : Int32) = 0 by decide), if_neg (show ¬ (1 : Int32) = 0 by decide)]
  rcases a_cases y (n := 5) (by omega) with hy | ⟨w, hw, rfl⟩
  · exact ⟨-1, (I, R), (Im, Rm), a_if2 (n := 4) hy rfl (by omega), by rw [m_in0 (c := 4) (n := 4) hy rfl (by omega), k_bd, if_pos rfl], r_same h⟩
  rw [if_neg (nI_pos (by omega)), if_pos (show nI w ≤ (4 : Int32) from nI_le (b := 4) (by omega) (by omega)), m_in1 (c := 4) (n := 4) (by omega) rfl (by omega), k_bd, if_neg (by decide)]
  obtain ⟨I1, e1, a1, k1⟩ := c_startTrial (fu := fu) p_cm hR hr hp (by omega)
  rw [e1, k_bd]
  obtain ⟨Im', e2, a2, k2⟩ := m_try (fu := fu) (n := n) hM hg h13 hp (by omega) hf
  rw [e2, k_bd]
  have lt := p_gt_le (opn := fun _ => false) hp p_few_cm
  obtain ⟨b, e3, J, rfl, aJ, kJ⟩ := e_lp (body := fun s => b_X7_runs_30 fu 0 (nI n) (nI w) s.1 s.2.1 s.2.2.1 s.2.2.2) n
    (fun i s => ∃ J, s = (nI (p_sum (p_gb (fun _ => false) p_cm P) i), nI (p_max (p_gt (fun _ => false) p_cm P) i), nI i, (J, R)) ∧ c_at J t (fun _ => false) p_cm P i ∧ c_kept I J)
    (fun b => ∃ J, b = (nI (p_sum (p_gb (fun _ => false) p_cm P) n), nI (p_max (p_gt (fun _ => false) p_cm P) n), (J, R)) ∧ c_at J t (fun _ => false) p_cm P n ∧ c_kept I J) (by
    rintro i s hi ⟨J, rfl, aJ, kJ⟩
    obtain ⟨J2, e, a3, k3⟩ := c_tick1 (fu := fu) hR.2.1 aJ hp (by omega) (by omega)
    have t1 := (c_at_43 aJ hp p_few_cm (by omega)).2
    have t2 := (c_at_43 a3 hp p_few_cm (by omega)).2
    have l1 := lt i
    have l2 := p_max_le lt i
    refine ⟨_, ?_, J2, rfl, a3, c_kept_trans kJ k3⟩
    show b_X7_runs_30 fu 0 (nI n) (nI w) _ _ (nI i) (J, R) = _
    unfold b_X7_runs_30 j_X7_runs_76_in30
    rw [if_neg (nI_ge hi (by omega))]
    have et : nI (p_sum (p_gt (fun _ => false) p_cm P) (i + 1)) - nI (p_sum (p_gt (fun _ => false) p_cm P) i) = nI (p_gt (fun _ => false) p_cm P i) := by
      rw [pk_sub (by show _ ≤ p_sum (p_gt (fun _ => false) p_cm P) i + _; omega)]
      show nI (p_sum (p_gt (fun _ => false) p_cm P) i + p_gt (fun _ => false) p_cm P i - _) = _
      rw [Nat.add_sub_cancel_left]
    simp only [c_ld1 hR, e, k_bd, t1, t2, et]
    show _ = some (Sum.inl (nI (p_sum (p_gb (fun _ => false) p_cm P) i + (if 0 < p_gt (fun _ => false) p_cm P i then 1 else 0)), nI (max (p_max (p_gt (fun _ => false) p_cm P) i) (p_gt (fun _ => false) p_cm P i)), nI (i + 1), (J2, R)))
    have em : (if nI (p_max (p_gt (fun _ => false) p_cm P) i) < nI (p_gt (fun _ => false) p_cm P i) then nI (p_gt (fun _ => false) p_cm P i) else nI (p_max (p_gt (fun _ => false) p_cm P) i)) = nI (max (p_max (p_gt (fun _ => false) p_cm P) i) (p_gt (fun _ => false) p_cm P i)) := by
      by_cases c : p_max (p_gt (fun _ => false) p_cm P) i < p_gt (fun _ => false) p_cm P i
      · rw [if_pos (nI_lt c (by omega)), show max (p_max (p_gt (fun _ => false) p_cm P) i) (p_gt (fun _ => false) p_cm P i) = p_gt (fun _ => false) p_cm P i by omega]
      · rw [if_neg (nI_nlt (by omega) (by omega)), show max (p_max (p_gt (fun _ => false) p_cm P) i) (p_gt (fun _ => false) p_cm P i) = p_max (p_gt (fun _ => false) p_cm P) i by omega]
    rw [em]
    by_cases c : p_gt (fun _ => false) p_cm P i ≤ 0
    · rw [if_pos (show nI (p_gt (fun _ => false) p_cm P i) ≤ (0 : Int32) from nI_le (b := 0) c (by omega)), if_neg (by omega), nI_1, l_0, nI_add]
    · rw [if_neg (show ¬ nI (p_gt (fun _ => false) p_cm P i) ≤ (0 : Int32) from nI_nle (by omega) (by omega)), if_pos (by omega), nI_1, l_1, nI_add]) (by
    rintro s ⟨J, rfl, h⟩
    refine ⟨_, ?_, J, rfl, h⟩
    show b_X7_runs_30 fu 0 (nI n) (nI w) _ _ (nI n) (J, R) = _
    unfold b_X7_runs_30
    exact if_pos (nI_le (Nat.le_refl _) (by omega))) 0 fu (nI 0, nI 0, nI 0, (I1, R)) (Nat.zero_le _) (by omega) ⟨I1, rfl, a1, k1⟩
  obtain ⟨q1, q2⟩ := c_at_43 aJ hp p_few_cm (by omega)
  have hz := p_z_ok hp
  have hzn := p_ok_go (opn := fun _ => false) (cm := p_cm) hz n
  have hpn := p_ok_go (opn := fun _ => false) (cm := p_cm) hp n
  have ec := c_held (fu := fu) hR.2.1 aJ.1 hzn (by omega)
  have em := m_held (fu := fu) hM a2.1 hpn (by omega) (by omega)
  have ex := p_go_eqx (opn := fun _ => false) hz p_few_cm (@p_z_eqx P) n
  have hh : p_sum (fun d => p_go (fun _ => false) p_cm (p_z P) n (12 + d)) (p_go (fun _ => false) p_cm (p_z P) n 16) = p_sum (fun d => p_go (fun _ => false) p_cm P n (12 + d)) (p_go (fun _ => false) p_cm P n 16) := by
    have h16 := hzn.1
    rw [← ex 16 (by omega) (by omega)]
    exact p_sum_congr _ (fun d hd => ex (12 + d) (by omega) (by omega))
  rw [hh] at ec
  refine ⟨if nI w = 0 then nI (p_sum (p_gl (fun _ => false) p_cm P) n) else if nI w = 1 then nI (p_sum (p_gt (fun _ => false) p_cm P) n) else if nI w = 2 then nI (p_sum (p_gb (fun _ => false) p_cm P) n) else if nI w = 3 then nI (p_max (p_gt (fun _ => false) p_cm P) n) else nI (p_sum (fun d => p_go (fun _ => false) p_cm P n (12 + d)) (p_go (fun _ => false) p_cm P n 16)), (J, R), (Im', Rm), (e_th e3).trans ?_, ?_, r_frame h hR (c_fr_kept kJ) (m_fr_kept (by omega) k2)⟩
  · simp only [c_ld1 hR, q1, q2, ec, k_bd, k_push]
  · have em' : f_X8_holdOn fu 0 180 (Im', Rm) = _ := em
    simp only [a2.2.2.1, a2.2.2.2.1, a2.2.2.2.2.1, em', k_bd, k_push]
/-! ===== the first of which something holds ===== -/
def f_first (Q : Nat → Prop) (lo n : Nat) (r : Int32) : Prop := ((∀ k, lo ≤ k → k < n → ¬ Q k) ∧ r = -4) ∨ ∃ k, lo ≤ k ∧ k < n ∧ (∀ j, lo ≤ j → j < k → ¬ Q j) ∧ Q k ∧ r = nI k
theorem f_uniq {Q : Nat → Prop} {lo n : Nat} {r r' : Int32} (h : f_first Q lo n r) (h' : f_first Q lo n r') : r = r' := by
  rcases h with ⟨a, rfl⟩ | ⟨k, k1, k2, k3, k4, rfl⟩ <;> rcases h' with ⟨a', rfl⟩ | ⟨j, j1, j2, j3, j4, rfl⟩
  · rfl
  · exact absurd j4 (a j j1 j2)
  · exact absurd k4 (a' k k1 k2)
  · rcases Nat.lt_trichotomy k j with q | q | q
    · exact absurd k4 (j3 k k1 q)
    · rw [q]
    · exact absurd j4 (k3 j j1 q)
theorem o_when {fu : Nat} {I Im : Nat → Nat → Int32} {R Rm : Nat → Nat → Option Nat} {t P Q0 Q1 : Nat → Nat} (h : r_all I R Im Rm t P Q0 Q1) (hf : 1000 < fu) : ∃ r Sc1 Sm1, f_X7_when fu 0 (I, R) = some (r, Sc1) ∧ f_X8_when fu 0 (Im, Rm) = some (r, Sm1) ∧ r_Rel Sc1 Sm1 := by
  obtain ⟨hR, hM, ⟨hr, hg, hp, ho⟩, -, -, -, -, -, -, h13, -⟩ := id h
  have lt := p_sum_le (p_gt_le (opn := fun _ => false) hp p_few_cm)
  obtain ⟨I1, e1, a1, k1⟩ := c_startTrial (fu := fu) p_cm hR hr hp (by omega)
  -- the class
  obtain ⟨b, e3, r, J, hb, hJ, fJ⟩ := e_lpx (body := fun s => b_X7_when_6 fu 0 s.1 s.2) 101
    (fun i s => ∃ J, s = (nI i, (J, R)) ∧ c_at J t (fun _ => false) p_cm P i ∧ c_kept I J ∧ ∀ j, 0 ≤ j → j < i → ¬ 0 < p_sum (p_gt (fun _ => false) p_cm P) (j + 1))
    (fun b => ∃ r J, (b = .inl (J, R) ∧ r = -4 ∨ b = .inr (r, (J, R))) ∧ c_kept I J ∧ f_first (fun k => 0 < p_sum (p_gt (fun _ => false) p_cm P) (k + 1)) 0 101 r) (by
    rintro i s hi ⟨J, rfl, aJ, kJ, hj⟩
    obtain ⟨J2, e, a3, k3⟩ := c_tick1 (fu := fu) hR.2.1 aJ hp (by omega) (by omega)
    have t2 := (c_at_43 a3 hp p_few_cm (by omega)).2
    have l1 := lt (i + 1)
    have step : b_X7_when_6 fu 0 (nI i) (J, R) = if p_sum (p_gt (fun _ => false) p_cm P) (i + 1) ≤ 0 then some (.inl (nI (i + 1), (J2, R))) else some (.inr (.inr (nI i, (J2, R)))) := by
      unfold b_X7_when_6
      rw [if_neg (show ¬ (100 : Int32) < nI i from nI_nlt (a := 100) (by omega) (by omega))]
      simp (disch := omega) only [c_ld1 hR, e, k_bd, t2, nI_1, l_0, nI_leI]
    by_cases c : p_sum (p_gt (fun _ => false) p_cm P) (i + 1) ≤ 0
    · rw [if_pos c] at step
      refine Or.inl ⟨_, step, J2, rfl, a3, c_kept_trans kJ k3, fun j h0 h1 => ?_⟩
      rcases Nat.lt_or_ge j i with q | q
      · exact hj j h0 q
      · rw [show j = i by omega]; omega
    · rw [if_neg c] at step
      exact Or.inr ⟨_, step, nI i, J2, Or.inr rfl, c_kept_trans kJ k3, Or.inr ⟨i, by omega, hi, hj, by omega, rfl⟩⟩) (by
    rintro s ⟨J, rfl, aJ, kJ, hj⟩
    exact ⟨.inl (J, R), if_pos (show (100 : Int32) < nI 101 from by decide), -4, J, Or.inl ⟨rfl, rfl⟩, kJ, Or.inl ⟨hj, rfl⟩⟩) 0 fu (nI 0, (I1, R)) (Nat.zero_le _) (by omega) ⟨I1, rfl, a1, k1, fun j _ hj => absurd hj (Nat.not_lt_zero _)⟩
  -- the reference
  obtain ⟨Im1, e2, a2, k2⟩ := m_begin (fu := fu) (k := fun _ Sr2 => g_th (g_lp (fun t => b_X8_when_14 fu 0 t.1 t.2) fu ((0 : Int32), Sr2)) fun e => match e with | .inl S1 => (some ((-4 : Int32), S1)) | .inr q => some q) (fun _ => false) p_cm hM hg (by omega) hp.1 (by omega)
  obtain ⟨bm, e4, r', Jm, hbm, hJm, fJm⟩ := e_lpx (body := fun s => b_X8_when_14 fu 0 s.1 s.2) 101
    (fun i s => ∃ J, s = (nI i, (J, Rm)) ∧ m_at J 180 (fun _ => false) p_cm P i ∧ m_kept Im J 180 ∧ ∀ j, 0 ≤ j → j < i → ¬ 0 < p_sum (p_gt (fun _ => false) p_cm P) (j + 1))
    (fun b => ∃ r J, (b = .inl (J, Rm) ∧ r = -4 ∨ b = .inr (r, (J, Rm))) ∧ m_kept Im J 180 ∧ f_first (fun k => 0 < p_sum (p_gt (fun _ => false) p_cm P) (k + 1)) 0 101 r) (by
    rintro i s hi ⟨J, rfl, aJ, kJ, hj⟩
    obtain ⟨J2, e, a3, k3⟩ := m_goesOn (fu := fu) hM aJ (m_kept_opn kJ (m_opn_none h13)) hp (by omega) (by omega) (by omega) (by omega)
    have l1 := lt (i + 1)
    have t2 := a3.2.2.1
    have step : b_X8_when_14 fu 0 (nI i) (J, Rm) = if p_sum (p_gt (fun _ => false) p_cm P) (i + 1) ≤ 0 then some (.inl (nI (i + 1), (J2, Rm))) else some (.inr (.inr (nI i, (J2, Rm)))) := by
      unfold b_X8_when_14
      rw [if_neg (show ¬ (100 : Int32) < nI i from nI_nlt (a := 100) (by omega) (by omega))]
      simp (disch := omega) only [l_180, e, k_bd, t2, nI_1, l_0, nI_leI]
    by_cases c : p_sum (p_gt (fun _ => false) p_cm P) (i + 1) ≤ 0
    · rw [if_pos c] at step
      refine Or.inl ⟨_, step, J2, rfl, a3, m_kept_trans kJ k3, fun j h0 h1 => ?_⟩
      rcases Nat.lt_or_ge j i with q | q
      · exact hj j h0 q
      · rw [show j = i by omega]; omega
    · rw [if_neg c] at step
      exact Or.inr ⟨_, step, nI i, J2, Or.inr rfl, m_kept_trans kJ k3, Or.inr ⟨i, by omega, hi, hj, by omega, rfl⟩⟩) (by
    rintro s ⟨J, rfl, aJ, kJ, hj⟩
    exact ⟨.inl (J, Rm), if_pos (show (100 : Int32) < nI 101 from by decide), -4, J, Or.inl ⟨rfl, rfl⟩, kJ, Or.inl ⟨hj, rfl⟩⟩) 0 fu (nI 0, (Im1, Rm)) (Nat.zero_le _) (by omega) ⟨Im1, rfl, a2, k2, fun j _ hj => absurd hj (Nat.not_lt_zero _)⟩
  have er := f_uniq fJ fJm
  subst er
  refine ⟨r, (J, R), (Jm, Rm), ?_, ?_, r_frame h hR (c_fr_kept hJ) (m_fr_kept (by omega) hJm)⟩
  · unfold f_X7_when
    rw [e1, k_bd]
    refine (e_th e3).trans ?_
    rcases hb with ⟨rfl, rfl⟩ | rfl <;> rfl
  · unfold f_X8_when
    refine e2.trans ((e_th e4).trans ?_)
    rcases hbm with ⟨rfl, rfl⟩ | rfl <;> rfl
