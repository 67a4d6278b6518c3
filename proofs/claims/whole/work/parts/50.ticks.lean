theorem p_ok_at {T T' : Nat} {P : Nat → Nat} (h : p_ok T P) (ht : P 42 ≤ T') : p_ok T' P := ⟨h.1, h.2.1, h.2.2.1, h.2.2.2.1, ht, h.2.2.2.2.2⟩
theorem o_ticks {fu : Nat} {I Im : Nat → Nat → Int32} {R Rm : Nat → Nat → Option Nat} {t P Q0 Q1 : Nat → Nat} (h : r_all I R Im Rm t P Q0 Q1) (hf : 1000 < fu) (x : Int32) : ∃ r Sc1 Sm1, f_X7_ticks fu 0 x (I, R) = some (r, Sc1) ∧ f_X8_ticks fu 0 x (Im, Rm) = some (r, Sm1) ∧ r_Rel Sc1 Sm1 := by
  obtain ⟨hR, hM, ⟨hr, hg, hp, ho⟩, -, -, -, -, -, -, h13, -⟩ := id h
  have b16 := hp.1
  have b42 := hp.2.2.2.2.1
  have g42 := m_pg0 hg 42 (by omega)
  rcases a_cases x (n := 101) (by omega) with hx | ⟨n, hn, rfl⟩
  · refine ⟨-1, (I, R), (Im, Rm), ?_, ?_, r_same h⟩
    · unfold f_X7_ticks
      rw [c_isRun0 hx, k_bd, if_pos rfl]
    · unfold f_X8_ticks
      rw [m_isLong0 hx, k_bd, if_pos rfl]
  by_cases hq : P 42 + n ≤ 999
  · obtain ⟨I', e1, hr', ho', hk', -⟩ := c_runOn (fu := fu) (n := n) hR.1 hr (h_opn_none b16 ho) hp (by omega) (by omega) (by omega)
    obtain ⟨I1, e2, z1, z2, z3, z4⟩ := m_starts (fu := fu) (I := Im) hM (by omega)
    have a0 : m_at I1 0 (fun _ => false) p_cm P 0 := ⟨fun k hk => by rw [z4 1 (by decide) (by decide)]; exact hg k hk, z1 14 (by omega) (by omega), z1 15 (by omega) (by omega), z1 16 (by omega) (by omega), z1 17 (by omega) (by omega), fun d hd => z2 d (by omega)⟩
    have k0 : m_kept Im I1 0 := ⟨fun k hk => z3 k hk, fun k _ => by rw [z4 1 (by decide) (by decide)], fun a x _ z => z4 a x z⟩
    obtain ⟨b, e3, J, rfl, aJ, kJ⟩ := e_lp (body := fun t => b_X8_ticks_33 fu 0 (nI n) t.1 t.2) n
      (fun i t => ∃ J, t = (nI i, (J, Rm)) ∧ m_at J 0 (fun _ => false) p_cm P i ∧ m_kept Im J 0)
      (fun b => ∃ J, b = (J, Rm) ∧ m_at J 0 (fun _ => false) p_cm P n ∧ m_kept Im J 0) (by
      rintro i t hi ⟨J, rfl, aJ, kJ⟩
      obtain ⟨J2, e, a2, k2⟩ := m_goesOn (fu := fu) hM aJ (m_kept_opn kJ (m_opn_none h13)) hp (by omega) (by omega) (by omega) (by omega)
      refine ⟨(nI (i + 1), (J2, Rm)), ?_, J2, rfl, a2, m_kept_trans kJ k2⟩
      show b_X8_ticks_33 fu 0 (nI n) (nI i) (J, Rm) = _
      unfold b_X8_ticks_33
      rw [if_neg (nI_ge hi (by omega)), l_0, e, k_bd, nI_1]) (by
      rintro t ⟨J, rfl, h⟩
      refine ⟨_, ?_, J, rfl, h⟩
      show b_X8_ticks_33 fu 0 (nI n) (nI n) (J, Rm) = _
      unfold b_X8_ticks_33
      exact if_pos (nI_le (Nat.le_refl _) (by omega))) 0 fu (nI 0, (I1, Rm)) (Nat.zero_le _) (by omega) ⟨I1, rfl, a0, k0⟩
    refine ⟨nI (p_lets (fun _ => false) P n), (I', R), (J, Rm), ?_, ?_, r_newR h hR ⟨hr', ?_, ?_, fun d hd => ?_⟩ (fun a ha => hk' a (by omega) (fun d _ => by show a ≠ 4 + d; omega)) (m_fn_kept kJ)⟩
    · unfold f_X7_ticks
      rw [c_isRun1 (by omega), k_bd, if_neg (by decide)]
      simp only [c_ld0 hR, e1, k_bd, hr.2.2.1, nI_add]
      exact if_pos (nI_lt (b := 1000) (by omega) (by omega))
    · unfold f_X8_ticks
      rw [m_isLong1 (by omega), k_bd, if_neg (by decide)]
      simp (disch := omega) only [m_ld0 hM, l_42, k_ix, g42, nI_add, e2, k_bd]
      rw [if_pos (show nI (P 42 + n) ≤ (999 : Int32) from nI_le (b := 999) hq (by omega))]
      refine (e_th e3).trans ?_
      show some (J 0 14, (J, Rm)) = _
      rw [aJ.2.1, p_lets_go]
    · rw [p_run_go]; exact aJ.1
    · have := p_ok_run (opn := fun _ => false) (p_ok_at hp (Nat.le_refl _)) n
      exact p_ok_at this (by have := this.2.2.2.2.1; omega)
    · rcases Nat.lt_or_ge d (P 16) with q | q
      · exact ho_of ho' d q
      · rw [hk' (4 + d) (by omega) (fun e he => by show 4 + d ≠ 4 + e; omega)]; exact ho d hd
  · refine ⟨-3, (I, R), (Im, Rm), ?_, ?_, r_same h⟩
    · unfold f_X7_ticks
      rw [c_isRun1 (by omega), k_bd, if_neg (by decide)]
      simp only [c_ld0 hR, hr.2.2.1, nI_add]
      exact if_neg (show ¬ nI (P 42 + n) < (1000 : Int32) from nI_nlt (b := 1000) (by omega) (by omega))
    · unfold f_X8_ticks
      rw [m_isLong1 (by omega), k_bd, if_neg (by decide)]
      simp (disch := omega) only [m_ld0 hM, l_42, k_ix, g42, nI_add]
      exact if_neg (show ¬ nI (P 42 + n) ≤ (999 : Int32) from nI_ge (a := 999) (by omega) (by omega))
/-! ===== what would be ===== -/
theorem c_tr {β : Type} {fu d : Nat} {R : Nat → Nat → Option Nat} {t : Nat → Nat} (hR : c_R R t) (hd : d < 4) {k : Nat → Option β} : (g_ld g_KC 90 (.inr (3, 4, true)) (R 16 0) fun a => g_ix (nI d) 4 fun i => g_ld g_KC 90 g_kX1 (R a i) k) = k (t d) :=
  (e_ld hR.2.1.1 hR.2.1.2.2.2.2.2.1).trans ((e_ix (m := d) rfl (by omega) (by omega)).trans (e_ld (hR.2.1.2.2.1 d hd) (hR.2.1.2.2.2.2.2.2.2.1 d hd)))
/-- the class's run of the trial from now -/
theorem c_try {fu n : Nat} {I : Nat → Nat → Int32} {R : Nat → Nat → Option Nat} {t P : Nat → Nat} (hR : c_R R t) (hr : h_rep I 1 (fun d => 4 + d) P) (hp : p_ok 999 P) (hn : n ≤ 101) (hf : 1000 < fu) {β : Type} {k : Int32 → g_St → Option β} : ∃ I', (g_bd (f_X7_startTrial fu 0 (I, R)) fun _ S => g_ld g_KC 90 g_kX2 (S.2 0 1) fun a => g_bd (f_X2_runOn fu a (nI n) S) k) = k (nI (p_sum (p_gl (fun _ => false) p_cm P) n)) (I', R) ∧ c_at I' t (fun _ => false) p_cm P n ∧ c_kept I I' := by
  obtain ⟨I1, e1, a1, k1⟩ := c_startTrial (fu := fu) p_cm hR hr hp (by omega)
  obtain ⟨I2, e2, a2, k2⟩ := c_run (fu := fu) (n := n) hR.2.1 a1 hp (by omega) (by omega) (by omega)
  refine ⟨I2, ?_, a2, c_kept_trans k1 k2⟩
  rw [e1, k_bd]
  simp only [c_ld1 hR]
  rw [e2, k_bd]
theorem m_try {fu n : Nat} {Im : Nat → Nat → Int32} {Rm : Nat → Nat → Option Nat} {P : Nat → Nat} (hM : m_R Rm) (hg : m_pg Im 0 P) (h13 : Im 0 13 = -4) (hp : p_ok 999 P) (hn : n ≤ 101) (hf : 1000 < fu) : ∃ I', f_X8_ticksGo fu 0 0 (nI n) (Im, Rm) = some (nI (p_sum (p_gl (fun _ => false) p_cm P) n), (I', Rm)) ∧ m_at I' 180 (fun _ => false) p_cm P n ∧ m_kept Im I' 180 := m_ticksGo (p := 0) hM hg (m_opn_none h13) hp (by omega) (by omega) (by omega) (by omega)
theorem c_at_h {J : Nat → Nat → Int32} {t P : Nat → Nat} {n d T : Nat} {opn : Nat → Bool} {cm : Nat → (Nat → Nat) → Nat} (h : c_at J t opn cm P n) (hp : p_ok T P) (hc : p_few cm) (hd : d < P 16) : J (t d) 3 = nI (p_go opn cm P n (12 + d)) := by
  have hz := p_z_ok hp
  have b16 := hp.1
  have e16 : p_go opn cm (p_z P) n 16 = P 16 := by rw [p_go_16 hz n, p_z_eqx 16 (by omega) (by omega)]
  rw [(h.1.2.2.2.2.2.1 d (by rw [e16]; exact hd)).2.2.2, p_go_eqx hz hc p_z_eqx n (12 + d) (by omega) (by omega)]
theorem c_at_43 {J : Nat → Nat → Int32} {t P : Nat → Nat} {n T : Nat} {opn : Nat → Bool} {cm : Nat → (Nat → Nat) → Nat} (h : c_at J t opn cm P n) (hp : p_ok T P) (hc : p_few cm) (hn : n ≤ 200) : J 16 5 = nI (p_sum (p_gl opn cm P) n) ∧ J 16 6 = nI (p_sum (p_gt opn cm P) n) := by
  obtain ⟨e1, e2⟩ := p_z_43 (opn := opn) hp hc n hn
  exact ⟨by rw [h.1.2.2.2.1, e1], by rw [h.1.2.2.2.2.1, e2]⟩
theorem o_ahead {fu : Nat} {I Im : Nat → Nat → Int32} {R Rm : Nat → Nat → Option Nat} {t P Q0 Q1 : Nat → Nat} (h : r_all I R Im Rm t P Q0 Q1) (hf : 1000 < fu) (x y : Int32) : ∃ r Sc1 Sm1, f_X7_ahead fu 0 x y (I, R) = some (r, Sc1) ∧ f_X8_ahead fu 0 x y (Im, Rm) = some (r, Sm1) ∧ r_Rel Sc1 Sm1 := by
  obtain ⟨hR, hM, ⟨hr, hg, hp, ho⟩, -, -, -, -, -, -, h13, -⟩ := id h
  have b16 := hp.1
  unfold f_X7_ahead f_X8_ahead
  rcases a_cases x (n := P 16) (by omega) with hx | ⟨d, hd, rfl⟩
  · exact ⟨-1, (I, R), (Im, Rm), by rw [c_isDoor0 hR hr b16 hx, k_bd, if_pos rfl], by rw [m_isDoor0 hM hg b16 hx, k_bd, if_pos rfl], r_same h⟩
  rw [c_isDoor1 hR hr b16 hd, m_isDoor1 hM hg b16 hd, k_bd, k_bd, if_neg (by decide), if_neg (by decide)]
  rcases a_cases y (n := 101) (by omega) with hx | ⟨n, hn, rfl⟩
  · exact ⟨-1, (I, R), (Im, Rm), by rw [c_isRun0 hx, k_bd, if_pos rfl], by rw [m_isLong0 hx, k_bd, if_pos rfl], r_same h⟩
  rw [c_isRun1 (by omega), m_isLong1 (by omega), k_bd, k_bd, if_neg (by decide), if_neg (by decide)]
  obtain ⟨I', e1, a1, k1⟩ := c_try (fu := fu) (n := n) hR hr hp (by omega) hf (k := fun r5 Sr5 => g_ld g_KC 90 g_kX2 (Sr5.2 0 1) fun a6 => g_ld g_KC 90 (.inr (3, 4, true)) (Sr5.2 a6 0) fun a7 => g_ix (nI d) 4 fun i8 => g_ld g_KC 90 g_kX1 (Sr5.2 a7 i8) fun a8 => some ((Sr5.1 a8 3), Sr5))
  obtain ⟨Im', e2, a2, k2⟩ := m_try (fu := fu) (n := n) hM hg h13 hp (by omega) hf
  refine ⟨nI (p_go (fun _ => false) p_cm P n (12 + d)), (I', R), (Im', Rm), e1.trans ?_, ?_, r_frame h hR (c_fr_kept k1) (m_fr_kept (by omega) k2)⟩
  · simp (disch := omega) only [c_ld1 hR, c_tr (fu := fu) hR]
    rw [c_at_h a1 hp p_few_cm hd]
  · rw [e2, k_bd]
    have := a2.1 (12 + d) (by omega)
    rw [← Nat.add_assoc] at this
    simp (disch := omega) only [m_ld0 hM, l_192, nI_add, k_ix, this]
theorem o_turns {fu : Nat} {I Im : Nat → Nat → Int32} {R Rm : Nat → Nat → Option Nat} {t P Q0 Q1 : Nat → Nat} (h : r_all I R Im Rm t P Q0 Q1) (hf : 1000 < fu) (x y : Int32) : ∃ r Sc1 Sm1, f_X7_turns fu 0 x y (I, R) = some (r, Sc1) ∧ f_X8_turns fu 0 x y (Im, Rm) = some (r, Sm1) ∧ r_Rel Sc1 Sm1 := by
  obtain ⟨hR, hM, ⟨hr, hg, hp, ho⟩, -, -, -, -, -, -, h13, -⟩ := id h
  have b16 := hp.1
  unfold f_X7_turns f_X8_turns
  rcases a_cases x (n := P 16) (by omega) with hx | ⟨d, hd, rfl⟩
  · exact ⟨-1, (I, R), (Im, Rm), by rw [c_isDoor0 hR hr b16 hx, k_bd, if_pos rfl], by rw [m_isDoor0 hM hg b16 hx, k_bd, if_pos rfl], r_same h⟩
  rw [c_isDoor1 hR hr b16 hd, m_isDoor1 hM hg b16 hd, k_bd, k_bd, if_neg (by decide), if_neg (by decide)]
  rcases a_cases y (n := 101) (by omega) with hx | ⟨n, hn, rfl⟩
  · exact ⟨-1, (I, R), (Im, Rm), by rw [c_isRun0 hx, k_bd, if_pos rfl], by rw [m_isLong0 hx, k_bd, if_pos rfl], r_same h⟩
  rw [c_isRun1 (by omega), m_isLong1 (by omega), k_bd, k_bd, if_neg (by decide), if_neg (by decide)]
  obtain ⟨I', e1, a1, k1⟩ := c_try (fu := fu) (n := n) hR hr hp (by omega) hf (k := fun r5 Sr5 => g_ld g_KC 90 g_kX2 (Sr5.2 0 1) fun a6 => g_ld g_KC 90 (.inr (3, 4, true)) (Sr5.2 a6 0) fun a7 => g_ix (nI d) 4 fun i8 => g_ld g_KC 90 g_kX1 (Sr5.2 a7 i8) fun a8 => some ((Sr5.1 a8 4), Sr5))
  obtain ⟨Im', e2, a2, k2⟩ := m_try (fu := fu) (n := n) hM hg h13 hp (by omega) hf
  refine ⟨nI (p_sum (p_gr (fun _ => false) p_cm P d) n), (I', R), (Im', Rm), e1.trans ?_, ?_, r_frame h hR (c_fr_kept k1) (m_fr_kept (by omega) k2)⟩
  · simp (disch := omega) only [c_ld1 hR, c_tr (fu := fu) hR]
    rw [a1.2.2 d hd]
  · rw [e2, k_bd]
    have := a2.2.2.2.2.2 d hd
    simp (disch := omega) only [m_ld18 hM, k_ix, this]
theorem o_lets {fu : Nat} {I Im : Nat → Nat → Int32} {R Rm : Nat → Nat → Option Nat} {t P Q0 Q1 : Nat → Nat} (h : r_all I R Im Rm t P Q0 Q1) (hf : 1000 < fu) (y : Int32) : ∃ r Sc1 Sm1, f_X7_lets fu 0 y (I, R) = some (r, Sc1) ∧ f_X8_lets fu 0 y (Im, Rm) = some (r, Sm1) ∧ r_Rel Sc1 Sm1 := by
  obtain ⟨hR, hM, ⟨hr, hg, hp, ho⟩, -, -, -, -, -, -, h13, -⟩ := id h
  unfold f_X7_lets f_X8_lets
  rcases a_cases y (n := 101) (by omega) with hx | ⟨n, hn, rfl⟩
  · exact ⟨-1, (I, R), (Im, Rm), by rw [c_isRun0 hx, k_bd, if_pos rfl], by rw [m_isLong0 hx, k_bd, if_pos rfl], r_same h⟩
  rw [c_isRun1 (by omega), m_isLong1 (by omega), k_bd, k_bd, if_neg (by decide), if_neg (by decide)]
  obtain ⟨I', e1, a1, k1⟩ := c_try (fu := fu) (n := n) hR hr hp (by omega) hf (k := fun r4 Sr4 => g_ld g_KC 90 g_kX2 (Sr4.2 0 1) fun a5 => g_bd (f_X2_tickOn fu a5 Sr4) fun r6 Sr6 => some (r6, Sr6))
  obtain ⟨Im', e2, a2, k2⟩ := m_try (fu := fu) (n := n) hM hg h13 hp (by omega) hf
  obtain ⟨I2, e3, a3, k3⟩ := c_tick1 (fu := fu) hR.2.1 a1 hp (by omega) (by omega)
  obtain ⟨Im2, e4, a4, k4⟩ := m_goesOn (fu := fu) hM a2 (m_kept_opn k2 (m_opn_none h13)) hp (by omega) (by omega) (by omega) (by omega)
  refine ⟨nI (p_gl (fun _ => false) p_cm P n), (I2, R), (Im2, Rm), e1.trans ?_, ?_, r_frame h hR (c_fr_kept (c_kept_trans k1 k3)) (m_fr_kept (by omega) (m_kept_trans k2 k4))⟩
  · simp only [c_ld1 hR, e3, k_bd]
  · rw [e2, k_bd, l_180, e4, k_bd]
