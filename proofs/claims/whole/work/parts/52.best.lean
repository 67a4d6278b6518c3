/-! ===== a trial with a door changed ===== -/
theorem chg_16 {P : Nat → Nat} {w d v : Nat} (hw : w < 4) (hd : d < 4) : p_chg P w d v 16 = P 16 := chg_ne (by omega) (by omega)
theorem p_may_lt {P : Nat → Nat} {w d v : Nat} (h : p_may P w d v) : w < 4 := by unfold p_may at h; omega
theorem c_tryw {fu d w v : Nat} {I : Nat → Nat → Int32} {R : Nat → Nat → Option Nat} {t P : Nat → Nat} (cm : Nat → (Nat → Nat) → Nat) (hR : c_R R t) (hr : h_rep I 1 (fun d => 4 + d) P) (hp : p_ok 999 P) (hd : d < P 16) (hm : p_may P w d v) (hf : 1000 < fu) : ∃ I', (∀ {β : Type} (k : Unit → g_St → Option β), (g_bd (f_X7_startTrial fu 0 (I, R)) fun _ S => g_ld g_KC 90 g_kX2 (S.2 0 1) fun a4 => g_ld g_KC 90 (.inr (3, 4, true)) (S.2 a4 0) fun a5 => g_ix (nI d) 4 fun i6 => g_ld g_KC 90 g_kX1 (S.2 a5 i6) fun a6 => g_bd (f_X1_change fu a6 (nI w) (nI v) S) k) = k () (I', R)) ∧ c_at I' t (fun _ => false) cm (p_chg P w d v) 0 ∧ c_kept I I' := by
  have b16 := hp.1
  have hw := p_may_lt hm
  obtain ⟨I1, e1, a1, k1⟩ := c_startTrial (fu := fu) cm hR hr hp (by omega)
  have hz := p_z_ok hp
  have ez := @p_z_eqx P
  have e16 : p_z P 16 = P 16 := ez 16 (by omega) (by omega)
  have hm' : p_may (p_z P) w d v := by unfold p_may at hm ⊢; rw [ez (4 + d) (by omega) (by omega)]; exact hm
  have hdo := hR.2.1.2.2.2.2.2.2.2.2.2.2
  have inj := hR.2.1.2.2.2.2.2.2.2.2.2.1
  obtain ⟨I2, e2, r2, k2, q4, q5⟩ := c_change (fu := fu) hR.2.1 a1.1 hz (by show d < p_z P 16; rw [e16]; exact hd) hm'
  have e16' := chg_16 (P := P) (v := v) hw (show d < 4 by omega)
  refine ⟨I2, ?_, ⟨?_, fun e he => ?_, fun e he => ?_⟩, c_kept_trans k1 (fun a ha => k2 a (by have := hdo d (by omega); omega))⟩
  · intro β k
    rw [e1, k_bd]
    simp (disch := omega) only [c_ld1 hR, c_tr (fu := fu) hR]
    rw [e2, k_bd]
  · show h_rep I2 16 t (p_z (p_chg P w d v))
    rw [p_z_chg hw (by omega)]; exact r2
  · rw [e16'] at he
    by_cases c : e = d
    · subst c
      rw [q5]; exact a1.2.1 e he
    · rw [k2 (t e) (fun q => c (inj e d (by omega) (by omega) q))]; exact a1.2.1 e he
  · rw [e16'] at he
    by_cases c : e = d
    · subst c
      rw [q4]; exact a1.2.2 e he
    · rw [k2 (t e) (fun q => c (inj e d (by omega) (by omega) q))]; exact a1.2.2 e he
/-! ===== the reference's other page ===== -/
def m_oth (I : Nat → Nat → Int32) (P : Nat → Nat) (w d : Nat) : Prop := ∀ k, k < 45 → k ≠ 4 * w + d → I 1 (225 + k) = nI (P k)
theorem m_oth_set {I : Nat → Nat → Int32} {P : Nat → Nat} {w d v : Nat} (h : m_oth I P w d) (hw : w ≠ 1) : m_pg (g_u I 1 (225 + (4 * w + d)) (nI v)) 225 (p_chg P w d v) := by
  intro k hk
  by_cases c : k = 4 * w + d
  · subst c
    rw [u_at, chg_at]
  · rw [u_nk (by omega), chg_ne c (by omega)]
    exact h k hk c
theorem m_fr_u {I : Nat → Nat → Int32} {k : Nat} {v : Int32} (hk : 135 ≤ k) : m_fr I (g_u I 1 k v) := ⟨fun _ _ => u_ni (by decide), fun _ h => u_nk (by omega), fun _ _ h _ _ => g_u_ne h⟩
theorem m_fr_opn {I I' : Nat → Nat → Int32} (h : m_fr I I') (h13 : I 0 13 = -4) : I' 0 13 = -4 := by rw [h.1 13 (by omega)]; exact h13
theorem m_fr_pg {I I' : Nat → Nat → Int32} {P : Nat → Nat} (h : m_fr I I') (hg : m_pg I 0 P) : m_pg I' 0 P := fun k hk => by rw [h.2.1 (0 + k) (by omega)]; exact hg k hk
theorem m_copyO {fu : Nat} {I : Nat → Nat → Int32} {R : Nat → Nat → Option Nat} {P : Nat → Nat} (hM : m_R R) (hg : m_pg I 0 P) (hf : 1000 < fu) : ∃ I', f_X8_copies fu 0 0 225 (I, R) = some ((), (I', R)) ∧ m_pg I' 225 P ∧ m_fr I I' := by
  obtain ⟨I1, e1, g1, h1, a1⟩ := m_copies (fu := fu) (q := 225) hM hg (by omega) (by omega) (by omega) (by omega)
  exact ⟨I1, e1, g1, fun k _ => by rw [a1 0 (by decide)], fun k hk => h1 k (by omega), fun a _ h _ _ => a1 a h⟩
theorem m_oth_kept {I I' : Nat → Nat → Int32} {P : Nat → Nat} {w d : Nat} (h : m_oth I P w d) (hk : m_kept I I' 180) : m_oth I' P w d := fun k h1 h2 => by rw [hk.2.1 _ (by omega)]; exact h k h1 h2
theorem m_pg_oth {I : Nat → Nat → Int32} {P : Nat → Nat} {w d : Nat} (h : m_pg I 225 P) : m_oth I P w d := fun k h1 _ => h k h1
theorem m_oth_u {I : Nat → Nat → Int32} {P : Nat → Nat} {w d : Nat} {v : Int32} (h : m_oth I P w d) : m_oth (g_u I 1 (225 + (4 * w + d)) v) P w d := fun k h1 h2 => by rw [u_nk (by omega)]; exact h k h1 h2
/-- ticks of the other page, a number of it set -/
theorem m_tryo {fu n d w v : Nat} {I : Nat → Nat → Int32} {R : Nat → Nat → Option Nat} {P : Nat → Nat} (hM : m_R R) (h : m_oth I P w d) (h13 : I 0 13 = -4) (hp : p_ok 999 P) (hd : d < 4) (hw : w ≠ 1) (hm : p_may P w d v) (hn : n ≤ 100) (hf : 1000 < fu) : ∃ I', f_X8_ticksGo fu 0 225 (nI n) (g_u I 1 (225 + (4 * w + d)) (nI v), R) = some (nI (p_sum (p_gl (fun _ => false) p_cm (p_chg P w d v)) n), (I', R)) ∧ m_at I' 180 (fun _ => false) p_cm (p_chg P w d v) n ∧ m_oth I' P w d ∧ m_fr I I' := by
  obtain ⟨I', e, a, k⟩ := m_ticksGo (fu := fu) (p := 225) (n := n) hM (m_oth_set (v := v) h hw) (m_opn_none (by rw [u_ni (by decide)]; exact h13)) (p_ok_chg hp hd hm) (by omega) (by omega) (by omega) (by omega)
  exact ⟨I', e, a, m_oth_kept (m_oth_u h) k, m_fr_trans (m_fr_u (by omega)) (m_fr_kept (by omega) k)⟩
/-! ===== how deep, how fast ===== -/
def q_none (P : Nat → Nat) (w d n v : Nat) : Prop := p_sum (p_gr (fun _ => false) p_cm (p_chg P w d v) d) n = 0
theorem c_least {fu d w n lo : Nat} {I : Nat → Nat → Int32} {R : Nat → Nat → Option Nat} {t P : Nat → Nat} (hR : c_R R t) (hr : h_rep I 1 (fun d => 4 + d) P) (hp : p_ok 999 P) (hd : d < P 16) (hw : (w = 1 ∧ lo = 1) ∨ (w = 2 ∧ lo = 0)) (hn : n ≤ 100) (hf : 1000 < fu) : ∃ r J, f_X7_leastUnrefusing fu 0 (nI d) (nI w) (nI n) (I, R) = some (r, (J, R)) ∧ c_kept I J ∧ f_first (q_none P w d n) lo 10 r := by
  have b16 := hp.1
  have hhi : ∀ S : g_St, f_X7_highest fu (nI w) S = some (9, S) := fun S => by
    rcases hw with ⟨rfl, _⟩ | ⟨rfl, _⟩ <;> rfl
  have hlo : ∀ S : g_St, f_X7_lowest fu (nI w) S = some (nI lo, S) := fun S => by
    rcases hw with ⟨rfl, rfl⟩ | ⟨rfl, rfl⟩ <;> rfl
  obtain ⟨b, e3, r, J, hb, hJ, fJ⟩ := e_lpx (body := fun s => b_X7_leastUnrefusing_6 fu 0 (nI d) (nI w) (nI n) s.1 s.2) 10
    (fun i s => ∃ J, s = (nI i, (J, R)) ∧ lo ≤ i ∧ c_kept I J ∧ ∀ j, lo ≤ j → j < i → ¬ q_none P w d n j)
    (fun b => ∃ r J, (b = .inl (J, R) ∧ r = -4 ∨ b = .inr (r, (J, R))) ∧ c_kept I J ∧ f_first (q_none P w d n) lo 10 r) (by
    rintro i s hi ⟨J, rfl, hl, kJ, hj⟩
    have hrJ : h_rep J 1 (fun d => 4 + d) P := h_rep_fr hr (kJ 1 (by omega)) (fun d hd => kJ _ (by show 4 + d < 16 ∨ _; omega)) (fun i hi => kJ _ (by have := hp.2.1; omega))
    have hm : p_may P w d i := by unfold p_may; omega
    have hok := p_ok_chg hp (show d < 4 by omega) hm
    have e16 := chg_16 (P := P) (v := i) (p_may_lt hm) (show d < 4 by omega)
    obtain ⟨J1, e1, a1, k1⟩ := c_tryw (fu := fu) p_cm hR hrJ hp hd hm hf
    obtain ⟨J2, e2, a2, k2⟩ := c_run (fu := fu) (n := n) hR.2.1 a1 hok (by omega) (by omega) (by omega)
    have l1 := p_sum_le (p_gr_le (d := d) (opn := fun _ => false) hok p_few_cm) n
    have q4 := a2.2.2 d (by rw [e16]; exact hd)
    have step : b_X7_leastUnrefusing_6 fu 0 (nI d) (nI w) (nI n) (nI i) (J, R) = if p_sum (p_gr (fun _ => false) p_cm (p_chg P w d i) d) n = 0 then some (.inr (.inr (nI i, (J2, R)))) else some (.inl (nI (i + 1), (J2, R))) := by
      unfold b_X7_leastUnrefusing_6
      rw [hhi, k_bd, if_neg (show ¬ (9 : Int32) < nI i from nI_nlt (a := 9) (by omega) (by omega))]
      refine (e1 _).trans ?_
      simp (disch := omega) only [c_ld1 hR, e2, k_bd, c_tr (fu := fu) hR, q4, l_0, nI_eq, nI_1]
    by_cases c : p_sum (p_gr (fun _ => false) p_cm (p_chg P w d i) d) n = 0
    · rw [if_pos c] at step
      exact Or.inr ⟨_, step, nI i, J2, Or.inr rfl, c_kept_trans kJ (c_kept_trans k1 k2), Or.inr ⟨i, hl, hi, hj, c, rfl⟩⟩
    · rw [if_neg c] at step
      refine Or.inl ⟨_, step, J2, rfl, by omega, c_kept_trans kJ (c_kept_trans k1 k2), fun j h0 h1 => ?_⟩
      rcases Nat.lt_or_ge j i with q | q
      · exact hj j h0 q
      · rw [show j = i by omega]; exact c) (by
    rintro s ⟨J, rfl, hl, kJ, hj⟩
    refine ⟨.inl (J, R), ?_, -4, J, Or.inl ⟨rfl, rfl⟩, kJ, Or.inl ⟨hj, rfl⟩⟩
    show b_X7_leastUnrefusing_6 fu 0 (nI d) (nI w) (nI n) (nI 10) (J, R) = _
    unfold b_X7_leastUnrefusing_6
    rw [hhi, k_bd]
    exact if_pos (by decide)) lo fu (nI lo, (I, R)) (by omega) (by omega) ⟨I, rfl, Nat.le_refl _, fun _ _ => rfl, fun j h0 hj => by omega⟩
  refine ⟨r, J, ?_, hJ, fJ⟩
  unfold f_X7_leastUnrefusing
  rw [hlo, k_bd]
  refine (e_th e3).trans ?_
  rcases hb with ⟨rfl, rfl⟩ | rfl <;> rfl
theorem o_rate {fu : Nat} {I Im : Nat → Nat → Int32} {R Rm : Nat → Nat → Option Nat} {t P Q0 Q1 : Nat → Nat} (h : r_all I R Im Rm t P Q0 Q1) (hf : 1000 < fu) (x y : Int32) : ∃ r Sc1 Sm1, f_X7_rate fu 0 x y (I, R) = some (r, Sc1) ∧ f_X8_rate fu 0 x y (Im, Rm) = some (r, Sm1) ∧ r_Rel Sc1 Sm1 := by
  obtain ⟨hR, hM, ⟨hr, hg, hp, ho⟩, -, -, -, -, -, -, h13, -⟩ := id h
  have b16 := hp.1
  unfold f_X7_rate f_X8_rate
  rcases a_cases x (n := P 16) (by omega) with hx | ⟨d, hd, rfl⟩
  · exact ⟨-1, (I, R), (Im, Rm), by rw [c_isDoor0 hR hr b16 hx, k_bd, if_pos rfl], by rw [m_isDoor0 hM hg b16 hx, k_bd, if_pos rfl], r_same h⟩
  rw [c_isDoor1 hR hr b16 hd, m_isDoor1 hM hg b16 hd, k_bd, k_bd, if_neg (by decide), if_neg (by decide)]
  rcases a_cases y (n := 101) (by omega) with hx | ⟨n, hn, rfl⟩
  · exact ⟨-1, (I, R), (Im, Rm), by rw [c_isRun0 hx, k_bd, if_pos rfl], by rw [m_isLong0 hx, k_bd, if_pos rfl], r_same h⟩
  rw [c_isRun1 (by omega), m_isLong1 (by omega), k_bd, k_bd, if_neg (by decide), if_neg (by decide)]
  obtain ⟨r, J, e1, kJ, fJ⟩ := c_least (fu := fu) (n := n) (w := 2) hR hr hp hd (Or.inr ⟨rfl, rfl⟩) (by omega) hf
  obtain ⟨Im1, e2, g2, f2⟩ := m_copyO (fu := fu) hM hg hf
  obtain ⟨bm, e4, r', Jm, hbm, hJm, fJm⟩ := e_lpx (body := fun s => b_X8_rate_27 fu 0 (nI d) (nI n) s.1 s.2) 10
    (fun i s => ∃ J, s = (nI i, (J, Rm)) ∧ m_oth J P 2 d ∧ m_fr Im J ∧ ∀ j, 0 ≤ j → j < i → ¬ q_none P 2 d n j)
    (fun b => ∃ r J, (b = .inl (J, Rm) ∧ r = -4 ∨ b = .inr (r, (J, Rm))) ∧ m_fr Im J ∧ f_first (q_none P 2 d n) 0 10 r) (by
    rintro i s hi ⟨J, rfl, oJ, kJ, hj⟩
    have hm : p_may P 2 d i := by unfold p_may; omega
    obtain ⟨J2, e, a3, o3, k3⟩ := m_tryo (fu := fu) (n := n) hM oJ (m_fr_opn kJ h13) hp (show d < 4 by omega) (by omega) hm (by omega) hf
    have hok := p_ok_chg hp (show d < 4 by omega) hm
    have e16 := chg_16 (P := P) (v := i) (p_may_lt hm) (show d < 4 by omega)
    have l1 := p_sum_le (p_gr_le (d := d) (opn := fun _ => false) hok p_few_cm) n
    have q4 := a3.2.2.2.2.2 d (by rw [e16]; exact hd)
    have ei : 233 + d = 225 + (4 * 2 + d) := by omega
    have step : b_X8_rate_27 fu 0 (nI d) (nI n) (nI i) (J, Rm) = if p_sum (p_gr (fun _ => false) p_cm (p_chg P 2 d i) d) n = 0 then some (.inr (.inr (nI i, (J2, Rm)))) else some (.inl (nI (i + 1), (J2, Rm))) := by
      unfold b_X8_rate_27
      rw [if_neg (show ¬ (9 : Int32) < nI i from nI_nlt (a := 9) (by omega) (by omega))]
      simp (disch := omega) only [m_ld0 hM, m_ld18 hM, l_233, nI_add, k_ix, ei, e, k_bd, q4, l_0, nI_eq, nI_1]
    by_cases c : p_sum (p_gr (fun _ => false) p_cm (p_chg P 2 d i) d) n = 0
    · rw [if_pos c] at step
      exact Or.inr ⟨_, step, nI i, J2, Or.inr rfl, m_fr_trans kJ k3, Or.inr ⟨i, by omega, hi, hj, c, rfl⟩⟩
    · rw [if_neg c] at step
      refine Or.inl ⟨_, step, J2, rfl, o3, m_fr_trans kJ k3, fun j h0 h1 => ?_⟩
      rcases Nat.lt_or_ge j i with q | q
      · exact hj j h0 q
      · rw [show j = i by omega]; exact c) (by
    rintro s ⟨J, rfl, oJ, kJ, hj⟩
    exact ⟨.inl (J, Rm), if_pos (show (9 : Int32) < nI 10 from by decide), -4, J, Or.inl ⟨rfl, rfl⟩, kJ, Or.inl ⟨hj, rfl⟩⟩) 0 fu (nI 0, (Im1, Rm)) (Nat.zero_le _) (by omega) ⟨Im1, rfl, m_pg_oth g2, f2, fun j _ hj => absurd hj (Nat.not_lt_zero _)⟩
  have er := f_uniq fJ fJm
  subst er
  refine ⟨r, (J, R), (Jm, Rm), ?_, ?_, r_frame h hR (c_fr_kept kJ) hJm⟩
  · have e1' : f_X7_leastUnrefusing fu 0 (nI d) 2 (nI n) (I, R) = _ := e1
    rw [e1', k_bd]
  · rw [e2, k_bd]
    refine (e_th e4).trans ?_
    rcases hbm with ⟨rfl, rfl⟩ | rfl <;> rfl
theorem o_depth {fu : Nat} {I Im : Nat → Nat → Int32} {R Rm : Nat → Nat → Option Nat} {t P Q0 Q1 : Nat → Nat} (h : r_all I R Im Rm t P Q0 Q1) (hf : 1000 < fu) (x y : Int32) : ∃ r Sc1 Sm1, f_X7_depth fu 0 x y (I, R) = some (r, Sc1) ∧ f_X8_depth fu 0 x y (Im, Rm) = some (r, Sm1) ∧ r_Rel Sc1 Sm1 := by
  obtain ⟨hR, hM, ⟨hr, hg, hp, ho⟩, -, -, -, -, -, -, h13, -⟩ := id h
  have b16 := hp.1
  unfold f_X7_depth f_X8_depth
  rcases a_cases x (n := P 16) (by omega) with hx | ⟨d, hd, rfl⟩
  · exact ⟨-1, (I, R), (Im, Rm), by rw [c_isDoor0 hR hr b16 hx, k_bd, if_pos rfl], by rw [m_isDoor0 hM hg b16 hx, k_bd, if_pos rfl], r_same h⟩
  rw [c_isDoor1 hR hr b16 hd, m_isDoor1 hM hg b16 hd, k_bd, k_bd, if_neg (by decide), if_neg (by decide)]
  rcases a_cases y (n := 101) (by omega) with hx | ⟨n, hn, rfl⟩
  · exact ⟨-1, (I, R), (Im, Rm), by rw [c_isRun0 hx, k_bd, if_pos rfl], by rw [m_isLong0 hx, k_bd, if_pos rfl], r_same h⟩
  rw [c_isRun1 (by omega), m_isLong1 (by omega), k_bd, k_bd, if_neg (by decide), if_neg (by decide)]
  obtain ⟨r, J, e1, kJ, fJ⟩ := c_least (fu := fu) (n := n) (w := 1) hR hr hp hd (Or.inl ⟨rfl, rfl⟩) (by omega) hf
  obtain ⟨bm, e4, r', Jm, hbm, hJm, fJm⟩ := e_lpx (body := fun s => b_X8_depth_19 fu 0 (nI d) (nI n) s.1 s.2) 10
    (fun i s => ∃ J, s = (nI i, (J, Rm)) ∧ 1 ≤ i ∧ m_fr Im J ∧ ∀ j, 1 ≤ j → j < i → ¬ q_none P 1 d n j)
    (fun b => ∃ r J, (b = .inl (J, Rm) ∧ r = -4 ∨ b = .inr (r, (J, Rm))) ∧ m_fr Im J ∧ f_first (q_none P 1 d n) 1 10 r) (by
    rintro i s hi ⟨J, rfl, hl, kJ, hj⟩
    have hm : p_may P 1 d i := by unfold p_may; omega
    have hok := p_ok_chg hp (show d < 4 by omega) hm
    obtain ⟨J1, e1, g1, f1⟩ := m_copyO (fu := fu) hM (m_fr_pg kJ hg) hf
    obtain ⟨J2, e2, g2, h2, a2⟩ := m_deepOn (fu := fu) (p := 225) (d := d) (v := i) hM g1 hp (by omega) (by omega) (by omega)
    have f2 : m_fr J1 J2 := ⟨fun k _ => by rw [a2 0 (by decide)], fun k hk => h2 k (by omega), fun a _ h _ _ => a2 a h⟩
    obtain ⟨J3, e3, a3, k3⟩ := m_ticksGo (fu := fu) (p := 225) (n := n) hM g2 (m_opn_none (m_fr_opn (m_fr_trans kJ (m_fr_trans f1 f2)) h13)) hok (by omega) (by omega) (by omega) (by omega)
    have kf := m_fr_trans kJ (m_fr_trans f1 (m_fr_trans f2 (m_fr_kept (by omega) k3)))
    have e16 := chg_16 (P := P) (v := i) (p_may_lt hm) (show d < 4 by omega)
    have l1 := p_sum_le (p_gr_le (d := d) (opn := fun _ => false) hok p_few_cm) n
    have q4 := a3.2.2.2.2.2 d (by rw [e16]; exact hd)
    have step : b_X8_depth_19 fu 0 (nI d) (nI n) (nI i) (J, Rm) = if p_sum (p_gr (fun _ => false) p_cm (p_chg P 1 d i) d) n = 0 then some (.inr (.inr (nI i, (J3, Rm)))) else some (.inl (nI (i + 1), (J3, Rm))) := by
      unfold b_X8_depth_19
      rw [if_neg (show ¬ (9 : Int32) < nI i from nI_nlt (a := 9) (by omega) (by omega)), e1, k_bd, l_225, e2, k_bd, e3, k_bd]
      simp (disch := omega) only [m_ld18 hM, k_ix, q4, l_0, nI_eq, nI_1]
    by_cases c : p_sum (p_gr (fun _ => false) p_cm (p_chg P 1 d i) d) n = 0
    · rw [if_pos c] at step
      exact Or.inr ⟨_, step, nI i, J3, Or.inr rfl, kf, Or.inr ⟨i, by omega, hi, hj, c, rfl⟩⟩
    · rw [if_neg c] at step
      refine Or.inl ⟨_, step, J3, rfl, by omega, kf, fun j h0 h1 => ?_⟩
      rcases Nat.lt_or_ge j i with q | q
      · exact hj j h0 q
      · rw [show j = i by omega]; exact c) (by
    rintro s ⟨J, rfl, hl, kJ, hj⟩
    exact ⟨.inl (J, Rm), if_pos (show (9 : Int32) < nI 10 from by decide), -4, J, Or.inl ⟨rfl, rfl⟩, kJ, Or.inl ⟨hj, rfl⟩⟩) 1 fu (nI 1, (Im, Rm)) (by omega) (by omega) ⟨Im, rfl, by omega, m_fr_refl, fun j _ hj => by omega⟩
  have er := f_uniq fJ fJm
  subst er
  refine ⟨r, (J, R), (Jm, Rm), ?_, ?_, r_frame h hR (c_fr_kept kJ) hJm⟩
  · have e1' : f_X7_leastUnrefusing fu 0 (nI d) 1 (nI n) (I, R) = _ := e1
    rw [e1', k_bd]
  · refine (e_th e4).trans ?_
    rcases hbm with ⟨rfl, rfl⟩ | rfl <;> rfl
