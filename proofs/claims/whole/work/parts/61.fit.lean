/-! ===== of which kind, how deep, how fast it may be ===== -/
def p_bt (ag : Nat → Bool) (lo : Nat) : Nat → Int32
  | 0 => nI 0
  | k + 1 => p_bt ag lo k ||| if ag (lo + k) = true then nI 1 <<< (nI (lo + k) &&& 31) else nI 0
def p_ag (P sn sv : Nat → Nat) (s w d v : Nat) : Bool := p_agr (p_gl (fun _ => false) p_cm (p_chg P w d v)) sn sv s
theorem h_rep_cfr {I J : Nat → Nat → Int32} {P : Nat → Nat} {T : Nat} (hr : h_rep I 1 (fun d => 4 + d) P) (hp : p_ok T P) (kJ : c_fr I J) : h_rep J 1 (fun d => 4 + d) P := h_rep_fr hr (kJ 1 (by omega)) (fun d hd => kJ _ (by have := hp.1; show 4 + d < 16 ∨ _; omega)) (fun i hi => kJ _ (by have := hp.2.1; omega))
theorem b_n_if {α : Type} {b : Bool} {A B : α} : (if nI (b_n b) = 0 then A else B) = if b = true then B else A := by
  cases b
  · rfl
  · rfl
theorem c_fitting {fu d w lo N s : Nat} {I : Nat → Nat → Int32} {R : Nat → Nat → Option Nat} {t P sn sv : Nat → Nat} (hR : c_R R t) (hr : h_rep I 1 (fun d => 4 + d) P) (hp : p_ok 999 P) (hs : c_sn I s sn sv) (hd : d < P 16) (hw : (w = 0 ∧ lo = 0 ∧ N = 4) ∨ (w = 1 ∧ lo = 1 ∧ N = 9) ∨ (w = 2 ∧ lo = 0 ∧ N = 10)) (hf : 1000 < fu) : ∃ J, f_X7_fitting fu 0 (nI d) (nI w) (I, R) = some (p_bt (p_ag P sn sv s w d) lo N, (J, R)) ∧ c_fr I J := by
  have b16 := hp.1
  have hhi : ∀ S : g_St, f_X7_highest fu (nI w) S = some (nI (lo + N - 1), S) := fun S => by
    rcases hw with ⟨rfl, rfl, rfl⟩ | ⟨rfl, rfl, rfl⟩ | ⟨rfl, rfl, rfl⟩ <;> rfl
  have hlo : ∀ S : g_St, f_X7_lowest fu (nI w) S = some (nI lo, S) := fun S => by
    rcases hw with ⟨rfl, rfl, rfl⟩ | ⟨rfl, rfl, rfl⟩ | ⟨rfl, rfl, rfl⟩ <;> rfl
  obtain ⟨b, e3, J, rfl, hJ⟩ := e_lp (body := fun q => b_X7_fitting_8 fu 0 (nI d) (nI w) q.1 q.2.1 q.2.2) N
    (fun i q => ∃ J, q = (p_bt (p_ag P sn sv s w d) lo i, nI (lo + i), (J, R)) ∧ c_fr I J)
    (fun b => ∃ J, b = (p_bt (p_ag P sn sv s w d) lo N, (J, R)) ∧ c_fr I J) (by
    rintro i q hi ⟨J, rfl, kJ⟩
    have hm : p_may P w d (lo + i) := by unfold p_may; omega
    have hok := p_ok_chg hp (show d < 4 by omega) hm
    obtain ⟨J1, e1, a1, k1⟩ := c_tryw (fu := fu) p_cm hR (h_rep_cfr hr hp kJ) hp hd hm hf
    obtain ⟨J2, e2, t2, k2⟩ := c_row (fu := fu) (a := 51) hR a1 hok (by omega) hf
    have kf : c_fr J J2 := fun a ha => by rw [k2 a (by omega) (by omega), k1 a (by omega)]
    have e4 := c_agrees (fu := fu) (a := 51) hR (c_sn_fr hs (c_fr_trans kJ kf)) t2 (p_gl_le hok p_few_cm) hf
    refine ⟨(p_bt (p_ag P sn sv s w d) lo (i + 1), nI (lo + (i + 1)), (J2, R)), ?_, J2, rfl, c_fr_trans kJ kf⟩
    show b_X7_fitting_8 fu 0 (nI d) (nI w) _ (nI (lo + i)) (J, R) = _
    unfold b_X7_fitting_8 j_X7_fitting_65_in8
    rw [hhi, k_bd, if_neg (nI_nlt (by omega) (by omega))]
    refine (e1 _).trans ?_
    simp only [c_ld9 hR, e2, k_bd, c_ld6 hR, e4, b_n_if, l_1, nI_add, Nat.add_assoc]
    show _ = some (Sum.inl (p_bt (p_ag P sn sv s w d) lo i ||| (if p_ag P sn sv s w d (lo + i) = true then nI 1 <<< (nI (lo + i) &&& 31) else nI 0), _, _))
    by_cases c : p_ag P sn sv s w d (lo + i) = true
    · rw [if_pos c]
      exact if_pos c
    · rw [if_neg c, show nI 0 = 0 from rfl, Int32.or_zero]
      exact if_neg c) (by
    rintro q ⟨J, rfl, h⟩
    refine ⟨_, ?_, J, rfl, h⟩
    show b_X7_fitting_8 fu 0 (nI d) (nI w) _ (nI (lo + N)) (J, R) = _
    unfold b_X7_fitting_8
    rw [hhi, k_bd]
    exact if_pos (nI_lt (by omega) (by omega))) 0 fu (nI 0, nI (lo + 0), (I, R)) (Nat.zero_le _) (by omega) ⟨I, rfl, fun _ _ => rfl⟩
  refine ⟨J, ?_, hJ⟩
  unfold f_X7_fitting
  rw [hlo, k_bd]
  exact (e_th e3).trans rfl
theorem o_kinds {fu : Nat} {I Im : Nat → Nat → Int32} {R Rm : Nat → Nat → Option Nat} {t P Q0 Q1 : Nat → Nat} (h : r_all I R Im Rm t P Q0 Q1) (hf : 1000 < fu) (x : Int32) : ∃ r Sc1 Sm1, f_X7_kinds fu 0 x (I, R) = some (r, Sc1) ∧ f_X8_kinds fu 0 x (Im, Rm) = some (r, Sm1) ∧ r_Rel Sc1 Sm1 := by
  obtain ⟨hR, hM, ⟨hr, hg, hp, ho⟩, -, -, hse, -, -, -, h13, -⟩ := id h
  have b16 := hp.1
  unfold f_X7_kinds f_X8_kinds
  rcases a_cases x (n := P 16) (by omega) with hx | ⟨d, hd, rfl⟩
  · exact ⟨-1, (I, R), (Im, Rm), by rw [c_isDoor0 hR hr b16 hx, k_bd, if_pos rfl], by rw [m_isDoor0 hM hg b16 hx, k_bd, if_pos rfl], r_same h⟩
  rw [c_isDoor1 hR hr b16 hd, m_isDoor1 hM hg b16 hd, k_bd, k_bd, if_neg (show ¬ (1 : Int32) = 0 by decide), if_neg (show ¬ (1 : Int32) = 0 by decide)]
  obtain ⟨s, sn, sv, cs, ms⟩ := r_sn hse
  obtain ⟨J, e1, kJ⟩ := c_fitting (fu := fu) (w := 0) (lo := 0) (N := 4) hR hr hp cs hd (Or.inl ⟨rfl, rfl, rfl⟩) hf
  obtain ⟨Im1, e2, g2, f2⟩ := m_copyO (fu := fu) hM hg hf
  obtain ⟨b, e3, Jm, rfl, hJm⟩ := e_lp (body := fun q => b_X8_kinds_22 fu 0 (nI d) q.1 q.2.1 q.2.2) 4
    (fun i q => ∃ J, q = (p_bt (p_ag P sn sv s 0 d) 0 i, nI i, (J, Rm)) ∧ m_oth J P 0 d ∧ m_fr Im J)
    (fun b => ∃ J, b = (p_bt (p_ag P sn sv s 0 d) 0 4, (J, Rm)) ∧ m_fr Im J) (by
    rintro i q hi ⟨J, rfl, oJ, kJ⟩
    have hm : p_may P 0 d i := by unfold p_may; omega
    have hok := p_ok_chg hp (show d < 4 by omega) hm
    have ku := m_fr_trans kJ (m_fr_u (I := J) (k := 225 + (4 * 0 + d)) (v := nI i) (by omega))
    obtain ⟨J2, e4, f4, -, -⟩ := m_asSeen (fu := fu) (p := 225) (row := 0) hM (m_oth_set (v := i) oJ (by omega)) (by omega) (m_fr_opn ku h13) hok (m_sn_fr ms ku) (by omega) hf
    rw [show 225 + (4 * 0 + d) = 225 + d by omega] at e4
    have e4' : f_X8_isAsSeen fu 0 225 0 (g_u J 1 (225 + d) (nI i), Rm) = _ := e4
    refine ⟨(p_bt (p_ag P sn sv s 0 d) 0 (i + 1), nI (i + 1), (J2, Rm)), ?_, J2, rfl, fun k h1 h2 => by rw [f4.2.1 _ (by omega), u_nk (by omega)]; exact oJ k h1 h2, m_fr_trans ku (m_fs_fr f4)⟩
    show b_X8_kinds_22 fu 0 (nI d) _ (nI i) (J, Rm) = _
    unfold b_X8_kinds_22 j_X8_kinds_57_in22
    rw [if_neg (show ¬ (4 : Int32) ≤ nI i from nI_ge (b := 4) hi (by omega))]
    have hix : (225 : Int32) + nI d = nI (225 + d) := nI_add 225 d
    simp (disch := omega) only [m_ld0 hM, hix, k_ix, e4', k_bd, b_n_if, nI_1]
    show _ = some (Sum.inl (p_bt (p_ag P sn sv s 0 d) 0 i ||| (if p_ag P sn sv s 0 d (0 + i) = true then nI 1 <<< (nI (0 + i) &&& 31) else nI 0), _, _))
    rw [Nat.zero_add]
    by_cases c : p_ag P sn sv s 0 d i = true
    · rw [if_pos c]
      exact if_pos c
    · rw [if_neg c]
      exact if_neg c) (by
    rintro q ⟨J, rfl, -, h⟩
    exact ⟨_, if_pos (show (4 : Int32) ≤ nI 4 from by decide), J, rfl, h⟩) 0 fu (nI 0, nI 0, (Im1, Rm)) (Nat.zero_le _) (by omega) ⟨Im1, rfl, m_pg_oth g2, f2⟩
  refine ⟨p_bt (p_ag P sn sv s 0 d) 0 4, (J, R), (Jm, Rm), ?_, ?_, r_frame h hR kJ hJm⟩
  · have e1' : f_X7_fitting fu 0 (nI d) 0 (I, R) = _ := e1
    rw [e1', k_bd]
  · rw [e2, k_bd]
    exact (e_th e3).trans rfl
theorem o_depths {fu : Nat} {I Im : Nat → Nat → Int32} {R Rm : Nat → Nat → Option Nat} {t P Q0 Q1 : Nat → Nat} (h : r_all I R Im Rm t P Q0 Q1) (hf : 1000 < fu) (x : Int32) : ∃ r Sc1 Sm1, f_X7_depths fu 0 x (I, R) = some (r, Sc1) ∧ f_X8_depths fu 0 x (Im, Rm) = some (r, Sm1) ∧ r_Rel Sc1 Sm1 := by
  obtain ⟨hR, hM, ⟨hr, hg, hp, ho⟩, -, -, hse, -, -, -, h13, -⟩ := id h
  have b16 := hp.1
  unfold f_X7_depths f_X8_depths
  rcases a_cases x (n := P 16) (by omega) with hx | ⟨d, hd, rfl⟩
  · exact ⟨-1, (I, R), (Im, Rm), by rw [c_isDoor0 hR hr b16 hx, k_bd, if_pos rfl], by rw [m_isDoor0 hM hg b16 hx, k_bd, if_pos rfl], r_same h⟩
  rw [c_isDoor1 hR hr b16 hd, m_isDoor1 hM hg b16 hd, k_bd, k_bd, if_neg (show ¬ (1 : Int32) = 0 by decide), if_neg (show ¬ (1 : Int32) = 0 by decide)]
  obtain ⟨s, sn, sv, cs, ms⟩ := r_sn hse
  obtain ⟨J, e1, kJ⟩ := c_fitting (fu := fu) (w := 1) (lo := 1) (N := 9) hR hr hp cs hd (Or.inr (Or.inl ⟨rfl, rfl, rfl⟩)) hf
  obtain ⟨b, e3, Jm, rfl, hJm⟩ := e_lp (body := fun q => b_X8_depths_14 fu 0 (nI d) q.1 q.2.1 q.2.2) 9
    (fun i q => ∃ J, q = (p_bt (p_ag P sn sv s 1 d) 1 i, nI (1 + i), (J, Rm)) ∧ m_fr Im J)
    (fun b => ∃ J, b = (p_bt (p_ag P sn sv s 1 d) 1 9, (J, Rm)) ∧ m_fr Im J) (by
    rintro i q hi ⟨J, rfl, kJ⟩
    have hm : p_may P 1 d (1 + i) := by unfold p_may; omega
    have hok := p_ok_chg hp (show d < 4 by omega) hm
    obtain ⟨J1, e1, g1, f1⟩ := m_copyO (fu := fu) hM (m_fr_pg kJ hg) hf
    obtain ⟨J2, e2, g2, h2, a2⟩ := m_deepOn (fu := fu) (p := 225) (d := d) (v := 1 + i) hM g1 hp (by omega) (by omega) (by omega)
    have f2 : m_fr J1 J2 := ⟨fun k _ => by rw [a2 0 (by decide)], fun k hk => h2 k (by omega), fun a _ h _ _ => a2 a h⟩
    have ku := m_fr_trans kJ (m_fr_trans f1 f2)
    obtain ⟨J3, e4, f4, -, -⟩ := m_asSeen (fu := fu) (p := 225) (row := 0) hM g2 (by omega) (m_fr_opn ku h13) hok (m_sn_fr ms ku) (by omega) hf
    have e4' : f_X8_isAsSeen fu 0 225 0 (J2, Rm) = _ := e4
    have e2' : f_X8_deepOn fu 0 225 (nI d) (nI (1 + i)) (J1, Rm) = _ := e2
    refine ⟨(p_bt (p_ag P sn sv s 1 d) 1 (i + 1), nI (1 + (i + 1)), (J3, Rm)), ?_, J3, rfl, m_fr_trans ku (m_fs_fr f4)⟩
    show b_X8_depths_14 fu 0 (nI d) _ (nI (1 + i)) (J, Rm) = _
    unfold b_X8_depths_14 j_X8_depths_56_in14
    rw [if_neg (show ¬ (9 : Int32) < nI (1 + i) from nI_nlt (a := 9) (by omega) (by omega)), e1, k_bd, e2', k_bd, e4', k_bd]
    simp only [b_n_if, nI_1, Nat.add_assoc]
    show _ = some (Sum.inl (p_bt (p_ag P sn sv s 1 d) 1 i ||| (if p_ag P sn sv s 1 d (1 + i) = true then nI 1 <<< (nI (1 + i) &&& 31) else nI 0), _, _))
    by_cases c : p_ag P sn sv s 1 d (1 + i) = true
    · rw [if_pos c]
      exact if_pos c
    · rw [if_neg c]
      exact if_neg c) (by
    rintro q ⟨J, rfl, h⟩
    exact ⟨_, if_pos (show (9 : Int32) < nI 10 from by decide), J, rfl, h⟩) 0 fu (nI 0, nI (1 + 0), (Im, Rm)) (Nat.zero_le _) (by omega) ⟨Im, rfl, m_fr_refl⟩
  refine ⟨p_bt (p_ag P sn sv s 1 d) 1 9, (J, R), (Jm, Rm), ?_, ?_, r_frame h hR kJ hJm⟩
  · have e1' : f_X7_fitting fu 0 (nI d) 1 (I, R) = _ := e1
    rw [e1', k_bd]
  · exact (e_th e3).trans rfl
theorem m_rates {fu d s : Nat} {Im : Nat → Nat → Int32} {Rm : Nat → Nat → Option Nat} {P sn sv : Nat → Nat} (hM : m_R Rm) (hg : m_pg Im 0 P) (h13 : Im 0 13 = -4) (hp : p_ok 999 P) (ms : m_sn Im s sn sv) (hd : d < 4) (hf : 1000 < fu) : ∃ J, f_X8_ratesOf fu 0 (nI d) (Im, Rm) = some (p_bt (p_ag P sn sv s 2 d) 0 10, (J, Rm)) ∧ m_fr Im J ∧ ∀ v k, v < 10 → k < 41 → J 8 (41 * v + k) = nI (p_gl (fun _ => false) p_cm (p_chg P 2 d v) k) := by
  obtain ⟨Im1, e2, g2, f2⟩ := m_copyO (fu := fu) hM hg hf
  obtain ⟨b, e3, Jm, rfl, hJm, tJm⟩ := e_lp (body := fun q => b_X8_ratesOf_12 fu 0 (nI d) q.1 q.2.1 q.2.2) 10
    (fun i q => ∃ J, q = (p_bt (p_ag P sn sv s 2 d) 0 i, nI i, (J, Rm)) ∧ m_oth J P 2 d ∧ m_fr Im J ∧ ∀ v k, v < i → k < 41 → J 8 (41 * v + k) = nI (p_gl (fun _ => false) p_cm (p_chg P 2 d v) k))
    (fun b => ∃ J, b = (p_bt (p_ag P sn sv s 2 d) 0 10, (J, Rm)) ∧ m_fr Im J ∧ ∀ v k, v < 10 → k < 41 → J 8 (41 * v + k) = nI (p_gl (fun _ => false) p_cm (p_chg P 2 d v) k)) (by
    rintro i q hi ⟨J, rfl, oJ, kJ, tJ⟩
    have hm : p_may P 2 d i := by unfold p_may; omega
    have hok := p_ok_chg hp hd hm
    have ku := m_fr_trans kJ (m_fr_u (I := J) (k := 225 + (4 * 2 + d)) (v := nI i) (by omega))
    obtain ⟨J2, e4, f4, t4, u4⟩ := m_asSeen (fu := fu) (p := 225) (row := i) hM (m_oth_set (v := i) oJ (by omega)) (by omega) (m_fr_opn ku h13) hok (m_sn_fr ms ku) (by omega) hf
    rw [show 225 + (4 * 2 + d) = 233 + d by omega] at e4
    have e4' : f_X8_isAsSeen fu 0 225 (nI i) (g_u J 1 (233 + d) (nI i), Rm) = _ := e4
    refine ⟨(p_bt (p_ag P sn sv s 2 d) 0 (i + 1), nI (i + 1), (J2, Rm)), ?_, J2, rfl, fun k h1 h2 => by rw [f4.2.1 _ (by omega), u_nk (by omega)]; exact oJ k h1 h2, m_fr_trans ku (m_fs_fr f4), fun v k hv hk => ?_⟩
    · show b_X8_ratesOf_12 fu 0 (nI d) _ (nI i) (J, Rm) = _
      unfold b_X8_ratesOf_12 j_X8_ratesOf_48_in12
      rw [if_neg (show ¬ (9 : Int32) < nI i from nI_nlt (a := 9) (by omega) (by omega))]
      have hix : (233 : Int32) + nI d = nI (233 + d) := nI_add 233 d
      simp (disch := omega) only [m_ld0 hM, hix, k_ix, e4', k_bd, b_n_if, nI_1]
      show _ = some (Sum.inl (p_bt (p_ag P sn sv s 2 d) 0 i ||| (if p_ag P sn sv s 2 d (0 + i) = true then nI 1 <<< (nI (0 + i) &&& 31) else nI 0), _, _))
      rw [Nat.zero_add]
      by_cases c : p_ag P sn sv s 2 d i = true
      · rw [if_pos c]
        exact if_pos c
      · rw [if_neg c]
        exact if_neg c
    · rcases Nat.lt_or_ge v i with z | z
      · rw [u4 _ (by omega), u_ni (by decide)]; exact tJ v k z hk
      · rw [show v = i by omega]; exact t4 k hk) (by
    rintro q ⟨J, rfl, -, h⟩
    exact ⟨_, if_pos (show (9 : Int32) < nI 10 from by decide), J, rfl, h⟩) 0 fu (nI 0, nI 0, (Im1, Rm)) (Nat.zero_le _) (by omega) ⟨Im1, rfl, m_pg_oth g2, f2, fun v k hv => absurd hv (Nat.not_lt_zero _)⟩
  refine ⟨Jm, ?_, hJm, tJm⟩
  unfold f_X8_ratesOf
  rw [e2, k_bd]
  exact (e_th e3).trans rfl
theorem o_rates {fu : Nat} {I Im : Nat → Nat → Int32} {R Rm : Nat → Nat → Option Nat} {t P Q0 Q1 : Nat → Nat} (h : r_all I R Im Rm t P Q0 Q1) (hf : 1000 < fu) (x : Int32) : ∃ r Sc1 Sm1, f_X7_rates fu 0 x (I, R) = some (r, Sc1) ∧ f_X8_rates fu 0 x (Im, Rm) = some (r, Sm1) ∧ r_Rel Sc1 Sm1 := by
  obtain ⟨hR, hM, ⟨hr, hg, hp, ho⟩, -, -, hse, -, -, -, h13, -⟩ := id h
  have b16 := hp.1
  unfold f_X7_rates f_X8_rates
  rcases a_cases x (n := P 16) (by omega) with hx | ⟨d, hd, rfl⟩
  · exact ⟨-1, (I, R), (Im, Rm), by rw [c_isDoor0 hR hr b16 hx, k_bd, if_pos rfl], by rw [m_isDoor0 hM hg b16 hx, k_bd, if_pos rfl], r_same h⟩
  rw [c_isDoor1 hR hr b16 hd, m_isDoor1 hM hg b16 hd, k_bd, k_bd, if_neg (show ¬ (1 : Int32) = 0 by decide), if_neg (show ¬ (1 : Int32) = 0 by decide)]
  obtain ⟨s, sn, sv, cs, ms⟩ := r_sn hse
  obtain ⟨J, e1, kJ⟩ := c_fitting (fu := fu) (w := 2) (lo := 0) (N := 10) hR hr hp cs hd (Or.inr (Or.inr ⟨rfl, rfl, rfl⟩)) hf
  obtain ⟨Jm, e2, kM, -⟩ := m_rates (fu := fu) (d := d) hM hg h13 hp ms (by omega) hf
  refine ⟨_, (J, R), (Jm, Rm), ?_, by rw [e2, k_bd], r_frame h hR kJ kM⟩
  have e1' : f_X7_fitting fu 0 (nI d) 2 (I, R) = _ := e1
  rw [e1', k_bd]
