/-! ===== the first by which most are let ===== -/
def p_fold (f : Nat → Nat) (g : Nat → Int32) (s : Int32 × Int32) : Nat → Int32 × Int32
  | 0 => s
  | i + 1 => if nI (f i) ≤ (p_fold f g s i).1 then p_fold f g s i else (nI (f i), g i)
def p_bst (P : Nat → Nat) (w d last n : Nat) (y : Int32) : Int32 := if y = 0 then (p_fold (fun v => p_sum (p_gl (fun _ => false) p_cm (p_chg P w d v)) n) nI (-1, nI 0) (last + 1)).2 else (p_fold (fun v => p_sum (p_gl (fun _ => false) p_cm (p_chg P w d v)) n) nI (-1, nI 0) (last + 1)).1
theorem h_rep_fr_u {I : Nat → Nat → Int32} {o a : Nat} {v : Int32} {dr P : Nat → Nat} (h : h_rep I o dr P) (ho : a ≠ o) : h_rep (g_u I a 5 v) o dr P := by
  obtain ⟨x1, x2, x3, x4, x5, f, g⟩ := h
  have hn : ∀ k, (g_u I a 5 v) o k = I o k := fun k => by rw [g_u_ne (Ne.symm ho)]
  refine ⟨by rw [hn]; exact x1, by rw [hn]; exact x2, by rw [hn]; exact x3, by rw [hn]; exact x4, by rw [hn]; exact x5, fun d hd => ?_, fun i hi => ?_⟩
  · rw [u_nk (by decide), u_nk (by decide), u_nk (by decide), u_nk (by decide)]; exact f d hd
  · rw [u_nk (by decide), u_nk (by decide), u_nk (by decide)]; exact g i hi
theorem h_rep_kept {I J : Nat → Nat → Int32} {P : Nat → Nat} {T : Nat} (hr : h_rep I 1 (fun d => 4 + d) P) (hp : p_ok T P) (kJ : c_kept I J) : h_rep J 1 (fun d => 4 + d) P := h_rep_fr hr (kJ 1 (by omega)) (fun d hd => kJ _ (by have := hp.1; show 4 + d < 16 ∨ _; omega)) (fun i hi => kJ _ (by have := hp.2.1; omega))
theorem c_best {fu d w n last : Nat} {y : Int32} {I : Nat → Nat → Int32} {R : Nat → Nat → Option Nat} {t P : Nat → Nat} (hR : c_R R t) (hr : h_rep I 1 (fun d => 4 + d) P) (hp : p_ok 999 P) (hd : d < P 16) (hm : ∀ v, v ≤ last → p_may P w d v) (hl : last ≤ 9) (hn : n ≤ 100) (hf : 1000 < fu) : ∃ J, f_X7_bestChange fu 0 (nI d) (nI w) (nI last) (nI n) y (I, R) = some (if y = 0 then (p_fold (fun v => p_sum (p_gl (fun _ => false) p_cm (p_chg P w d v)) n) nI (-1, nI 0) (last + 1)).2 else (p_fold (fun v => p_sum (p_gl (fun _ => false) p_cm (p_chg P w d v)) n) nI (-1, nI 0) (last + 1)).1, (J, R)) ∧ c_kept I J := by
  have b16 := hp.1
  generalize hF : p_fold (fun v => p_sum (p_gl (fun _ => false) p_cm (p_chg P w d v)) n) nI (-1, nI 0) = F
  obtain ⟨b, e3, J, rfl, hJ⟩ := e_lp (body := fun s => b_X7_bestChange_9 fu 0 (nI d) (nI w) (nI last) (nI n) y s.1 s.2.1 s.2.2.1 s.2.2.2) (last + 1)
    (fun i s => ∃ J, s = ((F i).1, (F i).2, nI i, (J, R)) ∧ c_kept I J)
    (fun b => ∃ J, b = ((F (last + 1)).1, (F (last + 1)).2, (J, R)) ∧ c_kept I J) (by
    rintro i s hi ⟨J, rfl, kJ⟩
    have hmi := hm i (by omega)
    have hok := p_ok_chg hp (show d < 4 by omega) hmi
    obtain ⟨J1, e1, a1, k1⟩ := c_tryw (fu := fu) p_cm hR (h_rep_kept hr hp kJ) hp hd hmi hf
    obtain ⟨J2, e2, a2, k2⟩ := c_run (fu := fu) (n := n) hR.2.1 a1 hok (by omega) (by omega) (by omega)
    refine ⟨((F (i + 1)).1, (F (i + 1)).2, nI (i + 1), (J2, R)), ?_, J2, rfl, c_kept_trans kJ (c_kept_trans k1 k2)⟩
    show b_X7_bestChange_9 fu 0 (nI d) (nI w) (nI last) (nI n) y (F i).1 (F i).2 (nI i) (J, R) = _
    unfold b_X7_bestChange_9 j_X7_bestChange_60_in9
    rw [if_neg (nI_nlt (by omega) (by omega))]
    refine (e1 _).trans ?_
    simp only [c_ld1 hR, e2, k_bd, nI_1]
    have eF : F (i + 1) = if nI (p_sum (p_gl (fun _ => false) p_cm (p_chg P w d i)) n) ≤ (F i).1 then F i else (nI (p_sum (p_gl (fun _ => false) p_cm (p_chg P w d i)) n), nI i) := by rw [← hF]; rfl
    rw [eF]
    by_cases c : nI (p_sum (p_gl (fun _ => false) p_cm (p_chg P w d i)) n) ≤ (F i).1
    · rw [if_pos c, if_pos c]
    · rw [if_neg c, if_neg c]) (by
    rintro s ⟨J, rfl, h⟩
    refine ⟨_, ?_, J, rfl, h⟩
    show b_X7_bestChange_9 fu 0 (nI d) (nI w) (nI last) (nI n) y _ _ (nI (last + 1)) (J, R) = _
    unfold b_X7_bestChange_9
    exact if_pos (nI_lt (by omega) (by omega))) 0 fu ((-1 : Int32), nI 0, nI 0, (I, R)) (Nat.zero_le _) (by omega) ⟨I, by rw [← hF]; rfl, fun _ _ => rfl⟩
  refine ⟨J, ?_, hJ⟩
  unfold f_X7_bestChange
  refine (e_th e3).trans ?_
  exact k_push
theorem m_best {fu d w n last : Nat} {y : Int32} {Im : Nat → Nat → Int32} {Rm : Nat → Nat → Option Nat} {P : Nat → Nat} (hM : m_R Rm) (hg : m_pg Im 0 P) (h13 : Im 0 13 = -4) (hp : p_ok 999 P) (hd : d < 4) (hw : w ≠ 1) (hm : ∀ v, v ≤ last → p_may P w d v) (hl : last ≤ 9) (hn : n ≤ 100) (hf : 1000 < fu) : ∃ J, f_X8_mostAt fu 0 (nI (4 * w + d)) (nI (last + 1)) (nI n) y (Im, Rm) = some (if y = 0 then (p_fold (fun v => p_sum (p_gl (fun _ => false) p_cm (p_chg P w d v)) n) nI (-1, nI 0) (last + 1)).2 else (p_fold (fun v => p_sum (p_gl (fun _ => false) p_cm (p_chg P w d v)) n) nI (-1, nI 0) (last + 1)).1, (J, Rm)) ∧ m_fr Im J := by
  have hw4 := p_may_lt (hm 0 (by omega))
  generalize hF : p_fold (fun v => p_sum (p_gl (fun _ => false) p_cm (p_chg P w d v)) n) nI (-1, nI 0) = F
  obtain ⟨Im1, e2, g2, f2⟩ := m_copyO (fu := fu) hM hg hf
  obtain ⟨b, e3, J, rfl, hJ⟩ := e_lp (body := fun s => b_X8_mostAt_17 fu 0 (nI (4 * w + d)) (nI (last + 1)) (nI n) y s.1 s.2.1 s.2.2.1 s.2.2.2) (last + 1)
    (fun i s => ∃ J, s = ((F i).1, (F i).2, nI i, (J, Rm)) ∧ m_oth J P w d ∧ m_fr Im J)
    (fun b => ∃ J, b = ((F (last + 1)).1, (F (last + 1)).2, (J, Rm)) ∧ m_fr Im J) (by
    rintro i s hi ⟨J, rfl, oJ, kJ⟩
    have hmi := hm i (by omega)
    obtain ⟨J2, e, a3, o3, k3⟩ := m_tryo (fu := fu) (n := n) hM oJ (m_fr_opn kJ h13) hp hd hw hmi (by omega) hf
    refine ⟨((F (i + 1)).1, (F (i + 1)).2, nI (i + 1), (J2, Rm)), ?_, J2, rfl, o3, m_fr_trans kJ k3⟩
    show b_X8_mostAt_17 fu 0 (nI (4 * w + d)) (nI (last + 1)) (nI n) y (F i).1 (F i).2 (nI i) (J, Rm) = _
    unfold b_X8_mostAt_17 j_X8_mostAt_59_in17 j_X8_mostAt_75_in17
    rw [if_neg (nI_ge hi (by omega))]
    have e' : f_X8_ticksGo fu 0 (nI 225) (nI n) (g_u J 1 (225 + (4 * w + d)) (nI i), Rm) = _ := e
    simp (disch := omega) only [m_ld0 hM, l_225, nI_add, k_ix, e', k_bd, nI_1]
    have eF : F (i + 1) = if nI (p_sum (p_gl (fun _ => false) p_cm (p_chg P w d i)) n) ≤ (F i).1 then F i else (nI (p_sum (p_gl (fun _ => false) p_cm (p_chg P w d i)) n), nI i) := by rw [← hF]; rfl
    rw [eF]
    by_cases c : nI (p_sum (p_gl (fun _ => false) p_cm (p_chg P w d i)) n) ≤ (F i).1
    · simp only [if_pos c]
    · simp only [if_neg c]) (by
    rintro s ⟨J, rfl, oJ, h⟩
    refine ⟨_, ?_, J, rfl, h⟩
    show b_X8_mostAt_17 fu 0 (nI (4 * w + d)) (nI (last + 1)) (nI n) y _ _ (nI (last + 1)) (J, Rm) = _
    unfold b_X8_mostAt_17
    exact if_pos (nI_le (Nat.le_refl _) (by omega))) 0 fu ((-1 : Int32), nI 0, nI 0, (Im1, Rm)) (Nat.zero_le _) (by omega) ⟨Im1, by rw [← hF]; rfl, m_pg_oth g2, f2⟩
  refine ⟨J, ?_, hJ⟩
  unfold f_X8_mostAt
  rw [e2, k_bd]
  refine (e_th e3).trans ?_
  exact k_push
theorem o_kind {fu : Nat} {I Im : Nat → Nat → Int32} {R Rm : Nat → Nat → Option Nat} {t P Q0 Q1 : Nat → Nat} (h : r_all I R Im Rm t P Q0 Q1) (hf : 1000 < fu) (x y z : Int32) : ∃ r Sc1 Sm1, f_X7_kind fu 0 x y z (I, R) = some (r, Sc1) ∧ f_X8_kind fu 0 x y z (Im, Rm) = some (r, Sm1) ∧ r_Rel Sc1 Sm1 := by
  obtain ⟨hR, hM, ⟨hr, hg, hp, ho⟩, -, -, -, -, -, -, h13, -⟩ := id h
  have b16 := hp.1
  unfold f_X7_kind f_X8_kind
  rcases a_cases x (n := P 16) (by omega) with hx | ⟨d, hd, rfl⟩
  · exact ⟨-1, (I, R), (Im, Rm), by rw [c_isDoor0 hR hr b16 hx, k_bd, if_pos rfl], by rw [m_isDoor0 hM hg b16 hx, k_bd, if_pos rfl], r_same h⟩
  rw [c_isDoor1 hR hr b16 hd, m_isDoor1 hM hg b16 hd, k_bd, k_bd, if_neg (show ¬ (1 : Int32) = 0 by decide), if_neg (show ¬ (1 : Int32) = 0 by decide)]
  rcases a_cases y (n := 101) (by omega) with hx | ⟨n, hn, rfl⟩
  · exact ⟨-1, (I, R), (Im, Rm), by rw [c_isRun0 hx, k_bd, if_pos rfl], by rw [m_isLong0 hx, k_bd, if_pos rfl], r_same h⟩
  rw [c_isRun1 (by omega), m_isLong1 (by omega), k_bd, k_bd, if_neg (show ¬ (1 : Int32) = 0 by decide), if_neg (show ¬ (1 : Int32) = 0 by decide)]
  rcases a_cases z (n := 2) (by omega) with hx | ⟨w, hw, rfl⟩
  · exact ⟨-1, (I, R), (Im, Rm), by rw [c_isChoice0 hx, k_bd, if_pos rfl], by rw [m_in0 (c := 1) (n := 1) hx rfl (by omega), k_bd, if_pos rfl], r_same h⟩
  rw [c_isChoice1 hw, m_in1 (c := 1) (n := 1) (by omega) rfl (by omega), k_bd, k_bd, if_neg (show ¬ (1 : Int32) = 0 by decide), if_neg (show ¬ (1 : Int32) = 0 by decide)]
  have hm : ∀ v, v ≤ 3 → p_may P 0 d v := fun v hv => by unfold p_may; omega
  obtain ⟨J, e1, kJ⟩ := c_best (fu := fu) (n := n) (y := nI w) hR hr hp hd hm (by omega) (by omega) hf
  obtain ⟨Jm, e2, kM⟩ := m_best (fu := fu) (n := n) (y := nI w) hM hg h13 hp (show d < 4 by omega) (by omega) hm (by omega) (by omega) hf
  refine ⟨p_bst P 0 d 3 n (nI w), (J, R), (Jm, Rm), ?_, ?_, r_frame h hR (c_fr_kept kJ) kM⟩
  · have e1' : f_X7_bestChange fu 0 (nI d) 0 3 (nI n) (nI w) (I, R) = _ := e1
    rw [e1', k_bd]
    rfl
  · rw [show 4 * 0 + d = d by omega] at e2
    have e2' : f_X8_mostAt fu 0 (nI d) 4 (nI n) (nI w) (Im, Rm) = _ := e2
    rw [e2', k_bd]
    rfl
theorem o_fill {fu : Nat} {I Im : Nat → Nat → Int32} {R Rm : Nat → Nat → Option Nat} {t P Q0 Q1 : Nat → Nat} (h : r_all I R Im Rm t P Q0 Q1) (hf : 1000 < fu) (x y z : Int32) : ∃ r Sc1 Sm1, f_X7_fill fu 0 x y z (I, R) = some (r, Sc1) ∧ f_X8_fill fu 0 x y z (Im, Rm) = some (r, Sm1) ∧ r_Rel Sc1 Sm1 := by
  obtain ⟨hR, hM, ⟨hr, hg, hp, ho⟩, -, -, -, -, -, -, h13, -⟩ := id h
  have b16 := hp.1
  unfold f_X7_fill f_X8_fill
  rcases a_cases x (n := P 16) (by omega) with hx | ⟨d, hd, rfl⟩
  · exact ⟨-1, (I, R), (Im, Rm), by rw [c_isDoor0 hR hr b16 hx, k_bd, if_pos rfl], by rw [m_isDoor0 hM hg b16 hx, k_bd, if_pos rfl], r_same h⟩
  rw [c_isDoor1 hR hr b16 hd, m_isDoor1 hM hg b16 hd, k_bd, k_bd, if_neg (show ¬ (1 : Int32) = 0 by decide), if_neg (show ¬ (1 : Int32) = 0 by decide)]
  rcases a_cases y (n := 101) (by omega) with hx | ⟨n, hn, rfl⟩
  · exact ⟨-1, (I, R), (Im, Rm), by rw [c_isRun0 hx, k_bd, if_pos rfl], by rw [m_isLong0 hx, k_bd, if_pos rfl], r_same h⟩
  rw [c_isRun1 (by omega), m_isLong1 (by omega), k_bd, k_bd, if_neg (show ¬ (1 : Int32) = 0 by decide), if_neg (show ¬ (1 : Int32) = 0 by decide)]
  rcases a_cases z (n := 2) (by omega) with hx | ⟨w, hw, rfl⟩
  · exact ⟨-1, (I, R), (Im, Rm), by rw [c_isChoice0 hx, k_bd, if_pos rfl], by rw [m_in0 (c := 1) (n := 1) hx rfl (by omega), k_bd, if_pos rfl], r_same h⟩
  rw [c_isChoice1 hw, m_in1 (c := 1) (n := 1) (by omega) rfl (by omega), k_bd, k_bd, if_neg (show ¬ (1 : Int32) = 0 by decide), if_neg (show ¬ (1 : Int32) = 0 by decide)]
  have hm : ∀ v, v ≤ P (4 + d) → p_may P 3 d v := fun v hv => by unfold p_may; omega
  have hd9 := (hp.2.2.1 d (by omega)).2.1
  have r1 : I (4 + d) 1 = nI (P (4 + d)) := (hr.2.2.2.2.2.1 d hd).2.1
  have g4 := m_pg0 hg (4 + d) (by omega)
  obtain ⟨J, e1, kJ⟩ := c_best (fu := fu) (n := n) (y := nI w) hR hr hp hd hm hd9 (by omega) hf
  obtain ⟨Jm, e2, kM⟩ := m_best (fu := fu) (n := n) (y := nI w) hM hg h13 hp (show d < 4 by omega) (by omega) hm hd9 (by omega) hf
  refine ⟨p_bst P 3 d (P (4 + d)) n (nI w), (J, R), (Jm, Rm), ?_, ?_, r_frame h hR (c_fr_kept kJ) kM⟩
  · simp (disch := omega) only [c_ld0 hR, c_now (fu := fu) hR, r1]
    have e1' : f_X7_bestChange fu 0 (nI d) 3 (nI (P (4 + d))) (nI n) (nI w) (I, R) = _ := e1
    rw [e1', k_bd]
    rfl
  · simp (disch := omega) only [m_ld0 hM, l_4, nI_add, k_ix, g4, nI_1, l_12]
    have e2' : f_X8_mostAt fu 0 (nI (12 + d)) (nI (P (4 + d) + 1)) (nI n) (nI w) (Im, Rm) = _ := e2
    rw [e2', k_bd]
    rfl
/-! ===== which door had better stand open ===== -/
theorem c_lets0 {fu n : Nat} {I : Nat → Nat → Int32} {R : Nat → Nat → Option Nat} {t P : Nat → Nat} (hR : c_R R t) (hr : h_rep I 1 (fun d => 4 + d) P) (hp : p_ok 999 P) (hn : n ≤ 100) (hf : 1000 < fu) : ∃ J, f_X7_letAsItIs fu 0 (nI n) (I, R) = some (nI (p_sum (p_gl (fun _ => false) p_cm P) n), (J, R)) ∧ c_kept I J := by
  obtain ⟨I', e1, a1, k1⟩ := c_try (fu := fu) (n := n) hR hr hp (by omega) hf (k := fun r3 Sr3 => some (r3, Sr3))
  exact ⟨I', e1, k1⟩
theorem o_open {fu : Nat} {I Im : Nat → Nat → Int32} {R Rm : Nat → Nat → Option Nat} {t P Q0 Q1 : Nat → Nat} (h : r_all I R Im Rm t P Q0 Q1) (hf : 1000 < fu) (x y : Int32) : ∃ r Sc1 Sm1, f_X7_open fu 0 x y (I, R) = some (r, Sc1) ∧ f_X8_open fu 0 x y (Im, Rm) = some (r, Sm1) ∧ r_Rel Sc1 Sm1 := by
  obtain ⟨hR, hM, ⟨hr, hg, hp, ho⟩, -, -, -, -, -, -, h13, -⟩ := id h
  have b16 := hp.1
  have g16 := m_pg0 hg 16 (by omega)
  unfold f_X7_open f_X8_open
  rcases a_cases x (n := 101) (by omega) with hx | ⟨n, hn, rfl⟩
  · exact ⟨-1, (I, R), (Im, Rm), by rw [c_isRun0 hx, k_bd, if_pos rfl], by rw [m_isLong0 hx, k_bd, if_pos rfl], r_same h⟩
  rw [c_isRun1 (by omega), m_isLong1 (by omega), k_bd, k_bd, if_neg (show ¬ (1 : Int32) = 0 by decide), if_neg (show ¬ (1 : Int32) = 0 by decide)]
  rcases a_cases y (n := 2) (by omega) with hx | ⟨w, hw, rfl⟩
  · exact ⟨-1, (I, R), (Im, Rm), by rw [c_isChoice0 hx, k_bd, if_pos rfl], by rw [m_in0 (c := 1) (n := 1) hx rfl (by omega), k_bd, if_pos rfl], r_same h⟩
  rw [c_isChoice1 hw, m_in1 (c := 1) (n := 1) (by omega) rfl (by omega), k_bd, k_bd, if_neg (show ¬ (1 : Int32) = 0 by decide), if_neg (show ¬ (1 : Int32) = 0 by decide)]
  obtain ⟨J0, e1, k1⟩ := c_lets0 (fu := fu) (n := n) hR hr hp (by omega) hf
  obtain ⟨M0, e2, a2, k2⟩ := m_try (fu := fu) (n := n) hM hg h13 hp (by omega) hf
  rw [e1, e2, k_bd, k_bd]
  generalize hF : p_fold (fun d => p_sum (p_gl (fun e => decide (e = d)) p_cm P) n) nI (nI (p_sum (p_gl (fun _ => false) p_cm P) n), -4) = F
  have eF : ∀ i, F (i + 1) = if nI (p_sum (p_gl (fun e => decide (e = i)) p_cm P) n) ≤ (F i).1 then F i else (nI (p_sum (p_gl (fun e => decide (e = i)) p_cm P) n), nI i) := fun i => by rw [← hF]; rfl
  have hdo := hR.2.1.2.2.2.2.2.2.2.2.2.2
  have inj := hR.2.1.2.2.2.2.2.2.2.2.2.1
  obtain ⟨b, e3, J, rfl, hJ⟩ := e_lp (body := fun s => b_X7_open_29 fu 0 (nI n) (nI w) s.1 s.2.1 s.2.2.1 s.2.2.2) (P 16)
    (fun i s => ∃ J, s = ((F i).1, (F i).2, nI i, (J, R)) ∧ c_kept I J)
    (fun b => ∃ J, b = ((F (P 16)).1, (F (P 16)).2, (J, R)) ∧ c_kept I J) (by
    rintro i s hi ⟨J, rfl, kJ⟩
    have hrJ := h_rep_kept hr hp kJ
    obtain ⟨J1, e4, a4, k4⟩ := c_startTrial (fu := fu) p_cm hR hrJ hp (by omega)
    have hti := hdo i (by omega)
    have aU : c_at (g_u J1 (t i) 5 1) t (fun e => decide (e = i)) p_cm P 0 := by
      refine ⟨h_rep_fr_u a4.1 (by omega), fun e he => ?_, fun e he => ?_⟩
      · by_cases c : e = i
        · subst c
          rw [u_at]; simp
        · rw [g_u_ne (fun q => c (inj e i (by omega) (by omega) q))]
          have := a4.2.1 e he
          simp [c]
          exact this
      · rw [u_nk (by decide)]; exact a4.2.2 e he
    obtain ⟨J2, e5, a5, k5⟩ := c_run (fu := fu) (n := n) hR.2.1 aU hp (by omega) (by omega) (by omega)
    refine ⟨((F (i + 1)).1, (F (i + 1)).2, nI (i + 1), (J2, R)), ?_, J2, rfl, c_kept_trans kJ (c_kept_trans k4 (c_kept_trans (fun a ha => g_u_ne (by omega)) k5))⟩
    show b_X7_open_29 fu 0 (nI n) (nI w) (F i).1 (F i).2 (nI i) (J, R) = _
    unfold b_X7_open_29 j_X7_open_82_in29
    simp (disch := omega) only [c_ld0 hR, hrJ.1, nI_leI, e4, k_bd, c_ld1 hR, c_tr (fu := fu) hR, e5, nI_1]
    rw [if_neg (by omega), eF i]
    by_cases c : nI (p_sum (p_gl (fun e => decide (e = i)) p_cm P) n) ≤ (F i).1
    · rw [if_pos c, if_pos c]
    · rw [if_neg c, if_neg c]) (by
    rintro s ⟨J, rfl, kJ⟩
    have hrJ := h_rep_kept hr hp kJ
    refine ⟨_, ?_, J, rfl, kJ⟩
    show b_X7_open_29 fu 0 (nI n) (nI w) _ _ (nI (P 16)) (J, R) = _
    unfold b_X7_open_29
    simp (disch := omega) only [c_ld0 hR, hrJ.1, nI_leI]
    exact if_pos (Nat.le_refl _)) 0 fu (nI (p_sum (p_gl (fun _ => false) p_cm P) n), -4, nI 0, (J0, R)) (Nat.zero_le _) (by omega) ⟨J0, by rw [← hF]; rfl, k1⟩
  obtain ⟨bm, e6, Jm, rfl, hJm⟩ := e_lp (body := fun s => b_X8_open_33 fu 0 (nI n) (nI w) s.1 s.2.1 s.2.2.1 s.2.2.2) (P 16)
    (fun i s => ∃ J, s = ((F i).1, (F i).2, nI i, (J, Rm)) ∧ m_fr Im J)
    (fun b => ∃ J, b = ((F (P 16)).1, (F (P 16)).2, (J, Rm)) ∧ m_fr Im J) (by
    rintro i s hi ⟨J, rfl, kJ⟩
    have hgJ := m_fr_pg kJ hg
    have q16 := m_pg0 hgJ 16 (by omega)
    have hop : m_opn (g_u J 0 13 (nI i)) (fun e => decide (e = i)) := fun e he => by
      rw [u_at, nI_eq (by omega) (by omega)]; simp
    obtain ⟨J2, e7, a7, k7⟩ := m_ticksGo (fu := fu) (p := 0) (n := n) (I := g_u J 0 13 (nI i)) hM (fun k hk => by rw [u_ni (by decide)]; exact hgJ k hk) hop hp (by omega) (by omega) (by omega) (by omega)
    have e7' : f_X8_ticksGo fu 0 0 (nI n) (g_u J 0 13 (nI i), Rm) = _ := e7
    have kf : m_fr Im (g_u J2 0 13 (-4)) := by
      refine ⟨fun k hk => ?_, fun k hk => ?_, fun a x y z w => ?_⟩
      · by_cases c : k = 13
        · subst c
          rw [u_at, h13]
        · rw [u_nk c, k7.1 k hk, u_nk c, kJ.1 k hk]
      · rw [u_ni (by decide), k7.2.1 k (by omega), u_ni (by decide), kJ.2.1 k hk]
      · rw [g_u_ne x, k7.2.2 a x y z, g_u_ne x, kJ.2.2 a x y z w]
    refine ⟨((F (i + 1)).1, (F (i + 1)).2, nI (i + 1), (g_u J2 0 13 (-4), Rm)), ?_, _, rfl, kf⟩
    show b_X8_open_33 fu 0 (nI n) (nI w) (F i).1 (F i).2 (nI i) (J, Rm) = _
    unfold b_X8_open_33 j_X8_open_78_in33 j_X8_open_92_in33
    simp (disch := omega) only [m_ld0 hM, l_16, k_ix, q16, nI_leI, e7', k_bd, nI_1]
    rw [if_neg (by omega), eF i]
    by_cases c : nI (p_sum (p_gl (fun e => decide (e = i)) p_cm P) n) ≤ (F i).1
    · simp only [if_pos c]
    · simp only [if_neg c]) (by
    rintro s ⟨J, rfl, kJ⟩
    have q16 := m_pg0 (m_fr_pg kJ hg) 16 (by omega)
    refine ⟨_, ?_, J, rfl, kJ⟩
    show b_X8_open_33 fu 0 (nI n) (nI w) _ _ (nI (P 16)) (J, Rm) = _
    unfold b_X8_open_33
    simp (disch := omega) only [m_ld0 hM, l_16, k_ix, q16, nI_leI]
    exact if_pos (Nat.le_refl _)) 0 fu (nI (p_sum (p_gl (fun _ => false) p_cm P) n), -4, nI 0, (M0, Rm)) (Nat.zero_le _) (by omega) ⟨M0, by rw [← hF]; rfl, m_fr_kept (by omega) k2⟩
  refine ⟨if (F (P 16)).2 = -4 then (F (P 16)).2 else if nI w = 0 then (F (P 16)).2 else (F (P 16)).1, (J, R), (Jm, Rm), (e_th e3).trans ?_, (e_th e6).trans ?_, r_frame h hR (c_fr_kept hJ) hJm⟩
  · unfold j_X7_open_99
    simp only [k_push]
  · unfold j_X8_open_110
    simp only [k_push]
