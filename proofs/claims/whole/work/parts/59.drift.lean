/-! ===== by a seed ===== -/
def d_seq (s : Int32) : Nat → Int32
  | 0 => s
  | i + 1 => d_seq s i * 1103515245 + 12345
def d_num (s : Int32) (i : Nat) : Nat := (d_seq s (i + 1)).toBitVec.toNat / 65536 % 32768 % 10
theorem d_num_le (s : Int32) (i : Nat) : d_num s i ≤ 9 := by
  have : d_num s i < 10 := Nat.mod_lt _ (by omega)
  omega
theorem d_few (s : Int32) : p_few (fun i _ => d_num s i) := ⟨fun _ n _ _ => Nat.le_trans (d_num_le s n) (by omega), fun _ _ _ _ _ _ => rfl⟩
theorem d_c (g : Int32) : (Int32.toUInt32 g >>> (Int32.toUInt32 (16 : Int32) &&& Int32.toUInt32 31)).toInt32 &&& (32767 : Int32) = nI (g.toBitVec.toNat / 65536 % 32768) := by
  rw [pk_and _ 15 (by decide), pk_ushr g 16 16 (by decide)]
theorem d_m (g : Int32) : (g >>> ((16 : Int32) &&& 31)) &&& (32767 : Int32) = nI (g.toBitVec.toNat / 65536 % 32768) := by
  rw [pk_and _ 15 (by decide)]
  congr 1
  have h1 := pk_shr g ((16 : Int32) &&& 31) 16 (by decide)
  rw [Int.shiftRight_eq_div_pow, a_toInt, a_toInt g] at h1
  have hn := g.toBitVec.isLt
  have hm := (g >>> ((16 : Int32) &&& 31)).toBitVec.isLt
  generalize g.toBitVec.toNat = n at *
  generalize (g >>> ((16 : Int32) &&& 31)).toBitVec.toNat = m at *
  omega
theorem d_rem (a : Nat) (h : a < 2 ^ 31) : nI a - nI a / 10 * 10 = nI (a % 10) := pk_rem (d := 10) h (by omega) (by omega)
theorem o_drift {fu : Nat} {I Im : Nat → Nat → Int32} {R Rm : Nat → Nat → Option Nat} {t P Q0 Q1 : Nat → Nat} (h : r_all I R Im Rm t P Q0 Q1) (hf : 1000 < fu) (x y z : Int32) : ∃ r Sc1 Sm1, f_X7_drift fu 0 x y z (I, R) = some (r, Sc1) ∧ f_X8_drift fu 0 x y z (Im, Rm) = some (r, Sm1) ∧ r_Rel Sc1 Sm1 := by
  obtain ⟨hR, hM, ⟨hr, hg, hp, ho⟩, -, -, -, -, -, -, h13, -⟩ := id h
  have b16 := hp.1
  have g16 := m_pg0 hg 16 (by omega)
  unfold f_X7_drift f_X8_drift
  by_cases hy0 : a_out y 101 ∨ y = nI 0
  · refine ⟨-1, (I, R), (Im, Rm), ?_, by rw [m_in10 (c := 100) (n := 100) hy0 rfl (by omega), k_bd, if_pos rfl], r_same h⟩
    by_cases c : y < 1
    · rw [if_pos c]
    · rw [if_neg c]
      rcases hy0 with q | q
      · rw [c_isRun0 q, k_bd, if_pos rfl]
      · exact absurd (by rw [q]; decide) c
  obtain ⟨n, hn, rfl⟩ : ∃ n, n < 101 ∧ y = nI n := by
    rcases a_cases y (n := 101) (by omega) with q | q
    · exact absurd (Or.inl q) hy0
    · exact q
  have hn1 : 1 ≤ n := by
    rcases Nat.eq_zero_or_pos n with q | q
    · exact absurd (Or.inr (by rw [q])) hy0
    · exact q
  rw [if_neg (show ¬ nI n < 1 from nI_nlt (b := 1) hn1 (by omega)), c_isRun1 (by omega), m_in11 (c := 100) (n := 100) hn1 (by omega) rfl (by omega), k_bd, k_bd, if_neg (show ¬ (1 : Int32) = 0 by decide), if_neg (show ¬ (1 : Int32) = 0 by decide)]
  rcases a_cases z (n := 2) (by omega) with hx | ⟨w, hw, rfl⟩
  · exact ⟨-1, (I, R), (Im, Rm), by rw [c_isChoice0 hx, k_bd, if_pos rfl], by rw [m_in0 (c := 1) (n := 1) hx rfl (by omega), k_bd, if_pos rfl], r_same h⟩
  rw [c_isChoice1 hw, m_in1 (c := 1) (n := 1) (by omega) rfl (by omega), k_bd, k_bd, if_neg (show ¬ (1 : Int32) = 0 by decide), if_neg (show ¬ (1 : Int32) = 0 by decide)]
  simp (disch := omega) only [c_ld0 hR, m_ld0 hM, l_16, k_ix, g16, hr.1]
  by_cases hd : nI (P 16) = 0
  · rw [if_pos hd, if_pos hd]
    exact ⟨-2, (I, R), (Im, Rm), rfl, rfl, r_same h⟩
  rw [if_neg hd, if_neg hd]
  have hc := d_few x
  obtain ⟨I1, e1, a1, k1⟩ := c_startTrial (fu := fu) (fun i _ => d_num x i) hR hr hp (by omega)
  obtain ⟨b, e3, J, rfl, aJ, kJ⟩ := e_lp (body := fun s => b_X7_drift_44 fu 0 (nI n) (nI w) s.1 s.2.1 s.2.2) n
    (fun i s => ∃ J, s = (d_seq x i, nI i, (J, R)) ∧ c_at J t (fun _ => false) (fun i _ => d_num x i) P i ∧ c_kept I J)
    (fun b => ∃ J, b = (J, R) ∧ c_at J t (fun _ => false) (fun i _ => d_num x i) P n ∧ c_kept I J) (by
    rintro i s hi ⟨J, rfl, aJ, kJ⟩
    obtain ⟨J2, e, a3, k3⟩ := c_go1 (fu := fu) hR.2.1 aJ hp hc (by omega) (by omega)
    have e' : f_X2_tickWith fu 16 (nI (d_num x i)) (J, R) = _ := e
    refine ⟨(d_seq x (i + 1), nI (i + 1), (J2, R)), ?_, J2, rfl, a3, c_kept_trans kJ k3⟩
    show b_X7_drift_44 fu 0 (nI n) (nI w) (d_seq x i) (nI i) (J, R) = _
    unfold b_X7_drift_44
    rw [if_neg (nI_ge hi (by omega))]
    simp only [c_ld1 hR]
    rw [e_nz (by decide), d_c, d_rem _ (by omega)]
    show g_bd (f_X2_tickWith fu 16 (nI (d_num x i)) (J, R)) _ = _
    rw [e', k_bd, nI_1]
    rfl) (by
    rintro s ⟨J, rfl, h⟩
    refine ⟨_, ?_, J, rfl, h⟩
    show b_X7_drift_44 fu 0 (nI n) (nI w) _ (nI n) (J, R) = _
    unfold b_X7_drift_44
    exact if_pos (nI_le (Nat.le_refl _) (by omega))) 0 fu (x, nI 0, (I1, R)) (Nat.zero_le _) (by omega) ⟨I1, rfl, a1, k1⟩
  obtain ⟨Im1, e2, a2, k2⟩ := m_begin (fu := fu) (k := fun _ Sr6 => g_th (g_lp (fun t => b_X8_drift_55 fu 0 (nI n) (nI w) t.1 t.2.1 t.2.2) fu (x, (0 : Int32), Sr6)) fun e => match e with | S1 => if nI w = 0 then (some ((S1.1 0 14), S1)) else (some ((S1.1 0 15), S1))) (fun _ => false) (fun i _ => d_num x i) hM hg (by omega) hp.1 (by omega)
  obtain ⟨bm, e4, Jm, rfl, aJm, kJm⟩ := e_lp (body := fun s => b_X8_drift_55 fu 0 (nI n) (nI w) s.1 s.2.1 s.2.2) n
    (fun i s => ∃ J, s = (d_seq x i, nI i, (J, Rm)) ∧ m_at J 180 (fun _ => false) (fun i _ => d_num x i) P i ∧ m_kept Im J 180)
    (fun b => ∃ J, b = (J, Rm) ∧ m_at J 180 (fun _ => false) (fun i _ => d_num x i) P n ∧ m_kept Im J 180) (by
    rintro i s hi ⟨J, rfl, aJ, kJ⟩
    obtain ⟨J2, e, a3, k3⟩ := m_go1 (fu := fu) hM aJ (m_kept_opn kJ (m_opn_none h13)) hp hc (by omega) (by omega) (by omega) (by omega)
    have e' : f_X8_tickOn fu 0 180 (nI (d_num x i)) (J, Rm) = _ := e
    refine ⟨(d_seq x (i + 1), nI (i + 1), (J2, Rm)), ?_, J2, rfl, a3, m_kept_trans kJ k3⟩
    show b_X8_drift_55 fu 0 (nI n) (nI w) (d_seq x i) (nI i) (J, Rm) = _
    unfold b_X8_drift_55
    rw [if_neg (nI_ge hi (by omega)), e_nz (by decide), d_m, d_rem _ (by omega)]
    show g_bd (f_X8_tickOn fu 0 180 (nI (d_num x i)) (J, Rm)) _ = _
    rw [e', k_bd, nI_1]
    rfl) (by
    rintro s ⟨J, rfl, h⟩
    refine ⟨_, ?_, J, rfl, h⟩
    show b_X8_drift_55 fu 0 (nI n) (nI w) _ (nI n) (J, Rm) = _
    unfold b_X8_drift_55
    exact if_pos (nI_le (Nat.le_refl _) (by omega))) 0 fu (x, nI 0, (Im1, Rm)) (Nat.zero_le _) (by omega) ⟨Im1, rfl, a2, k2⟩
  obtain ⟨q1, q2⟩ := c_at_43 aJ hp hc (by omega)
  refine ⟨if nI w = 0 then nI (p_sum (p_gl (fun _ => false) (fun i _ => d_num x i) P) n) else nI (p_sum (p_gt (fun _ => false) (fun i _ => d_num x i) P) n), (J, R), (Jm, Rm), ?_, ?_, r_frame h hR (c_fr_kept kJ) (m_fr_kept (by omega) kJm)⟩
  · rw [e1, k_bd]
    refine (e_th e3).trans ?_
    simp only [c_ld1 hR, q1, q2, k_push]
  · refine e2.trans ((e_th e4).trans ?_)
    simp only [aJm.2.1, aJm.2.2.1, k_push]
