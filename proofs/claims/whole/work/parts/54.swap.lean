/-! ===== which two doors should change ===== -/
def p_sw (a b x : Nat) : Nat := if x = a then b else if x = b then a else x
def p_swp (P : Nat → Nat) (a b : Nat) : Nat → Nat := fun k => if k < 16 then P (4 * (k / 4) + p_sw a b (k % 4)) else P k
theorem sw_lt {a b x n : Nat} (ha : a < n) (hb : b < n) (hx : x < n) : p_sw a b x < n := by
  unfold p_sw
  split
  · exact hb
  · split
    · exact ha
    · exact hx
theorem sw_inj {a b x y : Nat} (h : p_sw a b x = p_sw a b y) : x = y := by
  unfold p_sw at h
  split at h <;> split at h <;> (try split at h) <;> (try split at h) <;> omega
theorem swp_at {P : Nat → Nat} {a b w d : Nat} (hw : w < 4) (hd : d < 4) : p_swp P a b (4 * w + d) = P (4 * w + p_sw a b d) := by
  unfold p_swp
  rw [if_pos (by omega), show (4 * w + d) / 4 = w by omega, show (4 * w + d) % 4 = d by omega]
theorem swp_0 {P : Nat → Nat} {a b d : Nat} (hd : d < 4) : p_swp P a b d = P (p_sw a b d) := by
  have := swp_at (P := P) (a := a) (b := b) (w := 0) (by omega) hd
  rwa [show 4 * 0 + d = d by omega, show 4 * 0 + p_sw a b d = p_sw a b d by omega] at this
theorem swp_x {P : Nat → Nat} {a b k : Nat} (h : 16 ≤ k) : p_swp P a b k = P k := if_neg (by omega)
theorem p_ok_swp {T a b : Nat} {P : Nat → Nat} (hp : p_ok T P) (ha : a < 4) (hb : b < 4) : p_ok T (p_swp P a b) := by
  refine ⟨?_, ?_, fun d hd => ?_, fun i hi => ?_, ?_, ?_, ?_⟩
  · rw [swp_x (by omega)]; exact hp.1
  · rw [swp_x (by omega)]; exact hp.2.1
  · have e1 := swp_at (P := P) (a := a) (b := b) (w := 1) (by omega) hd
    have e2 := swp_at (P := P) (a := a) (b := b) (w := 2) (by omega) hd
    have e3 := swp_at (P := P) (a := a) (b := b) (w := 3) (by omega) hd
    have q := hp.2.2.1 (p_sw a b d) (sw_lt ha hb hd)
    rw [swp_0 hd]
    refine ⟨q.1, ?_, ?_, ?_⟩
    · exact Nat.le_trans (Nat.le_of_eq e1) q.2.1
    · exact Nat.le_trans (Nat.le_of_eq e2) q.2.2.1
    · exact Nat.le_trans (Nat.le_of_eq e3) (Nat.le_trans q.2.2.2 (Nat.le_of_eq e1.symm))
  · rw [swp_x (by omega), swp_x (by omega), swp_x (by omega)]; exact hp.2.2.2.1 i hi
  · rw [swp_x (by omega)]; exact hp.2.2.2.2.1
  · rw [swp_x (by omega)]; exact hp.2.2.2.2.2.1
  · rw [swp_x (by omega)]; exact hp.2.2.2.2.2.2
theorem p_z_swp {P : Nat → Nat} {a b : Nat} (ha : a < 4) (hb : b < 4) : p_z (p_swp P a b) = p_swp (p_z P) a b := by
  funext k
  by_cases c : k < 16
  · obtain ⟨w, d, hw, hd, rfl⟩ : ∃ w d, w < 4 ∧ d < 4 ∧ k = 4 * w + d := ⟨k / 4, k % 4, by omega, by omega, by omega⟩
    have hs := sw_lt ha hb hd
    rw [swp_at hw hd, p_z_eqx _ (by omega) (by omega), swp_at hw hd, p_z_eqx _ (by omega) (by omega)]
  · rw [swp_x (by omega)]
    unfold p_z
    rw [swp_x (by omega)]
def c_sw (R : Nat → Nat → Option Nat) (t : Nat → Nat) (a b : Nat) : Nat → Nat → Option Nat := g_u (g_u R 17 a (some (t b))) 17 b (some (t a))
theorem c_sw_ne {R : Nat → Nat → Option Nat} {t : Nat → Nat} {a b x y : Nat} (h : x ≠ 17) : c_sw R t a b x y = R x y := by
  unfold c_sw
  rw [u_ni h, u_ni h]
theorem c_R_sw {R : Nat → Nat → Option Nat} {t : Nat → Nat} {a b : Nat} (h : c_R R t) (ha : a < 4) (hb : b < 4) (hab : a ≠ b) : c_R (c_sw R t a b) (fun d => t (p_sw a b d)) := by
  have hgeo : ∀ o dr, o ≠ 16 → o ≠ 17 → o + 1 ≠ 17 → o + 2 ≠ 17 → h_geo R o dr → h_geo (c_sw R t a b) o dr := by
    rintro o dr h1 h2 h3 h4 ⟨g1, g2, g3, g4, g5⟩
    refine ⟨by rw [c_sw_ne h2]; exact g1, by rw [c_sw_ne h2]; exact g2, fun d hd => by rw [c_sw_ne h3]; exact g3 d hd, fun i hi => by rw [c_sw_ne h4]; exact g4 i hi, g5⟩
  obtain ⟨h1, h2, h3, h4, h5⟩ := h
  refine ⟨hgeo _ _ (by omega) (by omega) (by omega) (by omega) h1, ?_, hgeo _ _ (by omega) (by omega) (by omega) (by omega) h3, hgeo _ _ (by omega) (by omega) (by omega) (by omega) h4, ?_⟩
  · obtain ⟨g1, g2, g3, g4, g5, g6, g7, g8, g9, g10, g11⟩ := h2
    refine ⟨by rw [c_sw_ne (by omega)]; exact g1, by rw [c_sw_ne (by omega)]; exact g2, fun d hd => ?_, fun i hi => by rw [c_sw_ne (by omega)]; exact g4 i hi, g5, g6, g7, fun d hd => g8 _ (sw_lt ha hb hd), g9, fun d e hd he q => sw_inj (g10 _ _ (sw_lt ha hb hd) (sw_lt ha hb he) q), fun d hd => g11 _ (sw_lt ha hb hd)⟩
    show c_sw R t a b 17 d = some (t (p_sw a b d))
    unfold c_sw p_sw
    by_cases c1 : d = b
    · subst c1
      rw [u_at, if_neg (Ne.symm hab), if_pos rfl]
    · rw [u_nk c1]
      by_cases c2 : d = a
      · subst c2
        rw [u_at, if_pos rfl]
      · rw [u_nk c2, if_neg c2, if_neg c1]; exact g3 d hd
  · obtain ⟨x1, x2, x3, x4, x5, x6, x7, x8, x9, x10, x11, x12, x13, x14, x15, x16, x17, x18, x19⟩ := h5
    refine ⟨?_, ?_, ?_, ?_, ?_, ?_, ?_, ?_, ?_, ?_, ?_, ?_, ?_, ?_, ?_, fun k hk => ⟨?_, ?_⟩, ?_, fun v hv => ?_, ?_⟩
    all_goals rw [c_sw_ne (by omega)]
    · exact x1
    · exact x2
    · exact x3
    · exact x4
    · exact x5
    · exact x6
    · exact x7
    · exact x8
    · exact x9
    · exact x10
    · exact x11
    · exact x12
    · exact x13
    · exact x14
    · exact x15
    · exact (x16 k hk).1
    · exact (x16 k hk).2
    · exact x17
    · exact x18 v hv
    · exact x19
theorem c_exchange {fu a b : Nat} {J : Nat → Nat → Int32} {R : Nat → Nat → Option Nat} {t : Nat → Nat} (hR : c_R R t) (ha : a < 4) (hb : b < 4) : f_X2_exchange fu 16 (nI a) (nI b) (J, R) = some ((), (J, c_sw R t a b)) := by
  have g := hR.2.1
  unfold f_X2_exchange
  refine (c_tr (fu := fu) hR ha).trans ?_
  refine (e_ld g.1 g.2.2.2.2.2.1).trans ?_
  refine (c_tr (fu := fu) hR hb).trans ?_
  refine (e_ix (m := a) rfl (by omega) (by omega)).trans ?_
  refine (e_ld (j := 17) (by show g_u R 17 a (some (t b)) 16 0 = _; rw [u_ni (by decide)]; exact g.1) g.2.2.2.2.2.1).trans ?_
  refine (e_ix (m := b) rfl (by omega) (by omega)).trans ?_
  rfl
theorem c_at_sw {J : Nat → Nat → Int32} {t P : Nat → Nat} {a b T : Nat} {cm : Nat → (Nat → Nat) → Nat} (h : c_at J t (fun _ => false) cm P 0) (hp : p_ok T P) (ha : a < P 16) (hb : b < P 16) : c_at J (fun d => t (p_sw a b d)) (fun _ => false) cm (p_swp P a b) 0 := by
  have b16 := hp.1
  have e16 : p_z P 16 = P 16 := p_z_eqx 16 (by omega) (by omega)
  obtain ⟨⟨x1, x2, x3, x4, x5, x6, x7⟩, h2, h3⟩ := h
  refine ⟨?_, fun d hd => ?_, fun d hd => ?_⟩
  · show h_rep J 16 (fun d => t (p_sw a b d)) (p_z (p_swp P a b))
    rw [p_z_swp (by omega) (by omega)]
    refine ⟨?_, ?_, ?_, ?_, ?_, fun d hd => ?_, fun i hi => ?_⟩
    · rw [swp_x (by omega)]; exact x1
    · rw [swp_x (by omega)]; exact x2
    · rw [swp_x (by omega)]; exact x3
    · rw [swp_x (by omega)]; exact x4
    · rw [swp_x (by omega)]; exact x5
    · rw [swp_x (by omega)] at hd
      have q := x6 (p_sw a b d) (by rw [e16] at hd; show _ < p_z P 16; rw [e16]; exact sw_lt ha hb hd)
      rw [e16] at hd
      have e1 := swp_at (P := p_z P) (a := a) (b := b) (w := 1) (d := d) (by omega) (by omega)
      have e2 := swp_at (P := p_z P) (a := a) (b := b) (w := 2) (d := d) (by omega) (by omega)
      have e3 := swp_at (P := p_z P) (a := a) (b := b) (w := 3) (d := d) (by omega) (by omega)
      refine ⟨?_, ?_, ?_, ?_⟩
      · rw [swp_0 (by omega)]; exact q.1
      · exact q.2.1.trans (congrArg nI e1.symm)
      · exact q.2.2.1.trans (congrArg nI e2.symm)
      · exact q.2.2.2.trans (congrArg nI e3.symm)
    · rw [swp_x (by omega)] at hi
      have q := x7 i hi
      rw [swp_x (by omega), swp_x (by omega), swp_x (by omega)]
      exact q
  · rw [swp_x (by omega)] at hd
    exact h2 _ (sw_lt ha hb hd)
  · rw [swp_x (by omega)] at hd
    exact h3 _ (sw_lt ha hb hd)
/-- the reference writes the other page with two doors changed -/
theorem m_swap {fu a b : Nat} {x1 x2 x3 x4 : Int32} {I : Nat → Nat → Int32} {R : Nat → Nat → Option Nat} {P : Nat → Nat} (hM : m_R R) (hg : m_pg I 0 P) (h5 : m_pg I 225 P) (ha : a < 4) (hb : b < 4) (hab : a ≠ b) (hf : 1000 < fu) : ∃ I', g_lp (fun t => b_X8_swap_74 fu 0 x1 x2 x3 x4 (nI a) (nI b) t.1 t.2) fu ((0 : Int32), (I, R)) = some (I', R) ∧ m_pg I' 225 (p_swp P a b) ∧ m_fr I I' := by
  obtain ⟨r, e, J, rfl, j1, jp, ja⟩ := e_lp (body := fun t => b_X8_swap_74 fu 0 x1 x2 x3 x4 (nI a) (nI b) t.1 t.2) 4
    (fun i s => ∃ J, s = (nI (4 * i), (J, R)) ∧ (∀ k, k < 225 → J 1 k = I 1 k) ∧ (∀ k, k < 45 → J 1 (225 + k) = nI (if k < 4 * i then p_swp P a b k else P k)) ∧ ∀ c, c ≠ 1 → J c = I c)
    (fun r => ∃ J, r = (J, R) ∧ (∀ k, k < 225 → J 1 k = I 1 k) ∧ (∀ k, k < 45 → J 1 (225 + k) = nI (if k < 16 then p_swp P a b k else P k)) ∧ ∀ c, c ≠ 1 → J c = I c) (by
    rintro i s hi ⟨J, rfl, j1, jp, ja⟩
    have g := m_pg0 hg
    refine ⟨(nI (4 * (i + 1)), (g_u (g_u J 1 (225 + 4 * i + a) (nI (P (4 * i + b)))) 1 (225 + 4 * i + b) (nI (P (4 * i + a))), R)), ?_, _, rfl, fun k hk => by rw [u_nk (by omega), u_nk (by omega)]; exact j1 k hk, fun k hk => ?_, fun c hc => by rw [g_u_ne hc, g_u_ne hc]; exact ja c hc⟩
    · show b_X8_swap_74 fu 0 x1 x2 x3 x4 (nI a) (nI b) (nI (4 * i)) (J, R) = _
      unfold b_X8_swap_74
      have q1 : J 1 (4 * i + b) = nI (P (4 * i + b)) := by rw [j1 _ (by omega)]; exact g _ (by omega)
      have q2 : (g_u J 1 (225 + 4 * i + a) (nI (P (4 * i + b)))) 1 (4 * i + a) = nI (P (4 * i + a)) := by rw [u_nk (by omega), j1 _ (by omega)]; exact g _ (by omega)
      simp (disch := omega) only [m_ld0 hM, l_16, l_225, l_4, nI_leI, nI_add, k_ix, q1, q2]
      rw [if_neg (by omega), Nat.mul_succ]
    · by_cases c1 : k = 4 * i + b
      · subst c1
        rw [show 225 + (4 * i + b) = 225 + 4 * i + b by omega, u_at, if_pos (by omega), swp_at hi hb]
        unfold p_sw
        rw [if_neg (Ne.symm hab), if_pos rfl]
      · rw [u_nk (by omega)]
        by_cases c2 : k = 4 * i + a
        · subst c2
          rw [show 225 + (4 * i + a) = 225 + 4 * i + a by omega, u_at, if_pos (by omega), swp_at hi ha]
          unfold p_sw
          rw [if_pos rfl]
        · rw [u_nk (by omega), jp k hk]
          by_cases c3 : k < 4 * i
          · rw [if_pos c3, if_pos (by omega)]
          · rw [if_neg c3]
            by_cases c4 : k < 4 * (i + 1)
            · rw [if_pos c4]
              obtain ⟨d, hd, rfl⟩ : ∃ d, d < 4 ∧ k = 4 * i + d := ⟨k - 4 * i, by omega, by omega⟩
              rw [swp_at hi hd]
              unfold p_sw
              rw [if_neg (by omega), if_neg (by omega)]
            · rw [if_neg c4]) (by
    rintro s ⟨J, rfl, j1, jp, ja⟩
    exact ⟨_, if_pos (show (16 : Int32) ≤ nI 16 from by decide), J, rfl, j1, jp, ja⟩) 0 fu (nI 0, (I, R)) (Nat.zero_le _) (by omega) ⟨I, rfl, fun _ _ => rfl, fun k hk => by rw [if_neg (by omega)]; exact h5 k hk, fun _ _ => rfl⟩
  refine ⟨J, e, fun k hk => ?_, fun k _ => by rw [ja 0 (by decide)], fun k hk => j1 k (by omega), fun c _ h _ _ => ja c h⟩
  rw [jp k hk]
  by_cases c : k < 16
  · rw [if_pos c]
  · rw [if_neg c, swp_x (by omega)]
/-- the two doors by which most are let -/
def p_swi (P : Nat → Nat) (n a : Nat) (s : Int32 × Int32) : Nat → Int32 × Int32 := p_fold (fun k => p_sum (p_gl (fun _ => false) p_cm (p_swp P a (a + 1 + k))) n) (fun k => nI 10 * nI a + nI (a + 1 + k)) s
def p_swo (P : Nat → Nat) (n N : Nat) (s : Int32 × Int32) : Nat → Int32 × Int32
  | 0 => s
  | a + 1 => p_swi P n a (p_swo P n N s a) (N - (a + 1))
theorem o_swap {fu : Nat} {I Im : Nat → Nat → Int32} {R Rm : Nat → Nat → Option Nat} {t P Q0 Q1 : Nat → Nat} (h : r_all I R Im Rm t P Q0 Q1) (hf : 1000 < fu) (x y : Int32) : ∃ r Sc1 Sm1, f_X7_swap fu 0 x y (I, R) = some (r, Sc1) ∧ f_X8_swap fu 0 x y (Im, Rm) = some (r, Sm1) ∧ r_Rel Sc1 Sm1 := by
  obtain ⟨hR, hM, ⟨hr, hg, hp, ho⟩, -, -, -, -, -, -, h13, -⟩ := id h
  have b16 := hp.1
  unfold f_X7_swap f_X8_swap
  rcases a_cases x (n := 101) (by omega) with hx | ⟨n, hn, rfl⟩
  · exact ⟨-1, (I, R), (Im, Rm), by rw [c_isRun0 hx, k_bd, if_pos rfl], by rw [m_isLong0 hx, k_bd, if_pos rfl], r_same h⟩
  rw [c_isRun1 (by omega), m_isLong1 (by omega), k_bd, k_bd, if_neg (show ¬ (1 : Int32) = 0 by decide), if_neg (show ¬ (1 : Int32) = 0 by decide)]
  rcases a_cases y (n := 2) (by omega) with hx | ⟨w, hw, rfl⟩
  · exact ⟨-1, (I, R), (Im, Rm), by rw [c_isChoice0 hx, k_bd, if_pos rfl], by rw [m_in0 (c := 1) (n := 1) hx rfl (by omega), k_bd, if_pos rfl], r_same h⟩
  rw [c_isChoice1 hw, m_in1 (c := 1) (n := 1) (by omega) rfl (by omega), k_bd, k_bd, if_neg (show ¬ (1 : Int32) = 0 by decide), if_neg (show ¬ (1 : Int32) = 0 by decide)]
  obtain ⟨J0, e1, k1⟩ := c_lets0 (fu := fu) (n := n) hR hr hp (by omega) hf
  obtain ⟨M0, e2, a2, k2⟩ := m_try (fu := fu) (n := n) hM hg h13 hp (by omega) hf
  rw [e1, e2, k_bd, k_bd]
  generalize hF : p_swo P n (P 16) (nI (p_sum (p_gl (fun _ => false) p_cm P) n), -4) = F
  have eF : ∀ a, F (a + 1) = p_swi P n a (F a) (P 16 - (a + 1)) := fun a => by rw [← hF]; rfl
  have eI : ∀ a s k, p_swi P n a s (k + 1) = if nI (p_sum (p_gl (fun _ => false) p_cm (p_swp P a (a + 1 + k))) n) ≤ (p_swi P n a s k).1 then p_swi P n a s k else (nI (p_sum (p_gl (fun _ => false) p_cm (p_swp P a (a + 1 + k))) n), nI 10 * nI a + nI (a + 1 + k)) := fun a s k => rfl
  -- the class
  obtain ⟨b, e3, J, R3, t3, rfl, hR3, hJ⟩ := e_lp (body := fun s => b_X7_swap_29 fu 0 (nI n) (nI w) s.1 s.2.1 s.2.2.1 s.2.2.2) (P 16)
    (fun i s => ∃ J R1 t1, s = ((F i).1, (F i).2, nI i, (J, R1)) ∧ c_R R1 t1 ∧ c_kept I J)
    (fun b => ∃ J R1 t1, b = ((F (P 16)).1, (F (P 16)).2, (J, R1)) ∧ c_R R1 t1 ∧ c_kept I J) (by
    rintro a s ha ⟨J, R1, t1, rfl, hR1, kJ⟩
    have hrJ := h_rep_kept hr hp kJ
    obtain ⟨b2, e4, J2, R2, t2, rfl, hR2, kJ2⟩ := e_lp (body := fun s => b_X7_swap_47 fu 0 (nI n) (nI w) (nI a) s.1 s.2.1 s.2.2.1 s.2.2.2) (P 16)
      (fun i s => ∃ J R1 t1 k, i = a + 1 + k ∧ s = ((p_swi P n a (F a) k).1, (p_swi P n a (F a) k).2, nI i, (J, R1)) ∧ c_R R1 t1 ∧ c_kept I J)
      (fun b => ∃ J R1 t1, b = ((F (a + 1)).1, (F (a + 1)).2, (J, R1)) ∧ c_R R1 t1 ∧ c_kept I J) (by
      rintro i s hi ⟨J, R1, t1, k, rfl, rfl, hR1, kJ⟩
      have hrJ := h_rep_kept hr hp kJ
      obtain ⟨J1, e5, a5, k5⟩ := c_startTrial (fu := fu) p_cm hR1 hrJ hp (by omega)
      have e6 := c_exchange (fu := fu) (J := J1) (a := a) (b := a + 1 + k) hR1 (by omega) (by omega)
      have hR2 := c_R_sw (a := a) (b := a + 1 + k) hR1 (by omega) (by omega) (by omega)
      obtain ⟨J2, e7, a7, k7⟩ := c_run (fu := fu) (n := n) hR2.2.1 (c_at_sw a5 hp ha hi) (p_ok_swp hp (by omega) (by omega)) (by omega) (by omega) (by omega)
      refine ⟨((p_swi P n a (F a) (k + 1)).1, (p_swi P n a (F a) (k + 1)).2, nI (a + 1 + k + 1), (J2, c_sw R1 t1 a (a + 1 + k))), ?_, J2, _, _, k + 1, by omega, rfl, hR2, c_kept_trans kJ (c_kept_trans k5 k7)⟩
      show b_X7_swap_47 fu 0 (nI n) (nI w) (nI a) _ _ (nI (a + 1 + k)) (J, R1) = _
      unfold b_X7_swap_47 j_X7_swap_103_in47
      simp (disch := omega) only [c_ld0 hR1, hrJ.1, nI_leI, e5, k_bd, c_ld1 hR1, e6, c_ld1 hR2, e7, nI_1, l_10]
      rw [if_neg (by omega), eI]
      by_cases c : nI (p_sum (p_gl (fun _ => false) p_cm (p_swp P a (a + 1 + k))) n) ≤ (p_swi P n a (F a) k).1
      · rw [if_pos c, if_pos c]
      · rw [if_neg c, if_neg c]) (by
      rintro s ⟨J, R1, t1, k, hk, rfl, hR1, kJ⟩
      have hrJ := h_rep_kept hr hp kJ
      refine ⟨((F (a + 1)).1, (F (a + 1)).2, (J, R1)), ?_, J, R1, t1, rfl, hR1, kJ⟩
      show b_X7_swap_47 fu 0 (nI n) (nI w) (nI a) _ _ (nI (P 16)) (J, R1) = _
      unfold b_X7_swap_47
      simp (disch := omega) only [c_ld0 hR1, hrJ.1, nI_leI]
      rw [if_pos (Nat.le_refl _), eF, show P 16 - (a + 1) = k by omega]) (a + 1) fu ((F a).1, (F a).2, nI (a + 1), (J, R1)) (by omega) (by omega) ⟨J, R1, t1, 0, by omega, rfl, hR1, kJ⟩
    refine ⟨((F (a + 1)).1, (F (a + 1)).2, nI (a + 1), (J2, R2)), ?_, J2, R2, t2, rfl, hR2, kJ2⟩
    show b_X7_swap_29 fu 0 (nI n) (nI w) _ _ (nI a) (J, R1) = _
    unfold b_X7_swap_29
    simp (disch := omega) only [c_ld0 hR1, hrJ.1, nI_leI, nI_1]
    rw [if_neg (by omega)]
    exact (e_th e4).trans rfl) (by
    rintro s ⟨J, R1, t1, rfl, hR1, kJ⟩
    have hrJ := h_rep_kept hr hp kJ
    refine ⟨_, ?_, J, R1, t1, rfl, hR1, kJ⟩
    show b_X7_swap_29 fu 0 (nI n) (nI w) _ _ (nI (P 16)) (J, R1) = _
    unfold b_X7_swap_29
    simp (disch := omega) only [c_ld0 hR1, hrJ.1, nI_leI]
    exact if_pos (Nat.le_refl _)) 0 fu (nI (p_sum (p_gl (fun _ => false) p_cm P) n), -4, nI 0, (J0, R)) (Nat.zero_le _) (by omega) ⟨J0, R, t, by rw [← hF]; rfl, hR, k1⟩
  -- the reference
  obtain ⟨bm, e8, Jm, rfl, hJm⟩ := e_lp (body := fun s => b_X8_swap_33 fu 0 (nI n) (nI w) s.1 s.2.1 s.2.2.1 s.2.2.2) (P 16)
    (fun i s => ∃ J, s = ((F i).1, (F i).2, nI i, (J, Rm)) ∧ m_fr Im J)
    (fun b => ∃ J, b = ((F (P 16)).1, (F (P 16)).2, (J, Rm)) ∧ m_fr Im J) (by
    rintro a s ha ⟨J, rfl, kJ⟩
    have q16 := m_pg0 (m_fr_pg kJ hg) 16 (by omega)
    obtain ⟨b2, e4, J2, rfl, kJ2⟩ := e_lp (body := fun s => b_X8_swap_51 fu 0 (nI n) (nI w) (nI a) s.1 s.2.1 s.2.2.1 s.2.2.2) (P 16)
      (fun i s => ∃ J k, i = a + 1 + k ∧ s = ((p_swi P n a (F a) k).1, (p_swi P n a (F a) k).2, nI i, (J, Rm)) ∧ m_fr Im J)
      (fun b => ∃ J, b = ((F (a + 1)).1, (F (a + 1)).2, (J, Rm)) ∧ m_fr Im J) (by
      rintro i s hi ⟨J, k, rfl, rfl, kJ⟩
      have q16 := m_pg0 (m_fr_pg kJ hg) 16 (by omega)
      obtain ⟨J1, e5, g5, f5⟩ := m_copyO (fu := fu) hM (m_fr_pg kJ hg) hf
      obtain ⟨J2, e6, g6, f6⟩ := m_swap (fu := fu) (x1 := nI n) (x2 := nI w) (x3 := (p_swi P n a (F a) k).1) (x4 := (p_swi P n a (F a) k).2) (a := a) (b := a + 1 + k) hM (m_fr_pg (m_fr_trans kJ f5) hg) g5 (by omega) (by omega) (by omega) hf
      obtain ⟨J3, e7, a7, k7⟩ := m_ticksGo (fu := fu) (p := 225) (n := n) hM g6 (m_opn_none (m_fr_opn (m_fr_trans kJ (m_fr_trans f5 f6)) h13)) (p_ok_swp hp (show a < 4 by omega) (show a + 1 + k < 4 by omega)) (by omega) (by omega) (by omega) (by omega)
      have e7' : f_X8_ticksGo fu 0 225 (nI n) (J2, Rm) = _ := e7
      refine ⟨((p_swi P n a (F a) (k + 1)).1, (p_swi P n a (F a) (k + 1)).2, nI (a + 1 + k + 1), (J3, Rm)), ?_, J3, k + 1, by omega, rfl, m_fr_trans kJ (m_fr_trans f5 (m_fr_trans f6 (m_fr_kept (by omega) k7)))⟩
      show b_X8_swap_51 fu 0 (nI n) (nI w) (nI a) _ _ (nI (a + 1 + k)) (J, Rm) = _
      unfold b_X8_swap_51 j_X8_swap_164_in51 j_X8_swap_178_in51
      simp (disch := omega) only [m_ld0 hM, l_16, k_ix, q16, nI_leI, e5, k_bd, e6, k_th, e7', nI_1, l_10]
      rw [if_neg (by omega), eI]
      by_cases c : nI (p_sum (p_gl (fun _ => false) p_cm (p_swp P a (a + 1 + k))) n) ≤ (p_swi P n a (F a) k).1
      · simp only [if_pos c]
      · simp only [if_neg c]) (by
      rintro s ⟨J, k, hk, rfl, kJ⟩
      have q16 := m_pg0 (m_fr_pg kJ hg) 16 (by omega)
      refine ⟨((F (a + 1)).1, (F (a + 1)).2, (J, Rm)), ?_, J, rfl, kJ⟩
      show b_X8_swap_51 fu 0 (nI n) (nI w) (nI a) _ _ (nI (P 16)) (J, Rm) = _
      unfold b_X8_swap_51
      simp (disch := omega) only [m_ld0 hM, l_16, k_ix, q16, nI_leI]
      rw [if_pos (Nat.le_refl _), eF, show P 16 - (a + 1) = k by omega]) (a + 1) fu ((F a).1, (F a).2, nI (a + 1), (J, Rm)) (by omega) (by omega) ⟨J, 0, by omega, rfl, kJ⟩
    refine ⟨((F (a + 1)).1, (F (a + 1)).2, nI (a + 1), (J2, Rm)), ?_, J2, rfl, kJ2⟩
    show b_X8_swap_33 fu 0 (nI n) (nI w) _ _ (nI a) (J, Rm) = _
    unfold b_X8_swap_33
    simp (disch := omega) only [m_ld0 hM, l_16, k_ix, q16, nI_leI, nI_1]
    rw [if_neg (by omega)]
    exact (e_th e4).trans rfl) (by
    rintro s ⟨J, rfl, kJ⟩
    have q16 := m_pg0 (m_fr_pg kJ hg) 16 (by omega)
    refine ⟨_, ?_, J, rfl, kJ⟩
    show b_X8_swap_33 fu 0 (nI n) (nI w) _ _ (nI (P 16)) (J, Rm) = _
    unfold b_X8_swap_33
    simp (disch := omega) only [m_ld0 hM, l_16, k_ix, q16, nI_leI]
    exact if_pos (Nat.le_refl _)) 0 fu (nI (p_sum (p_gl (fun _ => false) p_cm P) n), -4, nI 0, (M0, Rm)) (Nat.zero_le _) (by omega) ⟨M0, by rw [← hF]; rfl, m_fr_kept (by omega) k2⟩
  refine ⟨if (F (P 16)).2 = -4 then (F (P 16)).2 else if nI w = 0 then (F (P 16)).2 else (F (P 16)).1, (J, R3), (Jm, Rm), (e_th e3).trans ?_, (e_th e8).trans ?_, r_frame h hR3 (c_fr_kept hJ) hJm⟩
  · unfold j_X7_swap_126
    simp only [k_push]
  · unfold j_X8_swap_202
    simp only [k_push]
