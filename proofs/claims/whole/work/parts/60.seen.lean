/-! ===== what was counted ===== -/
def p_agr (L sn sv : Nat → Nat) : Nat → Bool
  | 0 => true
  | e + 1 => p_agr L sn sv e && decide (L (sn e) = sv e)
theorem p_agr_iff {L sn sv : Nat → Nat} : ∀ s, p_agr L sn sv s = true ↔ ∀ e, e < s → L (sn e) = sv e
  | 0 => ⟨fun _ e he => absurd he (Nat.not_lt_zero _), fun _ => rfl⟩
  | s + 1 => by
    show (p_agr L sn sv s && decide (L (sn s) = sv s)) = true ↔ _
    rw [Bool.and_eq_true, p_agr_iff s, decide_eq_true_eq]
    constructor
    · rintro ⟨h1, h2⟩ e he
      rcases Nat.lt_or_ge e s with q | q
      · exact h1 e q
      · rw [show e = s by omega]; exact h2
    · intro h
      exact ⟨fun e he => h e (by omega), h s (by omega)⟩
def b_n (b : Bool) : Nat := if b = true then 1 else 0
/-- the class's numbers of what was counted -/
def c_sn (I : Nat → Nat → Int32) (s : Nat) (sn sv : Nat → Nat) : Prop := s ≤ 6 ∧ I 36 2 = nI s ∧ ∀ e, e < s → sn e ≤ 40 ∧ sv e ≤ 72 ∧ I 37 e = nI (sn e) ∧ I 38 e = nI (sv e)
def m_sn (I : Nat → Nat → Int32) (s : Nat) (sn sv : Nat → Nat) : Prop := s ≤ 6 ∧ I 0 20 = nI s ∧ ∀ e, e < s → sn e ≤ 40 ∧ sv e ≤ 72 ∧ I 7 (2 * e) = nI (sn e) ∧ I 7 (2 * e + 1) = nI (sv e)
theorem r_sn {I Im : Nat → Nat → Int32} (h : r_seen I Im) : ∃ s sn sv, c_sn I s sn sv ∧ m_sn Im s sn sv := by
  obtain ⟨s, hs, h1, h2, h3⟩ := h
  refine ⟨s, fun e => (I 37 e).toNatClampNeg, fun e => (I 38 e).toNatClampNeg, ⟨hs, h1, fun e he => ?_⟩, ⟨hs, h2, fun e he => ?_⟩⟩
  · obtain ⟨n, v, q1, q2, q3, q4, q5, q6⟩ := h3 e he
    dsimp only
    rw [q3, q5, nI_clamp (by omega), nI_clamp (by omega)]
    exact ⟨q1, q2, rfl, rfl⟩
  · obtain ⟨n, v, q1, q2, q3, q4, q5, q6⟩ := h3 e he
    dsimp only
    rw [q3, q5, nI_clamp (by omega), nI_clamp (by omega)]
    exact ⟨q1, q2, q4, q6⟩
theorem c_sn_fr {I J : Nat → Nat → Int32} {s : Nat} {sn sv : Nat → Nat} (h : c_sn I s sn sv) (hk : c_fr I J) : c_sn J s sn sv := ⟨h.1, by rw [hk 36 (by omega)]; exact h.2.1, fun e he => by rw [hk 37 (by omega), hk 38 (by omega)]; exact h.2.2 e he⟩
theorem m_sn_fr {I J : Nat → Nat → Int32} {s : Nat} {sn sv : Nat → Nat} (h : m_sn I s sn sv) (hk : m_fr I J) : m_sn J s sn sv := ⟨h.1, by rw [hk.1 20 (by omega)]; exact h.2.1, fun e he => by rw [hk.2.2 7 (by decide) (by decide) (by decide) (by decide)]; exact h.2.2 e he⟩
theorem c_agrees {fu a s : Nat} {J : Nat → Nat → Int32} {R : Nat → Nat → Option Nat} {t sn sv L : Nat → Nat} (hR : c_R R t) (hs : c_sn J s sn sv) (hL : ∀ k, k < 41 → J a k = nI (L k)) (lL : ∀ k, L k ≤ 100) (hf : 1000 < fu) : f_X3_agreesWith fu 36 a (J, R) = some (nI (b_n (p_agr L sn sv s)), (J, R)) := by
  obtain ⟨s6, h2, hse⟩ := hs
  obtain ⟨b, e1, hb⟩ := e_lpx (body := fun t => b_X3_agreesWith_2 fu 36 a t.1 t.2) s (fun i t => t = (nI i, (J, R)) ∧ p_agr L sn sv i = true) (fun b => (b = .inl (J, R) ∧ p_agr L sn sv s = true) ∨ (b = .inr (0, (J, R)) ∧ p_agr L sn sv s = false)) (by
    rintro i q hi ⟨rfl, hA⟩
    obtain ⟨q1, q2, q3, q4⟩ := hse i hi
    have hl := lL (sn i)
    have step : b_X3_agreesWith_2 fu 36 a (nI i) (J, R) = if L (sn i) = sv i then some (.inl (nI (i + 1), (J, R))) else some (.inr (.inr (0, (J, R)))) := by
      have hLi := hL (sn i) (by omega)
      unfold b_X3_agreesWith_2
      simp (disch := omega) only [h2, nI_leI, c_ld60 hR, c_ld61 hR, k_ix, q3, q4, l_41, hLi, nI_eq, nI_1, e_zb0]
      rw [if_neg (by omega), if_neg (by omega)]
    by_cases c : L (sn i) = sv i
    · rw [if_pos c] at step
      refine Or.inl ⟨_, step, rfl, ?_⟩
      show (p_agr L sn sv i && decide (L (sn i) = sv i)) = true
      rw [hA]; simp [c]
    · rw [if_neg c] at step
      refine Or.inr ⟨_, step, Or.inr ⟨rfl, ?_⟩⟩
      rcases Bool.eq_false_or_eq_true (p_agr L sn sv s) with z | z
      · exact absurd ((p_agr_iff s).mp z i hi) c
      · exact z) (by
    rintro q ⟨rfl, hA⟩
    refine ⟨.inl (J, R), ?_, Or.inl ⟨rfl, hA⟩⟩
    show b_X3_agreesWith_2 fu 36 a (nI s) (J, R) = _
    unfold b_X3_agreesWith_2
    exact if_pos (show J 36 2 ≤ nI s by rw [h2]; exact nI_le (Nat.le_refl _) (by omega))) 0 fu (nI 0, (J, R)) (Nat.zero_le _) (by omega) ⟨rfl, rfl⟩
  unfold f_X3_agreesWith
  refine (e_th e1).trans ?_
  rcases hb with ⟨rfl, z⟩ | ⟨rfl, z⟩
  · rw [z]; exact e_zb1
  · rw [z]; rfl
/-- the class counts how many are let, tick by tick, into a row -/
theorem c_row {fu a : Nat} {J : Nat → Nat → Int32} {R : Nat → Nat → Option Nat} {t P : Nat → Nat} (hR : c_R R t) (ha : c_at J t (fun _ => false) p_cm P 0) (hp : p_ok 999 P) (h31 : 31 ≤ a) (hf : 1000 < fu) : ∃ J', f_X7_countLetByTick fu 0 a (J, R) = some ((), (J', R)) ∧ (∀ k, k < 41 → J' a k = nI (p_gl (fun _ => false) p_cm P k)) ∧ ∀ b, b < 16 ∨ 31 ≤ b → b ≠ a → J' b = J b := by
  obtain ⟨b, e1, J', rfl, -, h1, h2⟩ := e_lp (body := fun s => b_X7_countLetByTick_2 fu 0 a s.1 s.2) 41
    (fun i s => ∃ J', s = (nI i, (J', R)) ∧ c_at J' t (fun _ => false) p_cm P i ∧ (∀ k, k < i → J' a k = nI (p_gl (fun _ => false) p_cm P k)) ∧ ∀ b, b < 16 ∨ 31 ≤ b → b ≠ a → J' b = J b)
    (fun b => ∃ J', b = (J', R) ∧ True ∧ (∀ k, k < 41 → J' a k = nI (p_gl (fun _ => false) p_cm P k)) ∧ ∀ b, b < 16 ∨ 31 ≤ b → b ≠ a → J' b = J b) (by
    rintro i s hi ⟨J1, rfl, aJ, h1, h2⟩
    obtain ⟨J2, e, a3, k3⟩ := c_tick1 (fu := fu) hR.2.1 aJ hp (by omega) (by omega)
    have hdo := hR.2.1.2.2.2.2.2.2.2.2.2.2
    have a4 : c_at (g_u J2 a i (nI (p_gl (fun _ => false) p_cm P i))) t (fun _ => false) p_cm P (i + 1) := by
      have hp1 := p_ok_go (opn := fun _ => false) (cm := p_cm) (p_z_ok hp) (i + 1)
      have c16 := hp1.1
      have c41 := hp1.2.1
      have b16 := hp.1
      refine ⟨h_rep_fr a3.1 (g_u_ne (by omega)) (fun d hd => g_u_ne (by have := hdo d (by omega); omega)) (fun j hj => g_u_ne (by omega)), fun d hd => ?_, fun d hd => ?_⟩
      · rw [g_u_ne (by have := hdo d (by omega); omega)]; exact a3.2.1 d hd
      · rw [g_u_ne (by have := hdo d (by omega); omega)]; exact a3.2.2 d hd
    refine ⟨(nI (i + 1), (g_u J2 a i (nI (p_gl (fun _ => false) p_cm P i)), R)), ?_, _, rfl, a4, fun k hk => ?_, fun b hb hn => ?_⟩
    · show b_X7_countLetByTick_2 fu 0 a (nI i) (J1, R) = _
      unfold b_X7_countLetByTick_2
      rw [if_neg (show ¬ (41 : Int32) ≤ nI i from nI_ge (b := 41) hi (by omega))]
      simp (disch := omega) only [c_ld1 hR, e, k_bd, k_ix, nI_1]
    · by_cases c : k = i
      · subst c; exact u_at
      · rw [u_nk c, k3 a (by omega)]; exact h1 k (by omega)
    · rw [g_u_ne hn, k3 b hb]; exact h2 b hb hn) (by
    rintro s ⟨J1, rfl, -, h1, h2⟩
    exact ⟨_, if_pos (show (41 : Int32) ≤ nI 41 from by decide), J1, rfl, trivial, h1, h2⟩) 0 fu (nI 0, (J, R)) (Nat.zero_le _) (by omega) ⟨J, rfl, ha, fun k hk => absurd hk (Nat.not_lt_zero _), fun _ _ _ => rfl⟩
  exact ⟨J', (e_th e1).trans rfl, h1, h2⟩
/-- the reference does both at once -/
def m_fs (I I' : Nat → Nat → Int32) : Prop := (∀ k, k < 14 ∨ 18 ≤ k → I' 0 k = I 0 k) ∧ (∀ k, k < 180 ∨ 225 ≤ k → I' 1 k = I 1 k) ∧ ∀ a, a ≠ 0 → a ≠ 1 → a ≠ 6 → a ≠ 8 → I' a = I a
theorem m_fs_fr {I I' : Nat → Nat → Int32} (h : m_fs I I') : m_fr I I' := ⟨h.1, fun k hk => h.2.1 k (by omega), h.2.2⟩
theorem m_fs_kept {I I' I'' : Nat → Nat → Int32} (h : m_fs I I') (hk : m_kept I' I'' 180) : m_fs I I'' := ⟨fun k q => (hk.1 k q).trans (h.1 k q), fun k q => (hk.2.1 k (by omega)).trans (h.2.1 k q), fun a x y z w => (hk.2.2 a x y z).trans (h.2.2 a x y z w)⟩
theorem m_asSeen {fu p row s : Nat} {I : Nat → Nat → Int32} {R : Nat → Nat → Option Nat} {P sn sv : Nat → Nat} (hM : m_R R) (hg : m_pg I p P) (hq : p + 45 ≤ 180 ∨ p = 225) (h13 : I 0 13 = -4) (hp : p_ok 999 P) (hs : m_sn I s sn sv) (hr : row < 10) (hf : 1000 < fu) : ∃ I', f_X8_isAsSeen fu 0 (nI p) (nI row) (I, R) = some (nI (b_n (p_agr (p_gl (fun _ => false) p_cm P) sn sv s)), (I', R)) ∧ m_fs I I' ∧ (∀ k, k < 41 → I' 8 (41 * row + k) = nI (p_gl (fun _ => false) p_cm P k)) ∧ ∀ j, j < 41 * row ∨ 41 * row + 41 ≤ j → I' 8 j = I 8 j := by
  have lL := p_gl_le (opn := fun _ => false) hp p_few_cm
  generalize hLL : p_gl (fun _ => false) p_cm P = L at *
  obtain ⟨I1, e1, a1, k1⟩ := m_begin (fu := fu) (k := fun _ Sr2 => g_th (g_lp (fun t => b_X8_isAsSeen_17 fu 0 (nI row) t.1 t.2.1 t.2.2) fu ((1 : Int32), (0 : Int32), Sr2)) fun e => match e with | (w3_2, S2) => g_zb w3_2 (some (w3_2, S2))) (fun _ => false) p_cm hM hg hq hp.1 (by omega)
  have f1 : m_fs I I1 := m_fs_kept ⟨fun _ _ => rfl, fun _ _ => rfl, fun _ _ _ _ _ => rfl⟩ k1
  obtain ⟨r, e2, c, J, rfl, hc, hcA, fJ, t1, t2⟩ := e_lp (body := fun t => b_X8_isAsSeen_17 fu 0 (nI row) t.1 t.2.1 t.2.2) 41
    (fun i q => ∃ c J, q = (nI c, nI i, (J, R)) ∧ c ≤ 1 ∧ (c = 1 ↔ ∀ e, e < s → sn e < i → L (sn e) = sv e) ∧ m_at J 180 (fun _ => false) p_cm P i ∧ m_fs I J ∧ (∀ k, k < i → J 8 (41 * row + k) = nI (L k)) ∧ ∀ j, j < 41 * row ∨ 41 * row + 41 ≤ j → J 8 j = I 8 j)
    (fun b => ∃ c J, b = (nI c, (J, R)) ∧ c ≤ 1 ∧ (c = 1 ↔ ∀ e, e < s → sn e < 41 → L (sn e) = sv e) ∧ m_fs I J ∧ (∀ k, k < 41 → J 8 (41 * row + k) = nI (L k)) ∧ ∀ j, j < 41 * row ∨ 41 * row + 41 ≤ j → J 8 j = I 8 j) (by
    rintro i q hi ⟨c, J, rfl, hc, hcA, aJ, fJ, t1, t2⟩
    obtain ⟨J2, e3, a3, k3⟩ := m_goesOn (fu := fu) hM aJ (m_opn_none (m_fr_opn (m_fs_fr fJ) h13)) hp (by omega) (by omega) (by omega) (by omega)
    have hLi : p_gl (fun _ => false) p_cm P i = L i := by rw [hLL]
    rw [hLi] at e3
    have e3' : f_X8_goesOn fu 0 180 (J, R) = _ := e3
    have a4 : m_at (g_u J2 8 (41 * row + i) (nI (L i))) 180 (fun _ => false) p_cm P (i + 1) := by
      obtain ⟨y1, y2, y3, y4, y5, y6⟩ := a3
      exact ⟨fun k hk => by rw [u_ni (by decide)]; exact y1 k hk, by rw [u_ni (by decide)]; exact y2, by rw [u_ni (by decide)]; exact y3, by rw [u_ni (by decide)]; exact y4, by rw [u_ni (by decide)]; exact y5, fun d hd => by rw [u_ni (by decide)]; exact y6 d hd⟩
    have f4 : m_fs I (g_u J2 8 (41 * row + i) (nI (L i))) := by
      have fk := m_fs_kept fJ k3
      exact ⟨fun k hk => by rw [u_ni (by decide)]; exact fk.1 k hk, fun k hk => by rw [u_ni (by decide)]; exact fk.2.1 k hk, fun a x y z w => by rw [g_u_ne w]; exact fk.2.2 a x y z w⟩
    have s4 := m_sn_fr hs (m_fs_fr f4)
    -- over what was counted
    generalize hJ3 : g_u J2 8 (41 * row + i) (nI (L i)) = J3 at a4 f4 s4
    have j38 : J2 8 = J 8 := k3.2.2 8 (by decide) (by decide) (by decide)
    obtain ⟨r2, e5, c2, rfl, hc2, hcB⟩ := e_lp (body := fun t => b_X8_isAsSeen_50 fu 0 (nI row) (nI i) (nI (L i)) t.1 t.2.1 t.2.2) s
      (fun e q => ∃ c, q = (nI c, nI e, (J3, R)) ∧ c ≤ 1 ∧ (c = 1 ↔ (∀ e, e < s → sn e < i → L (sn e) = sv e) ∧ ∀ e', e' < e → sn e' = i → L (sn e') = sv e'))
      (fun b => ∃ c, b = (nI c, (J3, R)) ∧ c ≤ 1 ∧ (c = 1 ↔ (∀ e, e < s → sn e < i → L (sn e) = sv e) ∧ ∀ e', e' < s → sn e' = i → L (sn e') = sv e')) (by
      rintro e q he ⟨c, rfl, hc, hcA⟩
      obtain ⟨q1, q2, q3, q4⟩ := s4.2.2 e he
      have hl := lL i
      have hstep : ∀ c', c' ≤ 1 → (c' = 1 ↔ c = 1 ∧ (sn e = i → L (sn e) = sv e)) → (c' = 1 ↔ (∀ e, e < s → sn e < i → L (sn e) = sv e) ∧ ∀ e', e' < e + 1 → sn e' = i → L (sn e') = sv e') := by
        intro c' _ h
        rw [h, hcA]
        constructor
        · rintro ⟨⟨x1, x2⟩, x3⟩
          refine ⟨x1, fun e' he' hi' => ?_⟩
          rcases Nat.lt_or_ge e' e with z | z
          · exact x2 e' z hi'
          · have : e' = e := by omega
            subst this
            exact x3 hi'
        · rintro ⟨x1, x2⟩
          exact ⟨⟨x1, fun e' he' hi' => x2 e' (by omega) hi'⟩, fun hi' => x2 e (by omega) hi'⟩
      have s20 := s4.2.1
      have s6 := s4.1
      have body : b_X8_isAsSeen_50 fu 0 (nI row) (nI i) (nI (L i)) (nI c) (nI e) (J3, R) = if c = 0 then some (.inl (nI 0, nI (e + 1), (J3, R))) else if sn e = i then (if L i = sv e then some (.inl (nI 1, nI (e + 1), (J3, R))) else some (.inl (nI 0, nI (e + 1), (J3, R)))) else some (.inl (nI 1, nI (e + 1), (J3, R))) := by
        unfold b_X8_isAsSeen_50 j_X8_isAsSeen_97_in50 j_X8_isAsSeen_93_in50 j_X8_isAsSeen_98_in50
        simp (disch := omega) only [s20, nI_leI, l_0, l_1, l_2, pk_mul, nI_add, m_ld19 hM, k_ix, q3, q4, nI_eq]
        rw [if_neg (by omega)]
      by_cases c0 : c = 0
      · rw [if_pos c0] at body
        exact ⟨_, body, 0, rfl, by omega, hstep 0 (by omega) (by omega)⟩
      · rw [if_neg c0] at body
        by_cases c1 : sn e = i
        · rw [if_pos c1] at body
          by_cases c2 : L i = sv e
          · rw [if_pos c2] at body
            exact ⟨_, body, 1, rfl, by omega, hstep 1 (by omega) ⟨fun _ => ⟨by omega, fun _ => by rw [c1]; exact c2⟩, fun _ => rfl⟩⟩
          · rw [if_neg c2] at body
            exact ⟨_, body, 0, rfl, by omega, hstep 0 (by omega) ⟨fun z => by omega, fun z => absurd (by have := z.2 c1; rw [c1] at this; exact this) c2⟩⟩
        · rw [if_neg c1] at body
          exact ⟨_, body, 1, rfl, by omega, hstep 1 (by omega) ⟨fun _ => ⟨by omega, fun z => absurd z c1⟩, fun _ => rfl⟩⟩) (by
      rintro q ⟨c, rfl, hc, hcA⟩
      refine ⟨_, ?_, c, rfl, hc, hcA⟩
      show b_X8_isAsSeen_50 fu 0 (nI row) (nI i) (nI (L i)) (nI c) (nI s) (J3, R) = _
      unfold b_X8_isAsSeen_50
      exact if_pos (show J3 0 20 ≤ nI s by rw [s4.2.1]; exact nI_le (Nat.le_refl _) (by have := s4.1; omega))) 0 fu (nI c, nI 0, (J3, R)) (Nat.zero_le _) (by have := s4.1; omega) ⟨c, rfl, hc, hcA.trans ⟨fun z => ⟨z, fun e' he' => absurd he' (Nat.not_lt_zero _)⟩, fun z => z.1⟩⟩
    refine ⟨(nI c2, nI (i + 1), (J3, R)), ?_, c2, J3, rfl, hc2, ?_, a4, f4, fun k hk => ?_, fun j hj => ?_⟩
    · show b_X8_isAsSeen_17 fu 0 (nI row) (nI c) (nI i) (J, R) = _
      unfold b_X8_isAsSeen_17
      rw [if_neg (show ¬ (40 : Int32) < nI i from nI_nlt (a := 40) (by omega) (by omega)), e3', k_bd]
      simp (disch := omega) only [m_ld21 hM, l_41, pk_mul, nI_add, k_ix, hJ3]
      refine (e_th e5).trans ?_
      dsimp only
      rw [nI_1]
    · rw [hcB]
      constructor
      · rintro ⟨x1, x2⟩ e he hlt
        rcases Nat.lt_or_ge (sn e) i with z | z
        · exact x1 e he z
        · exact x2 e he (by omega)
      · intro x
        exact ⟨fun e he hlt => x e he (by omega), fun e he heq => x e he (by omega)⟩
    · rw [← hJ3]
      by_cases z : k = i
      · subst z; exact u_at
      · rw [u_nk (by omega), j38]; exact t1 k (by omega)
    · rw [← hJ3, u_nk (by omega), j38]; exact t2 j hj) (by
    rintro q ⟨c, J, rfl, hc, hcA, aJ, fJ, t1, t2⟩
    exact ⟨_, if_pos (show (40 : Int32) < nI 41 from by decide), c, J, rfl, hc, hcA, fJ, t1, t2⟩) 0 fu (nI 1, nI 0, (I1, R)) (Nat.zero_le _) (by omega) ⟨1, I1, rfl, by omega, ⟨fun _ e _ he => absurd he (Nat.not_lt_zero _), fun _ => rfl⟩, a1, f1, fun k hk => absurd hk (Nat.not_lt_zero _), fun j _ => by rw [k1.2.2 8 (by decide) (by decide) (by decide)]⟩
  have hfin : c = b_n (p_agr L sn sv s) := by
    have hiff : c = 1 ↔ p_agr L sn sv s = true := by
      rw [hcA, p_agr_iff]
      exact ⟨fun z e he => z e he (by have := (hs.2.2 e he).1; omega), fun z e he _ => z e he⟩
    unfold b_n
    by_cases z : p_agr L sn sv s = true
    · rw [if_pos z]; exact hiff.mpr z
    · rw [if_neg z]
      have : c ≠ 1 := fun y => z (hiff.mp y)
      omega
  refine ⟨J, ?_, fJ, t1, t2⟩
  unfold f_X8_isAsSeen
  refine e1.trans ((e_th e2).trans ?_)
  dsimp only
  rw [← hfin]
  rcases (show c = 0 ∨ c = 1 by omega) with z | z
  · rw [z]; exact k_zb0
  · rw [z]; exact k_zb1
