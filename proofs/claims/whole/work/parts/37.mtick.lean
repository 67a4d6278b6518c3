/-! ===== the reference: a tick ===== -/
theorem m_comeOn {fu p T : Nat} {I : Nat → Nat → Int32} {R : Nat → Nat → Option Nat} {P : Nat → Nat} (hR : m_R R) (hg : m_pg I p P) (hp : p_ok T P) (hT : T ≤ 5000) (hq : p ≤ 225) (hf : 10 < fu) : f_X8_comeOn fu 0 (nI p) (I, R) = some (nI (p_come P), (I, R)) := by
  have b41 := hp.2.1
  have b42 := hp.2.2.2.2.1
  have g41 := hg 41 (by omega)
  have g42 := hg 42 (by omega)
  obtain ⟨b, e1, rfl⟩ := e_lp (body := fun t => b_X8_comeOn_4 fu 0 (nI p) t.1 t.2.1 t.2.2) (P 41) (fun i t => t = (nI (p_sum (fun i => if p_comes P i = true then P (25 + i) else 0) i), nI i, (I, R))) (fun b => b = (nI (p_come P), (I, R))) (by
    intro i t hi ht
    subst ht
    refine ⟨(nI (p_sum (fun i => if p_comes P i = true then P (25 + i) else 0) (i + 1)), nI (i + 1), (I, R)), ?_, rfl⟩
    obtain ⟨c0, c1, c2⟩ := hp.2.2.2.1 i (by omega)
    have g17 := hg (17 + i) (by omega)
    have g25 := hg (25 + i) (by omega)
    have g33 := hg (33 + i) (by omega)
    rw [← Nat.add_assoc] at g17 g25 g33
    show b_X8_comeOn_4 fu 0 (nI p) _ (nI i) (I, R) = _
    unfold b_X8_comeOn_4 j_X8_comeOn_77_in4 j_X8_comeOn_91_in4 j_X8_comeOn_92_in4
    simp (disch := omega) only [m_ld0 hR, l_41, l_42, l_17, l_33, l_25, l_0, nI_add, k_ix, g41, g42, g17, g25, g33, nI_leI, nI_1, Nat.add_zero]
    rw [if_neg (by omega)]
    have key : ∀ v, p_comes P i = v → some (Sum.inl (nI (p_sum (fun i => if p_comes P i = true then P (25 + i) else 0) i + if v = true then P (25 + i) else 0), nI (i + 1), (I, R))) = (some (Sum.inl (nI (p_sum (fun i => if p_comes P i = true then P (25 + i) else 0) (i + 1)), nI (i + 1), (I, R))) : Option ((Int32 × Int32 × g_St) ⊕ (Int32 × g_St))) := by
      intro v hv
      subst hv
      rfl
    rcases Nat.lt_trichotomy (P 42) (P (17 + i)) with q | q | q
    · have hneg := pk_sneg (a := P 42) (b := P (17 + i)) (by omega) q
      rw [if_neg (fun z => by rw [z] at hneg; exact absurd hneg (by decide)), if_pos (show nI (P 42) - nI (P (17 + i)) ≤ nI 0 from Int32.le_of_lt hneg)]
      exact key false (by simp [p_comes]; omega)
    · rw [if_pos (by rw [q, pk_sub (Nat.le_refl _), Nat.sub_self])]
      exact key true (by simp [p_comes, q])
    · rw [pk_sub (by omega)]
      simp (disch := omega) only [nI_eq, nI_leI]
      rw [if_neg (by omega), if_neg (by omega)]
      by_cases c3 : P (33 + i) ≤ 0
      · rw [if_pos c3]
        exact key false (by simp [p_comes]; omega)
      · rw [if_neg c3, k_nz (by omega) (by omega), pk_rem (by omega) (by omega) (by omega)]
        have := Nat.mod_le (P 42 - P (17 + i)) (P (33 + i))
        simp (disch := omega) only [nI_eq]
        by_cases c4 : (P 42 - P (17 + i)) % P (33 + i) = 0
        · rw [if_pos c4]
          exact key true (by simp [p_comes, c4]; omega)
        · rw [if_neg c4]
          exact key false (by simp [p_comes, c4]; omega)) (by
    intro t ht
    subst ht
    refine ⟨_, ?_, rfl⟩
    show b_X8_comeOn_4 fu 0 (nI p) _ (nI (P 41)) (I, R) = _
    unfold b_X8_comeOn_4
    simp (disch := omega) only [m_ld0 hR, l_41, nI_add, k_ix, g41, nI_leI]
    exact if_pos (Nat.le_refl _)) 0 fu (nI 0, nI 0, (I, R)) (Nat.zero_le _) (by omega) rfl
  exact e_th e1
theorem m_settlesOn {fu p d T : Nat} {I : Nat → Nat → Int32} {R : Nat → Nat → Option Nat} {P : Nat → Nat} (hR : m_R R) (g0 : I 1 (p + d) = nI (P d)) (g4 : I 1 (p + 4 + d) = nI (P (4 + d))) (g8 : I 1 (p + 8 + d) = nI (P (8 + d))) (g12 : I 1 (p + 12 + d) = nI (P (12 + d))) (g42 : I 1 (p + 42) = nI (P 42)) (hp : p_ok T P) (hT : T ≤ 5000) (hq : p ≤ 225) (hd : d < 4) : f_X8_settlesOn fu 0 (nI p) (nI d) (I, R) = some ((), (g_u I 1 (p + 12 + d) (nI (p_set (P d) (P (4 + d)) (P (8 + d)) (P (12 + d)) (P 42))), R)) := by
  obtain ⟨b0, b1, b2, b3⟩ := hp.2.2.1 d hd
  have b42 := hp.2.2.2.2.1
  unfold f_X8_settlesOn j_X8_settlesOn_71 j_X8_settlesOn_97 j_X8_settlesOn_137 j_X8_settlesOn_139
  simp (disch := omega) only [m_ld0 hR, l_42, l_8, l_12, l_4, l_0, l_1, l_2, nI_add, k_ix, g0, g4, g8, g12, g42, nI_leI, nI_eq]
  unfold p_set
  by_cases c0 : P d = 0
  · rw [if_pos c0, if_pos c0]
    by_cases c : P (12 + d) + P (8 + d) ≤ P (4 + d)
    · rw [if_pos c, show min (P (4 + d)) (P (12 + d) + P (8 + d)) = P (12 + d) + P (8 + d) by omega]
    · rw [if_neg c, show min (P (4 + d)) (P (12 + d) + P (8 + d)) = P (4 + d) by omega]
  · rw [if_neg c0, if_neg c0]
    by_cases c1 : P d = 1
    · rw [if_pos c1, if_pos c1]
      by_cases c : P (12 + d) ≤ P (8 + d)
      · rw [if_pos c, show P (12 + d) - P (8 + d) = 0 by omega]
      · rw [if_neg c, pk_sub (by omega)]
    · rw [if_neg c1, if_neg c1]
      by_cases c2 : P (8 + d) ≤ 0
      · rw [if_pos c2, if_neg (by omega)]
      · rw [if_neg c2, k_nz (by omega) (by omega), pk_rem (by omega) (by omega) (by omega)]
        have := Nat.mod_le (P 42 + 1) (P (8 + d))
        simp (disch := omega) only [nI_eq]
        by_cases c3 : (P 42 + 1) % P (8 + d) = 0
        · rw [if_pos c3, if_pos (show 0 < P (8 + d) ∧ (P 42 + 1) % P (8 + d) = 0 from ⟨by omega, c3⟩)]
          by_cases c4 : P d = 2
          · rw [if_pos c4, if_pos c4]
          · rw [if_neg c4, if_neg c4, k_nz (by omega) (by omega), pk_div (by omega) (by omega) (by omega)]
        · rw [if_neg c3, if_neg (fun q => c3 q.2)]
/-- what a tick of a page leaves as it was -/
def m_kept (I I' : Nat → Nat → Int32) (p : Nat) : Prop := (∀ k, k < 14 ∨ 18 ≤ k → I' 0 k = I 0 k) ∧ (∀ k, k < p ∨ p + 45 ≤ k → I' 1 k = I 1 k) ∧ ∀ a, a ≠ 0 → a ≠ 1 → a ≠ 6 → I' a = I a
theorem m_kept_trans {I I' I'' : Nat → Nat → Int32} {p : Nat} (h1 : m_kept I I' p) (h2 : m_kept I' I'' p) : m_kept I I'' p := ⟨fun k hk => (h2.1 k hk).trans (h1.1 k hk), fun k hk => (h2.2.1 k hk).trans (h1.2.1 k hk), fun a h h' h'' => (h2.2.2 a h h' h'').trans (h1.2.2 a h h' h'')⟩
theorem m_kept_opn {I I' : Nat → Nat → Int32} {p : Nat} {opn : Nat → Bool} (h : m_kept I I' p) (ho : m_opn I opn) : m_opn I' opn := fun d hd => by rw [h.1 13 (by omega)]; exact ho d hd
set_option maxHeartbeats 1000000 in
/-- a tick of a page in which m come -/
theorem m_tickOn {fu p T m : Nat} {I : Nat → Nat → Int32} {R : Nat → Nat → Option Nat} {P : Nat → Nat} {opn : Nat → Bool} {L U B W : Nat} {F : Nat → Nat} (hR : m_R R) (hg : m_pg I p P) (ho : m_opn I opn) (hp : p_ok T P) (hT : T ≤ 5000) (hq : p ≤ 225) (hm : m ≤ 100) (hL : I 0 14 = nI L) (hU : I 0 15 = nI U) (hB : I 0 16 = nI B) (hW : I 0 17 = nI W) (hF : ∀ d, d < P 16 → I 6 d = nI (F d)) (lU : U ≤ 20000) (lW : W ≤ 100) (hf : m + 20 < fu) : ∃ I', f_X8_tickOn fu 0 (nI p) (nI m) (I, R) = some (nI (p_adm opn P m (P 16)), (I', R)) ∧ m_pg I' p (p_tick opn P m) ∧ I' 0 14 = nI (L + p_adm opn P m (P 16)) ∧ I' 0 15 = nI (U + (m - p_adm opn P m (P 16))) ∧ I' 0 16 = nI (B + if 0 < m - p_adm opn P m (P 16) then 1 else 0) ∧ I' 0 17 = nI (max W (m - p_adm opn P m (P 16))) ∧ (∀ d, d < P 16 → I' 6 d = nI (F d + (p_adm opn P m d - p_adm opn P m (d + 1)))) ∧ m_kept I I' p := by
  have b16 := hp.1
  have hle := p_adm_le (opn := opn) (P := P) (m := m) (P 16)
  -- those who come
  obtain ⟨b, e1, J, rfl, gJ, jL, jU, jF, jk⟩ := e_lp (body := fun t => b_X8_tickOn_14 fu 0 (nI p) (nI m) (nI L) (nI U) t.1 t.2) m
    (fun i t => ∃ J, t = (nI i, (J, R)) ∧ m_pg J p (p_pass opn P i) ∧ J 0 14 = nI (L + p_adm opn P i (P 16)) ∧ J 0 15 = nI (U + (i - p_adm opn P i (P 16))) ∧ (∀ d, d < P 16 → J 6 d = nI (F d + (p_adm opn P i d - p_adm opn P i (d + 1)))) ∧ (∀ k, k ≠ 14 → k ≠ 15 → J 0 k = I 0 k) ∧ (∀ k, k < p ∨ p + 45 ≤ k → J 1 k = I 1 k) ∧ ∀ a, a ≠ 0 → a ≠ 1 → a ≠ 6 → J a = I a)
    (fun b => ∃ J, b = (J, R) ∧ m_pg J p (p_pass opn P m) ∧ J 0 14 = nI (L + p_adm opn P m (P 16)) ∧ J 0 15 = nI (U + (m - p_adm opn P m (P 16))) ∧ (∀ d, d < P 16 → J 6 d = nI (F d + (p_adm opn P m d - p_adm opn P m (d + 1)))) ∧ (∀ k, k ≠ 14 → k ≠ 15 → J 0 k = I 0 k) ∧ (∀ k, k < p ∨ p + 45 ≤ k → J 1 k = I 1 k) ∧ ∀ a, a ≠ 0 → a ≠ 1 → a ≠ 6 → J a = I a) (by
    rintro i t hi ⟨J, rfl, gJ, jL, jU, jF, j0, j1, ja⟩
    have hpi := p_ok_pass (opn := opn) (m := i) hp
    have e16 := p_pass_16 (opn := opn) (P := P) (m := i) b16
    have h1 := fun d hd => p_adm_1 (opn := opn) (P := P) (m := i) b16 d hd
    obtain ⟨r, J2, es, -, gJ2, j2L, j2U, j2F, j20, j21, j2a⟩ := m_passOn (fu := fu) (opn := opn) hR gJ (fun d hd => by rw [j0 13 (by decide) (by decide)]; exact ho d hd) hpi hq (by omega)
    rw [e16] at j2L j2U j2F
    rw [p_pass_pass b16] at gJ2
    refine ⟨(nI (i + 1), (J2, R)), ?_, J2, rfl, gJ2, ?_, ?_, fun d hd => ?_, fun k h4 h5 => by rw [j20 k h4 h5, j0 k h4 h5], fun k hk => by rw [j21 k hk, j1 k hk], fun a x y z => by rw [j2a a x y z, ja a x y z]⟩
    · show b_X8_tickOn_14 fu 0 (nI p) (nI m) (nI L) (nI U) (nI i) (J, R) = _
      unfold b_X8_tickOn_14
      rw [if_neg (nI_ge hi (by omega)), es, k_bd, nI_1]
    · rw [j2L, jL, nI_add, h1 _ (Nat.le_refl _), Nat.add_assoc]
    · have q1 := p_adm_le (opn := opn) (P := P) (m := i) (P 16)
      have q2 := p_adm_le (opn := opn) (P := p_pass opn P i) (m := 1) (P 16)
      rw [j2U, jU, nI_add, h1 _ (Nat.le_refl _)]
      congr 1
      omega
    · have q1 := p_adm_mono (opn := opn) (P := P) (m := i) (d := d)
      have q2 := p_adm_mono (opn := opn) (P := p_pass opn P i) (m := 1) (d := d)
      rw [j2F d hd, jF d hd, nI_add, h1 d (by omega), h1 (d + 1) (by omega)]
      congr 1
      omega) (by
    rintro t ⟨J, rfl, h⟩
    refine ⟨_, ?_, J, rfl, h⟩
    show b_X8_tickOn_14 fu 0 (nI p) (nI m) (nI L) (nI U) (nI m) (J, R) = _
    unfold b_X8_tickOn_14
    exact if_pos (nI_le (Nat.le_refl _) (by omega))) 0 fu (nI 0, (I, R)) (Nat.zero_le _) (by omega) ⟨I, rfl, by rw [p_pass_0 hp]; exact hg, by
      rw [show p_adm opn P 0 (P 16) = 0 from Nat.le_zero.mp (p_adm_le _)]; exact hL, by
      rw [show p_adm opn P 0 (P 16) = 0 from Nat.le_zero.mp (p_adm_le _)]; exact hU, fun d hd => by
      rw [show p_adm opn P 0 d = 0 from Nat.le_zero.mp (p_adm_le _), Nat.zero_sub]; exact hF d hd, fun _ _ _ => rfl, fun _ _ => rfl, fun _ _ _ _ => rfl⟩
  obtain ⟨j0, j1, ja⟩ := jk
  have hpm := p_ok_pass (opn := opn) (m := m) hp
  have e16 := p_pass_16 (opn := opn) (P := P) (m := m) b16
  have n16 : p_pass opn P m 16 ≤ 4 := by omega
  -- the doors settle
  obtain ⟨b2, e2, J2, rfl, k0, k1, ka, kx⟩ := e_lp (body := fun t => b_X8_tickOn_35 fu 0 (nI p) (nI L) (nI U) t.1 t.2) (P 16)
    (fun i t => ∃ J2, t = (nI i, (J2, R)) ∧ (∀ a, a ≠ 1 → J2 a = J a) ∧ (∀ k, k < p + 12 ∨ p + 12 + i ≤ k → J2 1 k = J 1 k) ∧ ∀ d, d < i → J2 1 (p + 12 + d) = nI (p_tick opn P m (12 + d)))
    (fun b => ∃ J2, b = (J2, R) ∧ (∀ a, a ≠ 1 → J2 a = J a) ∧ (∀ k, k < p + 12 ∨ p + 12 + P 16 ≤ k → J2 1 k = J 1 k) ∧ (∀ d, d < P 16 → J2 1 (p + 12 + d) = nI (p_tick opn P m (12 + d))) ∧ True) (by
    rintro i t hi ⟨J2, rfl, k0, k1, kd⟩
    have h13 : J2 0 13 = I 0 13 := by rw [k0 0 (by decide), j0 13 (by decide) (by decide)]
    have g16 : J2 1 (p + 16) = nI (P 16) := by rw [k1 _ (by omega), gJ 16 (by omega), e16]
    have rest : ∀ J3 : Nat → Nat → Int32, (∀ a, a ≠ 1 → J3 a = J2 a) → (∀ k, k ≠ p + 12 + i → J3 1 k = J2 1 k) → J3 1 (p + 12 + i) = nI (p_tick opn P m (12 + i)) → (∀ a, a ≠ 1 → J3 a = J a) ∧ (∀ k, k < p + 12 ∨ p + 12 + (i + 1) ≤ k → J3 1 k = J 1 k) ∧ ∀ d, d < i + 1 → J3 1 (p + 12 + d) = nI (p_tick opn P m (12 + d)) := fun J3 x y z => ⟨fun a ha => by rw [x a ha, k0 a ha], fun k hk => by rw [y k (by omega), k1 k (by omega)], fun d hd => by
      rcases Nat.lt_or_ge d i with q | q
      · rw [y _ (by omega)]; exact kd d q
      · rw [show d = i by omega]; exact z⟩
    by_cases c : opn i = true
    · refine ⟨(nI (i + 1), (J2, R)), ?_, J2, rfl, rest J2 (fun _ _ => rfl) (fun _ _ => rfl) ?_⟩
      · show b_X8_tickOn_35 fu 0 (nI p) (nI L) (nI U) (nI i) (J2, R) = _
        unfold b_X8_tickOn_35 j_X8_tickOn_65_in35
        simp (disch := omega) only [m_ld0 hR, l_16, nI_add, k_ix, g16, nI_leI, nI_1]
        rw [if_neg (by omega), h13, if_pos ((ho i (by omega)).mpr c)]
      · show _ = nI (p_settle opn (p_pass opn P m) (12 + i))
        rw [p_settle_o (by omega) c, k1 _ (by omega), Nat.add_assoc]
        exact gJ (12 + i) (by omega)
    · have c' : opn i = false := by simpa using c
      have gg : ∀ k, k < 45 → k < 12 ∨ 12 + i ≤ k → J2 1 (p + k) = nI (p_pass opn P m k) := fun k hk hz => by
        rw [k1 _ (by omega)]; exact gJ k hk
      have hset := m_settlesOn (fu := fu) (p := p) (d := i) (I := J2) (P := p_pass opn P m) hR (gg i (by omega) (by omega)) (by rw [Nat.add_assoc]; exact gg (4 + i) (by omega) (by omega)) (by rw [Nat.add_assoc]; exact gg (8 + i) (by omega) (by omega)) (by rw [Nat.add_assoc]; exact gg (12 + i) (by omega) (by omega)) (gg 42 (by omega) (by omega)) hpm hT hq (by omega)
      refine ⟨(nI (i + 1), (g_u J2 1 (p + 12 + i) (nI (p_tick opn P m (12 + i))), R)), ?_, _, rfl, rest _ (fun a ha => g_u_ne ha) (fun k hk => u_nk hk) u_at⟩
      show b_X8_tickOn_35 fu 0 (nI p) (nI L) (nI U) (nI i) (J2, R) = _
      unfold b_X8_tickOn_35 j_X8_tickOn_65_in35
      simp (disch := omega) only [m_ld0 hR, l_16, nI_add, k_ix, g16, nI_leI, nI_1]
      rw [if_neg (by omega), h13, if_neg (fun q => c ((ho i (by omega)).mp q)), hset, k_bd]
      show _ = some (Sum.inl (nI (i + 1), (g_u J2 1 (p + 12 + i) (nI (p_settle opn (p_pass opn P m) (12 + i))), R)))
      rw [p_settle_h (by omega) c']) (by
    rintro t ⟨J2, rfl, k0, k1, kd⟩
    refine ⟨_, ?_, J2, rfl, k0, k1, kd, trivial⟩
    have g16 : J2 1 (p + 16) = nI (P 16) := by rw [k1 _ (by omega), gJ 16 (by omega), e16]
    show b_X8_tickOn_35 fu 0 (nI p) (nI L) (nI U) (nI (P 16)) (J2, R) = _
    unfold b_X8_tickOn_35
    simp (disch := omega) only [m_ld0 hR, l_16, nI_add, k_ix, g16, nI_leI]
    exact if_pos (Nat.le_refl _)) 0 fu (nI 0, (J, R)) (Nat.zero_le _) (by omega) ⟨J, rfl, fun _ _ => rfl, fun _ _ => rfl, fun d hd => absurd hd (Nat.not_lt_zero _)⟩
  have i0 : J2 0 = J 0 := k0 0 (by decide)
  have g42 : J2 1 (p + 42) = nI (P 42) := by rw [k1 _ (by omega), gJ 42 (by omega), p_pass_x b16 (by omega) (by omega) (by omega)]
  have b42 := hp.2.2.2.2.1
  have hbad : (U + (m - p_adm opn P m (P 16))) - U = m - p_adm opn P m (P 16) := by omega
  have d16 : J2 0 16 = nI B := by rw [i0, j0 16 (by decide) (by decide)]; exact hB
  have d17 : J2 0 17 = nI W := by rw [i0, j0 17 (by decide) (by decide)]; exact hW
  have d14 : J2 0 14 = nI (L + p_adm opn P m (P 16)) := by rw [i0]; exact jL
  have d15 : J2 0 15 = nI (U + (m - p_adm opn P m (P 16))) := by rw [i0]; exact jU
  refine ⟨g_u (g_u (g_u J2 0 16 (nI (B + if 0 < m - p_adm opn P m (P 16) then 1 else 0))) 0 17 (nI (max W (m - p_adm opn P m (P 16))))) 1 (p + 42) (nI (P 42 + 1)), ?_, fun k hk => ?_, ?_, ?_, ?_, ?_, fun d hd => ?_, ⟨fun k hk => ?_, fun k hk => ?_, fun a x y z => ?_⟩⟩
  · unfold f_X8_tickOn
    have s14 : (I, R).1 0 14 = nI L := hL
    have s15 : (I, R).1 0 15 = nI U := hU
    rw [s14, s15]
    refine (e_th e1).trans ((e_th e2).trans ?_)
    unfold j_X8_tickOn_95 j_X8_tickOn_118
    dsimp only
    have x17 : ∀ v, (g_u J2 0 16 v) 0 17 = nI W := fun v => by rw [u_nk (by decide)]; exact d17
    have x42 : ∀ v w, (g_u (g_u J2 0 16 v) 0 17 w) 1 (p + 42) = nI (P 42) := fun v w => by rw [u_ni (by decide), u_ni (by decide)]; exact g42
    have x14 : ∀ v w x, (g_u (g_u (g_u J2 0 16 v) 0 17 w) 1 (p + 42) x) 0 14 = nI (L + p_adm opn P m (P 16)) := fun v w x => by rw [u_ni (by decide), u_nk (by decide), u_nk (by decide)]; exact d14
    simp (disch := omega) only [m_ld0 hR, l_42, l_0, l_1, nI_add, k_ix, d15, d16, x17, x42, x14, pk_sub, hbad, nI_leI]
    rw [show L + p_adm opn P m (P 16) - L = p_adm opn P m (P 16) by omega]
    by_cases c1 : m - p_adm opn P m (P 16) ≤ 0
    · rw [if_pos c1, if_pos (by omega), if_neg (show ¬ 0 < m - p_adm opn P m (P 16) by omega), show max W (m - p_adm opn P m (P 16)) = W by omega]
    · rw [if_neg c1, if_pos (show 0 < m - p_adm opn P m (P 16) by omega)]
      by_cases c2 : m - p_adm opn P m (P 16) ≤ W
      · rw [if_pos c2, show max W (m - p_adm opn P m (P 16)) = W by omega]
      · rw [if_neg c2, show max W (m - p_adm opn P m (P 16)) = m - p_adm opn P m (P 16) by omega]
  · by_cases k2 : k = 42
    · subst k2
      rw [u_at]
      show _ = nI (p_settle opn (p_pass opn P m) 42)
      rw [p_settle_42 n16, p_pass_x b16 (by omega) (by omega) (by omega)]
    · rw [u_nk (by omega), u_ni (by decide), u_ni (by decide)]
      rcases (show k < 12 ∨ (12 ≤ k ∧ k < 12 + P 16) ∨ 12 + P 16 ≤ k by omega) with q | q | q
      · rw [k1 _ (by omega)]
        show _ = nI (p_settle opn (p_pass opn P m) k)
        rw [p_settle_x n16 (by omega) k2]; exact gJ k hk
      · have := ka (k - 12) (by omega)
        rw [show p + 12 + (k - 12) = p + k by omega, show 12 + (k - 12) = k by omega] at this
        exact this
      · rw [k1 _ (by omega)]
        have : p_tick opn P m k = p_pass opn P m k := by
          show p_settle opn (p_pass opn P m) k = _
          unfold p_settle
          rw [if_neg (by omega), if_neg k2]
        rw [this]; exact gJ k hk
  · rw [u_ni (by decide), u_nk (by decide), u_nk (by decide)]; exact d14
  · rw [u_ni (by decide), u_nk (by decide), u_nk (by decide)]; exact d15
  · rw [u_ni (by decide), u_nk (by decide), u_at]
  · rw [u_ni (by decide), u_at]
  · rw [u_ni (by decide), u_ni (by decide), u_ni (by decide), k0 6 (by decide)]; exact jF d hd
  · rw [u_ni (by decide), u_nk (by omega), u_nk (by omega), i0, j0 k (by omega) (by omega)]
  · rw [u_nk (by omega), u_ni (by decide), u_ni (by decide), k1 k (by omega), j1 k hk]
  · rw [g_u_ne y, g_u_ne x, g_u_ne x, k0 a y, ja a x y z]
