/-! ===== one by one, or all at once ===== -/
theorem p_room_pass {opn : Nat → Bool} {P : Nat → Nat} {m d : Nat} (hd : d < P 16) (h4 : P 16 ≤ 4) (ho : opn d = false) : p_room (p_pass opn P m) d = p_room P d - p_adm opn P m (d + 1) := by
  unfold p_room
  rw [p_pass_x (k := d) h4 (by omega) (by omega) (by omega), p_pass_x (k := 4 + d) h4 (by omega) (by omega) (by omega), p_pass_h hd ho]
  by_cases c : P d = 0
  · simp only [if_pos c]
  · simp only [if_neg c]; omega
theorem p_adm_1 {opn : Nat → Bool} {P : Nat → Nat} {m : Nat} (h4 : P 16 ≤ 4) : ∀ d, d ≤ P 16 → p_adm opn P (m + 1) d = p_adm opn P m d + p_adm opn (p_pass opn P m) 1 d
  | 0, _ => rfl
  | d + 1, hd => by
    have ih := p_adm_1 (opn := opn) (P := P) (m := m) h4 d (by omega)
    by_cases c : opn d = true
    · rw [p_adm_open c, p_adm_open c, p_adm_open c, ih]
    · have c' : opn d = false := by simpa using c
      have h1 := p_adm_room (opn := opn) (P := P) (m := m) c'
      rw [p_adm_room c', p_adm_room (P := p_pass opn P m) c', p_room_pass (by omega) h4 c', ih, h1]
      omega
theorem p_pass_16 {opn : Nat → Bool} {P : Nat → Nat} {m : Nat} (h4 : P 16 ≤ 4) : p_pass opn P m 16 = P 16 := p_pass_x h4 (by omega) (by omega) (by omega)
theorem p_pass_pass {opn : Nat → Bool} {P : Nat → Nat} {m : Nat} (h4 : P 16 ≤ 4) : p_pass opn (p_pass opn P m) 1 = p_pass opn P (m + 1) := by
  funext k
  have e16 := p_pass_16 (opn := opn) (P := P) (m := m) h4
  by_cases c : 12 ≤ k ∧ k < 12 + P 16 ∧ opn (k - 12) = false
  · obtain ⟨i, rfl⟩ : ∃ i, k = 12 + i := ⟨k - 12, by omega⟩
    rw [show 12 + i - 12 = i by omega] at c
    have h1 := p_adm_1 (opn := opn) (P := P) (m := m) h4 (i + 1) (by omega)
    rw [p_pass_h (by omega) c.2.2, p_pass_h (by omega) c.2.2, p_pass_h (by omega) c.2.2, p_pass_x h4 (by omega) (by omega) (by omega), h1]
    by_cases c0 : P i = 0
    · simp only [if_pos c0]; omega
    · simp only [if_neg c0]; omega
  · have h1 := p_adm_1 (opn := opn) (P := P) (m := m) h4 (P 16) (by omega)
    have h2 := p_adm_le (opn := opn) (P := P) (m := m) (P 16)
    have h3 := p_adm_le (opn := opn) (P := p_pass opn P m) (m := 1) (P 16)
    by_cases c3 : k = 43
    · subst c3
      rw [p_pass_43 (by omega), p_pass_43 h4, p_pass_43 h4, e16, h1]
      omega
    · by_cases c4 : k = 44
      · subst c4
        rw [p_pass_44 (by omega), p_pass_44 h4, p_pass_44 h4, e16, h1]
        omega
      · have e : ∀ m, p_pass opn P m k = P k := fun m => by
          unfold p_pass
          rw [if_neg c, if_neg c3, if_neg c4]
        rw [e]
        show (if 12 ≤ k ∧ k < 12 + p_pass opn P m 16 ∧ opn (k - 12) = false then _ else _) = _
        rw [e16, if_neg c, if_neg c3, if_neg c4, e]
theorem p_pass_0 {opn : Nat → Bool} {P : Nat → Nat} {T : Nat} (hp : p_ok T P) : p_pass opn P 0 = P := by
  have h0 : ∀ d, p_adm opn P 0 d = 0 := fun d => Nat.le_zero.mp (p_adm_le d)
  funext k
  have b43 := hp.2.2.2.2.2.1
  have b44 := hp.2.2.2.2.2.2
  unfold p_pass
  simp only [h0]
  by_cases c : 12 ≤ k ∧ k < 12 + P 16 ∧ opn (k - 12) = false
  · rw [if_pos c]
    by_cases c0 : P (k - 12) = 0
    · rw [if_pos c0]; rfl
    · rw [if_neg c0]; rfl
  · rw [if_neg c]
    by_cases c3 : k = 43
    · subst c3; rw [if_pos rfl]; omega
    · rw [if_neg c3]
      by_cases c4 : k = 44
      · subst c4; rw [if_pos rfl]; omega
      · rw [if_neg c4]
/-! ===== the reference: one comes ===== -/
def m_opn (I : Nat → Nat → Int32) (opn : Nat → Bool) : Prop := ∀ d, d < 4 → (nI d = I 0 13 ↔ opn d = true)
theorem m_pass_b {fu p n d kd dp ho t : Nat} {J : Nat → Nat → Int32} {R : Nat → Nat → Option Nat} (hR : m_R R) (h16 : J 1 (p + 16) = nI n) (g0 : J 1 (p + d) = nI kd) (g1 : J 1 (p + 4 + d) = nI dp) (g3 : J 1 (p + 12 + d) = nI ho) (g4 : J 1 (p + 44) = nI t) (hk : kd ≤ 3) (hh : ho ≤ dp) (hdp : dp ≤ 9) (ht : t ≤ 99999) (hq : p ≤ 225) (hn : n ≤ 4) (hd : d < n) : b_X8_passOn_2 fu 0 (nI p) (nI d) (J, R) = if nI d = J 0 13 then some (.inl (nI (d + 1), (J, R))) else if (if kd = 0 then ho else dp - ho) = 0 then some (.inr (.inr (nI d, (g_u (g_u (g_u J 0 15 (J 0 15 + nI 1)) 6 d (J 6 d + nI 1)) 1 (p + 44) (nI (min 99999 (t + 1))), R)))) else some (.inl (nI (d + 1), (g_u J 1 (p + 12 + d) (nI (if kd = 0 then ho - 1 else ho + 1)), R))) := by
  have hro := m_room1 (fu := fu) hR g0 g1 g3 hk hh hq (show d < 4 by omega)
  have hrm : (if kd = 0 then ho else dp - ho) ≤ 9 := by
    by_cases c : kd = 0
    · rw [if_pos c]; omega
    · rw [if_neg c]; omega
  generalize hx : (if kd = 0 then ho else dp - ho) = rm at hro hrm ⊢
  unfold b_X8_passOn_2
  simp (disch := omega) only [m_ld0 hR, m_ld18 hR, l_16, l_44, l_12, l_99999, nI_add, k_ix, h16, nI_leI, hro, k_bd, l_0, nI_eq, g3, g0]
  rw [if_neg (by omega)]
  by_cases c1 : nI d = J 0 13
  · rw [if_pos c1, if_pos c1]
    unfold j_X8_passOn_115_in2
    rw [nI_1]
  · rw [if_neg c1, if_neg c1]
    by_cases c2 : rm = 0
    · rw [if_pos c2, if_pos c2]
      have e1 : (g_u (g_u J 0 15 (J 0 15 + 1)) 6 d ((g_u J 0 15 (J 0 15 + 1)) 6 d + 1)) 1 (p + 44) = nI t := by
        rw [u_ni (by decide), u_ni (by decide), g4]
      have e6 : (g_u J 0 15 (J 0 15 + 1)) 6 d = J 6 d := u_ni (by decide)
      simp only [e1]
      unfold j_X8_passOn_81_in2
      simp (disch := omega) only [k_ix, nI_leI, e6, l_1, nI_add]
      by_cases c3 : 99999 ≤ t
      · rw [if_pos c3, show min 99999 (t + 1) = t + 0 by omega, u_ni (show (6 : Nat) ≠ 0 by decide)]
      · rw [if_neg c3, show min 99999 (t + 1) = t + 1 by omega, u_ni (show (6 : Nat) ≠ 0 by decide)]
    · rw [if_neg c2, if_neg c2]
      unfold j_X8_passOn_113_in2 j_X8_passOn_115_in2
      simp (disch := omega) only [k_ix, nI_1]
      by_cases c3 : kd = 0
      · simp only [if_pos c3] at hx ⊢
        rw [show nI ho + -1 = nI (ho - 1) by obtain ⟨x, rfl⟩ : ∃ x, ho = x + 1 := ⟨ho - 1, by omega⟩; rw [pk_m1]; rfl]
      · simp only [if_neg c3]
theorem p_pass_n {opn : Nat → Bool} {P : Nat → Nat} {m k : Nat} (h : ¬ (12 ≤ k ∧ k < 12 + P 16 ∧ opn (k - 12) = false)) (h3 : k ≠ 43) (h4 : k ≠ 44) : p_pass opn P m k = P k := by
  unfold p_pass
  rw [if_neg h, if_neg h3, if_neg h4]
theorem p_adm_z {opn : Nat → Bool} {P : Nat → Nat} {m i : Nat} (h : p_adm opn P m i = 0) : ∀ j, i ≤ j → p_adm opn P m j = 0 := by
  intro j
  induction j with
  | zero => intro hj; have e : i = 0 := by omega
            subst e; exact h
  | succ j ih =>
    intro hj
    rcases Nat.lt_or_ge i (j + 1) with q | q
    · have h1 := ih (by omega)
      have h2 := p_adm_mono (opn := opn) (P := P) (m := m) (d := j)
      omega
    · rw [show j + 1 = i by omega]; exact h
theorem p_adm_s {opn : Nat → Bool} {P : Nat → Nat} {m i : Nat} : ∀ j, i ≤ j → p_adm opn P m j ≤ p_adm opn P m i := by
  intro j
  induction j with
  | zero => intro hj; rw [show i = 0 by omega]; exact Nat.le_refl _
  | succ j ih =>
    intro hj
    rcases Nat.lt_or_ge i (j + 1) with q | q
    · exact Nat.le_trans p_adm_mono (ih (by omega))
    · rw [show j + 1 = i by omega]; exact Nat.le_refl _
set_option maxHeartbeats 1000000 in
/-- one comes to a page -/
theorem m_passOn {fu p T : Nat} {I : Nat → Nat → Int32} {R : Nat → Nat → Option Nat} {P : Nat → Nat} {opn : Nat → Bool} (hR : m_R R) (hg : m_pg I p P) (ho : m_opn I opn) (hp : p_ok T P) (hq : p ≤ 225) (hf : 10 < fu) : ∃ r I', f_X8_passOn fu 0 (nI p) (I, R) = some (r, (I', R)) ∧ ((p_adm opn P 1 (P 16) = 1 ∧ r = -4) ∨ ∃ d, d < P 16 ∧ p_adm opn P 1 d = 1 ∧ p_adm opn P 1 (d + 1) = 0 ∧ r = nI d) ∧ m_pg I' p (p_pass opn P 1) ∧ I' 0 14 = I 0 14 + nI (p_adm opn P 1 (P 16)) ∧ I' 0 15 = I 0 15 + nI (1 - p_adm opn P 1 (P 16)) ∧ (∀ d, d < P 16 → I' 6 d = I 6 d + nI (p_adm opn P 1 d - p_adm opn P 1 (d + 1))) ∧ (∀ k, k ≠ 14 → k ≠ 15 → I' 0 k = I 0 k) ∧ (∀ k, k < p ∨ p + 45 ≤ k → I' 1 k = I 1 k) ∧ ∀ a, a ≠ 0 → a ≠ 1 → a ≠ 6 → I' a = I a := by
  have b16 := hp.1
  have b43 := hp.2.2.2.2.2.1
  have b44 := hp.2.2.2.2.2.2
  have g16 := hg 16 (by omega)
  have g43 := hg 43 (by omega)
  have g44 := hg 44 (by omega)
  obtain ⟨b, e1, hb⟩ := e_lpx (body := fun t => b_X8_passOn_2 fu 0 (nI p) t.1 t.2) (P 16)
    (fun i t => ∃ J, t = (nI i, (J, R)) ∧ p_adm opn P 1 i = 1 ∧ (∀ a, a ≠ 1 → J a = I a) ∧ (∀ k, k < p + 12 ∨ p + 12 + i ≤ k → J 1 k = I 1 k) ∧ ∀ d, d < i → J 1 (p + 12 + d) = nI (p_pass opn P 1 (12 + d)))
    (fun b => (∃ J, b = .inl (J, R) ∧ p_adm opn P 1 (P 16) = 1 ∧ (∀ a, a ≠ 1 → J a = I a) ∧ (∀ k, k < p + 12 ∨ p + 12 + P 16 ≤ k → J 1 k = I 1 k) ∧ ∀ d, d < P 16 → J 1 (p + 12 + d) = nI (p_pass opn P 1 (12 + d))) ∨ ∃ J i, i < P 16 ∧ b = .inr (nI i, (g_u (g_u (g_u J 0 15 (J 0 15 + nI 1)) 6 i (J 6 i + nI 1)) 1 (p + 44) (nI (min 99999 (P 44 + 1))), R)) ∧ p_adm opn P 1 i = 1 ∧ p_adm opn P 1 (i + 1) = 0 ∧ (∀ a, a ≠ 1 → J a = I a) ∧ (∀ k, k < p + 12 ∨ p + 12 + i ≤ k → J 1 k = I 1 k) ∧ ∀ d, d < i → J 1 (p + 12 + d) = nI (p_pass opn P 1 (12 + d))) (by
    rintro i t hi ⟨J, rfl, hA, hJ, hK, hD⟩
    obtain ⟨b0, b1, b2, b3⟩ := hp.2.2.1 i (by omega)
    have step := m_pass_b (fu := fu) (p := p) (n := P 16) (d := i) (kd := P i) (dp := P (4 + i)) (ho := P (12 + i)) (t := P 44) (J := J) hR (by rw [hK (p + 16) (by omega)]; exact g16) (by rw [hK (p + i) (by omega)]; exact hg i (by omega)) (by rw [hK (p + 4 + i) (by omega), Nat.add_assoc]; exact hg (4 + i) (by omega)) (by rw [hK (p + 12 + i) (by omega), Nat.add_assoc]; exact hg (12 + i) (by omega)) (by rw [hK (p + 44) (by omega)]; exact g44) b0 b3 b1 b44 hq b16 hi
    have h13 : J 0 13 = I 0 13 := by rw [hJ 0 (by decide)]
    rw [h13] at step
    by_cases c : opn i = true
    · rw [if_pos ((ho i (by omega)).mpr c)] at step
      refine Or.inl ⟨_, step, J, rfl, by rw [p_adm_open c]; exact hA, hJ, fun k hk => hK k (by omega), fun d hd => ?_⟩
      rcases Nat.lt_or_ge d i with q | q
      · exact hD d q
      · have : d = i := by omega
        subst this
        rw [p_pass_o (by omega) c, hK _ (by omega), Nat.add_assoc]
        exact hg (12 + d) (by omega)
    · have c' : opn i = false := by simpa using c
      rw [if_neg (fun q => c ((ho i (by omega)).mp q))] at step
      have hA1 := p_adm_room (opn := opn) (P := P) (m := 1) c'
      rw [hA] at hA1
      have er : p_room P i = if P i = 0 then P (12 + i) else P (4 + i) - P (12 + i) := rfl
      rw [← er] at step
      by_cases c2 : p_room P i = 0
      · rw [if_pos c2] at step
        exact Or.inr ⟨_, step, Or.inr ⟨J, i, hi, rfl, hA, by omega, hJ, hK, hD⟩⟩
      · rw [if_neg c2] at step
        refine Or.inl ⟨_, step, _, rfl, by omega, fun a ha => ?_, fun k hk => ?_, fun d hd => ?_⟩
        · rw [g_u_ne ha]; exact hJ a ha
        · rw [u_nk (by omega)]; exact hK k (by omega)
        · rcases Nat.lt_or_ge d i with q | q
          · rw [u_nk (by omega)]; exact hD d q
          · have : d = i := by omega
            subst this
            rw [u_at, p_pass_h hi c', hA1, show min 1 (p_room P d) = 1 by omega]) (by
    rintro t ⟨J, rfl, hA, hJ, hK, hD⟩
    refine ⟨.inl (J, R), ?_, Or.inl ⟨J, rfl, hA, hJ, hK, hD⟩⟩
    show b_X8_passOn_2 fu 0 (nI p) (nI (P 16)) (J, R) = _
    unfold b_X8_passOn_2
    simp (disch := omega) only [m_ld0 hR, l_16, nI_add, k_ix]
    rw [hK (p + 16) (by omega), g16]
    exact if_pos (nI_le (Nat.le_refl _) (by omega))) 0 fu (nI 0, (I, R)) (Nat.zero_le _) (by omega) ⟨I, rfl, rfl, fun _ _ => rfl, fun _ _ => rfl, fun d hd => absurd hd (Nat.not_lt_zero _)⟩
  rcases hb with ⟨J, rfl, hA, hJ, hK, hD⟩ | ⟨J, i, hi, rfl, hA, hA1, hJ, hK, hD⟩
  · have h0 : J 0 = I 0 := hJ 0 (by decide)
    refine ⟨-4, g_u (g_u J 0 14 (J 0 14 + nI 1)) 1 (p + 43) (nI (min 99999 (P 43 + 1))), ?_, Or.inl ⟨hA, rfl⟩, fun k hk => ?_, ?_, ?_, fun d hd => ?_, fun k h4 h5 => ?_, fun k hk => ?_, fun a h1 h2 h3 => ?_⟩
    · unfold f_X8_passOn
      refine (e_th e1).trans ?_
      have e43 : (g_u J 0 14 (J 0 14 + 1)) 1 (p + 43) = nI (P 43) := by
        rw [u_ni (by decide), hK _ (by omega), g43]
      simp (disch := omega) only [m_ld0 hR, l_43, l_99999, nI_add, k_ix, e43, nI_leI]
      unfold j_X8_passOn_160
      simp (disch := omega) only [k_ix, l_0, l_1, nI_add]
      by_cases c3 : 99999 ≤ P 43
      · rw [if_pos c3, show min 99999 (P 43 + 1) = P 43 + 0 by omega]
      · rw [if_neg c3, show min 99999 (P 43 + 1) = P 43 + 1 by omega]
    · by_cases k3 : k = 43
      · subst k3
        rw [u_at, p_pass_43 b16, hA]
      · rw [u_nk (by omega), u_ni (by decide)]
        rcases (show k < 12 ∨ (12 ≤ k ∧ k < 12 + P 16) ∨ 12 + P 16 ≤ k by omega) with q | q | q
        · rw [hK _ (by omega), p_pass_n (by omega) (by omega) (by omega)]; exact hg k hk
        · have := hD (k - 12) (by omega)
          rw [show p + 12 + (k - 12) = p + k by omega, show 12 + (k - 12) = k by omega] at this
          exact this
        · rw [hK _ (by omega)]
          by_cases k4 : k = 44
          · subst k4
            rw [p_pass_44 b16, hA, show min 99999 (P 44 + (1 - 1)) = P 44 by omega]; exact g44
          · rw [p_pass_n (by omega) k3 k4]; exact hg k hk
    · rw [u_ni (by decide), u_at, h0, hA]
    · rw [u_ni (by decide), u_nk (by decide), h0, hA]; exact (Int32.add_zero _).symm
    · rw [u_ni (by decide), u_ni (by decide), hJ 6 (by decide)]
      have h1 := p_adm_s (opn := opn) (P := P) (m := 1) (i := d + 1) (P 16) (by omega)
      have h2 := p_adm_le (opn := opn) (P := P) (m := 1) d
      rw [show p_adm opn P 1 d - p_adm opn P 1 (d + 1) = 0 by omega]
      exact (Int32.add_zero _).symm
    · rw [u_ni (by decide), u_nk h4, h0]
    · rw [u_nk (by omega), u_ni (by decide)]; exact hK k (by omega)
    · rw [g_u_ne h2, g_u_ne h1]; exact hJ a h2
  · have h0 : J 0 = I 0 := hJ 0 (by decide)
    have hAn : p_adm opn P 1 (P 16) = 0 := p_adm_z hA1 _ (by omega)
    refine ⟨nI i, _, (e_th e1).trans rfl, Or.inr ⟨i, hi, hA, hA1, rfl⟩, fun k hk => ?_, ?_, ?_, fun d hd => ?_, fun k h4 h5 => ?_, fun k hk => ?_, fun a h1 h2 h3 => ?_⟩
    · by_cases k4 : k = 44
      · subst k4
        rw [u_at, p_pass_44 b16, hAn]
      · rw [u_nk (by omega), u_ni (by decide), u_ni (by decide)]
        rcases (show k < 12 ∨ (12 ≤ k ∧ k < 12 + i) ∨ 12 + i ≤ k by omega) with q | q | q
        · rw [hK _ (by omega), p_pass_n (by omega) (by omega) (by omega)]; exact hg k hk
        · have := hD (k - 12) (by omega)
          rw [show p + 12 + (k - 12) = p + k by omega, show 12 + (k - 12) = k by omega] at this
          exact this
        · rw [hK _ (by omega)]
          have e : p_pass opn P 1 k = P k := by
            by_cases k3 : k = 43
            · subst k3
              rw [p_pass_43 b16, hAn]; omega
            · by_cases c : 12 ≤ k ∧ k < 12 + P 16 ∧ opn (k - 12) = false
              · have hz : p_adm opn P 1 (k - 12 + 1) = 0 := p_adm_z hA1 _ (by omega)
                have e2 := p_pass_h (opn := opn) (P := P) (m := 1) (i := k - 12) (by omega) c.2.2
                rw [show 12 + (k - 12) = k by omega, hz] at e2
                rw [e2]
                by_cases c0 : P (k - 12) = 0
                · rw [if_pos c0]; rfl
                · rw [if_neg c0]; rfl
              · exact p_pass_n c k3 k4
          rw [e]; exact hg k hk
    · rw [u_ni (by decide), u_ni (by decide), u_nk (by decide), h0, hAn]; exact (Int32.add_zero _).symm
    · rw [u_ni (by decide), u_ni (by decide), u_at, h0, hAn]
    · rw [u_ni (by decide)]
      by_cases c : d = i
      · subst c
        rw [u_at, hJ 6 (by decide), hA, hA1]
      · rw [u_nk c, u_ni (by decide), hJ 6 (by decide)]
        have e : p_adm opn P 1 d - p_adm opn P 1 (d + 1) = 0 := by
          rcases Nat.lt_or_ge d i with q | q
          · have h1 := p_adm_s (opn := opn) (P := P) (m := 1) (i := d + 1) i (by omega)
            have h2 := p_adm_le (opn := opn) (P := P) (m := 1) d
            omega
          · have := p_adm_z hA1 d (by omega)
            omega
        rw [e]; exact (Int32.add_zero _).symm
    · rw [u_ni (by decide), u_ni (by decide), u_nk h5, h0]
    · rw [u_nk (by omega), u_ni (by decide), u_ni (by decide)]; exact hK k (by omega)
    · rw [g_u_ne h2, g_u_ne h3, g_u_ne h1]; exact hJ a h2
