theorem p_pass_h {opn : Nat → Bool} {P : Nat → Nat} {m i : Nat} (hi : i < P 16) (ho : opn i = false) : p_pass opn P m (12 + i) = if P i = 0 then P (12 + i) - p_adm opn P m (i + 1) else P (12 + i) + p_adm opn P m (i + 1) := by
  unfold p_pass
  rw [if_pos (by rw [show 12 + i - 12 = i by omega]; exact ⟨by omega, by omega, ho⟩), show 12 + i - 12 = i by omega]
theorem p_pass_o {opn : Nat → Bool} {P : Nat → Nat} {m i : Nat} (hi : i < 4) (ho : opn i = true) : p_pass opn P m (12 + i) = P (12 + i) := by
  unfold p_pass
  rw [if_neg (by rw [show 12 + i - 12 = i by omega, ho]; simp), if_neg (by omega), if_neg (by omega)]
theorem p_pass_x {opn : Nat → Bool} {P : Nat → Nat} {m k : Nat} (hp : P 16 ≤ 4) (hk : k < 12 ∨ 16 ≤ k) (h3 : k ≠ 43) (h4 : k ≠ 44) : p_pass opn P m k = P k := by
  unfold p_pass
  rw [if_neg (by omega), if_neg h3, if_neg h4]
theorem p_pass_43 {opn : Nat → Bool} {P : Nat → Nat} {m : Nat} (hp : P 16 ≤ 4) : p_pass opn P m 43 = min 99999 (P 43 + p_adm opn P m (P 16)) := by
  unfold p_pass
  rw [if_neg (by omega), if_pos rfl]
theorem p_pass_44 {opn : Nat → Bool} {P : Nat → Nat} {m : Nat} (hp : P 16 ≤ 4) : p_pass opn P m 44 = min 99999 (P 44 + (m - p_adm opn P m (P 16))) := by
  unfold p_pass
  rw [if_neg (by omega), if_neg (by omega), if_pos rfl]
theorem n_min {a b : Nat} (ha : a < 2 ^ 31) (hb : b < 2 ^ 31) : (if nI a < nI b then nI a else nI b) = nI (min b a) := by
  by_cases c : a < b
  · rw [if_pos (nI_lt c hb), Nat.min_eq_right (by omega)]
  · rw [if_neg (nI_nlt (by omega) ha), Nat.min_eq_left (by omega)]
set_option maxHeartbeats 1000000 in
theorem c_admit {fu o T m : Nat} {I : Nat → Nat → Int32} {R : Nat → Nat → Option Nat} {dr P : Nat → Nat} {opn : Nat → Bool} (hg : h_geo R o dr) (hr : h_rep I o dr P) (ho : h_opn I dr (P 16) opn) (hp : p_ok T P) (hm : m ≤ 100) (hf : 10 < fu) : ∃ I', f_X2_admit fu o (nI m) (I, R) = some (nI (p_adm opn P m (P 16)), (I', R)) ∧ h_rep I' o dr (p_pass opn P m) ∧ h_opn I' dr (P 16) opn ∧ h_kept I I' o dr (P 16) ∧ ∀ d, d < P 16 → I' (dr d) 4 = I (dr d) 4 + nI (p_adm opn P m d - p_adm opn P m (d + 1)) := by
  have b16 := hp.1
  have hdn : ∀ d, d < 4 → dr d ≠ o := fun d hd e => by have := hg.2.2.2.2.2.2.2.2.2.2 d hd; omega
  obtain ⟨b, e1, J, rfl, hJ, hK⟩ := e_lp (body := fun t => b_X2_admit_4 fu o (nI m) t.1 t.2.1 t.2.2) (P 16) (fun i t => ∃ J, t = (nI (p_adm opn P m i), nI i, (J, R)) ∧ (∀ a, (∀ d, d < i → a ≠ dr d) → J a = I a) ∧ ∀ d, d < i → J (dr d) 0 = I (dr d) 0 ∧ J (dr d) 1 = I (dr d) 1 ∧ J (dr d) 2 = I (dr d) 2 ∧ J (dr d) 3 = nI (p_pass opn P m (12 + d)) ∧ J (dr d) 4 = I (dr d) 4 + nI (p_adm opn P m d - p_adm opn P m (d + 1)) ∧ J (dr d) 5 = I (dr d) 5) (fun b => ∃ J, b = (nI (p_adm opn P m (P 16)), (J, R)) ∧ (∀ a, (∀ d, d < P 16 → a ≠ dr d) → J a = I a) ∧ ∀ d, d < P 16 → J (dr d) 0 = I (dr d) 0 ∧ J (dr d) 1 = I (dr d) 1 ∧ J (dr d) 2 = I (dr d) 2 ∧ J (dr d) 3 = nI (p_pass opn P m (12 + d)) ∧ J (dr d) 4 = I (dr d) 4 + nI (p_adm opn P m d - p_adm opn P m (d + 1)) ∧ J (dr d) 5 = I (dr d) 5) (by
    rintro i t hi ⟨J, rfl, hJ, hK⟩
    have hi4 : i < 4 := by omega
    have eo : J o = I o := hJ o (fun d hd => (hdn d (by omega)).symm)
    have ei : J (dr i) = I (dr i) := hJ (dr i) (fun d hd e => by have := hg.2.2.2.2.2.2.2.2.2.1 i d hi4 (by omega) e; omega)
    obtain ⟨r0, r1, r2, r3⟩ := hr.2.2.2.2.2.1 i hi
    have hle := p_adm_le (opn := opn) (P := P) (m := m) i
    have step := c_admit1 (fu := fu) (I := J) (a := dr i) (R := R) (P := P) (op := opn i) (m := p_adm opn P m i) (by rw [ei]; exact r0) (by rw [ei]; exact r1) (by rw [ei]; exact r3) (by rw [ei]; exact ho i hi) hp hi4 (by omega)
    have body : b_X2_admit_4 fu o (nI m) (nI (p_adm opn P m i)) (nI i) (J, R) = some (.inl (nI (if opn i = true then p_adm opn P m i else min (p_adm opn P m i) (p_room P i)), nI i + 1, (if opn i = true then J else g_u (g_u J (dr i) 3 (nI (if P i = 0 then P (12 + i) - min (p_adm opn P m i) (p_room P i) else P (12 + i) + min (p_adm opn P m i) (p_room P i)))) (dr i) 4 (J (dr i) 4 + nI (p_adm opn P m i - min (p_adm opn P m i) (p_room P i))), R))) := by
      unfold b_X2_admit_4
      refine (if_neg (by show ¬ J o 2 ≤ nI i; rw [eo, hr.1]; exact nI_ge hi (by omega))).trans ?_
      refine (e_ld hg.1 hg.2.2.2.2.2.1).trans ?_
      refine (e_ix (m := i) rfl (by omega) (by omega)).trans ?_
      refine (e_ld (hg.2.2.1 i hi4) (hg.2.2.2.2.2.2.2.1 i hi4)).trans ?_
      exact e_bd step
    refine ⟨_, body, ?_⟩
    by_cases c : opn i = true
    · refine ⟨J, ?_, fun a ha => hJ a (fun d hd => ha d (by omega)), fun d hd => ?_⟩
      · rw [if_pos c, if_pos c, p_adm_open c, nI_1]
      · rcases Nat.lt_or_ge d i with q | q
        · exact hK d q
        · have : d = i := by omega
          subst this
          rw [ei]
          refine ⟨rfl, rfl, rfl, ?_, ?_, rfl⟩
          · rw [p_pass_o hi4 c]; exact r3
          · rw [p_adm_open c, Nat.sub_self]
            show _ = _ + (0 : Int32)
            rw [Int32.add_zero]
    · have c' : opn i = false := by simpa using c
      refine ⟨g_u (g_u J (dr i) 3 (nI (if P i = 0 then P (12 + i) - min (p_adm opn P m i) (p_room P i) else P (12 + i) + min (p_adm opn P m i) (p_room P i)))) (dr i) 4 (J (dr i) 4 + nI (p_adm opn P m i - min (p_adm opn P m i) (p_room P i))), ?_, fun a ha => ?_, fun d hd => ?_⟩
      · rw [if_neg c, if_neg c, p_adm_room c', nI_1]
      · have hne : a ≠ dr i := ha i (by omega)
        rw [g_u_ne hne, g_u_ne hne]
        exact hJ a (fun d hd => ha d (by omega))
      · rcases Nat.lt_or_ge d i with q | q
        · have hne : dr d ≠ dr i := fun e => by have := hg.2.2.2.2.2.2.2.2.2.1 d i (by omega) hi4 e; omega
          rw [g_u_ne hne, g_u_ne hne]
          exact hK d q
        · have : d = i := by omega
          subst this
          rw [← p_adm_room c']
          refine ⟨?_, ?_, ?_, ?_, ?_, ?_⟩
          · rw [u_nk (by decide), u_nk (by decide), ei]
          · rw [u_nk (by decide), u_nk (by decide), ei]
          · rw [u_nk (by decide), u_nk (by decide), ei]
          · rw [u_nk (by decide), u_at, p_pass_h hi c']
          · rw [u_at, ei]
          · rw [u_nk (by decide), u_nk (by decide), ei]) (by
    rintro t ⟨J, rfl, hJ, hK⟩
    have eo : J o = I o := hJ o (fun d hd => (hdn d (by omega)).symm)
    refine ⟨_, ?_, J, rfl, hJ, hK⟩
    show b_X2_admit_4 fu o (nI m) (nI (p_adm opn P m (P 16))) (nI (P 16)) (J, R) = _
    unfold b_X2_admit_4
    exact if_pos (by show J o 2 ≤ nI (P 16); rw [eo, hr.1]; exact nI_le (Nat.le_refl _) (by omega))) 0 fu (nI m, (0 : Int32), (I, R)) (Nat.zero_le _) (by omega) ⟨I, rfl, fun _ _ => rfl, fun d hd => absurd hd (Nat.not_lt_zero _)⟩
  have eo : J o = I o := hJ o (fun d hd => (hdn d (by omega)).symm)
  have hle := p_adm_le (opn := opn) (P := P) (m := m) (P 16)
  have b43 := hp.2.2.2.2.2.1
  have b44 := hp.2.2.2.2.2.2
  refine ⟨_, (e_th e1).trans rfl, ?_, ?_, ?_, ?_⟩
  · have e5 : (if J o 5 + nI (p_adm opn P m (P 16)) < (99999 : Int32) then J o 5 + nI (p_adm opn P m (P 16)) else (99999 : Int32)) = nI (p_pass opn P m 43) := by
      rw [eo, hr.2.2.2.1, nI_add, show (99999 : Int32) = nI 99999 from rfl, n_min (by omega) (by omega), p_pass_43 b16]
    have e6 : (if J o 6 + nI m - nI (p_adm opn P m (P 16)) < (99999 : Int32) then J o 6 + nI m - nI (p_adm opn P m (P 16)) else (99999 : Int32)) = nI (p_pass opn P m 44) := by
      rw [eo, hr.2.2.2.2.1, nI_add, pk_sub (by omega), show (99999 : Int32) = nI 99999 from rfl, n_min (by omega) (by omega), p_pass_44 b16, show P 44 + m - p_adm opn P m (P 16) = P 44 + (m - p_adm opn P m (P 16)) by omega]
    dsimp only
    rw [e5, u_nk (show 6 ≠ 5 by decide), e6]
    refine ⟨?_, ?_, ?_, ?_, ?_, ?_, ?_⟩
    · rw [u_nk (by decide), u_nk (by decide), eo, hr.1, p_pass_x b16 (by omega) (by omega) (by omega)]
    · rw [u_nk (by decide), u_nk (by decide), eo, hr.2.1, p_pass_x b16 (by omega) (by omega) (by omega)]
    · rw [u_nk (by decide), u_nk (by decide), eo, hr.2.2.1, p_pass_x b16 (by omega) (by omega) (by omega)]
    · rw [u_nk (by decide), u_at]
    · rw [u_at]
    · intro d hd
      rw [p_pass_x b16 (by omega) (by omega) (by omega)] at hd
      have hne := hdn d (by omega)
      obtain ⟨q0, q1, q2, q3, -, -⟩ := hK d hd
      obtain ⟨r0, r1, r2, r3⟩ := hr.2.2.2.2.2.1 d hd
      rw [g_u_ne hne, g_u_ne hne, q0, q1, q2, q3, r0, r1, r2, p_pass_x b16 (by omega) (by omega) (by omega), p_pass_x b16 (by omega) (by omega) (by omega), p_pass_x b16 (by omega) (by omega) (by omega)]
      exact ⟨rfl, rfl, rfl, rfl⟩
    · intro i hi
      rw [p_pass_x b16 (by omega) (by omega) (by omega)] at hi
      have hi8 : i < 8 := Nat.lt_of_lt_of_le hi hp.2.1
      have hne : o + 7 + i ≠ o := by omega
      rw [g_u_ne hne, g_u_ne hne, hJ (o + 7 + i) (fun d hd e => by have := hg.2.2.2.2.2.2.2.2.2.2 d (by omega); omega), p_pass_x b16 (by omega) (by omega) (by omega), p_pass_x b16 (by omega) (by omega) (by omega), p_pass_x b16 (by omega) (by omega) (by omega)]
      exact hr.2.2.2.2.2.2 i hi
  · intro d hd
    have hne := hdn d (by omega)
    dsimp only
    rw [g_u_ne hne, g_u_ne hne, (hK d hd).2.2.2.2.2]
    exact ho d hd
  · intro a ha hd
    dsimp only
    rw [g_u_ne ha, g_u_ne ha]
    exact hJ a (fun d h => hd d (by omega))
  · intro d hd
    have hne := hdn d (by omega)
    dsimp only
    rw [g_u_ne hne, g_u_ne hne, (hK d hd).2.2.2.2.1]
