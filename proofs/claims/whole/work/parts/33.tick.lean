theorem gu_same {α : Type} {f : Nat → Nat → α} {i k : Nat} {v : α} (h : f i k = v) : g_u f i k v = f := by
  funext a b
  unfold g_u
  by_cases c : a = i ∧ b = k
  · rw [if_pos c, c.1, c.2, h]
  · rw [if_neg c]
theorem c_settle1 {fu a d T : Nat} {I : Nat → Nat → Int32} {R : Nat → Nat → Option Nat} {P : Nat → Nat} {op : Bool} (h0 : I a 0 = nI (P d)) (h1 : I a 1 = nI (P (4 + d))) (h2 : I a 2 = nI (P (8 + d))) (h3 : I a 3 = nI (P (12 + d))) (h5 : I a 5 = if op = true then 1 else 0) (hp : p_ok T P) (hd : d < 4) (hT : T ≤ 5000) : f_X1_settle fu a (nI (P 42)) (I, R) = some ((), (if op = true then I else g_u I a 3 (nI (p_set (P d) (P (4 + d)) (P (8 + d)) (P (12 + d)) (P 42))), R)) := by
  obtain ⟨b0, b1, b2, b3⟩ := hp.2.2.1 d hd
  have bt := hp.2.2.2.2.1
  unfold f_X1_settle
  cases op with
  | true =>
    refine (if_neg (by show ¬ I a 5 = 0; rw [h5]; decide)).trans ?_
    rfl
  | false =>
    refine (if_pos (by show I a 5 = 0; rw [h5]; rfl)).trans ?_
    show _ = some ((), (g_u I a 3 (nI (p_set (P d) (P (4 + d)) (P (8 + d)) (P (12 + d)) (P 42))), R))
    simp only [h0, h1, h2, h3]
    unfold p_set
    by_cases c0 : P d = 0
    · rw [if_pos (by rw [c0]; rfl), if_pos c0, nI_add, n_min (by omega) (by omega)]
    · rw [if_neg (nI_ne0 (by omega) (by omega)), if_neg c0]
      by_cases c1 : P d = 1
      · rw [if_pos (by rw [c1]; rfl), if_pos c1]
        by_cases c : P (8 + d) < P (12 + d)
        · rw [pk_sub (by omega), if_pos (show (0 : Int32) < nI (P (12 + d) - P (8 + d)) from nI_lt (a := 0) (b := P (12 + d) - P (8 + d)) (by omega) (by omega))]
        · have e : ¬ (0 : Int32) < nI (P (12 + d)) - nI (P (8 + d)) := by
            rcases Nat.lt_or_ge (P (12 + d)) (P (8 + d)) with q | q
            · intro z
              have h := pk_sneg (a := P (12 + d)) (b := P (8 + d)) (by omega) q
              exact absurd (Int32.lt_trans z h) (by decide)
            · rw [pk_sub q, show P (12 + d) - P (8 + d) = 0 by omega]
              decide
          rw [if_neg e, show P (12 + d) - P (8 + d) = 0 by omega]
          rfl
      · rw [if_neg (show ¬ nI (P d) = (1 : Int32) from fun q => c1 ((nI_eq (b := 1) (by omega) (by omega)).mp q)), if_neg c1]
        by_cases c2 : P (8 + d) = 0
        · rw [if_pos (by rw [c2]; decide), if_neg (by omega)]
          rw [gu_same h3]
        · rw [if_neg (show ¬ nI (P (8 + d)) ≤ (0 : Int32) from fun q => by have := (nI_leI (b := 0) (by omega) (by omega)).mp q; omega), e_nz (nI_ne0 (by omega) (by omega)), show (1 : Int32) = nI 1 from rfl, nI_add, pk_rem (by omega) (by omega) (by omega)]
          by_cases c3 : (P 42 + 1) % P (8 + d) = 0
          · rw [if_pos (show nI ((P 42 + 1) % P (8 + d)) = (0 : Int32) by rw [c3]; rfl), if_pos (show 0 < P (8 + d) ∧ (P 42 + 1) % P (8 + d) = 0 from ⟨by omega, c3⟩)]
            by_cases c4 : P d = 2
            · rw [if_pos (show nI (P d) = (2 : Int32) by rw [c4]; rfl), if_pos c4]
              rfl
            · rw [if_neg (show ¬ nI (P d) = (2 : Int32) from fun q => c4 ((nI_eq (b := 2) (by omega) (by omega)).mp q)), if_neg c4, e_nz (by decide), show (2 : Int32) = nI 2 from rfl, pk_div (by omega) (by omega) (by omega)]
          · rw [if_neg (nI_ne0 (by omega) (by have := Nat.mod_le (P 42 + 1) (P (8 + d)); omega)), if_neg (fun q => c3 q.2)]
            rw [gu_same h3]
theorem p_settle_h {opn : Nat → Bool} {P : Nat → Nat} {i : Nat} (hi : i < P 16) (ho : opn i = false) : p_settle opn P (12 + i) = p_set (P i) (P (4 + i)) (P (8 + i)) (P (12 + i)) (P 42) := by
  unfold p_settle
  rw [if_pos (by rw [show 12 + i - 12 = i by omega]; exact ⟨by omega, by omega, ho⟩), show 12 + i - 12 = i by omega, Nat.add_comm i 4, Nat.add_comm i 8]
theorem p_settle_o {opn : Nat → Bool} {P : Nat → Nat} {i : Nat} (hi : i < 4) (ho : opn i = true) : p_settle opn P (12 + i) = P (12 + i) := by
  unfold p_settle
  rw [if_neg (by rw [show 12 + i - 12 = i by omega, ho]; simp), if_neg (by omega)]
theorem p_settle_x {opn : Nat → Bool} {P : Nat → Nat} {k : Nat} (hp : P 16 ≤ 4) (hk : k < 12 ∨ 16 ≤ k) (h3 : k ≠ 42) : p_settle opn P k = P k := by
  unfold p_settle
  rw [if_neg (by omega), if_neg h3]
theorem p_settle_42 {opn : Nat → Bool} {P : Nat → Nat} (hp : P 16 ≤ 4) : p_settle opn P 42 = P 42 + 1 := by
  unfold p_settle
  rw [if_neg (by omega), if_pos rfl]
theorem p_set_le {kind depth rate holds tick : Nat} (h : holds ≤ depth) : p_set kind depth rate holds tick ≤ depth := by
  unfold p_set
  by_cases c0 : kind = 0
  · rw [if_pos c0]; omega
  · rw [if_neg c0]
    by_cases c1 : kind = 1
    · rw [if_pos c1]; omega
    · rw [if_neg c1]
      by_cases c2 : 0 < rate ∧ (tick + 1) % rate = 0
      · rw [if_pos c2]
        by_cases c3 : kind = 2
        · rw [if_pos c3]; omega
        · rw [if_neg c3]; omega
      · rw [if_neg c2]; exact h
/-- a page stays as it should be -/
theorem p_ok_pass {T m : Nat} {opn : Nat → Bool} {P : Nat → Nat} (hp : p_ok T P) : p_ok T (p_pass opn P m) := by
  have b16 := hp.1
  refine ⟨?_, ?_, fun d hd => ?_, fun i hi => ?_, ?_, ?_, ?_⟩
  · rw [p_pass_x b16 (by omega) (by omega) (by omega)]; exact b16
  · rw [p_pass_x b16 (by omega) (by omega) (by omega)]; exact hp.2.1
  · obtain ⟨b0, b1, b2, b3⟩ := hp.2.2.1 d hd
    rw [p_pass_x b16 (by omega) (by omega) (by omega), p_pass_x b16 (by omega) (by omega) (by omega), p_pass_x b16 (by omega) (by omega) (by omega)]
    refine ⟨b0, b1, b2, ?_⟩
    rcases Nat.lt_or_ge d (P 16) with q | q
    · by_cases c : opn d = true
      · rw [p_pass_o hd c]; exact b3
      · have c' : opn d = false := by simpa using c
        rw [p_pass_h q c']
        have h1 := p_adm_room (opn := opn) (P := P) (m := m) c'
        unfold p_room at h1
        by_cases c0 : P d = 0
        · rw [if_pos c0] at h1 ⊢; omega
        · rw [if_neg c0] at h1 ⊢; omega
    · unfold p_pass
      rw [if_neg (by omega), if_neg (by omega), if_neg (by omega)]
      exact b3
  · rw [p_pass_x b16 (by omega) (by omega) (by omega), p_pass_x b16 (by omega) (by omega) (by omega), p_pass_x b16 (by omega) (by omega) (by omega)]
    exact hp.2.2.2.1 i hi
  · rw [p_pass_x b16 (by omega) (by omega) (by omega)]; exact hp.2.2.2.2.1
  · rw [p_pass_43 b16]; omega
  · rw [p_pass_44 b16]; omega
theorem p_ok_settle {T : Nat} {opn : Nat → Bool} {P : Nat → Nat} (hp : p_ok T P) : p_ok (T + 1) (p_settle opn P) := by
  have b16 := hp.1
  refine ⟨?_, ?_, fun d hd => ?_, fun i hi => ?_, ?_, ?_, ?_⟩
  · rw [p_settle_x b16 (by omega) (by omega)]; exact b16
  · rw [p_settle_x b16 (by omega) (by omega)]; exact hp.2.1
  · obtain ⟨b0, b1, b2, b3⟩ := hp.2.2.1 d hd
    rw [p_settle_x b16 (by omega) (by omega), p_settle_x b16 (by omega) (by omega), p_settle_x b16 (by omega) (by omega)]
    refine ⟨b0, b1, b2, ?_⟩
    rcases Nat.lt_or_ge d (P 16) with q | q
    · by_cases c : opn d = true
      · rw [p_settle_o hd c]; exact b3
      · have c' : opn d = false := by simpa using c
        rw [p_settle_h q c']
        exact p_set_le b3
    · unfold p_settle
      rw [if_neg (by omega), if_neg (by omega)]
      exact b3
  · rw [p_settle_x b16 (by omega) (by omega), p_settle_x b16 (by omega) (by omega), p_settle_x b16 (by omega) (by omega)]
    exact hp.2.2.2.1 i hi
  · have := hp.2.2.2.2.1
    rw [p_settle_42 b16]; omega
  · rw [p_settle_x b16 (by omega) (by omega)]; exact hp.2.2.2.2.2.1
  · rw [p_settle_x b16 (by omega) (by omega)]; exact hp.2.2.2.2.2.2
theorem p_ok_tick {T m : Nat} {opn : Nat → Bool} {P : Nat → Nat} (hp : p_ok T P) : p_ok (T + 1) (p_tick opn P m) := p_ok_settle (p_ok_pass hp)
set_option maxHeartbeats 1000000 in
/-- a tick of the hall in which m come -/
theorem c_tickWith {fu o T m : Nat} {I : Nat → Nat → Int32} {R : Nat → Nat → Option Nat} {dr P : Nat → Nat} {opn : Nat → Bool} (hg : h_geo R o dr) (hr : h_rep I o dr P) (ho : h_opn I dr (P 16) opn) (hp : p_ok T P) (hT : T ≤ 5000) (hm : m ≤ 100) (hf : 10 < fu) : ∃ I', f_X2_tickWith fu o (nI m) (I, R) = some (nI (p_adm opn P m (P 16)), (I', R)) ∧ h_rep I' o dr (p_tick opn P m) ∧ h_opn I' dr (P 16) opn ∧ h_kept I I' o dr (P 16) ∧ ∀ d, d < P 16 → I' (dr d) 4 = I (dr d) 4 + nI (p_adm opn P m d - p_adm opn P m (d + 1)) := by
  obtain ⟨I1, e0, hr1, ho1, hk1, hf1⟩ := c_admit hg hr ho hp hm hf
  have hp1 : p_ok T (p_pass opn P m) := p_ok_pass hp
  have e16 : p_pass opn P m 16 = P 16 := p_pass_x hp.1 (by omega) (by omega) (by omega)
  generalize hQ : p_pass opn P m = Q at hr1 hp1 e16
  have b16 := hp1.1
  rw [← e16] at ho1 hf1
  have hdn : ∀ d, d < 4 → dr d ≠ o := fun d hd e => by have := hg.2.2.2.2.2.2.2.2.2.2 d hd; omega
  obtain ⟨b, e1, J, rfl, hJ, hK⟩ := e_lp (body := fun t => b_X2_tickWith_8 fu o (nI (p_adm opn P m (P 16))) t.1 t.2) (Q 16) (fun i t => ∃ J, t = (nI i, (J, R)) ∧ (∀ a, (∀ d, d < i → a ≠ dr d) → J a = I1 a) ∧ ∀ d, d < i → J (dr d) 0 = I1 (dr d) 0 ∧ J (dr d) 1 = I1 (dr d) 1 ∧ J (dr d) 2 = I1 (dr d) 2 ∧ J (dr d) 3 = nI (p_settle opn Q (12 + d)) ∧ J (dr d) 4 = I1 (dr d) 4 ∧ J (dr d) 5 = I1 (dr d) 5) (fun b => ∃ J, b = (J, R) ∧ (∀ a, (∀ d, d < Q 16 → a ≠ dr d) → J a = I1 a) ∧ ∀ d, d < Q 16 → J (dr d) 0 = I1 (dr d) 0 ∧ J (dr d) 1 = I1 (dr d) 1 ∧ J (dr d) 2 = I1 (dr d) 2 ∧ J (dr d) 3 = nI (p_settle opn Q (12 + d)) ∧ J (dr d) 4 = I1 (dr d) 4 ∧ J (dr d) 5 = I1 (dr d) 5) (by
    rintro i t hi ⟨J, rfl, hJ, hK⟩
    have hi4 : i < 4 := by omega
    have eo : J o = I1 o := hJ o (fun d hd => (hdn d (by omega)).symm)
    have ei : J (dr i) = I1 (dr i) := hJ (dr i) (fun d hd e => by have := hg.2.2.2.2.2.2.2.2.2.1 i d hi4 (by omega) e; omega)
    obtain ⟨r0, r1, r2, r3⟩ := hr1.2.2.2.2.2.1 i hi
    have step := c_settle1 (fu := fu) (I := J) (a := dr i) (R := R) (P := Q) (op := opn i) (by rw [ei]; exact r0) (by rw [ei]; exact r1) (by rw [ei]; exact r2) (by rw [ei]; exact r3) (by rw [ei]; exact ho1 i hi) hp1 hi4 hT
    have body : b_X2_tickWith_8 fu o (nI (p_adm opn P m (P 16))) (nI i) (J, R) = some (.inl (nI i + 1, (if opn i = true then J else g_u J (dr i) 3 (nI (p_set (Q i) (Q (4 + i)) (Q (8 + i)) (Q (12 + i)) (Q 42))), R))) := by
      unfold b_X2_tickWith_8
      refine (if_neg (by show ¬ J o 2 ≤ nI i; rw [eo, hr1.1]; exact nI_ge hi (by omega))).trans ?_
      refine (e_ld hg.1 hg.2.2.2.2.2.1).trans ?_
      refine (e_ix (m := i) rfl (by omega) (by omega)).trans ?_
      refine (e_ld (hg.2.2.1 i hi4) (hg.2.2.2.2.2.2.2.1 i hi4)).trans ?_
      exact e_bd (by show f_X1_settle fu (dr i) (J o 4) (J, R) = _; rw [eo, hr1.2.2.1]; exact step)
    refine ⟨_, body, ?_⟩
    by_cases c : opn i = true
    · refine ⟨J, ?_, fun a ha => hJ a (fun d hd => ha d (by omega)), fun d hd => ?_⟩
      · rw [if_pos c, nI_1]
      · rcases Nat.lt_or_ge d i with q | q
        · exact hK d q
        · have : d = i := by omega
          subst this
          rw [ei, p_settle_o hi4 c]
          exact ⟨rfl, rfl, rfl, r3, rfl, rfl⟩
    · have c' : opn i = false := by simpa using c
      refine ⟨g_u J (dr i) 3 (nI (p_set (Q i) (Q (4 + i)) (Q (8 + i)) (Q (12 + i)) (Q 42))), ?_, fun a ha => ?_, fun d hd => ?_⟩
      · rw [if_neg c, nI_1]
      · rw [g_u_ne (ha i (by omega))]
        exact hJ a (fun d hd => ha d (by omega))
      · rcases Nat.lt_or_ge d i with q | q
        · have hne : dr d ≠ dr i := fun e => by have := hg.2.2.2.2.2.2.2.2.2.1 d i (by omega) hi4 e; omega
          rw [g_u_ne hne]
          exact hK d q
        · have : d = i := by omega
          subst this
          refine ⟨?_, ?_, ?_, ?_, ?_, ?_⟩
          · rw [u_nk (by decide), ei]
          · rw [u_nk (by decide), ei]
          · rw [u_nk (by decide), ei]
          · rw [u_at, p_settle_h hi c']
          · rw [u_nk (by decide), ei]
          · rw [u_nk (by decide), ei]) (by
    rintro t ⟨J, rfl, hJ, hK⟩
    have eo : J o = I1 o := hJ o (fun d hd => (hdn d (by omega)).symm)
    refine ⟨_, ?_, J, rfl, hJ, hK⟩
    show b_X2_tickWith_8 fu o (nI (p_adm opn P m (P 16))) (nI (Q 16)) (J, R) = _
    unfold b_X2_tickWith_8
    exact if_pos (by show J o 2 ≤ nI (Q 16); rw [eo, hr1.1]; exact nI_le (Nat.le_refl _) (by omega))) 0 fu ((0 : Int32), (I1, R)) (Nat.zero_le _) (by omega) ⟨I1, rfl, fun _ _ => rfl, fun d hd => absurd hd (Nat.not_lt_zero _)⟩
  have eo : J o = I1 o := hJ o (fun d hd => (hdn d (by omega)).symm)
  refine ⟨_, (e_bd e0).trans ((e_th e1).trans rfl), ?_, ?_, ?_, ?_⟩
  · unfold p_tick
    rw [hQ]
    have e4 : J o 4 + (1 : Int32) = nI (p_settle opn Q 42) := by
      rw [eo, hr1.2.2.1, p_settle_42 b16, nI_1]
    dsimp only
    rw [e4]
    refine ⟨?_, ?_, ?_, ?_, ?_, ?_, ?_⟩
    · rw [u_nk (by decide), eo, hr1.1, p_settle_x b16 (by omega) (by omega)]
    · rw [u_nk (by decide), eo, hr1.2.1, p_settle_x b16 (by omega) (by omega)]
    · rw [u_at]
    · rw [u_nk (by decide), eo, hr1.2.2.2.1, p_settle_x b16 (by omega) (by omega)]
    · rw [u_nk (by decide), eo, hr1.2.2.2.2.1, p_settle_x b16 (by omega) (by omega)]
    · intro d hd
      rw [p_settle_x b16 (by omega) (by omega)] at hd
      obtain ⟨q0, q1, q2, q3, -, -⟩ := hK d hd
      obtain ⟨r0, r1, r2, r3⟩ := hr1.2.2.2.2.2.1 d hd
      rw [g_u_ne (hdn d (by omega)), q0, q1, q2, q3, r0, r1, r2, p_settle_x b16 (by omega) (by omega), p_settle_x b16 (by omega) (by omega), p_settle_x b16 (by omega) (by omega)]
      exact ⟨rfl, rfl, rfl, rfl⟩
    · intro i hi
      rw [p_settle_x b16 (by omega) (by omega)] at hi
      have hi8 : i < 8 := Nat.lt_of_lt_of_le hi hp1.2.1
      rw [g_u_ne (show o + 7 + i ≠ o by omega), hJ (o + 7 + i) (fun d hd e => by have := hg.2.2.2.2.2.2.2.2.2.2 d (by omega); omega), p_settle_x b16 (by omega) (by omega), p_settle_x b16 (by omega) (by omega), p_settle_x b16 (by omega) (by omega)]
      exact hr1.2.2.2.2.2.2 i hi
  · intro d hd
    rw [← e16] at hd
    dsimp only
    rw [g_u_ne (hdn d (by omega)), (hK d hd).2.2.2.2.2]
    exact ho1 d hd
  · intro a ha hd
    dsimp only
    rw [g_u_ne ha, hJ a (fun d h => hd d (by omega))]
    exact hk1 a ha hd
  · intro d hd
    rw [← e16] at hd
    dsimp only
    rw [g_u_ne (hdn d (by omega)), (hK d hd).2.2.2.2.1]
    exact hf1 d hd
