/-- n ticks -/
def p_run (opn : Nat → Bool) (P : Nat → Nat) : Nat → (Nat → Nat)
  | 0 => P
  | n + 1 => p_tick opn (p_run opn P n) (p_come (p_run opn P n))
/-- how many are let in the tick n -/
def p_let1 (opn : Nat → Bool) (P : Nat → Nat) (n : Nat) : Nat := p_adm opn (p_run opn P n) (p_come (p_run opn P n)) (P 16)
def p_lets (opn : Nat → Bool) (P : Nat → Nat) (n : Nat) : Nat := p_sum (p_let1 opn P) n
/-- how many a door turns away in the tick n -/
def p_ref1 (opn : Nat → Bool) (P : Nat → Nat) (d n : Nat) : Nat := p_adm opn (p_run opn P n) (p_come (p_run opn P n)) d - p_adm opn (p_run opn P n) (p_come (p_run opn P n)) (d + 1)
theorem p_tick_16 {opn : Nat → Bool} {P : Nat → Nat} {m : Nat} (h : P 16 ≤ 4) : p_tick opn P m 16 = P 16 := by
  have e : p_pass opn P m 16 = P 16 := p_pass_x h (by omega) (by omega) (by omega)
  unfold p_tick
  rw [p_settle_x (by rw [e]; exact h) (by omega) (by omega), e]
theorem p_ok_run {T : Nat} {opn : Nat → Bool} {P : Nat → Nat} (hp : p_ok T P) : ∀ n, p_ok (T + n) (p_run opn P n)
  | 0 => hp
  | n + 1 => p_ok_tick (p_ok_run hp n)
theorem p_run_16 {T : Nat} {opn : Nat → Bool} {P : Nat → Nat} (hp : p_ok T P) : ∀ n, p_run opn P n 16 = P 16
  | 0 => rfl
  | n + 1 => by
    show p_tick opn (p_run opn P n) _ 16 = P 16
    rw [p_tick_16 (p_ok_run hp n).1, p_run_16 hp n]
theorem p_let1_le {T : Nat} {opn : Nat → Bool} {P : Nat → Nat} (hp : p_ok T P) (n : Nat) : p_let1 opn P n ≤ 72 := Nat.le_trans (p_adm_le _) (p_come_le (p_ok_run hp n))
theorem p_lets_le {T : Nat} {opn : Nat → Bool} {P : Nat → Nat} (hp : p_ok T P) (n : Nat) : p_lets opn P n ≤ 72 * n := p_sum_le (p_let1_le hp) n
theorem p_ref1_le {T : Nat} {opn : Nat → Bool} {P : Nat → Nat} {d : Nat} (hp : p_ok T P) (n : Nat) : p_ref1 opn P d n ≤ 72 := by
  have h1 := p_adm_le (opn := opn) (P := p_run opn P n) (m := p_come (p_run opn P n)) d
  have h2 := p_come_le (p_ok_run (opn := opn) hp n)
  unfold p_ref1
  omega
theorem c_tickOn {fu o T : Nat} {I : Nat → Nat → Int32} {R : Nat → Nat → Option Nat} {dr P : Nat → Nat} {opn : Nat → Bool} (hg : h_geo R o dr) (hr : h_rep I o dr P) (ho : h_opn I dr (P 16) opn) (hp : p_ok T P) (hT : T ≤ 5000) (hf : 10 < fu) : ∃ I', f_X2_tickOn fu o (I, R) = some (nI (p_adm opn P (p_come P) (P 16)), (I', R)) ∧ h_rep I' o dr (p_tick opn P (p_come P)) ∧ h_opn I' dr (P 16) opn ∧ h_kept I I' o dr (P 16) ∧ ∀ d, d < P 16 → I' (dr d) 4 = I (dr d) 4 + nI (p_adm opn P (p_come P) d - p_adm opn P (p_come P) (d + 1)) := by
  obtain ⟨I1, e1, h1⟩ := c_tickWith hg hr ho hp hT (Nat.le_trans (p_come_le hp) (by omega)) hf
  refine ⟨I1, ?_, h1⟩
  unfold f_X2_tickOn
  exact (e_bd (c_comers hg hr hp hT hf)).trans (e_bd e1)
theorem h_kept_trans {I I' I'' : Nat → Nat → Int32} {o n : Nat} {dr : Nat → Nat} (h1 : h_kept I I' o dr n) (h2 : h_kept I' I'' o dr n) : h_kept I I'' o dr n := fun a ha hd => (h2 a ha hd).trans (h1 a ha hd)
theorem c_runOn {fu o T n : Nat} {I : Nat → Nat → Int32} {R : Nat → Nat → Option Nat} {dr P : Nat → Nat} {opn : Nat → Bool} (hg : h_geo R o dr) (hr : h_rep I o dr P) (ho : h_opn I dr (P 16) opn) (hp : p_ok T P) (hn : n ≤ 1000) (hT : T + n ≤ 5000) (hf : n + 10 < fu) : ∃ I', f_X2_runOn fu o (nI n) (I, R) = some (nI (p_lets opn P n), (I', R)) ∧ h_rep I' o dr (p_run opn P n) ∧ h_opn I' dr (P 16) opn ∧ h_kept I I' o dr (P 16) ∧ ∀ d, d < P 16 → I' (dr d) 4 = I (dr d) 4 + nI (p_sum (p_ref1 opn P d) n) := by
  obtain ⟨b, e1, J, rfl, hJ⟩ := e_lp (body := fun t => b_X2_runOn_4 fu o (nI n) t.1 t.2.1 t.2.2) n (fun i t => ∃ J, t = (nI (p_lets opn P i), nI i, (J, R)) ∧ h_rep J o dr (p_run opn P i) ∧ h_opn J dr (P 16) opn ∧ h_kept I J o dr (P 16) ∧ ∀ d, d < P 16 → J (dr d) 4 = I (dr d) 4 + nI (p_sum (p_ref1 opn P d) i)) (fun b => ∃ J, b = (nI (p_lets opn P n), (J, R)) ∧ h_rep J o dr (p_run opn P n) ∧ h_opn J dr (P 16) opn ∧ h_kept I J o dr (P 16) ∧ ∀ d, d < P 16 → J (dr d) 4 = I (dr d) 4 + nI (p_sum (p_ref1 opn P d) n)) (by
    rintro i t hi ⟨J, rfl, hr1, ho1, hk1, hf1⟩
    have e16 := p_run_16 (opn := opn) hp i
    obtain ⟨J2, e2, hr2, ho2, hk2, hf2⟩ := c_tickOn (fu := fu) (opn := opn) hg hr1 (by rw [e16]; exact ho1) (p_ok_run hp i) (by omega) (by omega)
    rw [e16] at e2 ho2 hk2 hf2
    refine ⟨(nI (p_lets opn P (i + 1)), nI (i + 1), (J2, R)), ?_, J2, rfl, hr2, ho2, h_kept_trans hk1 hk2, fun d hd => ?_⟩
    · show b_X2_runOn_4 fu o (nI n) (nI (p_lets opn P i)) (nI i) (J, R) = _
      unfold b_X2_runOn_4
      refine (if_neg (nI_ge hi (by omega))).trans ?_
      refine (e_bd e2).trans ?_
      rw [nI_add, nI_1]
      rfl
    · rw [hf2 d hd, hf1 d hd, Int32.add_assoc, nI_add]
      rfl) (by
    rintro t ⟨J, rfl, h⟩
    refine ⟨_, ?_, J, rfl, h⟩
    show b_X2_runOn_4 fu o (nI n) (nI (p_lets opn P n)) (nI n) (J, R) = _
    unfold b_X2_runOn_4
    exact if_pos (nI_le (Nat.le_refl _) (by omega))) 0 fu ((0 : Int32), (0 : Int32), (I, R)) (Nat.zero_le _) (by omega) ⟨I, rfl, hr, ho, fun _ _ _ => rfl, fun d hd => (Int32.add_zero _).symm⟩
  exact ⟨J, (e_th e1).trans rfl, hJ⟩
/-! ===== a hall becomes another ===== -/
theorem c_become1 {fu a b : Nat} {I : Nat → Nat → Int32} {R : Nat → Nat → Option Nat} (h : a ≠ b) : f_X1_become fu a b (I, R) = some ((), (g_u (g_u (g_u (g_u I a 0 (I b 0)) a 1 (I b 1)) a 2 (I b 2)) a 3 (I b 3), R)) := by
  unfold f_X1_become
  have hb := Ne.symm h
  simp only [u_ni hb]
set_option maxHeartbeats 1000000 in
/-- hall o becomes hall q (apart from it): what it then holds -/
theorem c_become {fu o q T : Nat} {I : Nat → Nat → Int32} {R : Nat → Nat → Option Nat} {dr dq P : Nat → Nat} (hg : h_geo R o dr) (hq : h_geo R q dq) (hne : o + 15 ≤ q ∨ q + 15 ≤ o) (hr : h_rep I q dq P) (hp : p_ok T P) (hf : 20 < fu) : ∃ I', f_X2_become fu o q (I, R) = some ((), (I', R)) ∧ h_rep I' o dr P ∧ (∀ a, a < o ∨ o + 15 ≤ a → I' a = I a) ∧ ∀ d, d < 4 → I' (dr d) 4 = I (dr d) 4 ∧ I' (dr d) 5 = I (dr d) 5 := by
  have b16 := hp.1
  have b41 := hp.2.1
  have hdo : ∀ d, d < 4 → o + 3 ≤ dr d ∧ dr d < o + 7 := hg.2.2.2.2.2.2.2.2.2.2
  have hdq : ∀ d, d < 4 → q + 3 ≤ dq d ∧ dq d < q + 7 := hq.2.2.2.2.2.2.2.2.2.2
  -- the doors
  obtain ⟨b, e1, J, rfl, hJ, hK⟩ := e_lp (body := fun t => b_X2_become_10 fu o q t.1 t.2) (P 16) (fun i t => ∃ J, t = (nI i, (J, R)) ∧ (∀ a, (∀ d, d < i → a ≠ dr d) → J a = g_u I o 2 (I q 2) a) ∧ ∀ d, d < i → J (dr d) 0 = I (dq d) 0 ∧ J (dr d) 1 = I (dq d) 1 ∧ J (dr d) 2 = I (dq d) 2 ∧ J (dr d) 3 = I (dq d) 3 ∧ J (dr d) 4 = I (dr d) 4 ∧ J (dr d) 5 = I (dr d) 5) (fun b => ∃ J, b = (J, R) ∧ (∀ a, (∀ d, d < P 16 → a ≠ dr d) → J a = g_u I o 2 (I q 2) a) ∧ ∀ d, d < P 16 → J (dr d) 0 = I (dq d) 0 ∧ J (dr d) 1 = I (dq d) 1 ∧ J (dr d) 2 = I (dq d) 2 ∧ J (dr d) 3 = I (dq d) 3 ∧ J (dr d) 4 = I (dr d) 4 ∧ J (dr d) 5 = I (dr d) 5) (by
    rintro i t hi ⟨J, rfl, hJ, hK⟩
    have hi4 : i < 4 := by omega
    have h1 := hdo i hi4
    have h2 := hdq i hi4
    have eo : J o 2 = nI (P 16) := by
      rw [hJ o (fun d hd e => by have := hdo d (by omega); omega), u_at]
      exact hr.1
    have eq : J (dq i) = I (dq i) := by
      rw [hJ (dq i) (fun d hd e => by have := hdo d (by omega); omega), g_u_ne (by omega)]
    have ei : J (dr i) = I (dr i) := by
      rw [hJ (dr i) (fun d hd e => by have := hg.2.2.2.2.2.2.2.2.2.1 i d hi4 (by omega) e; omega), g_u_ne (by omega)]
    refine ⟨(nI (i + 1), (g_u (g_u (g_u (g_u J (dr i) 0 (J (dq i) 0)) (dr i) 1 (J (dq i) 1)) (dr i) 2 (J (dq i) 2)) (dr i) 3 (J (dq i) 3), R)), ?_, _, rfl, fun a ha => ?_, fun d hd => ?_⟩
    · show b_X2_become_10 fu o q (nI i) (J, R) = _
      unfold b_X2_become_10
      refine (if_neg (by show ¬ J o 2 ≤ nI i; rw [eo]; exact nI_ge hi (by omega))).trans ?_
      refine (e_ld hg.1 hg.2.2.2.2.2.1).trans ?_
      refine (e_ix (m := i) rfl (by omega) (by omega)).trans ?_
      refine (e_ld (hg.2.2.1 i hi4) (hg.2.2.2.2.2.2.2.1 i hi4)).trans ?_
      refine (e_ld hq.1 hq.2.2.2.2.2.1).trans ?_
      refine (e_ix (m := i) rfl (by omega) (by omega)).trans ?_
      refine (e_ld (hq.2.2.1 i hi4) (hq.2.2.2.2.2.2.2.1 i hi4)).trans ?_
      refine (e_bd (c_become1 (by omega))).trans ?_
      rw [nI_1]
    · have hn : a ≠ dr i := ha i (by omega)
      rw [g_u_ne hn, g_u_ne hn, g_u_ne hn, g_u_ne hn]
      exact hJ a (fun d hd => ha d (by omega))
    · rcases Nat.lt_or_ge d i with z | z
      · have hn : dr d ≠ dr i := fun e => by have := hg.2.2.2.2.2.2.2.2.2.1 d i (by omega) hi4 e; omega
        rw [g_u_ne hn, g_u_ne hn, g_u_ne hn, g_u_ne hn]
        exact hK d z
      · have : d = i := by omega
        subst this
        rw [eq]
        refine ⟨?_, ?_, ?_, ?_, ?_, ?_⟩
        · rw [u_nk (by decide), u_nk (by decide), u_nk (by decide), u_at]
        · rw [u_nk (by decide), u_nk (by decide), u_at]
        · rw [u_nk (by decide), u_at]
        · rw [u_at]
        · rw [u_nk (by decide), u_nk (by decide), u_nk (by decide), u_nk (by decide), ei]
        · rw [u_nk (by decide), u_nk (by decide), u_nk (by decide), u_nk (by decide), ei]) (by
    rintro t ⟨J, rfl, hJ, hK⟩
    refine ⟨_, ?_, J, rfl, hJ, hK⟩
    show b_X2_become_10 fu o q (nI (P 16)) (J, R) = _
    unfold b_X2_become_10
    exact if_pos (by
      show J o 2 ≤ nI (P 16)
      rw [hJ o (fun d hd e => by have := hdo d (by omega); omega), u_at, hr.1]
      exact nI_le (Nat.le_refl _) (by omega))) 0 fu ((0 : Int32), (g_u I o 2 (I q 2), R)) (Nat.zero_le _) (by omega) ⟨_, rfl, fun _ _ => rfl, fun d hd => absurd hd (Nat.not_lt_zero _)⟩
  have jq : J q = I q := by
    rw [hJ q (fun d hd e => by have := hdo d (by omega); omega), g_u_ne (by omega)]
  have jqc : ∀ i, i < 8 → J (q + 7 + i) = I (q + 7 + i) := fun i hi => by
    rw [hJ (q + 7 + i) (fun d hd e => by have := hdo d (by omega); omega), g_u_ne (by omega)]
  -- the crowds
  obtain ⟨b2, e2, J2, rfl, hJ2, hK2⟩ := e_lp (body := fun t => b_X2_become_49 fu o q t.1 t.2) (P 41) (fun i t => ∃ J2, t = (nI i, (J2, R)) ∧ (∀ a, (∀ k, k < i → a ≠ o + 7 + k) → J2 a = g_u J o 3 (J q 3) a) ∧ ∀ k, k < i → J2 (o + 7 + k) 0 = I (q + 7 + k) 0 ∧ J2 (o + 7 + k) 1 = I (q + 7 + k) 1 ∧ J2 (o + 7 + k) 2 = I (q + 7 + k) 2) (fun b => ∃ J2, b = (J2, R) ∧ (∀ a, (∀ k, k < P 41 → a ≠ o + 7 + k) → J2 a = g_u J o 3 (J q 3) a) ∧ ∀ k, k < P 41 → J2 (o + 7 + k) 0 = I (q + 7 + k) 0 ∧ J2 (o + 7 + k) 1 = I (q + 7 + k) 1 ∧ J2 (o + 7 + k) 2 = I (q + 7 + k) 2) (by
    rintro i t hi ⟨J2, rfl, hJ2, hK2⟩
    have hi8 : i < 8 := by omega
    have eo : J2 o 3 = nI (P 41) := by
      rw [hJ2 o (fun k hk e => by omega), u_at, jq]
      exact hr.2.1
    have eq : J2 (q + 7 + i) = I (q + 7 + i) := by
      rw [hJ2 (q + 7 + i) (fun k hk e => by omega), g_u_ne (by omega)]
      exact jqc i hi8
    refine ⟨(nI (i + 1), (g_u (g_u (g_u J2 (o + 7 + i) 0 (J2 (q + 7 + i) 0)) (o + 7 + i) 1 (J2 (q + 7 + i) 1)) (o + 7 + i) 2 (J2 (q + 7 + i) 2), R)), ?_, _, rfl, fun a ha => ?_, fun k hk => ?_⟩
    · show b_X2_become_49 fu o q (nI i) (J2, R) = _
      unfold b_X2_become_49
      refine (if_neg (by show ¬ J2 o 3 ≤ nI i; rw [eo]; exact nI_ge hi (by omega))).trans ?_
      refine (e_ld hq.2.1 hq.2.2.2.2.2.2.1).trans ?_
      refine (e_ix (m := i) rfl (by omega) (by omega)).trans ?_
      refine (e_ld (hq.2.2.2.1 i hi8) (hq.2.2.2.2.2.2.2.2.1 i hi8)).trans ?_
      refine (e_ld hg.2.1 hg.2.2.2.2.2.2.1).trans ?_
      refine (e_ix (m := i) rfl (by omega) (by omega)).trans ?_
      refine (e_ld (hg.2.2.2.1 i hi8) (hg.2.2.2.2.2.2.2.2.1 i hi8)).trans ?_
      refine (e_bd (r := ()) rfl).trans ?_
      rw [nI_1]
    · have hn : a ≠ o + 7 + i := ha i (by omega)
      rw [g_u_ne hn, g_u_ne hn, g_u_ne hn]
      exact hJ2 a (fun k hk => ha k (by omega))
    · rcases Nat.lt_or_ge k i with z | z
      · have hn : o + 7 + k ≠ o + 7 + i := by omega
        rw [g_u_ne hn, g_u_ne hn, g_u_ne hn]
        exact hK2 k z
      · have : k = i := by omega
        subst this
        rw [eq]
        refine ⟨?_, ?_, ?_⟩
        · rw [u_nk (by decide), u_nk (by decide), u_at]
        · rw [u_nk (by decide), u_at]
        · rw [u_at]) (by
    rintro t ⟨J2, rfl, hJ2, hK2⟩
    refine ⟨_, ?_, J2, rfl, hJ2, hK2⟩
    show b_X2_become_49 fu o q (nI (P 41)) (J2, R) = _
    unfold b_X2_become_49
    exact if_pos (by
      show J2 o 3 ≤ nI (P 41)
      rw [hJ2 o (fun k hk e => by omega), u_at, jq, hr.2.1]
      exact nI_le (Nat.le_refl _) (by omega))) 0 fu ((0 : Int32), (g_u J o 3 (J q 3), R)) (Nat.zero_le _) (by omega) ⟨_, rfl, fun _ _ => rfl, fun d hd => absurd hd (Nat.not_lt_zero _)⟩
  have j2q : J2 q = I q := by
    rw [hJ2 q (fun k hk e => by omega), g_u_ne (by omega), jq]
  refine ⟨_, (e_th e1).trans ((e_th e2).trans rfl), ?_, ?_, ?_⟩
  · dsimp only
    have hqo : q ≠ o := by omega
    rw [u_ni hqo, u_ni hqo, u_ni hqo, j2q, hr.2.2.1, hr.2.2.2.1, hr.2.2.2.2.1]
    have j2o : ∀ k, k ≠ 3 → J2 o k = J o k := fun k hk => by
      rw [hJ2 o (fun i hi e => by omega), u_nk hk]
    have jo : ∀ k, k ≠ 2 → J o k = I o k := fun k hk => by
      rw [hJ o (fun d hd e => by have := hdo d (by omega); omega), u_nk hk]
    refine ⟨?_, ?_, ?_, ?_, ?_, fun d hd => ?_, fun i hi => ?_⟩
    · rw [u_nk (by decide), u_nk (by decide), u_nk (by decide), j2o 2 (by decide), hJ o (fun d hd e => by have := hdo d (by omega); omega), u_at, hr.1]
    · rw [u_nk (by decide), u_nk (by decide), u_nk (by decide), hJ2 o (fun i hi e => by omega), u_at, jq, hr.2.1]
    · rw [u_nk (by decide), u_nk (by decide), u_at]
    · rw [u_nk (by decide), u_at]
    · rw [u_at]
    · have h1 := hdo d (by omega)
      have hn : dr d ≠ o := by omega
      rw [g_u_ne hn, g_u_ne hn, g_u_ne hn, hJ2 (dr d) (fun i hi e => by omega), g_u_ne hn]
      obtain ⟨k0, k1, k2, k3, -, -⟩ := hK d hd
      rw [k0, k1, k2, k3]
      exact hr.2.2.2.2.2.1 d hd
    · have hn : o + 7 + i ≠ o := by omega
      rw [g_u_ne hn, g_u_ne hn, g_u_ne hn]
      obtain ⟨k0, k1, k2⟩ := hK2 i hi
      rw [k0, k1, k2]
      exact hr.2.2.2.2.2.2 i hi
  · intro a ha
    have hn : a ≠ o := by omega
    dsimp only
    rw [g_u_ne hn, g_u_ne hn, g_u_ne hn, hJ2 a (fun k hk e => by omega), g_u_ne hn, hJ a (fun d hd e => by have := hdo d (by omega); omega), g_u_ne hn]
  · intro d hd
    have h1 := hdo d hd
    have hn : dr d ≠ o := by omega
    dsimp only
    rw [g_u_ne hn, g_u_ne hn, g_u_ne hn, hJ2 (dr d) (fun i hi e => by omega), g_u_ne hn]
    rcases Nat.lt_or_ge d (P 16) with z | z
    · obtain ⟨-, -, -, -, k4, k5⟩ := hK d z
      exact ⟨k4, k5⟩
    · rw [hJ (dr d) (fun e he q => by have := hg.2.2.2.2.2.2.2.2.2.1 d e hd (by omega) q; omega), g_u_ne hn]
      exact ⟨rfl, rfl⟩
