/-! ===== the class: a trial ===== -/
theorem p_sum_congr {f g : Nat → Nat} : ∀ n, (∀ i, i < n → f i = g i) → p_sum f n = p_sum g n
  | 0, _ => rfl
  | n + 1, h => by
    show p_sum f n + f n = p_sum g n + g n
    rw [p_sum_congr n (fun i hi => h i (by omega)), h n (by omega)]
/-- the trial (object 16) behind n ticks from the page P -/
def c_at (J : Nat → Nat → Int32) (t : Nat → Nat) (opn : Nat → Bool) (cm : Nat → (Nat → Nat) → Nat) (P : Nat → Nat) (n : Nat) : Prop := h_rep J 16 t (p_go opn cm (p_z P) n) ∧ h_opn J t (P 16) opn ∧ ∀ d, d < P 16 → J (t d) 4 = nI (p_sum (p_gr opn cm P d) n)
/-- nothing but the trial has changed -/
def c_kept (J J' : Nat → Nat → Int32) : Prop := ∀ a, a < 16 ∨ 31 ≤ a → J' a = J a
theorem c_kept_trans {J J' J'' : Nat → Nat → Int32} (h1 : c_kept J J') (h2 : c_kept J' J'') : c_kept J J'' := fun a ha => (h2 a ha).trans (h1 a ha)
theorem c_kept_h {J J' : Nat → Nat → Int32} {R : Nat → Nat → Option Nat} {t : Nat → Nat} {n : Nat} (hg : h_geo R 16 t) (h4 : n ≤ 4) (h : h_kept J J' 16 t n) : c_kept J J' := fun a ha => h a (by omega) (fun d hd => by have := hg.2.2.2.2.2.2.2.2.2.2 d (by omega); omega)
theorem c_go1 {fu T n : Nat} {J : Nat → Nat → Int32} {R : Nat → Nat → Option Nat} {t P : Nat → Nat} {opn : Nat → Bool} {cm : Nat → (Nat → Nat) → Nat} (hg : h_geo R 16 t) (ha : c_at J t opn cm P n) (hp : p_ok T P) (hc : p_few cm) (hT : T + n ≤ 5000) (hf : 10 < fu) : ∃ J', f_X2_tickWith fu 16 (nI (cm n (p_go opn cm P n))) (J, R) = some (nI (p_gl opn cm P n), (J', R)) ∧ c_at J' t opn cm P (n + 1) ∧ c_kept J J' := by
  have hz := p_z_ok hp
  have hzn := p_ok_go (opn := opn) (cm := cm) hz n
  have hpn := p_ok_go (opn := opn) (cm := cm) hp n
  have b16 := hp.1
  have ex := p_go_eqx (opn := opn) hz hc (@p_z_eqx P) n
  have e16 : p_go opn cm (p_z P) n 16 = P 16 := by rw [p_go_16 hz n, p_z_eqx 16 (by omega) (by omega)]
  have ecm := hc.2 _ n _ _ hzn ex
  obtain ⟨J', e, hr, ho, hk, hr4⟩ := c_tickWith (fu := fu) (opn := opn) (m := cm n (p_go opn cm P n)) hg ha.1 (by rw [e16]; exact ha.2.1) hzn hT (hc.1 _ _ _ hpn) hf
  rw [e16, p_adm_eqx ex _ (by omega)] at e
  rw [e16] at ho hr4
  refine ⟨J', e, ⟨?_, ho, fun d hd => ?_⟩, c_kept_h hg (by omega) hk⟩
  · show h_rep J' 16 t (p_tick opn (p_go opn cm (p_z P) n) (cm n (p_go opn cm (p_z P) n)))
    rw [ecm]; exact hr
  · rw [hr4 d hd, ha.2.2 d hd, nI_add, p_adm_eqx ex _ (by omega), p_adm_eqx ex _ (by omega)]
    rfl
theorem c_come1 {fu T n : Nat} {J : Nat → Nat → Int32} {R : Nat → Nat → Option Nat} {t P : Nat → Nat} {opn : Nat → Bool} {cm : Nat → (Nat → Nat) → Nat} (hg : h_geo R 16 t) (ha : c_at J t opn cm P n) (hp : p_ok T P) (hc : p_few cm) (hT : T + n ≤ 5000) (hf : 10 < fu) : f_X2_comers fu 16 (J, R) = some (nI (p_come (p_go opn cm P n)), (J, R)) := by
  have hz := p_z_ok hp
  have hzn := p_ok_go (opn := opn) (cm := cm) hz n
  have ex := p_go_eqx (opn := opn) hz hc (@p_z_eqx P) n
  rw [c_comers hg ha.1 hzn hT hf]
  have := p_few_cm.2 _ n _ _ hzn ex
  show some (nI (p_cm n _), _) = some (nI (p_cm n _), _)
  rw [this]
theorem c_tick1 {fu T n : Nat} {J : Nat → Nat → Int32} {R : Nat → Nat → Option Nat} {t P : Nat → Nat} {opn : Nat → Bool} (hg : h_geo R 16 t) (ha : c_at J t opn p_cm P n) (hp : p_ok T P) (hT : T + n ≤ 5000) (hf : 10 < fu) : ∃ J', f_X2_tickOn fu 16 (J, R) = some (nI (p_gl opn p_cm P n), (J', R)) ∧ c_at J' t opn p_cm P (n + 1) ∧ c_kept J J' := by
  obtain ⟨J', e, h⟩ := c_go1 (fu := fu) hg ha hp p_few_cm hT hf
  refine ⟨J', ?_, h⟩
  unfold f_X2_tickOn
  rw [c_come1 hg ha hp p_few_cm hT hf, k_bd]
  show g_bd (f_X2_tickWith fu 16 (nI (p_cm n (p_go opn p_cm P n))) (J, R)) _ = _
  rw [e, k_bd]
theorem c_run {fu T n : Nat} {J : Nat → Nat → Int32} {R : Nat → Nat → Option Nat} {t P : Nat → Nat} {opn : Nat → Bool} (hg : h_geo R 16 t) (ha : c_at J t opn p_cm P 0) (hp : p_ok T P) (hn : n ≤ 200) (hT : T + n ≤ 5000) (hf : n + 10 < fu) : ∃ J', f_X2_runOn fu 16 (nI n) (J, R) = some (nI (p_sum (p_gl opn p_cm P) n), (J', R)) ∧ c_at J' t opn p_cm P n ∧ c_kept J J' := by
  have hz := p_z_ok hp
  have b16 := hp.1
  have e16 : p_z P 16 = P 16 := p_z_eqx 16 (by omega) (by omega)
  obtain ⟨J', e, hr, ho, hk, h4⟩ := c_runOn (fu := fu) (opn := opn) (n := n) hg ha.1 (by show h_opn J t (p_z P 16) opn; rw [e16]; exact ha.2.1) hz (by omega) hT hf
  have e1 : p_lets opn (p_z P) n = p_sum (p_gl opn p_cm P) n := by
    rw [p_lets_go]
    exact p_sum_congr n (fun i _ => p_gl_eqx hz p_few_cm p_z_eqx i)
  refine ⟨J', ?_, ⟨?_, ?_, fun d hd => ?_⟩, c_kept_h hg (by show p_z P 16 ≤ 4; rw [e16]; omega) hk⟩
  · rw [e]
    show some (nI (p_lets opn (p_z P) n), _) = _
    rw [e1]
  · rw [← p_run_go]; exact hr
  · rw [← e16]; exact ho
  · rw [h4 d (by show d < p_z P 16; rw [e16]; exact hd), ha.2.2 d hd]
    show nI 0 + nI (p_sum (p_ref1 opn (p_z P) d) n) = _
    rw [nI_add, Nat.zero_add, p_refs_go]
    congr 1
    exact p_sum_congr n (fun i _ => p_gr_eqx hz p_few_cm p_z_eqx (by omega) i)
theorem c_countAnew {fu T : Nat} {I : Nat → Nat → Int32} {R : Nat → Nat → Option Nat} {t P : Nat → Nat} (hg : h_geo R 16 t) (hr : h_rep I 16 t P) (hp : p_ok T P) (hf : 10 < fu) : ∃ I', f_X2_countAnew fu 16 (I, R) = some ((), (I', R)) ∧ h_rep I' 16 t (p_z P) ∧ h_opn I' t (P 16) (fun _ => false) ∧ (∀ d, d < P 16 → I' (t d) 4 = nI 0) ∧ c_kept I I' := by
  have b16 := hp.1
  have hdo : ∀ d, d < 4 → 19 ≤ t d ∧ t d < 23 := fun d hd => by have := hg.2.2.2.2.2.2.2.2.2.2 d hd; omega
  have inj := hg.2.2.2.2.2.2.2.2.2.1
  obtain ⟨b, e1, J, rfl, ja, jd⟩ := e_lp (body := fun s => b_X2_countAnew_12 fu 16 s.1 s.2) (P 16)
    (fun i s => ∃ J, s = (nI i, (J, R)) ∧ (∀ a, (∀ d, d < i → a ≠ t d) → J a = (g_u (g_u I 16 5 (nI 0)) 16 6 (nI 0)) a) ∧ ∀ d, d < i → (∀ k, k < 4 → J (t d) k = I (t d) k) ∧ J (t d) 4 = nI 0 ∧ J (t d) 5 = nI 0)
    (fun b => ∃ J, b = (J, R) ∧ (∀ a, (∀ d, d < P 16 → a ≠ t d) → J a = (g_u (g_u I 16 5 (nI 0)) 16 6 (nI 0)) a) ∧ ∀ d, d < P 16 → (∀ k, k < 4 → J (t d) k = I (t d) k) ∧ J (t d) 4 = nI 0 ∧ J (t d) 5 = nI 0) (by
    rintro i s hi ⟨J, rfl, ja, jd⟩
    have h1 := hdo i (by omega)
    have e16 : J 16 2 = nI (P 16) := by rw [ja 16 (fun d hd e => by have := hdo d (by omega); omega), u_nk (by decide), u_nk (by decide)]; exact hr.1
    refine ⟨(nI (i + 1), (g_u (g_u J (t i) 4 (nI 0)) (t i) 5 (nI 0), R)), ?_, _, rfl, fun a ha => ?_, fun d hd => ?_⟩
    · show b_X2_countAnew_12 fu 16 (nI i) (J, R) = _
      unfold b_X2_countAnew_12
      refine (if_neg (by show ¬ J 16 2 ≤ nI i; rw [e16]; exact nI_ge hi (by omega))).trans ?_
      refine (e_ld hg.1 hg.2.2.2.2.2.1).trans ?_
      refine (e_ix (m := i) rfl (by omega) (by omega)).trans ?_
      refine (e_ld (hg.2.2.1 i (by omega)) (hg.2.2.2.2.2.2.2.1 i (by omega))).trans ?_
      refine (e_bd (r := ()) rfl).trans ?_
      rw [nI_1]
      rfl
    · have hn := ha i (by omega)
      rw [g_u_ne hn, g_u_ne hn]; exact ja a (fun d hd => ha d (by omega))
    · rcases Nat.lt_or_ge d i with q | q
      · have hn : t d ≠ t i := fun e => by have := inj d i (by omega) (by omega) e; omega
        rw [g_u_ne hn, g_u_ne hn]; exact jd d q
      · have : d = i := by omega
        subst this
        have hJ : J (t d) = I (t d) := by
          rw [ja (t d) (fun e he q => by have := inj d e (by omega) (by omega) q; omega), g_u_ne (by omega), g_u_ne (by omega)]
        refine ⟨fun k hk => by rw [u_nk (by omega), u_nk (by omega), hJ], ?_, u_at⟩
        rw [u_nk (by decide), u_at]) (by
    rintro s ⟨J, rfl, ja, jd⟩
    refine ⟨_, ?_, J, rfl, ja, jd⟩
    show b_X2_countAnew_12 fu 16 (nI (P 16)) (J, R) = _
    unfold b_X2_countAnew_12
    exact if_pos (by
      show J 16 2 ≤ nI (P 16)
      rw [ja 16 (fun d hd e => by have := hdo d (by omega); omega), u_nk (by decide), u_nk (by decide), hr.1]
      exact nI_le (Nat.le_refl _) (by omega))) 0 fu (nI 0, (g_u (g_u I 16 5 (nI 0)) 16 6 (nI 0), R)) (Nat.zero_le _) (by omega) ⟨_, rfl, fun _ _ => rfl, fun d hd => absurd hd (Nat.not_lt_zero _)⟩
  have j16 : ∀ k, J 16 k = (g_u (g_u I 16 5 (nI 0)) 16 6 (nI 0)) 16 k := fun k => by rw [ja 16 (fun d hd e => by have := hdo d (by omega); omega)]
  have ez := @p_z_eqx P
  refine ⟨J, (e_th e1).trans rfl, ⟨?_, ?_, ?_, ?_, ?_, fun d hd => ?_, fun i hi => ?_⟩, fun d hd => ?_, fun d hd => (jd d hd).2.1, fun a ha => ?_⟩
  · rw [j16, u_nk (by decide), u_nk (by decide), ez 16 (by omega) (by omega)]; exact hr.1
  · rw [j16, u_nk (by decide), u_nk (by decide), ez 41 (by omega) (by omega)]; exact hr.2.1
  · rw [j16, u_nk (by decide), u_nk (by decide), ez 42 (by omega) (by omega)]; exact hr.2.2.1
  · rw [j16, u_nk (by decide), u_at]; rfl
  · rw [j16, u_at]; rfl
  · rw [ez 16 (by omega) (by omega)] at hd
    rw [(jd d hd).1 0 (by omega), (jd d hd).1 1 (by omega), (jd d hd).1 2 (by omega), (jd d hd).1 3 (by omega), ez d (by omega) (by omega), ez (4 + d) (by omega) (by omega), ez (8 + d) (by omega) (by omega), ez (12 + d) (by omega) (by omega)]
    exact hr.2.2.2.2.2.1 d hd
  · rw [ez 41 (by omega) (by omega)] at hi
    have h8 := hp.2.1
    rw [ja (16 + 7 + i) (fun d hd e => by have := hdo d (by omega); omega), g_u_ne (by omega), g_u_ne (by omega), ez (17 + i) (by omega) (by omega), ez (25 + i) (by omega) (by omega), ez (33 + i) (by omega) (by omega)]
    exact hr.2.2.2.2.2.2 i hi
  · rw [(jd d hd).2.2]; rfl
  · rw [ja a (fun d hd e => by have := hdo d (by omega); omega), g_u_ne (by omega), g_u_ne (by omega)]
/-- where the class's objects lie; t: the trial's doors -/
def c_R (R : Nat → Nat → Option Nat) (t : Nat → Nat) : Prop := h_geo R 1 (fun d => 4 + d) ∧ h_geo R 16 t ∧ h_geo R 52 (fun d => 55 + d) ∧ h_geo R 67 (fun d => 70 + d) ∧ R 0 0 = some 1 ∧ R 0 1 = some 16 ∧ R 0 2 = some 31 ∧ R 31 0 = some 52 ∧ R 31 1 = some 67 ∧ R 0 3 = some 32 ∧ R 0 4 = some 33 ∧ R 0 5 = some 35 ∧ R 35 0 = some 33 ∧ R 35 1 = some 16 ∧ R 33 0 = some 34 ∧ R 0 6 = some 36 ∧ R 36 0 = some 37 ∧ R 36 1 = some 38 ∧ R 0 7 = some 39 ∧ (∀ k, k < 4 → R 39 k = some (82 + 2 * k) ∧ R (82 + 2 * k) 0 = some (83 + 2 * k)) ∧ R 0 8 = some 40 ∧ (∀ v, v < 10 → R 40 v = some (41 + v)) ∧ R 0 9 = some 51
theorem c_ld0 {β : Type} {R : Nat → Nat → Option Nat} {t : Nat → Nat} (h : c_R R t) {k : Nat → Option β} : g_ld g_KC 90 g_kX2 (R 0 0) k = k 1 := e_ld h.2.2.2.2.1 ⟨by decide, rfl⟩
theorem c_ld1 {β : Type} {R : Nat → Nat → Option Nat} {t : Nat → Nat} (h : c_R R t) {k : Nat → Option β} : g_ld g_KC 90 g_kX2 (R 0 1) k = k 16 := e_ld h.2.2.2.2.2.1 ⟨by decide, rfl⟩
theorem c_startTrial {fu T : Nat} {I : Nat → Nat → Int32} {R : Nat → Nat → Option Nat} {t P : Nat → Nat} (cm : Nat → (Nat → Nat) → Nat) (hc : c_R R t) (hr : h_rep I 1 (fun d => 4 + d) P) (hp : p_ok T P) (hf : 20 < fu) : ∃ I', f_X7_startTrial fu 0 (I, R) = some ((), (I', R)) ∧ c_at I' t (fun _ => false) cm P 0 ∧ c_kept I I' := by
  obtain ⟨I1, e1, r1, k1, -⟩ := c_become (fu := fu) hc.2.1 hc.1 (by omega) hr hp hf
  obtain ⟨I2, e2, r2, o2, d2, k2⟩ := c_countAnew (fu := fu) hc.2.1 r1 hp (by omega)
  refine ⟨I2, ?_, ⟨r2, o2, d2⟩, c_kept_trans (fun a ha => k1 a (by omega)) k2⟩
  unfold f_X7_startTrial
  simp only [c_ld0 hc, c_ld1 hc, e1, k_bd, e2]
