/-! ===== in which tick to count next ===== -/
def q_bit (X : Int32) (v : Nat) : Bool := decide ((X >>> (nI v &&& 31)) &&& 1 = 1)
theorem q_if {α : Type} {X : Int32} {v : Nat} {A B : α} : (if (X >>> (nI v &&& 31)) &&& 1 = 1 then A else B) = if q_bit X v = true then A else B := by
  unfold q_bit
  by_cases c : (X >>> (nI v &&& 31)) &&& 1 = 1
  · rw [if_pos c, if_pos (decide_eq_true c)]
  · rw [if_neg c, if_neg (fun z => c (of_decide_eq_true z))]
def q_bc (X : Int32) : Nat → Int32
  | 0 => nI 0
  | n + 1 => q_bc X n + ((X >>> (nI n &&& 31)) &&& 1)
theorem q_or : ∀ k, k < 10 → ∀ a, a < 2 ^ k → nI a ||| nI 1 <<< (nI k &&& 31) = nI (a + 2 ^ k) := by decide +kernel
theorem q_bt {ag : Nat → Bool} : ∀ k, k ≤ 10 → ∃ a, a < 2 ^ k ∧ p_bt ag 0 k = nI a
  | 0, _ => ⟨0, by decide, rfl⟩
  | k + 1, h => by
    obtain ⟨a, ha, e⟩ := q_bt (ag := ag) k (by omega)
    have e1 : p_bt ag 0 (k + 1) = p_bt ag 0 k ||| if ag (0 + k) = true then nI 1 <<< (nI (0 + k) &&& 31) else nI 0 := rfl
    rw [e1, e, Nat.zero_add]
    have h2 : 2 ^ (k + 1) = 2 ^ k + 2 ^ k := by rw [Nat.pow_succ]; omega
    by_cases c : ag k = true
    · rw [if_pos c]
      exact ⟨a + 2 ^ k, by omega, q_or k (by omega) a ha⟩
    · rw [if_neg c, show nI 0 = 0 from rfl, Int32.or_zero]
      exact ⟨a, by omega, rfl⟩
theorem q_cnt0 : ∀ m, m < 1024 → Option.map Prod.fst (f_J6_bitCount_0f7a4 0 (nI m) g_S0) = some (q_bc (nI m) 10) := by decide +kernel
theorem q_cnt {fu m : Nat} {S : g_St} (h : m < 1024) : f_J6_bitCount_0f7a4 fu (nI m) S = some (q_bc (nI m) 10, S) := by
  have e := q_cnt0 m h
  unfold f_J6_bitCount_0f7a4 at e ⊢
  exact congrArg (fun r => some (r, S)) (Option.some.inj e)
/-- how many of those that may be let so many -/
def q_sh (b : Nat → Bool) (T : Nat → Nat) (x : Nat) : Nat := p_sum (fun v => if b v = true ∧ T v = x then 1 else 0) 10
theorem q_sh_le {b : Nat → Bool} {T : Nat → Nat} {x : Nat} (n : Nat) : p_sum (fun v => if b v = true ∧ T v = x then 1 else 0) n ≤ 1 * n := p_sum_le (fun v => by
  by_cases c : b v = true ∧ T v = x
  · rw [if_pos c]; exact Nat.le_refl _
  · rw [if_neg c]; exact Nat.zero_le _) n
def q_w (b : Nat → Bool) (T : Nat → Nat) : Nat → Nat
  | 0 => 0
  | k + 1 => if b k = true then max (q_w b T k) (q_sh b T (T k)) else q_w b T k
theorem q_w_le {b : Nat → Bool} {T : Nat → Nat} : ∀ k, q_w b T k ≤ 10
  | 0 => Nat.zero_le _
  | k + 1 => by
    have h1 := q_w_le (b := b) (T := T) k
    have h2 := q_sh_le (b := b) (T := T) (x := T k) 10
    have e : q_w b T (k + 1) = if b k = true then max (q_w b T k) (q_sh b T (T k)) else q_w b T k := rfl
    rw [e]
    unfold q_sh
    by_cases c : b k = true
    · rw [if_pos c]; omega
    · rw [if_neg c]; exact h1
theorem c_share {fu k x : Nat} {X : Int32} {J : Nat → Nat → Int32} {R : Nat → Nat → Option Nat} {t T : Nat → Nat} (hR : c_R R t) (hT : ∀ v, v < 10 → J (41 + v) k = nI (T v)) (lT : ∀ v, T v ≤ 100) (hx : x ≤ 100) (hk : k < 41) (hf : 1000 < fu) : f_X7_sharing fu 0 X (nI k) (nI x) (J, R) = some (nI (q_sh (q_bit X) T x), (J, R)) := by
  obtain ⟨b, e1, rfl⟩ := e_lp (body := fun q => b_X7_sharing_6 fu 0 X (nI k) (nI x) q.1 q.2.1 q.2.2) 10
    (fun i q => q = (nI (p_sum (fun v => if q_bit X v = true ∧ T v = x then 1 else 0) i), nI i, (J, R)))
    (fun b => b = (nI (q_sh (q_bit X) T x), (J, R))) (by
    rintro i q hi rfl
    refine ⟨_, ?_, rfl⟩
    show b_X7_sharing_6 fu 0 X (nI k) (nI x) _ (nI i) (J, R) = some (Sum.inl (nI (p_sum (fun v => if q_bit X v = true ∧ T v = x then 1 else 0) i + if q_bit X i = true ∧ T i = x then 1 else 0), nI (i + 1), (J, R)))
    have hl := lT i
    have e8 := fun {β : Type} {k : Nat → Option β} => c_ld8v (β := β) (v := i) hR hi (k := k)
    unfold b_X7_sharing_6 j_X7_sharing_39_in6
    rw [if_neg (show ¬ (9 : Int32) < nI i from nI_nlt (a := 9) (by omega) (by omega))]
    simp only [q_if, e8]
    rw [k_ix hk (by omega)]
    simp (disch := omega) only [hT i hi, nI_eq, nI_1]
    by_cases c1 : q_bit X i = true
    · rw [if_pos c1]
      by_cases c2 : T i = x
      · rw [if_pos c2, if_pos ⟨c1, c2⟩]
      · rw [if_neg c2, if_neg (fun z => c2 z.2)]; rfl
    · rw [if_neg c1, if_neg (fun z => c1 z.1)]; rfl) (by
    rintro q rfl
    exact ⟨_, if_pos (show (9 : Int32) < nI 10 from by decide), rfl⟩) 0 fu (nI 0, nI 0, (J, R)) (Nat.zero_le _) (by omega) rfl
  exact (e_th e1).trans rfl
theorem c_worst {fu k : Nat} {X : Int32} {J : Nat → Nat → Int32} {R : Nat → Nat → Option Nat} {t T : Nat → Nat} (hR : c_R R t) (hT : ∀ v, v < 10 → J (41 + v) k = nI (T v)) (lT : ∀ v, T v ≤ 100) (hk : k < 41) (hf : 1000 < fu) : f_X7_leftAtWorst fu 0 X (nI k) (J, R) = some (nI (q_w (q_bit X) T 10), (J, R)) := by
  obtain ⟨b, e1, rfl⟩ := e_lp (body := fun q => b_X7_leftAtWorst_5 fu 0 X (nI k) q.1 q.2.1 q.2.2) 10
    (fun i q => q = (nI (q_w (q_bit X) T i), nI i, (J, R)))
    (fun b => b = (nI (q_w (q_bit X) T 10), (J, R))) (by
    rintro i q hi rfl
    refine ⟨_, ?_, rfl⟩
    show b_X7_leftAtWorst_5 fu 0 X (nI k) _ (nI i) (J, R) = some (Sum.inl (nI (if q_bit X i = true then max (q_w (q_bit X) T i) (q_sh (q_bit X) T (T i)) else q_w (q_bit X) T i), nI (i + 1), (J, R)))
    have hl := lT i
    have e8 := fun {β : Type} {k : Nat → Option β} => c_ld8v (β := β) (v := i) hR hi (k := k)
    have w1 := q_w_le (b := q_bit X) (T := T) i
    have w2 := q_sh_le (b := q_bit X) (T := T) (x := T i) 10
    have es := c_share (fu := fu) (X := X) (x := T i) hR hT lT hl hk hf
    generalize hs : q_sh (q_bit X) T (T i) = s at *
    have w3 : s ≤ 10 := by rw [← hs]; unfold q_sh; omega
    unfold b_X7_leftAtWorst_5 j_X7_leftAtWorst_42_in5
    rw [if_neg (show ¬ (9 : Int32) < nI i from nI_nlt (a := 9) (by omega) (by omega))]
    simp only [q_if, e8]
    rw [k_ix hk (by omega)]
    simp (disch := omega) only [hT i hi, es, k_bd, nI_ltI, nI_1]
    by_cases c1 : q_bit X i = true
    · rw [if_pos c1, if_pos c1]
      by_cases c2 : q_w (q_bit X) T i < s
      · rw [if_pos c2, Nat.max_eq_right (by omega)]
      · rw [if_neg c2, Nat.max_eq_left (by omega)]
    · rw [if_neg c1, if_neg c1]) (by
    rintro q rfl
    exact ⟨_, if_pos (show (9 : Int32) < nI 10 from by decide), rfl⟩) 0 fu (nI 0, nI 0, (J, R)) (Nat.zero_le _) (by omega) rfl
  exact (e_th e1).trans rfl
theorem m_worst {fu k : Nat} {X : Int32} {J : Nat → Nat → Int32} {R : Nat → Nat → Option Nat} {T : Nat → Nat} (hM : m_R R) (hT : ∀ v, v < 10 → J 8 (41 * v + k) = nI (T v)) (lT : ∀ v, T v ≤ 100) (hk : k < 41) (hf : 1000 < fu) : f_X8_worstAt fu 0 X (nI k) (J, R) = some (nI (q_w (q_bit X) T 10), (J, R)) := by
  obtain ⟨b, e1, rfl⟩ := e_lp (body := fun q => b_X8_worstAt_5 fu 0 X (nI k) q.1 q.2.1 q.2.2) 10
    (fun i q => q = (nI (q_w (q_bit X) T i), nI i, (J, R)))
    (fun b => b = (nI (q_w (q_bit X) T 10), (J, R))) (by
    rintro i q hi rfl
    refine ⟨_, ?_, rfl⟩
    show b_X8_worstAt_5 fu 0 X (nI k) _ (nI i) (J, R) = some (Sum.inl (nI (if q_bit X i = true then max (q_w (q_bit X) T i) (q_sh (q_bit X) T (T i)) else q_w (q_bit X) T i), nI (i + 1), (J, R)))
    have hl := lT i
    have w1 := q_w_le (b := q_bit X) (T := T) i
    have w2 := q_sh_le (b := q_bit X) (T := T) (x := T i) 10
    unfold b_X8_worstAt_5 j_X8_worstAt_100_in5
    rw [if_neg (show ¬ (9 : Int32) < nI i from nI_nlt (a := 9) (by omega) (by omega))]
    by_cases c1 : q_bit X i = true
    · obtain ⟨b, e2, rfl⟩ := e_lp (body := fun q => b_X8_worstAt_18 fu 0 X (nI k) (nI (q_w (q_bit X) T i)) (nI i) q.1 q.2.1 q.2.2) 10
        (fun j q => q = (nI (p_sum (fun v => if q_bit X v = true ∧ T v = T i then 1 else 0) j), nI j, (J, R)))
        (fun b => b = (nI (q_sh (q_bit X) T (T i)), (J, R))) (by
        rintro j q hj rfl
        refine ⟨_, ?_, rfl⟩
        show b_X8_worstAt_18 fu 0 X (nI k) _ (nI i) _ (nI j) (J, R) = some (Sum.inl (nI (p_sum (fun v => if q_bit X v = true ∧ T v = T i then 1 else 0) j + if q_bit X j = true ∧ T j = T i then 1 else 0), nI (j + 1), (J, R)))
        have hl2 := lT j
        unfold b_X8_worstAt_18 j_X8_worstAt_78_in18 j_X8_worstAt_79_in18
        rw [if_neg (show ¬ (9 : Int32) < nI j from nI_nlt (a := 9) (by omega) (by omega))]
        simp (disch := omega) only [q_if, m_ld21 hM, l_41, pk_mul, nI_add, k_ix, hT i hi, hT j hj, nI_eq, nI_1, l_0]
        rw [if_pos c1]
        by_cases c2 : q_bit X j = true
        · rw [if_pos c2]
          by_cases c3 : T i = T j
          · rw [if_pos c3, if_pos ⟨c2, c3.symm⟩]
          · rw [if_neg c3, if_neg (fun z => c3 z.2.symm)]
        · rw [if_neg c2, if_neg (fun z => c2 z.1)]) (by
        rintro q rfl
        exact ⟨_, if_pos (show (9 : Int32) < nI 10 from by decide), rfl⟩) 0 fu (nI 0, nI 0, (J, R)) (Nat.zero_le _) (by omega) rfl
      have w3 : q_sh (q_bit X) T (T i) ≤ 10 := by unfold q_sh; omega
      refine (e_th e2).trans ?_
      dsimp only
      rw [if_pos c1]
      simp (disch := omega) only [nI_leI, nI_1]
      by_cases c2 : q_sh (q_bit X) T (T i) ≤ q_w (q_bit X) T i
      · rw [if_pos c2, Nat.max_eq_left c2]
      · rw [if_neg c2, Nat.max_eq_right (by omega)]
    · obtain ⟨b, e2, rfl⟩ := e_lp (body := fun q => b_X8_worstAt_18 fu 0 X (nI k) (nI (q_w (q_bit X) T i)) (nI i) q.1 q.2.1 q.2.2) 0
        (fun j q => q = (nI 0, nI j, (J, R))) (fun b => b = (nI 0, (J, R))) (fun j q hj => absurd hj (Nat.not_lt_zero _)) (by
        rintro q rfl
        refine ⟨_, ?_, rfl⟩
        show b_X8_worstAt_18 fu 0 X (nI k) _ (nI i) (nI 0) (nI 0) (J, R) = _
        unfold b_X8_worstAt_18
        rw [if_neg (show ¬ (9 : Int32) < nI 0 by decide)]
        simp only [q_if]
        rw [if_neg c1]) 0 fu (nI 0, nI 0, (J, R)) (Nat.zero_le _) (by omega) rfl
      refine (e_th e2).trans ?_
      dsimp only
      rw [if_neg c1]
      simp (disch := omega) only [nI_leI, nI_1]
      rw [if_pos (Nat.zero_le _)]) (by
    rintro q rfl
    exact ⟨_, if_pos (show (9 : Int32) < nI 10 from by decide), rfl⟩) 0 fu (nI 0, nI 0, (J, R)) (Nat.zero_le _) (by omega) rfl
  exact (e_th e1).trans rfl
/-- the fewest that are left, and the tick -/
def q_f (W : Nat → Nat) (c : Int32) : Nat → Int32 × Int32
  | 0 => (c, -4)
  | k + 1 => if (q_f W c k).1 ≤ nI (W k) then q_f W c k else (nI (W k), nI k)
theorem c_rows {fu d : Nat} {X y : Int32} {I : Nat → Nat → Int32} {R : Nat → Nat → Option Nat} {t P : Nat → Nat} (hR : c_R R t) (hr : h_rep I 1 (fun d => 4 + d) P) (hp : p_ok 999 P) (hd : d < P 16) (hf : 1000 < fu) : ∃ J, g_lp (fun t => b_X7_ask_27 fu 0 (nI d) y X t.1 t.2) fu (nI 0, (I, R)) = some (J, R) ∧ c_fr I J ∧ ∀ v k, v < 10 → k < 41 → J (41 + v) k = nI (p_gl (fun _ => false) p_cm (p_chg P 2 d v) k) := by
  have b16 := hp.1
  obtain ⟨b, e3, J, rfl, hJ, tJ⟩ := e_lp (body := fun q => b_X7_ask_27 fu 0 (nI d) y X q.1 q.2) 10
    (fun i q => ∃ J, q = (nI i, (J, R)) ∧ c_fr I J ∧ ∀ v k, v < i → k < 41 → J (41 + v) k = nI (p_gl (fun _ => false) p_cm (p_chg P 2 d v) k))
    (fun b => ∃ J, b = (J, R) ∧ c_fr I J ∧ ∀ v k, v < 10 → k < 41 → J (41 + v) k = nI (p_gl (fun _ => false) p_cm (p_chg P 2 d v) k)) (by
    rintro i q hi ⟨J, rfl, kJ, tJ⟩
    have hm : p_may P 2 d i := by unfold p_may; omega
    have hok := p_ok_chg hp (show d < 4 by omega) hm
    obtain ⟨J1, e1, a1, k1⟩ := c_tryw (fu := fu) p_cm hR (h_rep_cfr hr hp kJ) hp hd hm hf
    obtain ⟨J2, e2, t2, k2⟩ := c_row (fu := fu) (a := 41 + i) hR a1 hok (by omega) hf
    have kf : c_fr J J2 := fun a ha => by rw [k2 a (by omega) (by omega), k1 a (by omega)]
    refine ⟨(nI (i + 1), (J2, R)), ?_, J2, rfl, c_fr_trans kJ kf, fun v k hv hk => ?_⟩
    · show b_X7_ask_27 fu 0 (nI d) y X (nI i) (J, R) = _
      have e8 := fun {β : Type} {k : Nat → Option β} => c_ld8v (β := β) (v := i) hR hi (k := k)
      unfold b_X7_ask_27
      rw [if_neg (show ¬ (9 : Int32) < nI i from nI_nlt (a := 9) (by omega) (by omega))]
      refine (e1 _).trans ?_
      simp only [e8, e2, k_bd, nI_1]
    · rcases Nat.lt_or_ge v i with z | z
      · rw [k2 _ (by omega) (by omega), k1 _ (by omega)]; exact tJ v k z hk
      · rw [show v = i by omega]; exact t2 k hk) (by
    rintro q ⟨J, rfl, h⟩
    exact ⟨_, if_pos (show (9 : Int32) < nI 10 from by decide), J, rfl, h⟩) 0 fu (nI 0, (I, R)) (Nat.zero_le _) (by omega) ⟨I, rfl, fun _ _ => rfl, fun v k hv => absurd hv (Nat.not_lt_zero _)⟩
  exact ⟨J, e3, hJ, tJ⟩
theorem o_ask {fu : Nat} {I Im : Nat → Nat → Int32} {R Rm : Nat → Nat → Option Nat} {t P Q0 Q1 : Nat → Nat} (h : r_all I R Im Rm t P Q0 Q1) (hf : 1000 < fu) (x y : Int32) : ∃ r Sc1 Sm1, f_X7_ask fu 0 x y (I, R) = some (r, Sc1) ∧ f_X8_ask fu 0 x y (Im, Rm) = some (r, Sm1) ∧ r_Rel Sc1 Sm1 := by
  obtain ⟨hR, hM, ⟨hr, hg, hp, ho⟩, -, -, hse, -, -, -, h13, -⟩ := id h
  have b16 := hp.1
  unfold f_X7_ask f_X8_ask
  rcases a_cases x (n := P 16) (by omega) with hx | ⟨d, hd, rfl⟩
  · exact ⟨-1, (I, R), (Im, Rm), by rw [c_isDoor0 hR hr b16 hx, k_bd, if_pos rfl], by rw [m_isDoor0 hM hg b16 hx, k_bd, if_pos rfl], r_same h⟩
  rw [c_isDoor1 hR hr b16 hd, m_isDoor1 hM hg b16 hd, k_bd, k_bd, if_neg (show ¬ (1 : Int32) = 0 by decide), if_neg (show ¬ (1 : Int32) = 0 by decide)]
  rcases a_cases y (n := 2) (by omega) with hy | ⟨j, hj, rfl⟩
  · exact ⟨-1, (I, R), (Im, Rm), by rw [c_isChoice0 hy, k_bd, if_pos rfl], by rw [m_in0 (c := 1) (n := 1) hy rfl (by omega), k_bd, if_pos rfl], r_same h⟩
  rw [c_isChoice1 hj, m_in1 (c := 1) (n := 1) (by omega) rfl (by omega), k_bd, k_bd, if_neg (show ¬ (1 : Int32) = 0 by decide), if_neg (show ¬ (1 : Int32) = 0 by decide)]
  obtain ⟨s, sn, sv, cs, ms⟩ := r_sn hse
  obtain ⟨J, e1, kJ⟩ := c_fitting (fu := fu) (w := 2) (lo := 0) (N := 10) hR hr hp cs hd (Or.inr (Or.inr ⟨rfl, rfl, rfl⟩)) hf
  obtain ⟨Jm, e2, kM, tM⟩ := m_rates (fu := fu) (d := d) hM hg h13 hp ms (by omega) hf
  obtain ⟨m, hm, em⟩ := q_bt (ag := p_ag P sn sv s 2 d) 10 (by omega)
  rw [em] at e1 e2
  obtain ⟨J2, e3, kJ2, tC⟩ := c_rows (fu := fu) (X := nI m) (y := nI j) hR (h_rep_cfr hr hp kJ) hp hd hf
  have e1' : f_X7_fitting fu 0 (nI d) 2 (I, R) = _ := e1
  have lT : ∀ k v, v < 10 → p_gl (fun _ => false) p_cm (p_chg P 2 d v) k ≤ 100 := fun k v hv => p_gl_le (p_ok_chg hp (show d < 4 by omega) (by unfold p_may; omega)) p_few_cm k
  -- the tables, cut off behind the tenth row
  have hT : ∃ T : Nat → Nat → Nat, (∀ k v, T k v ≤ 100) ∧ ∀ k v, v < 10 → p_gl (fun _ => false) p_cm (p_chg P 2 d v) k = T k v := ⟨fun k v => if v < 10 then p_gl (fun _ => false) p_cm (p_chg P 2 d v) k else 0, fun k v => by
    dsimp only
    by_cases c : v < 10
    · rw [if_pos c]; exact lT k v c
    · rw [if_neg c]; omega, fun k v hv => (if_pos hv).symm⟩
  obtain ⟨T, lT', eT⟩ := hT
  obtain ⟨bc, ec, rfl⟩ := e_lp (body := fun q => b_X7_ask_83 fu 0 (nI j) (nI m) q.1 q.2.1 q.2.2.1 q.2.2.2) 41
    (fun i q => q = ((q_f (fun k => q_w (q_bit (nI m)) (T k) 10) (q_bc (nI m) 10) i).1, (q_f (fun k => q_w (q_bit (nI m)) (T k) 10) (q_bc (nI m) 10) i).2, nI i, (J2, R)))
    (fun b => b = ((q_f (fun k => q_w (q_bit (nI m)) (T k) 10) (q_bc (nI m) 10) 41).1, (q_f (fun k => q_w (q_bit (nI m)) (T k) 10) (q_bc (nI m) 10) 41).2, (J2, R))) (by
    rintro i q hi rfl
    refine ⟨_, ?_, rfl⟩
    show b_X7_ask_83 fu 0 (nI j) (nI m) _ _ (nI i) (J2, R) = _
    have ew := c_worst (fu := fu) (X := nI m) (J := J2) (T := T i) hR (fun v hv => by rw [tC v i hv hi, eT i v hv]) (lT' i) hi hf
    have eq : q_f (fun k => q_w (q_bit (nI m)) (T k) 10) (q_bc (nI m) 10) (i + 1) = if (q_f (fun k => q_w (q_bit (nI m)) (T k) 10) (q_bc (nI m) 10) i).1 ≤ nI (q_w (q_bit (nI m)) (T i) 10) then q_f (fun k => q_w (q_bit (nI m)) (T k) 10) (q_bc (nI m) 10) i else (nI (q_w (q_bit (nI m)) (T i) 10), nI i) := rfl
    rw [eq]
    unfold b_X7_ask_83 j_X7_ask_114_in83
    rw [if_neg (show ¬ (40 : Int32) < nI i from nI_nlt (a := 40) (by omega) (by omega)), ew, k_bd, nI_1]
    by_cases c : (q_f (fun k => q_w (q_bit (nI m)) (T k) 10) (q_bc (nI m) 10) i).1 ≤ nI (q_w (q_bit (nI m)) (T i) 10)
    · rw [if_pos c, if_pos c]
    · rw [if_neg c, if_neg c]) (by
    rintro q rfl
    exact ⟨_, if_pos (show (40 : Int32) < nI 41 from by decide), rfl⟩) 0 fu (q_bc (nI m) 10, -4, nI 0, (J2, R)) (Nat.zero_le _) (by omega) rfl
  obtain ⟨bb, eb, rfl⟩ := e_lp (body := fun q => b_X8_ask_32 fu 0 (nI j) (nI m) q.1 q.2.1 q.2.2) 10
    (fun i q => q = (q_bc (nI m) i, nI i, (Jm, Rm))) (fun b => b = (q_bc (nI m) 10, (Jm, Rm))) (by
    rintro i q hi rfl
    refine ⟨_, ?_, rfl⟩
    show b_X8_ask_32 fu 0 (nI j) (nI m) _ (nI i) (Jm, Rm) = _
    unfold b_X8_ask_32
    rw [if_neg (show ¬ (9 : Int32) < nI i from nI_nlt (a := 9) (by omega) (by omega)), nI_1]
    rfl) (by
    rintro q rfl
    exact ⟨_, if_pos (show (9 : Int32) < nI 10 from by decide), rfl⟩) 0 fu (nI 0, nI 0, (Jm, Rm)) (Nat.zero_le _) (by omega) rfl
  obtain ⟨bm, ea, rfl⟩ := e_lp (body := fun q => b_X8_ask_63 fu 0 (nI j) (nI m) q.1 q.2.1 q.2.2.1 q.2.2.2) 41
    (fun i q => q = ((q_f (fun k => q_w (q_bit (nI m)) (T k) 10) (q_bc (nI m) 10) i).1, (q_f (fun k => q_w (q_bit (nI m)) (T k) 10) (q_bc (nI m) 10) i).2, nI i, (Jm, Rm)))
    (fun b => b = ((q_f (fun k => q_w (q_bit (nI m)) (T k) 10) (q_bc (nI m) 10) 41).1, (q_f (fun k => q_w (q_bit (nI m)) (T k) 10) (q_bc (nI m) 10) 41).2, (Jm, Rm))) (by
    rintro i q hi rfl
    refine ⟨_, ?_, rfl⟩
    show b_X8_ask_63 fu 0 (nI j) (nI m) _ _ (nI i) (Jm, Rm) = _
    have ew := m_worst (fu := fu) (X := nI m) (J := Jm) (T := T i) hM (fun v hv => by rw [tM v i hv hi, eT i v hv]) (lT' i) hi hf
    have eq : q_f (fun k => q_w (q_bit (nI m)) (T k) 10) (q_bc (nI m) 10) (i + 1) = if (q_f (fun k => q_w (q_bit (nI m)) (T k) 10) (q_bc (nI m) 10) i).1 ≤ nI (q_w (q_bit (nI m)) (T i) 10) then q_f (fun k => q_w (q_bit (nI m)) (T k) 10) (q_bc (nI m) 10) i else (nI (q_w (q_bit (nI m)) (T i) 10), nI i) := rfl
    rw [eq]
    unfold b_X8_ask_63 j_X8_ask_93_in63 j_X8_ask_109_in63
    rw [if_neg (show ¬ (40 : Int32) < nI i from nI_nlt (a := 40) (by omega) (by omega)), ew, k_bd, nI_1]
    by_cases c : (q_f (fun k => q_w (q_bit (nI m)) (T k) 10) (q_bc (nI m) 10) i).1 ≤ nI (q_w (q_bit (nI m)) (T i) 10)
    · rw [if_pos c, if_pos c, if_pos c]
    · rw [if_neg c, if_neg c, if_neg c]) (by
    rintro q rfl
    exact ⟨_, if_pos (show (40 : Int32) < nI 41 from by decide), rfl⟩) 0 fu (q_bc (nI m) 10, -4, nI 0, (Jm, Rm)) (Nat.zero_le _) (by omega) rfl
  have hrel := r_frame h hR (c_fr_trans kJ kJ2) kM
  generalize q_f (fun k => q_w (q_bit (nI m)) (T k) 10) (q_bc (nI m) 10) 41 = F at ec ea
  refine ⟨if F.2 = -4 then F.2 else if nI j = 0 then F.2 else F.1, (J2, R), (Jm, Rm), ?_, ?_, hrel⟩
  · rw [e1', k_bd]
    refine (e_th e3).trans ?_
    dsimp only
    rw [q_cnt hm, k_bd]
    refine (e_th ec).trans ?_
    unfold j_X7_ask_131
    dsimp only
    rw [k_push, k_push]
  · rw [e2, k_bd]
    refine (e_th eb).trans ?_
    dsimp only
    refine (e_th ea).trans ?_
    unfold j_X8_ask_128
    dsimp only
    rw [k_push, k_push]
