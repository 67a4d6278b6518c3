/-! ===== all lines of the text ===== -/
theorem t_lines {fu L : Nat} {b : Nat → Nat} {I Im : Nat → Nat → Int32} {R Rm : Nat → Nat → Option Nat} {t : Nat → Nat} (hR : c_R R t) (hM : m_R Rm) (hL : L ≤ 160) (hw : t_wd Im) (hc : cS b L I 0) (hm : mS b L Im 0) (hr : h_rep I 16 t (fun _ => 0)) (h2 : m_p2 Im (fun _ => 0)) (hf : 1000 < fu) : ∃ x y, g_lp (fun t => b_X6_tellAll_24 fu 35 t.1 t.2.1 t.2.2) fu (nI 0, nI 0, (I, R)) = some x ∧ g_lp (fun t => b_X8_text_37 fu 0 t.1 t.2) fu (nI 0, (Im, Rm)) = some y ∧ ((∃ n Pd J Jm, x = (nI n, (J, R)) ∧ y = (nI n, (Jm, Rm)) ∧ J 35 2 = nI 0 ∧ Jm 0 5 = nI 0 ∧ h_rep J 16 t Pd ∧ p_ok 999 Pd ∧ m_p2 Jm Pd ∧ t_cg I J ∧ t_mg Im Jm) ∨ (∃ u w c s J Jm, x = (u, (J, R)) ∧ y = (w, (Jm, Rm)) ∧ 1 ≤ c ∧ c ≤ 5 ∧ cF J c s ∧ mF Jm c s ∧ t_cg I J ∧ t_mg Im Jm)) := by
  refine e_lp2 (bA := fun t => b_X6_tellAll_24 fu 35 t.1 t.2.1 t.2.2) (bB := fun t => b_X8_text_37 fu 0 t.1 t.2) 161
    (fun i x y => ∃ p Pd J Jm, x = (nI i, nI i, (J, R)) ∧ y = (nI i, (Jm, Rm)) ∧ i ≤ p ∧ p ≤ L ∧ cS b L J p ∧ mS b L Jm p ∧ h_rep J 16 t Pd ∧ p_ok 999 Pd ∧ m_p2 Jm Pd ∧ t_cg I J ∧ t_mg Im Jm) _ ?_ ?_ fu 0 _ _ (Nat.zero_le _) (by omega) ⟨0, fun _ => 0, I, Im, rfl, rfl, Nat.le_refl _, Nat.zero_le _, hc, hm, hr, p_ok_0, h2, fun _ _ _ _ => rfl, fun _ _ _ => rfl, fun _ _ => rfl⟩
  · rintro i x y hi ⟨p, Pd, J, Jm, rfl, rfl, q1, q2, cJ, mJ, rJ, pJ, gJ, fJ, fM⟩
    obtain ⟨hmt, κ, s, e, v, hq, hl4⟩ := id mJ
    obtain ⟨w1, w2, w3, w4⟩ := q_tok_le hq
    obtain ⟨J1, e1, f1, g1, k1, v1⟩ := c_adv (fu := fu) hR cJ.1 cJ.2.1 hq hf
    have c35 : J1 35 2 = nI 0 := by rw [f1.1 35 (by decide)]; exact cJ.2.2
    have fJ1 : t_cg I J1 := t_cg_trans fJ (t_cg_cf (t_cf_ft f1))
    have head : b_X6_tellAll_24 fu 35 (nI i) (nI i) (J, R) = if κ = 0 then some (.inr (nI i, (J1, R))) else (g_bd (f_X6_tellLine fu 35 (nI κ) (J1, R)) fun r6 Sr6 => if r6 = 0 then (some (.inr (nI i, Sr6))) else (some (.inl (nI (i + 1), nI (i + 1), Sr6)))) := by
      unfold b_X6_tellAll_24
      rw [if_neg (show ¬ (160 : Int32) < nI i from nI_nlt (a := 160) (by omega) (by omega)), c_ld50 hR, e1, k_bd]
      simp only [nI_1]
      by_cases c : κ = 0
      · subst c
        rw [if_pos (show nI 0 = (0 : Int32) from rfl), if_pos rfl]
      · rw [if_neg (nI_ne0 (by omega) (by omega)), if_neg c]
    have bad : ∀ c, κ ≠ 0 → f_X6_expect fu 35 (nI κ) 1 (J1, R) = some (0, (g_u J1 35 2 (nI c), R)) → b_X6_tellAll_24 fu 35 (nI i) (nI i) (J, R) = some (.inr (nI i, (g_u J1 35 2 (nI c), R))) := fun c k0 he => by
      rw [head, if_neg k0]
      unfold f_X6_tellLine
      rw [he, k_bd, if_pos (show (0 : Int32) = 0 from rfl), e_zb0, k_bd, if_pos (show (0 : Int32) = 0 from rfl)]
    obtain ⟨x1, x2, x3⟩ := c_expect (fu := fu) (due := 1) (J := J1) (R := R) w4 (by omega)
    rcases hl4 with ⟨rfl, m5, m6⟩ | ⟨hk4, m5, m9, m8, m7, m10⟩
    · refine Or.inr ⟨_, (nI i, (Jm, Rm)), bad 1 (by omega) (x2 rfl), Or.inl ?_, Or.inr ⟨nI i, nI i, 1, s, g_u J1 35 2 (nI 1), Jm, rfl, rfl, by omega, by omega, cF_u k1, ⟨m5, m6⟩, t_cg_trans fJ1 (t_cg_cf t_cf_u), fM⟩⟩
      show b_X8_text_37 fu 0 (nI i) (Jm, Rm) = _
      unfold b_X8_text_37
      show (if Jm 0 5 = 0 then _ else _) = _
      rw [m5, if_neg (show ¬ nI 1 = (0 : Int32) by decide)]
    · have mhead : b_X8_text_37 fu 0 (nI i) (Jm, Rm) = if κ = 0 then some (.inr (nI i, (Jm, Rm))) else (g_bd (f_X8_readLine fu 0 (Jm, Rm)) fun _ Sr4 => some (.inl (nI (i + 1), Sr4))) := by
        unfold b_X8_text_37
        show (if Jm 0 5 = 0 then (if Jm 0 9 = 0 then _ else _) else _) = _
        rw [m5, m9, if_pos (show nI 0 = (0 : Int32) from rfl), nI_1]
        by_cases c : κ = 0
        · subst c
          rw [if_pos (show nI 0 = (0 : Int32) from rfl), if_pos rfl]
        · rw [if_neg (nI_ne0 (by omega) (by omega)), if_neg c]
      have brk : ∀ (u : Int32) (K : Nat → Nat → Int32) (c : Nat), 1 ≤ c → c ≤ 5 → K 0 5 = nI c → b_X8_text_37 fu 0 u (K, Rm) = some (.inr (u, (K, Rm))) := fun u K c a1 a2 hK => by
        unfold b_X8_text_37
        show (if K 0 5 = 0 then _ else _) = _
        rw [hK, if_neg (nI_ne0 (by omega) (by omega))]
      by_cases c0 : κ = 0
      · rw [if_pos c0] at head mhead
        exact Or.inr ⟨_, _, head, Or.inl mhead, Or.inl ⟨i, Pd, J1, Jm, rfl, rfl, c35, m5, h_rep_cf hR rJ pJ (t_cf_ft f1), pJ, gJ, fJ1, fM⟩⟩
      rw [if_neg c0] at head mhead
      by_cases c1 : κ = 1
      · subst c1
        have hwd : t_wd Jm := ⟨by rw [fM.1 4 (by decide) (by decide)]; exact hw.1, by rw [fM.1 5 (by decide) (by decide)]; exact hw.2⟩
        rcases t_line (fu := fu) hR hM ⟨t_c_ft cJ.1 f1, g1, c35⟩ k1 hmt m5 m9 m8 m7 w1 w2 hwd (h_rep_cf hR rJ pJ (t_cf_ft f1)) pJ gJ hf with ⟨p', Pd', J', Jm', a1, a2, a3, a4, a5, a6, a7, a8, a9, a10, a11⟩ | ⟨c, s', J', Jm', a1, a2, a3, a4, a5, a6, a7, a8⟩
        · have w3' := w3 c0
          rw [a3, k_bd, if_neg (show ¬ (1 : Int32) = 0 by decide)] at head
          rw [a7, k_bd] at mhead
          exact Or.inl ⟨_, _, head, mhead, p', Pd', J', Jm', rfl, rfl, by omega, a2, a4, a8, a5, a6, a9, t_cg_trans fJ1 a10, t_mg_trans fM a11⟩
        · rw [a3, k_bd, if_pos (show (0 : Int32) = 0 from rfl)] at head
          rw [a5, k_bd] at mhead
          exact Or.inr ⟨_, _, head, Or.inr ⟨_, mhead, brk _ _ c a1 a2 a6.1⟩, Or.inr ⟨_, _, c, s', J', Jm', rfl, rfl, a1, a2, a4, a6, t_cg_trans fJ1 a7, t_mg_trans fM a8⟩⟩
      · -- no name
        obtain ⟨y5, y6, yf⟩ := m_fl (c := 2) (J := Jm)
        have ef2 : f_X8_fails fu 0 2 (Jm, Rm) = some ((), (g_u (g_u Jm 0 5 (nI 2)) 0 6 (Jm 0 8), Rm)) := m_fails (fu := fu) (c := 2) (R := Rm) m5
        have enh : f_X8_nameHere fu 0 (Jm, Rm) = some (-4, (Jm, Rm)) := by
          obtain ⟨r, er, rfl⟩ := e_lp (body := fun t => b_X8_nameHere_2 fu 0 t.1 t.2) 0 (fun _ q => q = (nI 0, (Jm, Rm))) (fun r => r = .inl (Jm, Rm)) (fun i q hi => absurd hi (Nat.not_lt_zero _)) (by
            rintro q rfl
            refine ⟨_, ?_, rfl⟩
            show b_X8_nameHere_2 fu 0 (nI 0) (Jm, Rm) = _
            unfold b_X8_nameHere_2
            rw [if_neg (show ¬ (5 : Int32) ≤ nI 0 by decide)]
            show (if Jm 0 9 = 1 then _ else _) = _
            rw [m9, if_neg (show ¬ nI κ = (1 : Int32) from fun z => c1 ((nI_eq (b := 1) (by omega) (by omega)).mp z))]) 0 fu (nI 0, (Jm, Rm)) (Nat.zero_le _) (by omega) rfl
          exact (e_th er).trans rfl
        have ein : f_X8_in fu (Int32.toInt64 (-4)) 0 4 (Jm, Rm) = some (0, (Jm, Rm)) := by
          rw [m_in, if_neg (by decide)]
        have erl : f_X8_readLine fu 0 (Jm, Rm) = some ((), (g_u (g_u Jm 0 5 (nI 2)) 0 6 (Jm 0 8), Rm)) := by
          unfold f_X8_readLine
          rw [enh, k_bd, ein, k_bd, if_pos (show (0 : Int32) = 0 from rfl), ef2, k_bd]
        rw [erl, k_bd] at mhead
        exact Or.inr ⟨_, _, bad 2 c0 (x3 hk4 c1), Or.inr ⟨_, mhead, brk _ _ 2 (by omega) (by omega) y5⟩, Or.inr ⟨_, _, 2, s, _, _, rfl, rfl, by omega, by omega, cF_u k1, ⟨y5, y6.trans m8⟩, t_cg_trans fJ1 (t_cg_cf t_cf_u), t_mg_trans fM (t_mg_ft yf)⟩⟩
  · rintro x y ⟨p, Pd, J, Jm, -, -, q1, q2, -⟩
    omega
theorem t_nar : vp_nar .boolean (0 : Int32) = 0 := by decide
theorem o_text {fu : Nat} {I Im : Nat → Nat → Int32} {R Rm : Nat → Nat → Option Nat} {t P Q0 Q1 : Nat → Nat} (h : r_all I R Im Rm t P Q0 Q1) (hf : 1000 < fu) : ∃ r Sc1 Sm1, f_X7_text fu 0 (I, R) = some (r, Sc1) ∧ f_X8_text fu 0 (Im, Rm) = some (r, Sm1) ∧ r_Rel Sc1 Sm1 := by
  obtain ⟨hR, hM, x3, x4, ⟨L, hL, tc, tm, tb⟩, x6, x7, ⟨-, z2, z3, z4, z5⟩⟩ := id h
  -- the bytes
  have hb : ∃ b : Nat → Nat, ∀ i, i < L → b i ≤ 127 ∧ I 34 i = nI (b i) ∧ Im 3 i = nI (b i) := ⟨fun i => (I 34 i).toNatClampNeg, fun i hi => by
    obtain ⟨c, c1, c2, c3⟩ := tb i hi
    dsimp only
    rw [c2, nI_clamp (by omega)]
    exact ⟨c1, rfl, c3⟩⟩
  obtain ⟨b, hb⟩ := hb
  -- the class begins
  have hI0 : ∃ I0, f_X2_clear fu 16 (I, R) = some ((), (I0, R)) ∧ h_rep I0 16 t (fun _ => 0) ∧ ∀ a, a ≠ 16 → I0 a = I a := by
    refine ⟨g_u (g_u (g_u (g_u (g_u I 16 2 0) 16 3 0) 16 4 0) 16 5 0) 16 6 0, rfl, ⟨?_, ?_, ?_, ?_, ?_, fun d hd => absurd hd (Nat.not_lt_zero _), fun i hi => absurd hi (Nat.not_lt_zero _)⟩, fun a ha => by rw [g_u_ne ha, g_u_ne ha, g_u_ne ha, g_u_ne ha, g_u_ne ha]⟩
    · rw [u_nk (by decide), u_nk (by decide), u_nk (by decide), u_nk (by decide), u_at]; rfl
    · rw [u_nk (by decide), u_nk (by decide), u_nk (by decide), u_at]; rfl
    · rw [u_nk (by decide), u_nk (by decide), u_at]; rfl
    · rw [u_nk (by decide), u_at]; rfl
    · rw [u_at]; rfl
  obtain ⟨I0, ec0, rc0, kc0⟩ := hI0
  have kc1 : ∀ a, a ≠ 16 → a ≠ 33 → a ≠ 35 → (g_u (g_u I0 35 2 0) 33 2 0) a = I a := fun a x y z => by rw [g_u_ne y, g_u_ne z, kc0 a x]
  have hc1 : cS b L (g_u (g_u I0 35 2 0) 33 2 0) 0 := by
    refine ⟨⟨hL, ?_, fun i hi => ⟨(hb i hi).1, ?_⟩⟩, u_at, ?_⟩
    · rw [u_nk (by decide), g_u_ne (by decide), kc0 33 (by decide)]; exact tc
    · rw [kc1 34 (by decide) (by decide) (by decide)]; exact (hb i hi).2.1
    · rw [u_ni (by decide), u_at]; rfl
  have rc1 : h_rep (g_u (g_u I0 35 2 0) 33 2 0) 16 t (fun _ => 0) := h_rep_cf hR rc0 p_ok_0 (fun a x y => by rw [g_u_ne x, g_u_ne y])
  -- the reference begins
  obtain ⟨r0, e0, J0, rfl, k0, k02⟩ := e_lp (body := fun t => b_X8_text_14 fu 0 ((0 : Int32)) t.1 t.2) 45
    (fun i q => ∃ J, q = (nI i, (J, Rm)) ∧ (∀ a, a ≠ 2 → J a = (g_u (g_u Im 0 5 0) 0 7 0) a) ∧ ∀ k, k < i → J 2 k = nI 0)
    (fun r => ∃ J, r = (J, Rm) ∧ (∀ a, a ≠ 2 → J a = (g_u (g_u Im 0 5 0) 0 7 0) a) ∧ ∀ k, k < 45 → J 2 k = nI 0) (by
    rintro i q hi ⟨J, rfl, k1, k2⟩
    refine ⟨(nI (i + 1), (g_u J 2 i (nI 0), Rm)), ?_, _, rfl, fun a ha => by rw [g_u_ne ha]; exact k1 a ha, fun k hk => ?_⟩
    · show b_X8_text_14 fu 0 0 (nI i) (J, Rm) = _
      unfold b_X8_text_14
      rw [if_neg (show ¬ (45 : Int32) ≤ nI i from nI_ge (b := 45) hi (by omega)), m_ld1 hM, k_ix hi (by omega), nI_1]
      rfl
    · by_cases c : k = i
      · subst c; exact u_at
      · rw [u_nk c]; exact k2 k (by omega)) (by
    rintro q ⟨J, rfl, k1, k2⟩
    exact ⟨_, if_pos (show (45 : Int32) ≤ nI 45 by decide), J, rfl, k1, k2⟩) 0 fu (nI 0, (g_u (g_u Im 0 5 0) 0 7 0, Rm)) (Nat.zero_le _) (by omega) ⟨_, rfl, fun _ _ => rfl, fun k hk => absurd hk (Nat.not_lt_zero _)⟩
  have j0 : ∀ k, k ≠ 5 → k ≠ 7 → J0 0 k = Im 0 k := fun k q5 q7 => by rw [k0 0 (by decide), u_nk q7, u_nk q5]
  have ht0 : t_m b L J0 := ⟨hL, by rw [j0 3 (by decide) (by decide)]; exact tm, fun i hi => ⟨(hb i hi).1, by rw [k0 3 (by decide), g_u_ne (by decide), g_u_ne (by decide)]; exact (hb i hi).2.2⟩⟩
  obtain ⟨κ, s, e, v, hq⟩ := q_tok_ex (b := b) (L := L) (p := 0) (Nat.zero_le _)
  obtain ⟨J1, e1, f1, l1⟩ := m_step (fu := fu) hM ht0 (by rw [k0 0 (by decide), u_nk (by decide), u_at]; rfl) (by rw [k0 0 (by decide), u_at]; rfl) hq hf
  have g01 : ∀ a, a ≠ 0 → a ≠ 2 → J1 a = Im a := fun a x y => by rw [f1.1 a x, k0 a y, g_u_ne x, g_u_ne x]
  have g02 : ∀ k, k < 5 ∨ 11 ≤ k → J1 0 k = Im 0 k := fun k hk => by rw [f1.2 k hk, j0 k (by omega) (by omega)]
  obtain ⟨x, y, ex, ey, hxy⟩ := t_lines (fu := fu) hR hM hL (Im := J1) ⟨by rw [g01 4 (by decide) (by decide)]; exact z4, by rw [g01 5 (by decide) (by decide)]; exact z5⟩ hc1 ⟨t_m_ft ht0 f1, κ, s, e, v, hq, l1⟩ rc1 (fun k hk => by rw [f1.1 2 (by decide)]; exact k02 k hk) hf
  have ctell : f_X6_tellAll fu 35 (I, R) = some x := by
    unfold f_X6_tellAll
    rw [c_ld51 hR, ec0, k_bd]
    dsimp only
    rw [c_ld50 hR]
    refine (e_th ex).trans ?_
    obtain ⟨x1, x2⟩ := x
    rfl
  have chead : f_X7_text fu 0 (I, R) = g_bd (some x) fun r2 Sr2 => g_ld g_KC 90 g_kX5 (Sr2.2 0 4) fun a3 => g_ld g_KC 90 g_kX6 (Sr2.2 0 5) fun a4 => if ((g_u Sr2.1 a3 1 (0 : Int32)) a4 2) = 0 then (g_ld g_KC 90 g_kX2 (Sr2.2 0 0) fun a5 => g_ld g_KC 90 g_kX2 (Sr2.2 0 1) fun a6 => g_bd (f_X2_become fu a5 a6 (g_u Sr2.1 a3 1 (0 : Int32), Sr2.2)) fun _ Sr7 => g_ld g_KC 90 g_kX3 (Sr7.2 0 6) fun a8 => g_th (g_lp (fun t => b_X7_text_58 fu 0 r2 t.1 t.2) fu ((0 : Int32), (g_u Sr7.1 a8 2 (0 : Int32), Sr7.2))) fun e => some (r2, e)) else (g_ld g_KC 90 g_kX5 (Sr2.2 0 4) fun a11 => some (((-10 : Int32) - ((g_u Sr2.1 a3 1 (0 : Int32)) a11 3)), (g_u Sr2.1 a3 1 (0 : Int32), Sr2.2))) := by
    unfold f_X7_text
    rw [c_ld5 hR, ctell]
  have mhead : ∀ w K, y = (w, (K, Rm)) → f_X8_text fu 0 (Im, Rm) = (if ((g_u (g_u K 0 3 (0 : Int32)) 0 4 ((g_u K 0 3 (0 : Int32)) 0 5)) 0 5) ≤ 0 then (g_th (g_lp (fun t => b_X8_text_91 fu 0 w t.1 t.2) fu ((0 : Int32), (g_u (g_u K 0 3 (0 : Int32)) 0 4 ((g_u K 0 3 (0 : Int32)) 0 5), Rm))) fun S3 => g_ld g_KM 13 (.inr (2, 2, false)) (S3.2 0 22) fun a9 => g_ix (0 : Int32) 2 fun i10 => g_ld g_KM 13 (.inr (2, 2, false)) (S3.2 0 22) fun a11 => g_ix (1 : Int32) 2 fun i12 => some (w, (g_u (g_u (g_u S3.1 0 20 (0 : Int32)) a9 i10 (vp_nar .boolean (0 : Int32))) a11 i12 (vp_nar .boolean (0 : Int32)), S3.2))) else (some (((-10 : Int32) - ((g_u (g_u K 0 3 (0 : Int32)) 0 4 ((g_u K 0 3 (0 : Int32)) 0 5)) 0 6)), (g_u (g_u K 0 3 (0 : Int32)) 0 4 ((g_u K 0 3 (0 : Int32)) 0 5), Rm)))) := by
    rintro w K rfl
    unfold f_X8_text
    refine (e_th e0).trans ?_
    dsimp only
    rw [e1, k_bd]
    exact (e_th ey).trans rfl
  rcases hxy with ⟨n, Pd, J, Jm, rfl, rfl, p35, p05, rJ, pJ, gJ, fJ, fM⟩ | ⟨u, w, c, s', J, Jm, rfl, rfl, c1, c5, fc, fm, fJ, fM⟩
  · -- told without a fault
    have rJ1 : h_rep (g_u J 33 1 0) 16 t Pd := h_rep_cf hR rJ pJ (fun a x _ => g_u_ne x)
    obtain ⟨K2, e2, r2, k2, d2⟩ := c_become (fu := fu) hR.1 hR.2.1 (by omega) rJ1 pJ (by omega)
    obtain ⟨r4, e4, K4, rfl, k4, k40⟩ := e_lp (body := fun t => b_X7_text_58 fu 0 (nI n) t.1 t.2) 2
      (fun i q => ∃ K, q = (nI i, (K, R)) ∧ (∀ a, a ≠ 32 → K a = (g_u K2 36 2 0) a) ∧ ∀ k, k < i → K 32 k = nI 0)
      (fun r => ∃ K, r = (K, R) ∧ (∀ a, a ≠ 32 → K a = (g_u K2 36 2 0) a) ∧ ∀ k, k < 2 → K 32 k = nI 0) (by
      rintro i q hi ⟨K, rfl, q1, q2⟩
      refine ⟨(nI (i + 1), (g_u K 32 i (nI 0), R)), ?_, _, rfl, fun a ha => by rw [g_u_ne ha]; exact q1 a ha, fun k hk => ?_⟩
      · show b_X7_text_58 fu 0 (nI n) (nI i) (K, R) = _
        unfold b_X7_text_58
        rw [if_neg (show ¬ (2 : Int32) ≤ nI i from nI_ge (b := 2) hi (by omega)), c_ld3 hR, k_ix hi (by omega), nI_1, t_nar]
        rfl
      · by_cases c : k = i
        · subst c; exact u_at
        · rw [u_nk c]; exact q2 k (by omega)) (by
      rintro q ⟨K, rfl, q1, q2⟩
      exact ⟨_, if_pos (show (2 : Int32) ≤ nI 2 by decide), K, rfl, q1, q2⟩) 0 fu (nI 0, (g_u K2 36 2 0, R)) (Nat.zero_le _) (by omega) ⟨_, rfl, fun _ _ => rfl, fun k hk => absurd hk (Nat.not_lt_zero _)⟩
    -- the reference's page
    obtain ⟨r5, e5, M5, rfl, m51, m52⟩ := e_lp (body := fun t => b_X8_text_91 fu 0 (nI n) t.1 t.2) 45
      (fun i q => ∃ K, q = (nI i, (K, Rm)) ∧ (∀ a, a ≠ 1 → K a = (g_u (g_u Jm 0 3 0) 0 4 ((g_u Jm 0 3 0) 0 5)) a) ∧ (∀ k, k < i → K 1 k = nI (Pd k)) ∧ ∀ k, i ≤ k → K 1 k = Jm 1 k)
      (fun r => ∃ K, r = (K, Rm) ∧ (∀ a, a ≠ 1 → K a = (g_u (g_u Jm 0 3 0) 0 4 ((g_u Jm 0 3 0) 0 5)) a) ∧ (∀ k, k < 45 → K 1 k = nI (Pd k)) ∧ ∀ k, 45 ≤ k → K 1 k = Jm 1 k) (by
      rintro i q hi ⟨K, rfl, q1, q2, q3⟩
      have e2' : K 2 i = nI (Pd i) := by rw [q1 2 (by decide), g_u_ne (by decide), g_u_ne (by decide)]; exact gJ i hi
      refine ⟨(nI (i + 1), (g_u K 1 i (nI (Pd i)), Rm)), ?_, _, rfl, fun a ha => by rw [g_u_ne ha]; exact q1 a ha, fun k hk => ?_, fun k hk => by rw [u_nk (by omega)]; exact q3 k (by omega)⟩
      · show b_X8_text_91 fu 0 (nI n) (nI i) (K, Rm) = _
        unfold b_X8_text_91
        rw [if_neg (show ¬ (45 : Int32) ≤ nI i from nI_ge (b := 45) hi (by omega))]
        simp (disch := omega) only [m_ld0 hM, m_ld1 hM, k_ix, e2', nI_1]
      · by_cases c : k = i
        · subst c; exact u_at
        · rw [u_nk c]; exact q2 k (by omega)) (by
      rintro q ⟨K, rfl, q1, q2, q3⟩
      exact ⟨_, if_pos (show (45 : Int32) ≤ nI 45 by decide), K, rfl, q1, q2, q3⟩) 0 fu (nI 0, (g_u (g_u Jm 0 3 0) 0 4 ((g_u Jm 0 3 0) 0 5), Rm)) (Nat.zero_le _) (by omega) ⟨_, rfl, fun _ _ => rfl, fun k hk => absurd hk (Nat.not_lt_zero _), fun k _ => by rw [g_u_ne (by decide), g_u_ne (by decide)]⟩
    -- what stands at the end
    have a35 : ∀ a, a ≠ 32 → a ≠ 36 → a < 1 ∨ 16 ≤ a → a ≠ 33 → K4 a = J a := fun a q1 q2 q3 q4 => by rw [k4 a q1, g_u_ne q2, k2 a (by omega), g_u_ne q4]
    have aI : ∀ a, a ≠ 32 → a ≠ 36 → a < 1 ∨ 31 ≤ a → a ≠ 33 → a ≠ 35 → K4 a = I a := fun a q1 q2 q3 q4 q5 => by rw [a35 a q1 q2 (by omega) q4, fJ a (by omega) q4 q5, kc1 a (by omega) q4 q5]
    have mI : ∀ a, a ≠ 0 → a ≠ 1 → a ≠ 2 → M5 a = Im a := fun a q1 q2 q3 => by rw [m51 a q2, g_u_ne q1, g_u_ne q1, fM.1 a q1 q3, g01 a q1 q3]
    have m0 : ∀ k, k ≠ 3 → k ≠ 4 → M5 0 k = Jm 0 k := fun k q1 q2 => by rw [m51 0 (by decide), u_nk q2, u_nk q1]
    have m0I : ∀ k, k ≠ 3 → k ≠ 4 → k < 5 ∨ 11 ≤ k → M5 0 k = Im 0 k := fun k q1 q2 q3 => by rw [m0 k q1 q2, fM.2 k q3, g02 k q3]
    have m1I : ∀ k, 45 ≤ k → M5 1 k = Im 1 k := fun k hk => by rw [m52.2 k hk, fM.1 1 (by decide) (by decide), g01 1 (by decide) (by decide)]
    refine ⟨nI n, (K4, R), (g_u (g_u (g_u M5 0 20 0) 9 0 0) 9 1 0, Rm), ?_, ?_, ?_⟩
    · rw [chead, k_bd]
      dsimp only
      have p35' : (g_u J 33 1 0) 35 2 = 0 := by rw [u_ni (by decide), p35]; rfl
      rw [c_ld4 hR, c_ld5 hR, p35', if_pos (show (0 : Int32) = 0 from rfl), c_ld0 hR, c_ld1 hR, e2, k_bd]
      dsimp only
      rw [c_ld6 hR]
      exact (e_th e4).trans rfl
    · rw [mhead _ _ rfl]
      have p05' : (g_u (g_u Jm 0 3 0) 0 4 ((g_u Jm 0 3 0) 0 5)) 0 5 = 0 := by rw [u_nk (by decide), u_nk (by decide), p05]; rfl
      rw [p05', if_pos (show (0 : Int32) ≤ 0 by decide)]
      have e5' : g_lp (fun t => b_X8_text_91 fu 0 (nI n) t.1 t.2) fu (0, (g_u (g_u Jm 0 3 0) 0 4 0, Rm)) = some (M5, Rm) := by
        have : (g_u Jm 0 3 0) 0 5 = 0 := by rw [u_nk (by decide), p05]; rfl
        rw [this] at e5
        exact e5
      have p05'' : (g_u Jm 0 3 0) 0 5 = 0 := by rw [u_nk (by decide), p05]; rfl
      rw [p05'']
      refine (e_th e5').trans ?_
      dsimp only
      have j1 : ∀ {β : Type} {k : Nat → Option β}, g_ix (0 : Int32) 2 k = k 0 := fun {β k} => k_ix (m := 0) (by omega) (by omega)
      have j2 : ∀ {β : Type} {k : Nat → Option β}, g_ix (1 : Int32) 2 k = k 1 := fun {β k} => k_ix (m := 1) (by omega) (by omega)
      rw [m_ld22 hM, j1, m_ld22 hM, j2, t_nar]
    · obtain ⟨⟨i1, i2, i3⟩, ⟨i4, i5, i6⟩, -⟩ := x4
      obtain ⟨-, -, -, ho⟩ := x3
      have b0 := i3.1
      have b1 := i3.2.1
      have b2 := i6.1
      have b3 := i6.2.1
      have bp := pJ.1
      have bq := pJ.2.1
      refine r_same (t := t) (P := Pd) (Q0 := Q0) (Q1 := Q1) ⟨hR, hM, ⟨h_rep_fr r2 ?_ (fun d hd => ?_) (fun i hi => ?_), fun k hk => ?_, pJ, fun d hd => ?_⟩, ⟨⟨h_rep_fr i1 (aI _ (by omega) (by omega) (by omega) (by omega) (by omega)) (fun d hd => aI _ (by omega) (by omega) (by omega) (by omega) (by omega)) (fun i hi => aI _ (by omega) (by omega) (by omega) (by omega) (by omega)), fun k hk => ?_, i3⟩, ⟨h_rep_fr i4 (aI _ (by omega) (by omega) (by omega) (by omega) (by omega)) (fun d hd => aI _ (by omega) (by omega) (by omega) (by omega) (by omega)) (fun i hi => aI _ (by omega) (by omega) (by omega) (by omega) (by omega)), fun k hk => ?_, i6⟩, fun k hk => ⟨0, by omega, k40 k hk, ?_⟩⟩, ⟨0, by omega, ?_, ?_, fun i hi => absurd hi (Nat.not_lt_zero _)⟩, ⟨0, by omega, ?_, ?_, fun i hi => absurd hi (Nat.not_lt_zero _)⟩, r_sheet_fr x7 (fun a ha => aI a (by omega) (by omega) (by omega) (by omega) (by omega)) (fun a q1 q2 => by rw [g_u_ne (by omega), g_u_ne (by omega), g_u_ne (by omega)]; exact mI a (by omega) (by omega) (by omega)), ?_, ?_, ?_, ?_, ?_⟩
      · rw [k4 1 (by decide), g_u_ne (by decide)]
      · show K4 (4 + d) = K2 (4 + d)
        rw [k4 (4 + d) (by omega), g_u_ne (by omega)]
      · rw [k4 (1 + 7 + i) (by omega), g_u_ne (by omega)]
      · rw [g_u_ne (by decide), g_u_ne (by decide), g_u_ne (by decide), Nat.zero_add]; exact m52.1 k hk
      · rw [k4 (4 + d) (by omega), g_u_ne (by omega), (d2 d hd).2]
        show (g_u J 33 1 0) (4 + d) 5 = nI 0
        rw [g_u_ne (by omega), fJ (4 + d) (by omega) (by omega) (by omega), kc1 (4 + d) (by omega) (by omega) (by omega)]
        exact ho d hd
      · rw [g_u_ne (by decide), g_u_ne (by decide), g_u_ne (by decide), m1I _ (by omega)]; exact i2 k hk
      · rw [g_u_ne (by decide), g_u_ne (by decide), g_u_ne (by decide), m1I _ (by omega)]; exact i5 k hk
      · rcases (show k = 0 ∨ k = 1 by omega) with rfl | rfl
        · rw [u_nk (by decide), u_at]; rfl
        · rw [u_at]; rfl
      · rw [k4 33 (by decide), g_u_ne (by decide), k2 33 (by omega), u_at]; rfl
      · rw [u_ni (by decide), u_ni (by decide), u_nk (by decide), m51 0 (by decide), u_nk (by decide), u_at]; rfl
      · rw [k4 36 (by decide), u_at]; rfl
      · rw [u_ni (by decide), u_ni (by decide), u_at]; rfl
      · rw [a35 35 (by decide) (by decide) (by omega) (by decide), p35, u_ni (by decide), u_ni (by decide), u_nk (by decide), m51 0 (by decide), u_at, u_nk (by decide), p05]
      · rw [aI 0 (by decide) (by decide) (by omega) (by decide) (by decide), u_ni (by decide), u_ni (by decide), u_nk (by decide), m0I 26 (by decide) (by decide) (by omega)]; exact z2
      · rw [u_ni (by decide), u_ni (by decide), u_nk (by decide), m0I 13 (by decide) (by decide) (by omega)]; exact z3
      · rw [g_u_ne (by decide), g_u_ne (by decide), g_u_ne (by decide), mI 4 (by decide) (by decide) (by decide)]; exact z4
      · rw [g_u_ne (by decide), g_u_ne (by decide), g_u_ne (by decide), mI 5 (by decide) (by decide) (by decide)]; exact z5
  · -- a fault
    obtain ⟨fc1, fc2⟩ := fc
    obtain ⟨fm1, fm2⟩ := fm
    have aI : ∀ a, a < 16 ∨ 31 ≤ a → a ≠ 33 → a ≠ 35 → (g_u J 33 1 0) a = I a := fun a q1 q2 q3 => by rw [g_u_ne q2, fJ a q1 q2 q3, kc1 a (by omega) q2 q3]
    have mI : ∀ a, a ≠ 0 → a ≠ 2 → (g_u (g_u Jm 0 3 0) 0 4 ((g_u Jm 0 3 0) 0 5)) a = Im a := fun a q1 q2 => by rw [g_u_ne q1, g_u_ne q1, fM.1 a q1 q2, g01 a q1 q2]
    have m0I : ∀ k, k ≠ 3 → k ≠ 4 → k < 5 ∨ 11 ≤ k → (g_u (g_u Jm 0 3 0) 0 4 ((g_u Jm 0 3 0) 0 5)) 0 k = Im 0 k := fun k q1 q2 q3 => by rw [u_nk q2, u_nk q1, fM.2 k q3, g02 k q3]
    refine ⟨-10 - nI s', (g_u J 33 1 0, R), (g_u (g_u Jm 0 3 0) 0 4 ((g_u Jm 0 3 0) 0 5), Rm), ?_, ?_, ?_⟩
    · rw [chead, k_bd]
      dsimp only
      have p35' : (g_u J 33 1 0) 35 2 = nI c := by rw [u_ni (by decide)]; exact fc1
      have p33' : (g_u J 33 1 0) 33 3 = nI s' := by rw [u_nk (by decide)]; exact fc2
      rw [c_ld4 hR, c_ld5 hR, p35', if_neg (nI_ne0 (by omega) (by omega)), c_ld4 hR, p33']
    · rw [mhead _ _ rfl]
      have p05' : (g_u (g_u Jm 0 3 0) 0 4 ((g_u Jm 0 3 0) 0 5)) 0 5 = nI c := by rw [u_nk (by decide), u_nk (by decide)]; exact fm1
      have p06' : (g_u (g_u Jm 0 3 0) 0 4 ((g_u Jm 0 3 0) 0 5)) 0 6 = nI s' := by rw [u_nk (by decide), u_nk (by decide)]; exact fm2
      rw [p05', p06', if_neg (nI_nle (by omega) (by omega))]
    · refine r_same (t := t) (P := P) (Q0 := Q0) (Q1 := Q1) ⟨hR, hM, r_now_fr x3 (fun a _ _ => aI a (by omega) (by omega) (by omega)) (fun k _ => by rw [mI 1 (by decide) (by decide)]), r_img_fr x4 (fun a _ _ => aI a (by omega) (by omega) (by omega)) (aI 32 (by omega) (by decide) (by decide)) (fun k _ _ => by rw [mI 1 (by decide) (by decide)]) (mI 9 (by decide) (by decide)), ⟨0, by omega, ?_, ?_, fun i hi => absurd hi (Nat.not_lt_zero _)⟩, r_seen_fr x6 (by rw [aI 36 (by omega) (by decide) (by decide)]) (aI 37 (by omega) (by decide) (by decide)) (aI 38 (by omega) (by decide) (by decide)) (m0I 20 (by decide) (by decide) (by omega)) (mI 7 (by decide) (by decide)), r_sheet_fr x7 (fun a ha => aI a (by omega) (by omega) (by omega)) (fun a q1 q2 => mI a (by omega) (by omega)), ?_, ?_, ?_, ?_, ?_⟩
      · rw [u_at]; rfl
      · rw [u_nk (by decide), u_at]; rfl
      · rw [u_ni (by decide), fc1, u_at, u_nk (by decide), fm1]
      · rw [aI 0 (by omega) (by decide) (by decide), m0I 26 (by decide) (by decide) (by omega)]; exact z2
      · rw [m0I 13 (by decide) (by decide) (by omega)]; exact z3
      · rw [mI 4 (by decide) (by decide)]; exact z4
      · rw [mI 5 (by decide) (by decide)]; exact z5
