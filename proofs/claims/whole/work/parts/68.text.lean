/-! ===== the text ===== -/
def m_rs (fu m : Nat) (S : g_St) : Option (Unit × g_St) := if (S.1 0 5) ≤ 0 then (g_bd (f_X8_readMore fu 0 (nI m) S) fun _ Sr4 => m_tl fu Sr4) else some ((), S)
theorem c_torn {fu L p s e v lo hi : Nat} {b : Nat → Nat} {J : Nat → Nat → Int32} {R : Nat → Nat → Option Nat} {t : Nat → Nat} (hR : c_R R t) (hc : cS b L J p) (hq : q_tok b L p 4 s e v) (hf : 1000 < fu) : ∃ J', f_X6_takeNumber fu 35 (nI lo) (nI hi) (J, R) = some (0, (J', R)) ∧ cF J' 1 s ∧ t_cf J J' := by
  obtain ⟨J1, e1, f1, g1, k1, v1⟩ := c_adv (fu := fu) hR hc.1 hc.2.1 hq hf
  obtain ⟨x1, x2, x3⟩ := c_expect (fu := fu) (κ := 4) (due := 2) (J := J1) (R := R) (by omega) (by omega)
  have x2' : f_X6_expect fu 35 (nI 4) 2 (J1, R) = _ := x2 rfl
  refine ⟨g_u J1 35 2 (nI 1), ?_, cF_u k1, t_cf_trans (t_cf_ft f1) t_cf_u⟩
  unfold f_X6_takeNumber
  rw [c_ld50 hR, e1, k_bd, x2', k_bd, if_pos (show (0 : Int32) = 0 from rfl), e_zb0]
theorem t_door {fu L p m : Nat} {b Pd : Nat → Nat} {J Jm : Nat → Nat → Int32} {R Rm : Nat → Nat → Option Nat} {t : Nat → Nat} (hR : c_R R t) (hM : m_R Rm) (hc : cS b L J p) (hm : mS b L Jm p) (hr : h_rep J 16 t Pd) (hp : p_ok 999 Pd) (h4 : Pd 16 < 4) (h2 : m_p2 Jm Pd) (hk : m ≤ 3) (hf : 1000 < fu) : (∃ p' Pd' J' Jm', p < p' ∧ p' ≤ L ∧ f_X6_tellDoor fu 35 (nI m) (J, R) = some (1, (J', R)) ∧ cS b L J' p' ∧ h_rep J' 16 t Pd' ∧ p_ok 999 Pd' ∧ m_rs fu m (Jm, Rm) = some ((), (Jm', Rm)) ∧ mS b L Jm' p' ∧ m_p2 Jm' Pd' ∧ t_cg J J' ∧ t_mg Jm Jm') ∨ (∃ c s J' Jm', 1 ≤ c ∧ c ≤ 5 ∧ f_X6_tellDoor fu 35 (nI m) (J, R) = some (0, (J', R)) ∧ cF J' c s ∧ m_rs fu m (Jm, Rm) = some ((), (Jm', Rm)) ∧ mF Jm' c s ∧ t_cg J J' ∧ t_mg Jm Jm') := by
  have i0 : (0 : Int32) = 0 := rfl
  have i1 : ¬ (1 : Int32) = 0 := by decide
  have hb4 : ∀ K : Nat → Nat → Int32, K 0 5 = nI 0 → m_rs fu m (K, Rm) = g_bd (f_X8_readMore fu 0 (nI m) (K, Rm)) fun _ Sr4 => m_tl fu Sr4 := fun K hK => by
    unfold m_rs
    show (if K 0 5 ≤ 0 then _ else _) = _
    rw [hK, if_pos (show nI 0 ≤ (0 : Int32) by decide)]
  have head : f_X6_tellDoor fu 35 (nI m) (J, R) = (g_bd (f_X6_takeNumber fu 35 (nI 1) (nI 9) (J, R)) fun r2 Sr2 => if r2 = 0 then (g_zb (0 : Int32) (some ((0 : Int32), Sr2))) else (g_ld g_KC 90 g_kX5 (Sr2.2 35 0) fun a3 => g_bd (f_X6_takeNumber fu 35 (nI 0) (nI 9) Sr2) fun r4 Sr4 => if r4 = 0 then (g_zb (0 : Int32) (some ((0 : Int32), Sr4))) else (g_ld g_KC 90 g_kX5 (Sr4.2 35 0) fun a5 => g_bd (f_X6_takeStop fu 35 Sr4) fun r6 Sr6 => if r6 = 0 then (g_zb (0 : Int32) (some ((0 : Int32), Sr6))) else (g_ld g_KC 90 g_kX2 (Sr6.2 35 1) fun a7 => g_bd (f_X2_addDoor fu a7 (nI m) ((Sr2.1 a3 4)) ((Sr4.1 a5 4)) Sr6) fun r8 Sr8 => if r8 = 0 then (g_zb (0 : Int32) (some ((0 : Int32), Sr8))) else (g_zb (1 : Int32) (some ((1 : Int32), Sr8))))))) := by
    unfold f_X6_tellDoor
    rw [c_ld51 hR]
    show (if J 16 2 < 4 then _ else _) = _
    rw [hr.1, if_pos (show nI (Pd 16) < (4 : Int32) from nI_lt (b := 4) h4 (by omega))]
    rfl
  obtain ⟨hmt, κ, s, e, v, hq, hl4⟩ := id hm
  rcases hl4 with ⟨rfl, m5, m6⟩ | ⟨hk4, m5, m9, m8, m7, m10⟩
  · obtain ⟨J', e1, f1, g1⟩ := c_torn (fu := fu) (lo := 1) (hi := 9) hR hc hq hf
    refine Or.inr ⟨1, s, J', Jm, by omega, by omega, ?_, f1, ?_, ⟨m5, m6⟩, t_cg_cf g1, ⟨fun _ _ _ => rfl, fun _ _ => rfl⟩⟩
    · rw [head, e1, k_bd, if_pos i0, e_zb0]
    · unfold m_rs
      show (if Jm 0 5 ≤ 0 then _ else _) = _
      rw [m5, if_neg (show ¬ nI 1 ≤ (0 : Int32) by decide)]
  rw [hb4 Jm m5]
  have hd := h2 16 (by omega)
  generalize hdd : Pd 16 = d at *
  have hm0 : mS b L (g_u Jm 2 d (nI m)) p := mS_2 hm (g_u_ne (by decide)) (g_u_ne (by decide))
  rcases t_num (fu := fu) (lo := 1) (hi := 9) hR hM hc hm0 (by omega) (by omega) hf with ⟨v1, p1, J1, Jm1, a1, a2, a3, a4, n1, c1, w1, f1, o1, s1, g1⟩ | ⟨c, s', J1, Jm1, a1, a2, n1, c1, f1, o1, s1, g1⟩
  · have hm1 : mS b L (g_u Jm1 2 (4 + d) (nI v1)) p1 := mS_2 s1 (g_u_ne (by decide)) (g_u_ne (by decide))
    rcases t_num (fu := fu) (lo := 0) (hi := 9) hR hM c1 hm1 (by omega) (by omega) hf with ⟨v2, p2, J2, Jm2, b1, b2, b3, b4, n2, c2, w2, f2, o2, s2, g2⟩ | ⟨c, s', J2, Jm2, b1, b2, n2, c2, f2, o2, s2, g2⟩
    · have em := m_more (fu := fu) hM hd h4 hk o1 o2 (g1.1 2 (by decide)) (g2.1 2 (by decide))
      rw [em, k_bd]
      have hmP : mS b L (g_u (g_u (g_u Jm2 2 (8 + d) (nI v2)) 2 (12 + d) (if m = 0 then nI v1 else 0)) 2 16 (nI (d + 1))) p2 := mS_2 s2 (by rw [g_u_ne (by decide), g_u_ne (by decide), g_u_ne (by decide)]) (by rw [g_u_ne (by decide), g_u_ne (by decide), g_u_ne (by decide)])
      have gP : t_mg Jm (g_u (g_u (g_u Jm2 2 (8 + d) (nI v2)) 2 (12 + d) (if m = 0 then nI v1 else 0)) 2 16 (nI (d + 1))) := t_mg_trans t_mg_u (t_mg_trans (t_mg_ft g1) (t_mg_trans t_mg_u (t_mg_trans (t_mg_ft g2) (t_mg_trans t_mg_u (t_mg_trans t_mg_u t_mg_u)))))
      have pP : ∀ k, k < 45 → (g_u (g_u (g_u Jm2 2 (8 + d) (nI v2)) 2 (12 + d) (if m = 0 then nI v1 else 0)) 2 16 (nI (d + 1))) 2 k = nI (p_hang Pd m v1 v2 k) := by
        intro k hk45
        have q2 : Jm2 2 = (g_u Jm1 2 (4 + d) (nI v1)) 2 := g2.1 2 (by decide)
        have q1 : Jm1 2 = (g_u Jm 2 d (nI m)) 2 := g1.1 2 (by decide)
        by_cases k16 : k = 16
        · subst k16
          rw [u_at, hang_16 (by omega), hdd]
        · rw [u_nk k16]
          by_cases k12 : k = 12 + d
          · subst k12
            rw [u_at]
            have := hang_3 (P := Pd) (k := m) (dp := v1) (rt := v2)
            rw [hdd] at this
            rw [this]
            by_cases cm : m = 0
            · rw [if_pos cm, if_pos cm]
            · rw [if_neg cm, if_neg cm]; rfl
          · rw [u_nk k12]
            by_cases k8 : k = 8 + d
            · subst k8
              have := hang_2 (P := Pd) (k := m) (dp := v1) (rt := v2)
              rw [hdd] at this
              rw [u_at, this]
            · rw [u_nk k8, q2]
              by_cases k4 : k = 4 + d
              · subst k4
                have := hang_1 (P := Pd) (k := m) (dp := v1) (rt := v2)
                rw [hdd] at this
                rw [u_at, this]
              · rw [u_nk k4, q1]
                by_cases k0 : k = d
                · subst k0
                  have := hang_0 (P := Pd) (k := m) (dp := v1) (rt := v2)
                  rw [hdd] at this
                  rw [u_at, this]
                · rw [u_nk k0, hang_x (by omega) (by omega) (by omega) (by omega) k16]; exact h2 k hk45
      generalize g_u (g_u (g_u Jm2 2 (8 + d) (nI v2)) 2 (12 + d) (if m = 0 then nI v1 else 0)) 2 16 (nI (d + 1)) = JmP at hmP gP pP
      rcases t_stop (fu := fu) hR hM c2 hmP hf with ⟨p3, J3, Jm3, d1, d2, n3, c3, f3, o3, s3, g3⟩ | ⟨c, s', J3, Jm3, d1, d2, n3, c3, f3, o3, s3, g3⟩
      · have hr3 := h_rep_cf hR hr hp (t_cf_trans f1 (t_cf_trans f2 f3))
        obtain ⟨J4, e4, r4, k4, -, -⟩ := c_addDoor (fu := fu) (k := m) (dp := v1) (rt := v2) hR.2.1 hr3 hp (by omega) hk
        have ht := hR.2.1.2.2.2.2.2.2.2.2.2.2 d h4
        rw [hdd] at k4
        have kk : ∀ a, a < 16 ∨ 31 ≤ a → J4 a = J3 a := fun a ha => k4 a (by omega) (by omega)
        refine Or.inl ⟨p3, p_hang Pd m v1 v2, J4, Jm3, by omega, d2, ?_, ⟨?_, ?_, ?_⟩, r4, p_ok_hang hp (by omega) hk a2 b2, o3, s3, fun k hk45 => by rw [g3.1 2 (by decide)]; exact pP k hk45, fun a x y z => ?_, t_mg_trans gP (t_mg_ft g3)⟩
        · rw [head, n1, k_bd, if_neg i1]
          dsimp only
          rw [c_ld50 hR, n2, k_bd, if_neg i1]
          dsimp only
          rw [c_ld50 hR, n3, k_bd, if_neg i1]
          dsimp only
          rw [c_ld51 hR, w1, w2, e4, k_bd, if_neg i1, e_zb1]
        · exact ⟨c3.1.1, by rw [kk 33 (by omega)]; exact c3.1.2.1, by rw [kk 34 (by omega)]; exact c3.1.2.2⟩
        · rw [kk 33 (by omega)]; exact c3.2.1
        · rw [kk 35 (by omega)]; exact c3.2.2
        · rw [kk a x, f3 a y z, f2 a y z, f1 a y z]
      · refine Or.inr ⟨c, s', J3, Jm3, d1, d2, ?_, c3, o3, s3, t_cg_cf (t_cf_trans f1 (t_cf_trans f2 f3)), t_mg_trans gP (t_mg_ft g3)⟩
        rw [head, n1, k_bd, if_neg i1]
        dsimp only
        rw [c_ld50 hR, n2, k_bd, if_neg i1]
        dsimp only
        rw [c_ld50 hR, n3, k_bd, if_pos i0, e_zb0]
    · have em := m_more (fu := fu) hM hd h4 hk o1 o2 (g1.1 2 (by decide)) (g2.1 2 (by decide))
      have e5 : (g_u (g_u (g_u Jm2 2 (8 + d) (nI 0)) 2 (12 + d) (if m = 0 then nI v1 else 0)) 2 16 (nI (d + 1))) 0 = Jm2 0 := by rw [g_u_ne (by decide), g_u_ne (by decide), g_u_ne (by decide)]
      refine Or.inr ⟨c, s', J2, _, b1, b2, ?_, c2, ?_, ⟨by rw [e5]; exact s2.1, by rw [e5]; exact s2.2⟩, t_cg_cf (t_cf_trans f1 f2), t_mg_trans t_mg_u (t_mg_trans (t_mg_ft g1) (t_mg_trans t_mg_u (t_mg_trans (t_mg_ft g2) (t_mg_trans t_mg_u (t_mg_trans t_mg_u t_mg_u)))))⟩
      · rw [head, n1, k_bd, if_neg i1]
        dsimp only
        rw [c_ld50 hR, n2, k_bd, if_pos i0, e_zb0]
      · rw [em, k_bd]
        exact m_tlF (by rw [e5]; exact s2.1) b1 b2
  · have o2 : f_X8_number fu 0 (nI 0) (nI 9) (g_u Jm1 2 (4 + d) (nI 1), Rm) = some (nI 0, (g_u Jm1 2 (4 + d) (nI 1), Rm)) := m_numF (by rw [g_u_ne (by decide)]; exact s1.1) a1 a2
    have em := m_more (fu := fu) hM hd h4 hk o1 o2 (g1.1 2 (by decide)) rfl
    have e5 : (g_u (g_u (g_u (g_u Jm1 2 (4 + d) (nI 1)) 2 (8 + d) (nI 0)) 2 (12 + d) (if m = 0 then nI 1 else 0)) 2 16 (nI (d + 1))) 0 = Jm1 0 := by rw [g_u_ne (by decide), g_u_ne (by decide), g_u_ne (by decide), g_u_ne (by decide)]
    refine Or.inr ⟨c, s', J1, _, a1, a2, ?_, c1, ?_, ⟨by rw [e5]; exact s1.1, by rw [e5]; exact s1.2⟩, t_cg_cf f1, t_mg_trans t_mg_u (t_mg_trans (t_mg_ft g1) (t_mg_trans t_mg_u (t_mg_trans t_mg_u (t_mg_trans t_mg_u t_mg_u))))⟩
    · rw [head, n1, k_bd, if_pos i0, e_zb0]
    · rw [em, k_bd]
      exact m_tlF (by rw [e5]; exact s1.1) a1 a2
theorem t_crowd {fu L p : Nat} {b Pd : Nat → Nat} {J Jm : Nat → Nat → Int32} {R Rm : Nat → Nat → Option Nat} {t : Nat → Nat} (hR : c_R R t) (hM : m_R Rm) (hc : cS b L J p) (hm : mS b L Jm p) (hr : h_rep J 16 t Pd) (hp : p_ok 999 Pd) (h4 : Pd 41 < 8) (h2 : m_p2 Jm Pd) (hf : 1000 < fu) : (∃ p' Pd' J' Jm', p < p' ∧ p' ≤ L ∧ f_X6_tellCrowd fu 35 (J, R) = some (1, (J', R)) ∧ cS b L J' p' ∧ h_rep J' 16 t Pd' ∧ p_ok 999 Pd' ∧ m_rs fu 4 (Jm, Rm) = some ((), (Jm', Rm)) ∧ mS b L Jm' p' ∧ m_p2 Jm' Pd' ∧ t_cg J J' ∧ t_mg Jm Jm') ∨ (∃ c s J' Jm', 1 ≤ c ∧ c ≤ 5 ∧ f_X6_tellCrowd fu 35 (J, R) = some (0, (J', R)) ∧ cF J' c s ∧ m_rs fu 4 (Jm, Rm) = some ((), (Jm', Rm)) ∧ mF Jm' c s ∧ t_cg J J' ∧ t_mg Jm Jm') := by
  have i0 : (0 : Int32) = 0 := rfl
  have i1 : ¬ (1 : Int32) = 0 := by decide
  have head : f_X6_tellCrowd fu 35 (J, R) = (g_bd (f_X6_takeNumber fu 35 (nI 0) (nI 99) (J, R)) fun r2 Sr2 => if r2 = 0 then (g_zb (0 : Int32) (some ((0 : Int32), Sr2))) else (g_ld g_KC 90 g_kX5 (Sr2.2 35 0) fun a3 => g_bd (f_X6_takeNumber fu 35 (nI 1) (nI 9) Sr2) fun r4 Sr4 => if r4 = 0 then (g_zb (0 : Int32) (some ((0 : Int32), Sr4))) else (g_ld g_KC 90 g_kX5 (Sr4.2 35 0) fun a5 => g_bd (f_X6_takeNumber fu 35 (nI 0) (nI 9) Sr4) fun r6 Sr6 => if r6 = 0 then (g_zb (0 : Int32) (some ((0 : Int32), Sr6))) else (g_ld g_KC 90 g_kX5 (Sr6.2 35 0) fun a7 => g_bd (f_X6_takeStop fu 35 Sr6) fun r8 Sr8 => if r8 = 0 then (g_zb (0 : Int32) (some ((0 : Int32), Sr8))) else (g_ld g_KC 90 g_kX2 (Sr8.2 35 1) fun a9 => g_bd (f_X2_addCrowd fu a9 ((Sr2.1 a3 4)) ((Sr4.1 a5 4)) ((Sr6.1 a7 4)) Sr8) fun r10 Sr10 => if r10 = 0 then (g_zb (0 : Int32) (some ((0 : Int32), Sr10))) else (g_zb (1 : Int32) (some ((1 : Int32), Sr10)))))))) := by
    unfold f_X6_tellCrowd
    rw [c_ld51 hR]
    show (if J 16 3 < 8 then _ else _) = _
    rw [hr.2.1, if_pos (show nI (Pd 41) < (8 : Int32) from nI_lt (b := 8) h4 (by omega))]
    rfl
  obtain ⟨hmt, κ, s, e, v, hq, hl4⟩ := id hm
  rcases hl4 with ⟨rfl, m5, m6⟩ | ⟨hk4, m5, m9, m8, m7, m10⟩
  · obtain ⟨J', e1, f1, g1⟩ := c_torn (fu := fu) (lo := 0) (hi := 99) hR hc hq hf
    refine Or.inr ⟨1, s, J', Jm, by omega, by omega, ?_, f1, ?_, ⟨m5, m6⟩, t_cg_cf g1, ⟨fun _ _ _ => rfl, fun _ _ => rfl⟩⟩
    · rw [head, e1, k_bd, if_pos i0, e_zb0]
    · unfold m_rs
      show (if Jm 0 5 ≤ 0 then _ else _) = _
      rw [m5, if_neg (show ¬ nI 1 ≤ (0 : Int32) by decide)]
  have hb4 : m_rs fu 4 (Jm, Rm) = g_bd (f_X8_readMore fu 0 (nI 4) (Jm, Rm)) fun _ Sr4 => m_tl fu Sr4 := by
    unfold m_rs
    show (if Jm 0 5 ≤ 0 then _ else _) = _
    rw [m5, if_pos (show nI 0 ≤ (0 : Int32) by decide)]
  rw [hb4]
  have hd := h2 41 (by omega)
  generalize hdd : Pd 41 = d at *
  rcases t_num (fu := fu) (lo := 0) (hi := 99) hR hM hc hm (by omega) (by omega) hf with ⟨v1, p1, J1, Jm1, a1, a2, a3, a4, n1, c1, w1, f1, o1, s1, g1⟩ | ⟨c, s', J1, Jm1, a1, a2, n1, c1, f1, o1, s1, g1⟩
  · have hm1 : mS b L (g_u Jm1 2 (17 + d) (nI v1)) p1 := mS_2 s1 (g_u_ne (by decide)) (g_u_ne (by decide))
    rcases t_num (fu := fu) (lo := 1) (hi := 9) hR hM c1 hm1 (by omega) (by omega) hf with ⟨v2, p2, J2, Jm2, b1, b2, b3, b4, n2, c2, w2, f2, o2, s2, g2⟩ | ⟨c, s', J2, Jm2, b1, b2, n2, c2, f2, o2, s2, g2⟩
    · have hm2 : mS b L (g_u Jm2 2 (25 + d) (nI v2)) p2 := mS_2 s2 (g_u_ne (by decide)) (g_u_ne (by decide))
      rcases t_num (fu := fu) (lo := 0) (hi := 9) hR hM c2 hm2 (by omega) (by omega) hf with ⟨v3, p3, J3, Jm3, d1, d2, d3, d4, n3, c3, w3, f3, o3, s3, g3⟩ | ⟨c, s', J3, Jm3, d1, d2, n3, c3, f3, o3, s3, g3⟩
      · have em := m_moreC (fu := fu) hM hd h4 o1 o2 o3 (g1.1 2 (by decide)) (g2.1 2 (by decide)) (g3.1 2 (by decide))
        rw [em, k_bd]
        have hmP : mS b L (g_u (g_u Jm3 2 (33 + d) (nI v3)) 2 41 (nI (d + 1))) p3 := mS_2 s3 (by rw [g_u_ne (by decide), g_u_ne (by decide)]) (by rw [g_u_ne (by decide), g_u_ne (by decide)])
        have gP : t_mg Jm (g_u (g_u Jm3 2 (33 + d) (nI v3)) 2 41 (nI (d + 1))) := t_mg_trans (t_mg_ft g1) (t_mg_trans t_mg_u (t_mg_trans (t_mg_ft g2) (t_mg_trans t_mg_u (t_mg_trans (t_mg_ft g3) (t_mg_trans t_mg_u t_mg_u)))))
        have pP : ∀ k, k < 45 → (g_u (g_u Jm3 2 (33 + d) (nI v3)) 2 41 (nI (d + 1))) 2 k = nI (p_add Pd v1 v2 v3 k) := by
          intro k hk45
          have q3 : Jm3 2 = (g_u Jm2 2 (25 + d) (nI v2)) 2 := g3.1 2 (by decide)
          have q2 : Jm2 2 = (g_u Jm1 2 (17 + d) (nI v1)) 2 := g2.1 2 (by decide)
          have q1 : Jm1 2 = Jm 2 := g1.1 2 (by decide)
          by_cases k41 : k = 41
          · subst k41
            rw [u_at, add_41 (by omega), hdd]
          · rw [u_nk k41]
            by_cases k3 : k = 33 + d
            · subst k3
              have := add_2 (P := Pd) (a := v1) (m := v2) (e := v3)
              rw [hdd] at this
              rw [u_at, this]
            · rw [u_nk k3, q3]
              by_cases k2 : k = 25 + d
              · subst k2
                have := add_1 (P := Pd) (a := v1) (m := v2) (e := v3)
                rw [hdd] at this
                rw [u_at, this]
              · rw [u_nk k2, q2]
                by_cases k1 : k = 17 + d
                · subst k1
                  have := add_0 (P := Pd) (a := v1) (m := v2) (e := v3)
                  rw [hdd] at this
                  rw [u_at, this]
                · rw [u_nk k1, q1, add_x (by omega) (by omega) (by omega) k41]; exact h2 k hk45
        generalize g_u (g_u Jm3 2 (33 + d) (nI v3)) 2 41 (nI (d + 1)) = JmP at hmP gP pP
        rcases t_stop (fu := fu) hR hM c3 hmP hf with ⟨p4, J4, Jm4, x1, x2, n4, c4, f4, o4, s4, g4⟩ | ⟨c, s', J4, Jm4, x1, x2, n4, c4, f4, o4, s4, g4⟩
        · have hr4 := h_rep_cf hR hr hp (t_cf_trans f1 (t_cf_trans f2 (t_cf_trans f3 f4)))
          obtain ⟨J5, e5, r5, -, k5⟩ := c_addCrowd (fu := fu) (a := v1) (m := v2) (e := v3) hR.2.1 hr4 hp (by omega)
          rw [hdd] at k5
          have kk : ∀ a, a < 16 ∨ 31 ≤ a → J5 a = J4 a := fun a ha => k5 a (by omega) (by omega)
          refine Or.inl ⟨p4, p_add Pd v1 v2 v3, J5, Jm4, by omega, x2, ?_, ⟨?_, ?_, ?_⟩, r5, p_ok_add hp (by omega) a2 b2 d2, o4, s4, fun k hk45 => by rw [g4.1 2 (by decide)]; exact pP k hk45, fun a x y z => ?_, t_mg_trans gP (t_mg_ft g4)⟩
          · rw [head, n1, k_bd, if_neg i1]
            dsimp only
            rw [c_ld50 hR, n2, k_bd, if_neg i1]
            dsimp only
            rw [c_ld50 hR, n3, k_bd, if_neg i1]
            dsimp only
            rw [c_ld50 hR, n4, k_bd, if_neg i1]
            dsimp only
            rw [c_ld51 hR, w1, w2, w3, e5, k_bd, if_neg i1, e_zb1]
          · exact ⟨c4.1.1, by rw [kk 33 (by omega)]; exact c4.1.2.1, by rw [kk 34 (by omega)]; exact c4.1.2.2⟩
          · rw [kk 33 (by omega)]; exact c4.2.1
          · rw [kk 35 (by omega)]; exact c4.2.2
          · rw [kk a x, f4 a y z, f3 a y z, f2 a y z, f1 a y z]
        · refine Or.inr ⟨c, s', J4, Jm4, x1, x2, ?_, c4, o4, s4, t_cg_cf (t_cf_trans f1 (t_cf_trans f2 (t_cf_trans f3 f4))), t_mg_trans gP (t_mg_ft g4)⟩
          rw [head, n1, k_bd, if_neg i1]
          dsimp only
          rw [c_ld50 hR, n2, k_bd, if_neg i1]
          dsimp only
          rw [c_ld50 hR, n3, k_bd, if_neg i1]
          dsimp only
          rw [c_ld50 hR, n4, k_bd, if_pos i0, e_zb0]
      · have em := m_moreC (fu := fu) hM hd h4 o1 o2 o3 (g1.1 2 (by decide)) (g2.1 2 (by decide)) (g3.1 2 (by decide))
        have e5 : (g_u (g_u Jm3 2 (33 + d) (nI 0)) 2 41 (nI (d + 1))) 0 = Jm3 0 := by rw [g_u_ne (by decide), g_u_ne (by decide)]
        refine Or.inr ⟨c, s', J3, _, d1, d2, ?_, c3, ?_, ⟨by rw [e5]; exact s3.1, by rw [e5]; exact s3.2⟩, t_cg_cf (t_cf_trans f1 (t_cf_trans f2 f3)), t_mg_trans (t_mg_ft g1) (t_mg_trans t_mg_u (t_mg_trans (t_mg_ft g2) (t_mg_trans t_mg_u (t_mg_trans (t_mg_ft g3) (t_mg_trans t_mg_u t_mg_u)))))⟩
        · rw [head, n1, k_bd, if_neg i1]
          dsimp only
          rw [c_ld50 hR, n2, k_bd, if_neg i1]
          dsimp only
          rw [c_ld50 hR, n3, k_bd, if_pos i0, e_zb0]
        · rw [em, k_bd]
          exact m_tlF (by rw [e5]; exact s3.1) d1 d2
    · have o3 : f_X8_number fu 0 (nI 0) (nI 9) (g_u Jm2 2 (25 + d) (nI 1), Rm) = some (nI 0, (g_u Jm2 2 (25 + d) (nI 1), Rm)) := m_numF (by rw [g_u_ne (by decide)]; exact s2.1) b1 b2
      have em := m_moreC (fu := fu) hM hd h4 o1 o2 o3 (g1.1 2 (by decide)) (g2.1 2 (by decide)) rfl
      have e5 : (g_u (g_u (g_u Jm2 2 (25 + d) (nI 1)) 2 (33 + d) (nI 0)) 2 41 (nI (d + 1))) 0 = Jm2 0 := by rw [g_u_ne (by decide), g_u_ne (by decide), g_u_ne (by decide)]
      refine Or.inr ⟨c, s', J2, _, b1, b2, ?_, c2, ?_, ⟨by rw [e5]; exact s2.1, by rw [e5]; exact s2.2⟩, t_cg_cf (t_cf_trans f1 f2), t_mg_trans (t_mg_ft g1) (t_mg_trans t_mg_u (t_mg_trans (t_mg_ft g2) (t_mg_trans t_mg_u (t_mg_trans t_mg_u t_mg_u))))⟩
      · rw [head, n1, k_bd, if_neg i1]
        dsimp only
        rw [c_ld50 hR, n2, k_bd, if_pos i0, e_zb0]
      · rw [em, k_bd]
        exact m_tlF (by rw [e5]; exact s2.1) b1 b2
  · have o2 : f_X8_number fu 0 (nI 1) (nI 9) (g_u Jm1 2 (17 + d) (nI 0), Rm) = some (nI 1, (g_u Jm1 2 (17 + d) (nI 0), Rm)) := m_numF (by rw [g_u_ne (by decide)]; exact s1.1) a1 a2
    have o3 : f_X8_number fu 0 (nI 0) (nI 9) (g_u (g_u Jm1 2 (17 + d) (nI 0)) 2 (25 + d) (nI 1), Rm) = some (nI 0, (g_u (g_u Jm1 2 (17 + d) (nI 0)) 2 (25 + d) (nI 1), Rm)) := m_numF (by rw [g_u_ne (by decide), g_u_ne (by decide)]; exact s1.1) a1 a2
    have em := m_moreC (fu := fu) hM hd h4 o1 o2 o3 (g1.1 2 (by decide)) rfl rfl
    have e5 : (g_u (g_u (g_u (g_u Jm1 2 (17 + d) (nI 0)) 2 (25 + d) (nI 1)) 2 (33 + d) (nI 0)) 2 41 (nI (d + 1))) 0 = Jm1 0 := by rw [g_u_ne (by decide), g_u_ne (by decide), g_u_ne (by decide), g_u_ne (by decide)]
    refine Or.inr ⟨c, s', J1, _, a1, a2, ?_, c1, ?_, ⟨by rw [e5]; exact s1.1, by rw [e5]; exact s1.2⟩, t_cg_cf f1, t_mg_trans (t_mg_ft g1) (t_mg_trans t_mg_u (t_mg_trans t_mg_u (t_mg_trans t_mg_u t_mg_u)))⟩
    · rw [head, n1, k_bd, if_pos i0, e_zb0]
    · rw [em, k_bd]
      exact m_tlF (by rw [e5]; exact s1.1) a1 a2
theorem t_line {fu L s e : Nat} {b Pd : Nat → Nat} {J Jm : Nat → Nat → Int32} {R Rm : Nat → Nat → Option Nat} {t : Nat → Nat} (hR : c_R R t) (hM : m_R Rm) (hc : cS b L J e) (h3 : J 33 3 = nI s) (ht : t_m b L Jm) (m5 : Jm 0 5 = nI 0) (m9 : Jm 0 9 = nI 1) (m8 : Jm 0 8 = nI s) (m7 : Jm 0 7 = nI e) (hse : s ≤ e) (he : e ≤ L) (hw : t_wd Jm) (hr : h_rep J 16 t Pd) (hp : p_ok 999 Pd) (h2 : m_p2 Jm Pd) (hf : 1000 < fu) : (∃ p' Pd' J' Jm', e < p' ∧ p' ≤ L ∧ f_X6_tellLine fu 35 (nI 1) (J, R) = some (1, (J', R)) ∧ cS b L J' p' ∧ h_rep J' 16 t Pd' ∧ p_ok 999 Pd' ∧ f_X8_readLine fu 0 (Jm, Rm) = some ((), (Jm', Rm)) ∧ mS b L Jm' p' ∧ m_p2 Jm' Pd' ∧ t_cg J J' ∧ t_mg Jm Jm') ∨ (∃ c s J' Jm', 1 ≤ c ∧ c ≤ 5 ∧ f_X6_tellLine fu 35 (nI 1) (J, R) = some (0, (J', R)) ∧ cF J' c s ∧ f_X8_readLine fu 0 (Jm, Rm) = some ((), (Jm', Rm)) ∧ mF Jm' c s ∧ t_cg J J' ∧ t_mg Jm Jm') := by
  have i0 : (0 : Int32) = 0 := rfl
  have i1 : ¬ (1 : Int32) = 0 := by decide
  have b16 := hp.1
  have b41 := hp.2.1
  obtain ⟨m, hm⟩ := q_ln_ex b s e
  have hm5 := hm.1
  have cb := c_begun (fu := fu) hR hc.1 hc.2.1 h3 hse he hm hf
  have mb := m_here (fu := fu) hM ht hw m7 m8 m9 hse he hm hf
  have ex : f_X6_expect fu 35 (nI 1) 1 (J, R) = some (1, (J, R)) := (c_expect (fu := fu) (κ := 1) (due := 1) (J := J) (R := R) (by omega) (by omega)).1 rfl
  have chead : f_X6_tellLine fu 35 (nI 1) (J, R) = if m = 5 then some (0, (g_u J 35 2 (nI 2), R)) else if m = 4 then (g_bd (f_X6_tellCrowd fu 35 (J, R)) fun r4 Sr4 => g_zb r4 (some (r4, Sr4))) else (g_bd (f_X6_tellDoor fu 35 (nI m) (J, R)) fun r3 Sr3 => g_zb r3 (some (r3, Sr3))) := by
    unfold f_X6_tellLine f_X6_fail
    rw [ex, k_bd, if_neg i1, cb, k_bd, e_zb0, k_bd, e_zb0]
    by_cases c5 : m = 5
    · subst c5
      rw [if_pos (show nI 5 = (5 : Int32) from rfl), if_pos rfl]
      rfl
    · rw [if_neg (show ¬ nI m = (5 : Int32) from fun z => c5 ((nI_eq (b := 5) (by omega) (by omega)).mp z)), if_neg c5]
      by_cases c4 : m = 4
      · subst c4
        rw [if_pos (show nI 4 = (4 : Int32) from rfl), if_pos rfl]
      · rw [if_neg (show ¬ nI m = (4 : Int32) from fun z => c4 ((nI_eq (b := 4) (by omega) (by omega)).mp z)), if_neg c4]
  -- too many of them, or no line
  obtain ⟨x5, x6, xf⟩ := m_fl (c := 5) (J := Jm)
  obtain ⟨y5, y6, yf⟩ := m_fl (c := 2) (J := Jm)
  have ef5 : f_X8_fails fu 0 5 (Jm, Rm) = some ((), (g_u (g_u Jm 0 5 (nI 5)) 0 6 (Jm 0 8), Rm)) := m_fails (fu := fu) (c := 5) (R := Rm) m5
  have ef2 : f_X8_fails fu 0 2 (Jm, Rm) = some ((), (g_u (g_u Jm 0 5 (nI 2)) 0 6 (Jm 0 8), Rm)) := m_fails (fu := fu) (c := 2) (R := Rm) m5
  have j56 : ∀ x, j_X8_readLine_56 fu 0 x (Jm, Rm) = some ((), (g_u (g_u Jm 0 5 (nI 5)) 0 6 (Jm 0 8), Rm)) := fun x => by
    unfold j_X8_readLine_56 j_X8_readLine_61
    rw [ef5, k_bd, m_stepF x5 (by omega) (by omega), k_bd]
    exact if_neg (show ¬ (g_u (g_u Jm 0 5 (nI 5)) 0 6 (Jm 0 8)) 0 5 ≤ 0 by rw [x5]; decide)
  obtain ⟨κ', s', e', v', hq'⟩ := q_tok_ex (b := b) (L := L) (p := e) he
  obtain ⟨Jm1, z1, z2, z3⟩ := m_step (fu := fu) hM ht m5 m7 hq' hf
  have hS : mS b L Jm1 e := ⟨t_m_ft ht z2, κ', s', e', v', hq', z3⟩
  have h2' : m_p2 Jm1 Pd := fun k hk => by rw [z2.1 2 (by decide)]; exact h2 k hk
  have j61 : j_X8_readLine_61 fu 0 (nI m) (Jm, Rm) = m_rs fu m (Jm1, Rm) := by
    unfold j_X8_readLine_61
    rw [z1, k_bd]
    rfl
  by_cases c5 : m = 5
  · subst c5
    refine Or.inr ⟨2, s, g_u J 35 2 (nI 2), g_u (g_u Jm 0 5 (nI 2)) 0 6 (Jm 0 8), by omega, by omega, by rw [chead, if_pos rfl], cF_u h3, ?_, ⟨y5, y6.trans m8⟩, t_cg_cf t_cf_u, t_mg_ft yf⟩
    have ein : f_X8_in fu (Int32.toInt64 (-4)) 0 4 (Jm, Rm) = some (0, (Jm, Rm)) := by
      rw [m_in, if_neg (by decide)]
    unfold f_X8_readLine
    rw [mb, k_bd, if_pos rfl, ein, k_bd, if_pos i0, ef2, k_bd]
  have ein : f_X8_in fu (Int32.toInt64 (nI m)) 0 4 (Jm, Rm) = some (1, (Jm, Rm)) := m_in1 (c := 4) (n := 4) (by omega) rfl (by omega)
  have mhead : f_X8_readLine fu 0 (Jm, Rm) = if m = 4 then (if Pd 41 = 8 then some ((), (g_u (g_u Jm 0 5 (nI 5)) 0 6 (Jm 0 8), Rm)) else m_rs fu m (Jm1, Rm)) else (if Pd 16 = 4 then some ((), (g_u (g_u Jm 0 5 (nI 5)) 0 6 (Jm 0 8), Rm)) else m_rs fu m (Jm1, Rm)) := by
    have p16 := h2 16 (by omega)
    have p41 := h2 41 (by omega)
    unfold f_X8_readLine j_X8_readLine_39
    rw [mb, k_bd, if_neg c5, ein, k_bd, if_neg i1]
    by_cases c4 : m = 4
    · subst c4
      rw [if_pos (show (3 : Int32) < nI 4 by decide), if_pos (show nI 4 = (4 : Int32) from rfl), if_pos rfl]
      simp (disch := omega) only [m_ld1 hM, l_41, k_ix, p41]
      by_cases c8 : Pd 41 = 8
      · rw [if_pos c8, if_pos (show nI (Pd 41) = (8 : Int32) from by rw [c8]; rfl), j56]
      · rw [if_neg c8, if_neg (show ¬ nI (Pd 41) = (8 : Int32) from fun z => c8 ((nI_eq (b := 8) (by omega) (by omega)).mp z)), j61]
    · rw [if_neg (show ¬ (3 : Int32) < nI m from nI_nlt (a := 3) (by omega) (by omega)), if_neg c4]
      simp (disch := omega) only [m_ld1 hM, l_16, k_ix, p16]
      by_cases c8 : Pd 16 = 4
      · rw [if_pos c8, if_pos (show nI (Pd 16) = (4 : Int32) from by rw [c8]; rfl), j56]
      · rw [if_neg c8, if_neg (show ¬ nI (Pd 16) = (4 : Int32) from fun z => c8 ((nI_eq (b := 4) (by omega) (by omega)).mp z)), if_neg (show ¬ nI m = (4 : Int32) from fun z => c4 ((nI_eq (b := 4) (by omega) (by omega)).mp z)), j61]
  rw [if_neg c5] at chead
  by_cases c4 : m = 4
  · subst c4
    rw [if_pos rfl] at chead mhead
    by_cases c8 : Pd 41 = 8
    · rw [if_pos c8] at mhead
      refine Or.inr ⟨5, s, g_u J 35 2 (nI 5), g_u (g_u Jm 0 5 (nI 5)) 0 6 (Jm 0 8), by omega, by omega, ?_, cF_u h3, mhead, ⟨x5, x6.trans m8⟩, t_cg_cf t_cf_u, t_mg_ft xf⟩
      rw [chead]
      unfold f_X6_tellCrowd f_X6_fail
      rw [c_ld51 hR]
      show g_bd (if J 16 3 < 8 then _ else _) _ = _
      rw [hr.2.1, c8, if_neg (show ¬ nI 8 < (8 : Int32) by decide), e_zb0, k_bd, e_zb0, k_bd, e_zb0]
      rfl
    · rw [if_neg c8] at mhead
      rcases t_crowd (fu := fu) hR hM hc hS hr hp (by omega) h2' hf with ⟨p', Pd', J', Jm', a1, a2, a3, a4, a5, a6, a7, a8, a9, a10, a11⟩ | ⟨c, s'', J', Jm', a1, a2, a3, a4, a5, a6, a7, a8⟩
      · exact Or.inl ⟨p', Pd', J', Jm', a1, a2, by rw [chead, a3, k_bd, e_zb1], a4, a5, a6, mhead.trans a7, a8, a9, a10, t_mg_trans (t_mg_ft z2) a11⟩
      · exact Or.inr ⟨c, s'', J', Jm', a1, a2, by rw [chead, a3, k_bd, e_zb0], a4, mhead.trans a5, a6, a7, t_mg_trans (t_mg_ft z2) a8⟩
  · rw [if_neg c4] at chead mhead
    by_cases c8 : Pd 16 = 4
    · rw [if_pos c8] at mhead
      refine Or.inr ⟨5, s, g_u J 35 2 (nI 5), g_u (g_u Jm 0 5 (nI 5)) 0 6 (Jm 0 8), by omega, by omega, ?_, cF_u h3, mhead, ⟨x5, x6.trans m8⟩, t_cg_cf t_cf_u, t_mg_ft xf⟩
      rw [chead]
      unfold f_X6_tellDoor f_X6_fail
      rw [c_ld51 hR]
      show g_bd (if J 16 2 < 4 then _ else _) _ = _
      rw [hr.1, c8, if_neg (show ¬ nI 4 < (4 : Int32) by decide), e_zb0, k_bd, e_zb0, k_bd, e_zb0]
      rfl
    · rw [if_neg c8] at mhead
      rcases t_door (fu := fu) (m := m) hR hM hc hS hr hp (by omega) h2' (by omega) hf with ⟨p', Pd', J', Jm', a1, a2, a3, a4, a5, a6, a7, a8, a9, a10, a11⟩ | ⟨c, s'', J', Jm', a1, a2, a3, a4, a5, a6, a7, a8⟩
      · exact Or.inl ⟨p', Pd', J', Jm', a1, a2, by rw [chead, a3, k_bd, e_zb1], a4, a5, a6, mhead.trans a7, a8, a9, a10, t_mg_trans (t_mg_ft z2) a11⟩
      · exact Or.inr ⟨c, s'', J', Jm', a1, a2, by rw [chead, a3, k_bd, e_zb0], a4, mhead.trans a5, a6, a7, t_mg_trans (t_mg_ft z2) a8⟩
