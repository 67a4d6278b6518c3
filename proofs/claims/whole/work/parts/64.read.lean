/-! ===== crowds read from a sheet ===== -/
theorem r_torn {I Im : Nat → Nat → Int32} {R Rm : Nat → Nat → Option Nat} {t P Q0 Q1 : Nat → Nat} {v : Int32} (h : r_all I R Im Rm t P Q0 Q1) : r_Rel (g_u I 0 10 v, R) (g_u Im 0 26 v, Rm) := by
  obtain ⟨hR, hM, x3, x4, x5, x6, x7, ⟨y1, y2, y3, y4, y5⟩⟩ := h
  refine r_same (t := t) (P := P) (Q0 := Q0) (Q1 := Q1) ⟨hR, hM, r_now_fr x3 (fun a _ _ => g_u_ne (by omega)) (fun k _ => u_ni (by decide)), r_img_fr x4 (fun a _ _ => g_u_ne (by omega)) (g_u_ne (by decide)) (fun k _ _ => u_ni (by decide)) (g_u_ne (by decide)), r_tape_fr x5 (u_ni (by decide)) (g_u_ne (by decide)) (u_nk (by decide)) (g_u_ne (by decide)), r_seen_fr x6 (u_ni (by decide)) (g_u_ne (by decide)) (g_u_ne (by decide)) (u_nk (by decide)) (g_u_ne (by decide)), r_sheet_fr x7 (fun a _ => g_u_ne (by omega)) (fun a _ _ => g_u_ne (by omega)), ?_, ?_, ?_, ?_, ?_⟩
  · rw [u_ni (by decide), u_nk (by decide)]; exact y1
  · rw [u_at, u_at]
  · rw [u_nk (by decide)]; exact y3
  · rw [g_u_ne (by decide)]; exact y4
  · rw [g_u_ne (by decide)]; exact y5
/-- the page behind j crowds of the sheet -/
def p_rd (X : Nat → Int32) (A : Nat) (P : Nat → Nat) : Nat → (Nat → Nat)
  | 0 => P
  | j + 1 => p_add (p_rd X A P j) (X (A + 3 * j)).toNatClampNeg (X (A + 3 * j + 1)).toNatClampNeg (X (A + 3 * j + 2)).toNatClampNeg
def q_gd (X : Nat → Int32) (A : Nat) (P : Nat → Nat) (z j : Nat) : Prop := A + 3 * j + 2 < z ∧ ¬ a_noc (X (A + 3 * j)) (X (A + 3 * j + 1)) (X (A + 3 * j + 2)) ∧ p_rd X A P j 41 < 8
theorem rd_step {X : Nat → Int32} {A z j : Nat} {P : Nat → Nat} (h : q_gd X A P z j) : ∃ a m e, X (A + 3 * j) = nI a ∧ X (A + 3 * j + 1) = nI m ∧ X (A + 3 * j + 2) = nI e ∧ a ≤ 99 ∧ 1 ≤ m ∧ m ≤ 9 ∧ e ≤ 9 ∧ p_rd X A P (j + 1) = p_add (p_rd X A P j) a m e := by
  rcases a_crowd (X (A + 3 * j)) (X (A + 3 * j + 1)) (X (A + 3 * j + 2)) with q | ⟨a, m, e, h1, h2, h3, h4, h5, h6, h7⟩
  · exact absurd q h.2.1
  refine ⟨a, m, e, h1, h2, h3, h4, h5, h6, h7, ?_⟩
  show p_add _ (X (A + 3 * j)).toNatClampNeg (X (A + 3 * j + 1)).toNatClampNeg (X (A + 3 * j + 2)).toNatClampNeg = _
  rw [h1, h2, h3, nI_clamp (by omega), nI_clamp (by omega), nI_clamp (by omega)]
theorem rd_ok {X : Nat → Int32} {A z : Nat} {P : Nat → Nat} (hp : p_ok 999 P) : ∀ j, (∀ i, i < j → q_gd X A P z i) → p_ok 999 (p_rd X A P j) ∧ p_rd X A P j 41 = P 41 + j ∧ ∀ k, k < 17 ∨ 41 < k ∨ (∃ i, i < P 41 ∧ (k = 17 + i ∨ k = 25 + i ∨ k = 33 + i)) → p_rd X A P j k = P k
  | 0, _ => ⟨hp, rfl, fun _ _ => rfl⟩
  | j + 1, h => by
    obtain ⟨q1, q2, q3⟩ := rd_ok (X := X) (A := A) (z := z) hp j (fun i hi => h i (by omega))
    have hg := h j (by omega)
    obtain ⟨a, m, e, -, -, -, h4, h5, h6, h7, ep⟩ := rd_step hg
    have h8 := hg.2.2
    rw [ep]
    refine ⟨p_ok_add q1 h8 h4 h6 h7, by rw [add_41 h8, q2, Nat.add_assoc], fun k hk => ?_⟩
    rw [q2] at h8
    have hk2 : k ≠ 17 + p_rd X A P j 41 ∧ k ≠ 25 + p_rd X A P j 41 ∧ k ≠ 33 + p_rd X A P j 41 ∧ k ≠ 41 := by
      rw [q2]
      rcases hk with z | z | ⟨i, hi, z⟩ <;> omega
    rw [add_x hk2.1 hk2.2.1 hk2.2.2.1 hk2.2.2.2]
    exact q3 k hk
/-- how the reading ends: all came, a fault at j, refused at j -/
def rd_out (X : Nat → Int32) (A : Nat) (P : Nat → Nat) (z n c j : Nat) : Prop := (∀ i, i < j → q_gd X A P z i) ∧ ((c = 0 ∧ j = n) ∨ (c = 1 ∧ j < n ∧ ¬ A + 3 * j + 2 < z) ∨ (c = 2 ∧ j < n ∧ A + 3 * j + 2 < z ∧ ¬ q_gd X A P z j))
theorem rd_lt {X : Nat → Int32} {A z n c c' j j' : Nat} {P : Nat → Nat} (h : rd_out X A P z n c j) (h' : rd_out X A P z n c' j') : ¬ j < j' := by
  intro q
  have g := h'.1 j q
  have hj : j' ≤ n := by rcases h'.2 with ⟨_, z⟩ | ⟨_, z, _⟩ | ⟨_, z, _⟩ <;> omega
  rcases h.2 with ⟨_, z⟩ | ⟨_, _, z⟩ | ⟨_, _, _, z⟩
  · omega
  · exact z g.1
  · exact z g
theorem rd_uniq {X : Nat → Int32} {A z n c c' j j' : Nat} {P : Nat → Nat} (h : rd_out X A P z n c j) (h' : rd_out X A P z n c' j') : c' = c ∧ j' = j := by
  have l1 := rd_lt h h'
  have l2 := rd_lt h' h
  have e : j' = j := by omega
  subst e
  refine ⟨?_, rfl⟩
  rcases h.2 with ⟨x, z⟩ | ⟨x, y, z⟩ | ⟨x, y, w, z⟩ <;> rcases h'.2 with ⟨x', z'⟩ | ⟨x', y', z'⟩ | ⟨x', y', w', z'⟩ <;> omega
theorem c_f3 {fu k l z p : Nat} {J : Nat → Nat → Int32} {R : Nat → Nat → Option Nat} (h1 : J (82 + 2 * k) 1 = nI 1) (h2 : J (82 + 2 * k) 2 = nI l) (h3 : J (82 + 2 * k) 3 = nI z) (hz : z ≤ 40) (hp : p ≤ 100) : f_X4_faultInThree fu (82 + 2 * k) (nI l) (nI p) (J, R) = some (nI (if p + 2 < z then 0 else 2), (J, R)) := by
  have hA : ∀ q, q ≤ 200 → f_X4_faultAt fu (82 + 2 * k) (nI q) (J, R) = some (nI (if q < z then 0 else 2), (J, R)) := by
    intro q hq
    unfold f_X4_faultAt j_X4_faultAt_21
    show (if J (82 + 2 * k) 1 = 0 then _ else if nI q < 0 then _ else if nI q < J (82 + 2 * k) 3 then _ else _) = _
    rw [h1, h3, if_neg (show ¬ nI 1 = 0 by decide), if_neg (nI_pos (by omega))]
    by_cases c : q < z
    · rw [if_pos (nI_lt c (by omega)), if_pos c]; rfl
    · rw [if_neg (nI_nlt (by omega) (by omega)), if_neg c]; rfl
  unfold f_X4_faultInThree j_X4_faultInThree_17
  show (if J (82 + 2 * k) 1 = 0 then _ else if J (82 + 2 * k) 2 = nI l then _ else _) = _
  rw [h1, h2, if_neg (show ¬ nI 1 = 0 by decide), if_pos rfl, hA p (by omega), k_bd]
  by_cases c : p < z
  · rw [if_pos c, if_pos (show nI 0 = 0 from rfl), show nI p + 2 = nI (p + 2) from nI_add p 2, hA (p + 2) (by omega), k_bd]
  · rw [if_neg c, if_neg (show ¬ nI 2 = 0 by decide), if_neg (by omega)]
theorem c_from0 {fu k p : Nat} {J : Nat → Nat → Int32} {R : Nat → Nat → Option Nat} {t Q : Nat → Nat} (hR : c_R R t) (hr : h_rep J 1 (fun d => 4 + d) Q) (hk : k < 4) (hp : p + 2 < 40) (h : a_noc (J (83 + 2 * k) p) (J (83 + 2 * k) (p + 1)) (J (83 + 2 * k) (p + 2)) ∨ Q 41 = 8) : f_X7_comesFrom fu 0 (82 + 2 * k) (nI p) (J, R) = some (0, (J, R)) := by
  unfold f_X7_comesFrom
  simp (disch := omega) only [c_ld7c hR hk, k_ix, nI_1, l_2, nI_add]
  rcases a_crowd (J (83 + 2 * k) p) (J (83 + 2 * k) (p + 1)) (J (83 + 2 * k) (p + 2)) with hx | ⟨a, m, e, h1, h2, h3, ha, hm1, hm, he⟩
  · rw [c_isCrowd0 hx, k_bd, if_pos rfl, e_zb0]
  · have h8 : Q 41 = 8 := by
      rcases h with h | h
      · exfalso
        rw [h1, h2, h3] at h
        have := c_isCrowd0 (fu := 0) (S := (J, R)) h
        rw [c_isCrowd1 ha hm1 hm he] at this
        exact absurd (congrArg (fun o => Option.map Prod.fst o) this) (show ¬ some (1 : Int32) = some 0 by decide)
      · exact h
    rw [h1, h2, h3, c_isCrowd1 ha hm1 hm he, k_bd, if_neg (by decide)]
    simp only [c_ld0 hR]
    rw [c_addCrowd0 hr h8, k_bd, if_pos rfl, e_zb0]
theorem c_from1 {fu k p a m e : Nat} {J : Nat → Nat → Int32} {R : Nat → Nat → Option Nat} {t Q : Nat → Nat} (hR : c_R R t) (hr : h_rep J 1 (fun d => 4 + d) Q) (hq : p_ok 999 Q) (hk : k < 4) (hp : p + 2 < 40) (h1 : J (83 + 2 * k) p = nI a) (h2 : J (83 + 2 * k) (p + 1) = nI m) (h3 : J (83 + 2 * k) (p + 2) = nI e) (ha : a ≤ 99) (hm1 : 1 ≤ m) (hm : m ≤ 9) (he : e ≤ 9) (h8 : Q 41 < 8) : ∃ J', f_X7_comesFrom fu 0 (82 + 2 * k) (nI p) (J, R) = some (1, (J', R)) ∧ h_rep J' 1 (fun d => 4 + d) (p_add Q a m e) ∧ ∀ b, b ≠ 1 → b < 8 ∨ 16 ≤ b → J' b = J b := by
  obtain ⟨J', ec, hr', -, hk'⟩ := c_addCrowd (fu := fu) (a := a) (m := m) (e := e) hR.1 hr hq h8
  refine ⟨J', ?_, hr', fun b x y => hk' b x (by omega)⟩
  unfold f_X7_comesFrom
  simp (disch := omega) only [c_ld7c hR hk, k_ix, nI_1, l_2, nI_add]
  rw [h1, h2, h3, c_isCrowd1 ha hm1 hm he, k_bd, if_neg (by decide)]
  simp only [c_ld0 hR]
  rw [ec, k_bd, if_neg (by decide), e_zb1]
theorem rd_back {X : Nat → Int32} {A z j : Nat} {J : Nat → Nat → Int32} {P : Nat → Nat} (hp : p_ok 999 P) (hg : ∀ i, i < j → q_gd X A P z i) (hr : h_rep J 1 (fun d => 4 + d) (p_rd X A P j)) : h_rep (g_u J 1 3 (nI (P 41))) 1 (fun d => 4 + d) P := by
  obtain ⟨-, q2, q3⟩ := rd_ok hp j hg
  obtain ⟨a1, a2, a3, a4, a5, a6, a7⟩ := hr
  have b16 := hp.1
  have b41 := hp.2.1
  rw [q3 16 (by omega)] at a1 a6
  rw [q3 42 (by omega)] at a3
  rw [q3 43 (by omega)] at a4
  rw [q3 44 (by omega)] at a5
  refine ⟨?_, u_at, ?_, ?_, ?_, fun d hd => ?_, fun i hi => ?_⟩
  · rw [u_nk (by decide)]; exact a1
  · rw [u_nk (by decide)]; exact a3
  · rw [u_nk (by decide)]; exact a4
  · rw [u_nk (by decide)]; exact a5
  · have := a6 d hd
    rw [q3 d (by omega), q3 (4 + d) (by omega), q3 (8 + d) (by omega), q3 (12 + d) (by omega)] at this
    dsimp only at this ⊢
    rw [g_u_ne (by omega)]; exact this
  · have := a7 i (by rw [q2]; omega)
    rw [q3 (17 + i) (Or.inr (Or.inr ⟨i, hi, by omega⟩)), q3 (25 + i) (Or.inr (Or.inr ⟨i, hi, by omega⟩)), q3 (33 + i) (Or.inr (Or.inr ⟨i, hi, by omega⟩))] at this
    rw [g_u_ne (by omega)]; exact this
def c_fx (I J : Nat → Nat → Int32) : Prop := ∀ b, b ≠ 1 → b < 8 ∨ 16 ≤ b → J b = I b
theorem c_read {fu k l z A n : Nat} {I : Nat → Nat → Int32} {R : Nat → Nat → Option Nat} {t P : Nat → Nat} {X : Nat → Int32} (hR : c_R R t) (hr : h_rep I 1 (fun d => 4 + d) P) (hp : p_ok 999 P) (hk : k < 4) (q1 : I (82 + 2 * k) 1 = nI 1) (q2 : I (82 + 2 * k) 2 = nI l) (q3 : I (82 + 2 * k) 3 = nI z) (hz : z ≤ 40) (hX : ∀ i, i < 40 → I (83 + 2 * k) i = X i) (hA : A < z) (hn : n ≤ 13) (hf : 1000 < fu) : ∃ b, g_lp (fun t => b_X7_read_51 fu 0 (nI l) (nI A) (nI n) (82 + 2 * k) (nI (P 41)) t.1 t.2.1 t.2.2) fu (nI 0, nI 0, (I, R)) = some b ∧ ∃ c j J, c_fx I J ∧ rd_out X A P z n c j ∧ ((c = 0 ∧ b = .inl (nI 0, (J, R)) ∧ h_rep J 1 (fun d => 4 + d) (p_rd X A P j)) ∨ (c = 1 ∧ b = .inl (nI 2, (J, R)) ∧ h_rep J 1 (fun d => 4 + d) (p_rd X A P j)) ∨ (c = 2 ∧ b = .inr (-20 - nI j, (J, R)) ∧ h_rep J 1 (fun d => 4 + d) P)) := by
  refine e_lpx (body := fun t => b_X7_read_51 fu 0 (nI l) (nI A) (nI n) (82 + 2 * k) (nI (P 41)) t.1 t.2.1 t.2.2) n
    (fun i s => (∃ J, s = (nI 0, nI i, (J, R)) ∧ (∀ j, j < i → q_gd X A P z j) ∧ h_rep J 1 (fun d => 4 + d) (p_rd X A P i) ∧ c_fx I J) ∨ ∃ j J, s = (nI 2, nI i, (J, R)) ∧ j + 1 = i ∧ (∀ j', j' < j → q_gd X A P z j') ∧ ¬ A + 3 * j + 2 < z ∧ h_rep J 1 (fun d => 4 + d) (p_rd X A P j) ∧ c_fx I J)
    (fun b => ∃ c j J, c_fx I J ∧ rd_out X A P z n c j ∧ ((c = 0 ∧ b = .inl (nI 0, (J, R)) ∧ h_rep J 1 (fun d => 4 + d) (p_rd X A P j)) ∨ (c = 1 ∧ b = .inl (nI 2, (J, R)) ∧ h_rep J 1 (fun d => 4 + d) (p_rd X A P j)) ∨ (c = 2 ∧ b = .inr (-20 - nI j, (J, R)) ∧ h_rep J 1 (fun d => 4 + d) P))) ?_ ?_ 0 fu (nI 0, nI 0, (I, R)) (Nat.zero_le _) (by omega) (Or.inl ⟨I, rfl, fun j hj => absurd hj (Nat.not_lt_zero _), hr, fun _ _ _ => rfl⟩)
  · rintro i s hi (⟨J, rfl, hg, hJ, fJ⟩ | ⟨j, J, rfl, hj, hg, hw, hJ, fJ⟩)
    · have f1 : J (82 + 2 * k) = I (82 + 2 * k) := fJ _ (by omega) (by omega)
      have f2 : J (83 + 2 * k) = I (83 + 2 * k) := fJ _ (by omega) (by omega)
      have e3 := c_f3 (fu := fu) (k := k) (l := l) (z := z) (p := A + 3 * i) (J := J) (R := R) (by rw [f1]; exact q1) (by rw [f1]; exact q2) (by rw [f1]; exact q3) hz (by omega)
      have ex : nI A + (3 : Int32) * nI i = nI (A + 3 * i) := by rw [l_3, pk_mul, nI_add]
      by_cases w : A + 3 * i + 2 < z
      · rw [if_pos w] at e3
        have x0 : J (83 + 2 * k) (A + 3 * i) = X (A + 3 * i) := by rw [f2]; exact hX _ (by omega)
        have x1 : J (83 + 2 * k) (A + 3 * i + 1) = X (A + 3 * i + 1) := by rw [f2]; exact hX _ (by omega)
        have x2 : J (83 + 2 * k) (A + 3 * i + 2) = X (A + 3 * i + 2) := by rw [f2]; exact hX _ (by omega)
        by_cases g : q_gd X A P z i
        · obtain ⟨a, m, e, h1, h2, h3, h4, h5, h6, h7, ep⟩ := rd_step g
          have hok := (rd_ok hp i hg).1
          obtain ⟨J', e4, r4, f4⟩ := c_from1 (fu := fu) hR hJ hok hk (by omega) (x0.trans h1) (x1.trans h2) (x2.trans h3) h4 h5 h6 h7 g.2.2
          refine Or.inl ⟨(nI 0, nI (i + 1), (J', R)), ?_, Or.inl ⟨J', rfl, fun j hj => ?_, by rw [ep]; exact r4, fun b x y => (f4 b x y).trans (fJ b x y)⟩⟩
          · show b_X7_read_51 fu 0 (nI l) (nI A) (nI n) (82 + 2 * k) (nI (P 41)) (nI 0) (nI i) (J, R) = _
            unfold b_X7_read_51 j_X7_read_112_in51
            rw [if_neg (nI_ge hi (by omega)), if_pos (show nI 0 = (0 : Int32) from rfl), ex, e3, k_bd, if_pos (show nI 0 = (0 : Int32) from rfl), e4, k_bd, if_neg (by decide), nI_1]
          · rcases Nat.lt_or_ge j i with q | q
            · exact hg j q
            · rw [show j = i by omega]; exact g
        · have hb : a_noc (J (83 + 2 * k) (A + 3 * i)) (J (83 + 2 * k) (A + 3 * i + 1)) (J (83 + 2 * k) (A + 3 * i + 2)) ∨ p_rd X A P i 41 = 8 := by
            rw [x0, x1, x2]
            by_cases c : a_noc (X (A + 3 * i)) (X (A + 3 * i + 1)) (X (A + 3 * i + 2))
            · exact Or.inl c
            · refine Or.inr ?_
              have h8 := (rd_ok hp i hg).1.2.1
              rcases Nat.lt_or_ge (p_rd X A P i 41) 8 with q | q
              · exact absurd ⟨w, c, q⟩ g
              · omega
          have e4 := c_from0 (fu := fu) hR hJ hk (by omega) hb
          refine Or.inr ⟨.inr (-20 - nI i, (g_u J 1 3 (nI (P 41)), R)), ?_, 2, i, g_u J 1 3 (nI (P 41)), fun b x y => (g_u_ne x).trans (fJ b x y), ⟨hg, Or.inr (Or.inr ⟨rfl, hi, w, g⟩)⟩, Or.inr (Or.inr ⟨rfl, rfl, rd_back hp hg hJ⟩)⟩
          show b_X7_read_51 fu 0 (nI l) (nI A) (nI n) (82 + 2 * k) (nI (P 41)) (nI 0) (nI i) (J, R) = _
          unfold b_X7_read_51
          rw [if_neg (nI_ge hi (by omega)), if_pos (show nI 0 = (0 : Int32) from rfl), ex, e3, k_bd, if_pos (show nI 0 = (0 : Int32) from rfl), e4, k_bd, if_pos (show (0 : Int32) = 0 from rfl)]
          simp only [c_ld0 hR]
      · rw [if_neg w] at e3
        refine Or.inl ⟨(nI 2, nI (i + 1), (J, R)), ?_, Or.inr ⟨i, J, rfl, rfl, hg, w, hJ, fJ⟩⟩
        show b_X7_read_51 fu 0 (nI l) (nI A) (nI n) (82 + 2 * k) (nI (P 41)) (nI 0) (nI i) (J, R) = _
        unfold b_X7_read_51 j_X7_read_112_in51
        rw [if_neg (nI_ge hi (by omega)), if_pos (show nI 0 = (0 : Int32) from rfl), ex, e3, k_bd, if_neg (show ¬ nI 2 = (0 : Int32) by decide), nI_1]
    · refine Or.inr ⟨.inl (nI 2, (J, R)), ?_, 1, j, J, fJ, ⟨hg, Or.inr (Or.inl ⟨rfl, by omega, hw⟩)⟩, Or.inr (Or.inl ⟨rfl, rfl, hJ⟩)⟩
      show b_X7_read_51 fu 0 (nI l) (nI A) (nI n) (82 + 2 * k) (nI (P 41)) (nI 2) (nI i) (J, R) = _
      unfold b_X7_read_51
      rw [if_neg (nI_ge hi (by omega)), if_neg (show ¬ nI 2 = (0 : Int32) by decide)]
  · rintro s (⟨J, rfl, hg, hJ, fJ⟩ | ⟨j, J, rfl, hj, hg, hw, hJ, fJ⟩)
    · refine ⟨.inl (nI 0, (J, R)), ?_, 0, n, J, fJ, ⟨hg, Or.inl ⟨rfl, rfl⟩⟩, Or.inl ⟨rfl, rfl, hJ⟩⟩
      show b_X7_read_51 fu 0 (nI l) (nI A) (nI n) (82 + 2 * k) (nI (P 41)) (nI 0) (nI n) (J, R) = _
      unfold b_X7_read_51
      exact if_pos (nI_le (Nat.le_refl _) (by omega))
    · refine ⟨.inl (nI 2, (J, R)), ?_, 1, j, J, fJ, ⟨hg, Or.inr (Or.inl ⟨rfl, by omega, hw⟩)⟩, Or.inr (Or.inl ⟨rfl, rfl, hJ⟩)⟩
      show b_X7_read_51 fu 0 (nI l) (nI A) (nI n) (82 + 2 * k) (nI (P 41)) (nI 2) (nI n) (J, R) = _
      unfold b_X7_read_51
      exact if_pos (nI_le (Nat.le_refl _) (by omega))
theorem m_inA {fu A i z : Nat} {S : g_St} (hA : A ≤ 100) (hi : i ≤ 100) (hz : z ≤ 100) : f_X8_in fu (Int32.toInt64 (nI A) + Int32.toInt64 (nI i)) 0 (Int32.toInt64 (nI z - 1)) S = some ((if A + i < z then 1 else 0), S) := by
  have e0 : (0 : Int64).toInt = 0 := rfl
  rw [m_in, nI_l (by omega), nI_l (by omega), lN_add, lN_toInt (by omega), m_pred (by omega), e0]
  by_cases c : A + i < z
  · rw [if_pos c, if_pos (by omega)]
  · rw [if_neg c, if_neg (by omega)]
def m_fx (I J : Nat → Nat → Int32) : Prop := (∀ b, b ≠ 1 → J b = I b) ∧ ∀ k, 45 ≤ k → J 1 k = I 1 k
theorem m_read {fu k l z A n : Nat} {I : Nat → Nat → Int32} {R : Nat → Nat → Option Nat} {P : Nat → Nat} {X : Nat → Int32} (hM : m_R R) (hg0 : m_pg I 0 P) (hgA : m_pg I 135 P) (hp : p_ok 999 P) (hk : k < 4) (q2 : I 10 k = nI l) (q3 : I 11 k = nI z) (hl : l ≤ 2) (hz : z ≤ 40) (hX : ∀ i, i < 40 → I 12 (40 * k + i) = X i) (hA : A < z) (hn : n ≤ 13) (hf : 1000 < fu) : ∃ b, g_lp (fun t => b_X8_read_56 fu 0 (nI k) (nI l) (nI A) (nI n) t.1 t.2.1 t.2.2.1 t.2.2.2) fu (nI 0, nI 0, nI 0, (I, R)) = some b ∧ ∃ c j J, m_fx I J ∧ rd_out X A P z n c j ∧ ((c = 0 ∧ b = .inl (nI 0, nI j, (J, R)) ∧ m_pg J 0 (p_rd X A P j)) ∨ (c = 1 ∧ b = .inl (nI 2, nI j, (J, R)) ∧ m_pg J 0 (p_rd X A P j)) ∨ (c = 2 ∧ b = .inr (-20 - nI j, (J, R)) ∧ m_pg J 0 P)) := by
  refine e_lpx (body := fun t => b_X8_read_56 fu 0 (nI k) (nI l) (nI A) (nI n) t.1 t.2.1 t.2.2.1 t.2.2.2) (3 * n)
    (fun i s => (∃ J, s = (nI 0, nI (i / 3), nI i, (J, R)) ∧ (∀ j, j < i / 3 → q_gd X A P z j) ∧ m_pg J 0 (p_rd X A P (i / 3)) ∧ m_fx I J) ∨ ∃ j J, s = (nI 2, nI j, nI i, (J, R)) ∧ j < n ∧ (∀ j', j' < j → q_gd X A P z j') ∧ ¬ A + 3 * j + 2 < z ∧ m_pg J 0 (p_rd X A P j) ∧ m_fx I J)
    (fun b => ∃ c j J, m_fx I J ∧ rd_out X A P z n c j ∧ ((c = 0 ∧ b = .inl (nI 0, nI j, (J, R)) ∧ m_pg J 0 (p_rd X A P j)) ∨ (c = 1 ∧ b = .inl (nI 2, nI j, (J, R)) ∧ m_pg J 0 (p_rd X A P j)) ∨ (c = 2 ∧ b = .inr (-20 - nI j, (J, R)) ∧ m_pg J 0 P))) ?_ ?_ 0 fu (nI 0, nI 0, nI 0, (I, R)) (Nat.zero_le _) (by omega) (Or.inl ⟨I, rfl, fun j hj => absurd hj (Nat.not_lt_zero _), by rw [Nat.zero_div]; exact hg0, fun _ _ => rfl, fun _ _ => rfl⟩)
  · have e3n : (3 : Int32) * nI n = nI (3 * n) := pk_mul 3 n
    rintro i s hi (⟨J, rfl, hg, hJ, fJ⟩ | ⟨j, J, rfl, hj, hg, hw, hJ, fJ⟩)
    · have f10 : J 10 k = nI l := by rw [fJ.1 10 (by decide)]; exact q2
      have f11 : J 11 k = nI z := by rw [fJ.1 11 (by decide)]; exact q3
      have ein := m_inA (fu := fu) (A := A) (i := i) (z := z) (S := (J, R)) (by omega) (by omega) (by omega)
      have head : b_X8_read_56 fu 0 (nI k) (nI l) (nI A) (nI n) (nI 0) (nI (i / 3)) (nI i) (J, R) = if A + i < z then j_X8_read_126_in56 fu 0 (nI k) (nI l) (nI A) (nI n) (nI (i / 3)) (nI i) 0 (J, R) else j_X8_read_126_in56 fu 0 (nI k) (nI l) (nI A) (nI n) (nI (i / 3)) (nI i) 2 (J, R) := by
        unfold b_X8_read_56
        rw [e3n, if_neg (nI_ge hi (by omega)), if_pos (show nI 0 = (0 : Int32) from rfl)]
        simp (disch := omega) only [m_ld23 hM, m_ld24 hM, k_ix, f10, f11]
        rw [if_neg (a_n4 (by omega)), if_pos trivial, ein, k_bd]
        by_cases c : A + i < z
        · rw [if_pos c, if_pos c, if_neg (show ¬ (1 : Int32) = 0 by decide)]
        · rw [if_neg c, if_neg c, if_pos (show (0 : Int32) = 0 from rfl)]
      by_cases c : A + i < z
      · rw [if_pos c] at head
        have hrem : nI i - nI i / (3 : Int32) * (3 : Int32) = nI (i % 3) := pk_rem (d := 3) (by omega) (by omega) (by omega)
        by_cases c2 : i % 3 = 2
        · have hi3 : i = 3 * (i / 3) + 2 := by omega
          generalize hj : i / 3 = j at *
          have w : A + 3 * j + 2 < z := by omega
          have x0 : J 12 (40 * k + A + i - 2) = X (A + 3 * j) := by rw [fJ.1 12 (by decide), show 40 * k + A + i - 2 = 40 * k + (A + 3 * j) by omega]; exact hX _ (by omega)
          have x1 : J 12 (40 * k + A + i - 1) = X (A + 3 * j + 1) := by rw [fJ.1 12 (by decide), show 40 * k + A + i - 1 = 40 * k + (A + 3 * j + 1) by omega]; exact hX _ (by omega)
          have x2 : J 12 (40 * k + A + i) = X (A + 3 * j + 2) := by rw [fJ.1 12 (by decide), show 40 * k + A + i = 40 * k + (A + 3 * j + 2) by omega]; exact hX _ (by omega)
          have mid : j_X8_read_126_in56 fu 0 (nI k) (nI l) (nI A) (nI n) (nI j) (nI i) 0 (J, R) = g_bd (f_X8_comes fu 0 (X (A + 3 * j)) (X (A + 3 * j + 1)) (X (A + 3 * j + 2)) (J, R)) fun r18 Sr18 => if 0 ≤ r18 then some (.inl (nI 0, nI (j + 1), nI (i + 1), Sr18)) else (g_bd (f_X8_copies fu 0 (nI 135) (nI 0) Sr18) fun _ Sr19 => some (.inr (.inr (-20 - nI j, Sr19)))) := by
            unfold j_X8_read_126_in56 j_X8_read_201_in56
            rw [if_pos (show (0 : Int32) = 0 from rfl), e_nz (show ¬ (3 : Int32) = 0 by decide), hrem, c2, if_pos (show nI 2 = (2 : Int32) from rfl)]
            have y0 : ((40 : Int32) * nI k + nI A + nI i) = nI (40 * k + A + i) := by rw [l_40, pk_mul, nI_add, nI_add]
            have y1 : nI (40 * k + A + i) - (1 : Int32) = nI (40 * k + A + i - 1) := pk_sub (b := 1) (by omega)
            have y2 : nI (40 * k + A + i) - (2 : Int32) = nI (40 * k + A + i - 2) := pk_sub (b := 2) (by omega)
            simp (disch := omega) only [m_ld25 hM, y0, y1, y2, k_ix, x0, x1, x2, nI_1]
            rfl
          rw [mid] at head
          by_cases g : q_gd X A P z j
          · obtain ⟨a, m, e, h1, h2, h3, h4, h5, h6, h7, ep⟩ := rd_step g
            have hok := (rd_ok hp j hg).1
            obtain ⟨J', e4, g4, k4, a4⟩ := m_comes1 (fu := fu) hM hJ hok h4 h5 h6 h7 g.2.2
            rw [h1, h2, h3, e4, k_bd, if_pos (nI_pos' (by have := g.2.2; omega))] at head
            refine Or.inl ⟨_, head, Or.inl ⟨J', ?_, fun j' hj' => ?_, ?_, fun b hb => (a4 b hb).trans (fJ.1 b hb), fun q hq => (k4 q hq).trans (fJ.2 q hq)⟩⟩
            · rw [show (i + 1) / 3 = j + 1 by omega]
            · rcases Nat.lt_or_ge j' j with q | q
              · exact hg j' q
              · rw [show j' = j by omega]; exact g
            · rw [show (i + 1) / 3 = j + 1 by omega, ep]; exact g4
          · have hj3 : j < n := by omega
            have hbad : ∃ r, f_X8_comes fu 0 (X (A + 3 * j)) (X (A + 3 * j + 1)) (X (A + 3 * j + 2)) (J, R) = some (r, (J, R)) ∧ ¬ (0 : Int32) ≤ r := by
              rcases a_crowd (X (A + 3 * j)) (X (A + 3 * j + 1)) (X (A + 3 * j + 2)) with c | ⟨a, m, e, h1, h2, h3, h4, h5, h6, h7⟩
              · exact ⟨-1, m_comes0 c, by decide⟩
              · have h8 := (rd_ok hp j hg).1.2.1
                have hnot : ¬ a_noc (X (A + 3 * j)) (X (A + 3 * j + 1)) (X (A + 3 * j + 2)) := fun q => by
                  rw [h1, h2, h3] at q
                  have := c_isCrowd0 (fu := 0) (S := (J, R)) q
                  rw [c_isCrowd1 h4 h5 h6 h7] at this
                  exact absurd (congrArg (fun o => Option.map Prod.fst o) this) (show ¬ some (1 : Int32) = some 0 by decide)
                have e8 : p_rd X A P j 41 = 8 := by
                  rcases Nat.lt_or_ge (p_rd X A P j 41) 8 with q | q
                  · exact absurd ⟨w, hnot, q⟩ g
                  · omega
                rw [h1, h2, h3]
                exact ⟨-3, m_comes3 hM hJ h4 h5 h6 h7 e8, by decide⟩
            obtain ⟨r, e4, hr4⟩ := hbad
            have gA : m_pg J 135 P := fun q hq => by rw [fJ.2 _ (by omega)]; exact hgA q hq
            obtain ⟨J', e5, g5, h5, a5⟩ := m_copies (fu := fu) (p := 135) (q := 0) hM gA (by omega) (by omega) (by omega) (by omega)
            rw [e4, k_bd, if_neg hr4, e5, k_bd] at head
            exact Or.inr ⟨_, head, 2, j, J', ⟨fun b hb => (a5 b hb).trans (fJ.1 b hb), fun q hq => (h5 q (by omega)).trans (fJ.2 q hq)⟩, ⟨hg, Or.inr (Or.inr ⟨rfl, hj3, w, g⟩)⟩, Or.inr (Or.inr ⟨rfl, rfl, g5⟩)⟩
        · have mid : j_X8_read_126_in56 fu 0 (nI k) (nI l) (nI A) (nI n) (nI (i / 3)) (nI i) 0 (J, R) = some (.inl (nI 0, nI (i / 3), nI (i + 1), (J, R))) := by
            unfold j_X8_read_126_in56 j_X8_read_201_in56
            rw [if_pos (show (0 : Int32) = 0 from rfl), e_nz (show ¬ (3 : Int32) = 0 by decide), hrem, if_neg (show ¬ nI (i % 3) = (2 : Int32) from fun q => c2 ((nI_eq (b := 2) (by omega) (by omega)).mp q)), nI_1]
            rfl
          rw [mid] at head
          refine Or.inl ⟨_, head, Or.inl ⟨J, ?_, fun j' hj' => hg j' (by omega), ?_, fJ⟩⟩
          · rw [show (i + 1) / 3 = i / 3 by omega]
          · rw [show (i + 1) / 3 = i / 3 by omega]; exact hJ
      · rw [if_neg c] at head
        have mid : j_X8_read_126_in56 fu 0 (nI k) (nI l) (nI A) (nI n) (nI (i / 3)) (nI i) 2 (J, R) = some (.inl (nI 2, nI (i / 3), nI (i + 1), (J, R))) := by
          unfold j_X8_read_126_in56 j_X8_read_201_in56
          rw [if_neg (show ¬ (2 : Int32) = 0 by decide), nI_1]
          rfl
        rw [mid] at head
        exact Or.inl ⟨_, head, Or.inr ⟨i / 3, J, rfl, by omega, hg, by omega, hJ, fJ⟩⟩
    · refine Or.inr ⟨.inl (nI 2, nI j, (J, R)), ?_, 1, j, J, fJ, ⟨hg, Or.inr (Or.inl ⟨rfl, hj, hw⟩)⟩, Or.inr (Or.inl ⟨rfl, rfl, hJ⟩)⟩
      show b_X8_read_56 fu 0 (nI k) (nI l) (nI A) (nI n) (nI 2) (nI j) (nI i) (J, R) = _
      unfold b_X8_read_56
      rw [e3n, if_neg (nI_ge hi (by omega)), if_neg (show ¬ nI 2 = (0 : Int32) by decide)]
  · have e3n : (3 : Int32) * nI n = nI (3 * n) := pk_mul 3 n
    rintro s (⟨J, rfl, hg, hJ, fJ⟩ | ⟨j, J, rfl, hj, hg, hw, hJ, fJ⟩)
    · have en : 3 * n / 3 = n := by omega
      rw [en] at hg hJ ⊢
      refine ⟨.inl (nI 0, nI n, (J, R)), ?_, 0, n, J, fJ, ⟨hg, Or.inl ⟨rfl, rfl⟩⟩, Or.inl ⟨rfl, rfl, hJ⟩⟩
      show b_X8_read_56 fu 0 (nI k) (nI l) (nI A) (nI n) (nI 0) (nI n) (nI (3 * n)) (J, R) = _
      unfold b_X8_read_56
      rw [e3n]
      exact if_pos (nI_le (Nat.le_refl _) (by omega))
    · refine ⟨.inl (nI 2, nI j, (J, R)), ?_, 1, j, J, fJ, ⟨hg, Or.inr (Or.inl ⟨rfl, hj, hw⟩)⟩, Or.inr (Or.inl ⟨rfl, rfl, hJ⟩)⟩
      show b_X8_read_56 fu 0 (nI k) (nI l) (nI A) (nI n) (nI 2) (nI j) (nI (3 * n)) (J, R) = _
      unfold b_X8_read_56
      rw [e3n]
      exact if_pos (nI_le (Nat.le_refl _) (by omega))
/-- a fault at once -/
theorem c_read0 {fu k l n r : Nat} {x v6 : Int32} {I : Nat → Nat → Int32} {R : Nat → Nat → Option Nat} (h : f_X4_faultInThree fu (82 + 2 * k) (nI l) x (I, R) = some (nI r, (I, R))) (hr : 1 ≤ r) (hr3 : r ≤ 3) (hn : n ≤ 13) (hf : 1000 < fu) : g_lp (fun t => b_X7_read_51 fu 0 (nI l) x (nI n) (82 + 2 * k) v6 t.1 t.2.1 t.2.2) fu (nI 0, nI 0, (I, R)) = some (.inl (nI (if n = 0 then 0 else r), (I, R))) := by
  by_cases c : n = 0
  · rw [if_pos c]
    subst c
    obtain ⟨b, e, rfl⟩ := e_lp (body := fun t => b_X7_read_51 fu 0 (nI l) x (nI 0) (82 + 2 * k) v6 t.1 t.2.1 t.2.2) 0 (fun _ s => s = (nI 0, nI 0, (I, R))) (fun b => b = .inl (nI 0, (I, R))) (fun i s hi => absurd hi (Nat.not_lt_zero _)) (by
      rintro s rfl
      exact ⟨_, if_pos (show nI 0 ≤ nI 0 by decide), rfl⟩) 0 fu (nI 0, nI 0, (I, R)) (Nat.zero_le _) (by omega) rfl
    exact e
  · rw [if_neg c]
    have hr0 : ¬ nI r = (0 : Int32) := nI_ne0 (by omega) (by omega)
    obtain ⟨b, e, rfl⟩ := e_lp (body := fun t => b_X7_read_51 fu 0 (nI l) x (nI n) (82 + 2 * k) v6 t.1 t.2.1 t.2.2) 1 (fun i s => (i = 0 ∧ s = (nI 0, nI 0, (I, R))) ∨ (i = 1 ∧ s = (nI r, nI 1, (I, R)))) (fun b => b = .inl (nI r, (I, R))) (by
      rintro i s hi (⟨rfl, rfl⟩ | ⟨rfl, rfl⟩)
      · refine ⟨(nI r, nI 1, (I, R)), ?_, Or.inr ⟨rfl, rfl⟩⟩
        show b_X7_read_51 fu 0 (nI l) x (nI n) (82 + 2 * k) v6 (nI 0) (nI 0) (I, R) = _
        unfold b_X7_read_51 j_X7_read_112_in51
        rw [if_neg (nI_ge (by omega) (by omega)), if_pos (show nI 0 = (0 : Int32) from rfl), show x + (3 : Int32) * nI 0 = x by rw [show (3 : Int32) * nI 0 = 0 from rfl, Int32.add_zero], h, k_bd, if_neg hr0]
        rfl
      · omega) (by
      rintro s (⟨q, rfl⟩ | ⟨-, rfl⟩)
      · omega
      · refine ⟨_, ?_, rfl⟩
        show b_X7_read_51 fu 0 (nI l) x (nI n) (82 + 2 * k) v6 (nI r) (nI 1) (I, R) = _
        unfold b_X7_read_51
        rw [if_neg hr0, ite_self]) 0 fu (nI 0, nI 0, (I, R)) (Nat.zero_le _) (by omega) (Or.inl ⟨rfl, rfl⟩)
    exact e
theorem m_read0 {fu k l n r : Nat} {x : Int32} {I : Nat → Nat → Int32} {R : Nat → Nat → Option Nat} (h : ∀ n', 0 < n' → n' ≤ 13 → b_X8_read_56 fu 0 (nI k) (nI l) x (nI n') (nI 0) (nI 0) (nI 0) (I, R) = some (.inl (nI r, nI 0, nI 1, (I, R)))) (hr : 1 ≤ r) (hr3 : r ≤ 3) (hn : n ≤ 13) (hf : 1000 < fu) : g_lp (fun t => b_X8_read_56 fu 0 (nI k) (nI l) x (nI n) t.1 t.2.1 t.2.2.1 t.2.2.2) fu (nI 0, nI 0, nI 0, (I, R)) = some (.inl (nI (if n = 0 then 0 else r), nI 0, (I, R))) := by
  have e3n : (3 : Int32) * nI n = nI (3 * n) := pk_mul 3 n
  by_cases c : n = 0
  · rw [if_pos c]
    subst c
    obtain ⟨b, e, rfl⟩ := e_lp (body := fun t => b_X8_read_56 fu 0 (nI k) (nI l) x (nI 0) t.1 t.2.1 t.2.2.1 t.2.2.2) 0 (fun _ s => s = (nI 0, nI 0, nI 0, (I, R))) (fun b => b = .inl (nI 0, nI 0, (I, R))) (fun i s hi => absurd hi (Nat.not_lt_zero _)) (by
      rintro s rfl
      exact ⟨_, if_pos (show (3 : Int32) * nI 0 ≤ nI 0 by decide), rfl⟩) 0 fu (nI 0, nI 0, nI 0, (I, R)) (Nat.zero_le _) (by omega) rfl
    exact e
  · rw [if_neg c]
    have hr0 : ¬ nI r = (0 : Int32) := nI_ne0 (by omega) (by omega)
    obtain ⟨b, e, rfl⟩ := e_lp (body := fun t => b_X8_read_56 fu 0 (nI k) (nI l) x (nI n) t.1 t.2.1 t.2.2.1 t.2.2.2) 1 (fun i s => (i = 0 ∧ s = (nI 0, nI 0, nI 0, (I, R))) ∨ (i = 1 ∧ s = (nI r, nI 0, nI 1, (I, R)))) (fun b => b = .inl (nI r, nI 0, (I, R))) (by
      rintro i s hi (⟨rfl, rfl⟩ | ⟨rfl, rfl⟩)
      · exact ⟨(nI r, nI 0, nI 1, (I, R)), h n (by omega) hn, Or.inr ⟨rfl, rfl⟩⟩
      · omega) (by
      rintro s (⟨q, rfl⟩ | ⟨-, rfl⟩)
      · omega
      · refine ⟨_, ?_, rfl⟩
        show b_X8_read_56 fu 0 (nI k) (nI l) x (nI n) (nI r) (nI 0) (nI 1) (I, R) = _
        unfold b_X8_read_56
        rw [if_neg hr0, ite_self]) 0 fu (nI 0, nI 0, nI 0, (I, R)) (Nat.zero_le _) (by omega) (Or.inl ⟨rfl, rfl⟩)
    exact e
theorem o_read {fu : Nat} {I Im : Nat → Nat → Int32} {R Rm : Nat → Nat → Option Nat} {t P Q0 Q1 : Nat → Nat} (h : r_all I R Im Rm t P Q0 Q1) (hf : 1000 < fu) (x y f z : Int32) : ∃ r Sc1 Sm1, f_X7_read fu 0 x y f z (I, R) = some (r, Sc1) ∧ f_X8_read fu 0 x y f z (Im, Rm) = some (r, Sm1) ∧ r_Rel Sc1 Sm1 := by
  obtain ⟨hR, hM, ⟨hr, hg, hp, ho⟩, -, -, -, h7, -⟩ := id h
  have b41 := hp.2.1
  unfold f_X7_read f_X8_read
  rcases a_cases x (n := 4) (by omega) with hx | ⟨k, hk, rfl⟩
  · exact ⟨-1, (I, R), (Im, Rm), by rw [c_isSheet0 hx, k_bd, if_pos rfl], by rw [m_in0 (c := 3) (n := 3) hx rfl (by omega), k_bd, if_pos rfl], r_same h⟩
  rw [c_isSheet1 hk, m_in1 (c := 3) (n := 3) (by omega) rfl (by omega), k_bd, k_bd, if_neg (show ¬ (1 : Int32) = 0 by decide), if_neg (show ¬ (1 : Int32) = 0 by decide)]
  rcases a_cases y (n := 3) (by omega) with hx | ⟨l, hl, rfl⟩
  · exact ⟨-1, (I, R), (Im, Rm), by rw [c_isLane0 hx, k_bd, if_pos rfl], by rw [m_in0 (c := 2) (n := 2) hx rfl (by omega), k_bd, if_pos rfl], r_same h⟩
  rw [c_isLane1 hl, m_in1 (c := 2) (n := 2) (by omega) rfl (by omega), k_bd, k_bd, if_neg (show ¬ (1 : Int32) = 0 by decide), if_neg (show ¬ (1 : Int32) = 0 by decide)]
  rcases a_cases z (n := 14) (by omega) with hx | ⟨n, hn, rfl⟩
  · exact ⟨-1, (I, R), (Im, Rm), a_if2 (n := 13) hx rfl (by omega), by rw [m_in0 (c := 13) (n := 13) hx rfl (by omega), k_bd, if_pos rfl], r_same h⟩
  rw [if_neg (nI_pos (by omega)), if_pos (show nI n ≤ (13 : Int32) from nI_le (b := 13) (by omega) (by omega)), m_in1 (c := 13) (n := 13) (by omega) rfl (by omega), k_bd, if_neg (show ¬ (1 : Int32) = 0 by decide)]
  obtain ⟨Im1, e1, g1, h1, a1⟩ := m_copies (fu := fu) (p := 0) (q := 135) hM hg (by omega) (by omega) (by omega) (by omega)
  have e1' : f_X8_copies fu 0 0 135 (Im, Rm) = _ := e1
  have f1 : m_fr Im Im1 := ⟨fun q _ => by rw [a1 0 (by decide)], fun q hq => h1 q (by omega), fun b _ hb _ _ => a1 b hb⟩
  have hg1 : m_pg Im1 0 P := m_fr_pg f1 hg
  have c41 : I 1 3 = nI (P 41) := hr.2.1
  have c7 := fun {β : Type} {κ : Nat → Option β} => c_ld7 (β := β) (v := k) hR hk (k := κ)
  rw [e1', k_bd]
  simp only [c7, c_ld0 hR, c41]
  -- a fault at once
  have fault : ∀ r, 1 ≤ r → r ≤ 3 → f_X4_faultInThree fu (82 + 2 * k) (nI l) f (I, R) = some (nI r, (I, R)) → (∀ n', 0 < n' → n' ≤ 13 → b_X8_read_56 fu 0 (nI k) (nI l) f (nI n') (nI 0) (nI 0) (nI 0) (Im1, Rm) = some (.inl (nI r, nI 0, nI 1, (Im1, Rm)))) → ∃ r Sc1 Sm1, (g_th (g_lp (fun t => b_X7_read_51 fu 0 (nI l) f (nI n) (82 + 2 * k) (nI (P 41)) t.1 t.2.1 t.2.2) fu (0, 0, (I, R))) fun e => match e with | .inl (w7_1, S1) => (g_ld g_KC 90 g_kX2 (S1.2 0 0) fun a9 => some ((((g_u S1.1 0 10 w7_1) a9 3) - nI (P 41)), (g_u S1.1 0 10 w7_1, S1.2))) | .inr q => some q) = some (r, Sc1) ∧ (g_th (g_lp (fun t => b_X8_read_56 fu 0 (nI k) (nI l) f (nI n) t.1 t.2.1 t.2.2.1 t.2.2.2) fu (0, 0, 0, (Im1, Rm))) fun e => match e with | .inl (w5_1, w6_1, S1) => (some (w6_1, (g_u S1.1 0 26 w5_1, S1.2))) | .inr q => some q) = some (r, Sm1) ∧ r_Rel Sc1 Sm1 := by
    intro r r1 r3 hc hm
    refine ⟨nI 0, (g_u I 0 10 (nI (if n = 0 then 0 else r)), R), (g_u Im1 0 26 (nI (if n = 0 then 0 else r)), Rm), ?_, ?_, r_torn (r_frm h hR c_fr_refl f1)⟩
    · refine (e_th (c_read0 hc r1 r3 (by omega) hf)).trans ?_
      dsimp only
      rw [c_ld0 hR, u_ni (by decide), c41, pk_sub (Nat.le_refl _), Nat.sub_self]
    · exact (e_th (m_read0 hm r1 r3 (by omega) hf)).trans rfl
  have i3n : ∀ n', 0 < n' → n' ≤ 13 → ¬ (3 : Int32) * nI n' ≤ nI 0 := fun n' h0 h1 => by
    rw [show (3 : Int32) * nI n' = nI (3 * n') from pk_mul 3 n']
    exact nI_ge (by omega) (by omega)
  rcases h7 k hk with ⟨s1, s2⟩ | ⟨l', sz, hl', hz, s1, s2, s3, s4, s5, s6⟩
  · refine fault 1 (by omega) (by omega) ?_ (fun n' n0 n1 => ?_)
    · unfold f_X4_faultInThree j_X4_faultInThree_17 f_X4_faultAt
      show (if I (82 + 2 * k) 1 = 0 then g_bd (if I (82 + 2 * k) 1 = 0 then _ else _) _ else _) = _
      rw [s1, if_pos (show nI 0 = (0 : Int32) from rfl), if_pos (show nI 0 = (0 : Int32) from rfl), k_bd, if_neg (show ¬ (1 : Int32) = 0 by decide)]
      rfl
    · have s2' : Im1 10 k = -4 := by rw [a1 10 (by decide)]; exact s2
      unfold b_X8_read_56
      rw [if_neg (i3n n' n0 n1), if_pos (show nI 0 = (0 : Int32) from rfl)]
      simp (disch := omega) only [m_ld23 hM, k_ix, s2']
      rw [if_pos trivial]
      unfold j_X8_read_126_in56 j_X8_read_201_in56
      rw [if_neg (show ¬ (1 : Int32) = 0 by decide)]
      rfl
  have s3' : Im1 10 k = nI l' := by rw [a1 10 (by decide)]; exact s3
  have s5' : Im1 11 k = nI sz := by rw [a1 11 (by decide)]; exact s5
  by_cases cl : l' = l
  · subst cl
    rcases a_cases f (n := sz) (by omega) with hx | ⟨A, hA, rfl⟩
    · refine fault 2 (by omega) (by omega) ?_ (fun n' n0 n1 => ?_)
      · have ef : f_X4_faultAt fu (82 + 2 * k) f (I, R) = some (2, (I, R)) := by
          unfold f_X4_faultAt j_X4_faultAt_21
          show (if I (82 + 2 * k) 1 = 0 then _ else if f < 0 then _ else if f < I (82 + 2 * k) 3 then _ else _) = _
          rw [s1, s4, if_neg (show ¬ nI 1 = (0 : Int32) by decide)]
          exact a_if4 hx rfl (by omega)
        unfold f_X4_faultInThree j_X4_faultInThree_17
        show (if I (82 + 2 * k) 1 = 0 then _ else if I (82 + 2 * k) 2 = nI l' then _ else _) = _
        rw [s1, s2, if_neg (show ¬ nI 1 = (0 : Int32) by decide), if_pos rfl, ef, k_bd, if_neg (show ¬ (2 : Int32) = 0 by decide)]
        rfl
      · have ein : f_X8_in fu (Int32.toInt64 f + Int32.toInt64 (nI 0)) 0 (Int32.toInt64 (nI sz - 1)) (Im1, Rm) = some (0, (Im1, Rm)) := by
          rw [show Int32.toInt64 (nI 0) = 0 from rfl, Int64.add_zero]
          exact m_inp0 hx (by omega)
        unfold b_X8_read_56
        rw [if_neg (i3n n' n0 n1), if_pos (show nI 0 = (0 : Int32) from rfl)]
        simp (disch := omega) only [m_ld23 hM, m_ld24 hM, k_ix, s3', s5']
        rw [if_neg (a_n4 (by omega)), if_pos trivial, ein, k_bd, if_pos (show (0 : Int32) = 0 from rfl)]
        unfold j_X8_read_126_in56 j_X8_read_201_in56
        rw [if_neg (show ¬ (2 : Int32) = 0 by decide)]
        rfl
    · obtain ⟨bc, ec, c, j, J, fJ, oc, hc⟩ := c_read (fu := fu) (k := k) (l := l') (z := sz) (A := A) (n := n) (X := fun i => I (83 + 2 * k) i) hR hr hp hk s1 s2 s4 hz (fun _ _ => rfl) hA (by omega) hf
      obtain ⟨bm, em, c', j', Jm, fM, om, hm⟩ := m_read (fu := fu) (k := k) (l := l') (z := sz) (A := A) (n := n) (X := fun i => I (83 + 2 * k) i) hM hg1 g1 hp hk s3' s5' hl' hz (fun i hi => by rw [a1 12 (by decide)]; exact (s6 i hi).symm) hA (by omega) hf
      obtain ⟨e1, e2⟩ := rd_uniq oc om
      subst e1 e2
      have ok := rd_ok hp j' oc.1
      have cfn : c_fn I J := fun a ha => fJ a (by omega) (by omega)
      have mfn : m_fn Im Jm := ⟨fun q _ => by rw [fM.1 0 (by decide), a1 0 (by decide)], fun q q1 q2 => by rw [fM.2 q q1, h1 q (by omega)], fun b _ hb _ _ => by rw [fM.1 b hb, a1 b hb]⟩
      have op : ∀ d, d < 4 → J (4 + d) 5 = nI 0 := fun d hd => by rw [fJ (4 + d) (by omega) (by omega)]; exact ho d hd
      have fin : ∀ r, bc = .inl (nI r, (J, R)) → h_rep J 1 (fun d => 4 + d) (p_rd (fun i => I (83 + 2 * k) i) A P j') → bm = .inl (nI r, nI j', (Jm, Rm)) → m_pg Jm 0 (p_rd (fun i => I (83 + 2 * k) i) A P j') → ∃ r Sc1 Sm1, (g_th (g_lp (fun t => b_X7_read_51 fu 0 (nI l') (nI A) (nI n) (82 + 2 * k) (nI (P 41)) t.1 t.2.1 t.2.2) fu (0, 0, (I, R))) fun e => match e with | .inl (w7_1, S1) => (g_ld g_KC 90 g_kX2 (S1.2 0 0) fun a9 => some ((((g_u S1.1 0 10 w7_1) a9 3) - nI (P 41)), (g_u S1.1 0 10 w7_1, S1.2))) | .inr q => some q) = some (r, Sc1) ∧ (g_th (g_lp (fun t => b_X8_read_56 fu 0 (nI k) (nI l') (nI A) (nI n) t.1 t.2.1 t.2.2.1 t.2.2.2) fu (0, 0, 0, (Im1, Rm))) fun e => match e with | .inl (w5_1, w6_1, S1) => (some (w6_1, (g_u S1.1 0 26 w5_1, S1.2))) | .inr q => some q) = some (r, Sm1) ∧ r_Rel Sc1 Sm1 := by
        rintro r rfl hJ rfl hJm
        refine ⟨nI j', (g_u J 0 10 (nI r), R), (g_u Jm 0 26 (nI r), Rm), ?_, ?_, r_torn (r_new h hR ⟨hJ, hJm, ok.1, op⟩ cfn mfn)⟩
        · refine (e_th ec).trans ?_
          dsimp only
          rw [c_ld0 hR, u_ni (by decide), hJ.2.1, ok.2.1, pk_sub (by omega), Nat.add_sub_cancel_left]
        · exact (e_th em).trans rfl
      rcases hc with ⟨rfl, y1, y2⟩ | ⟨rfl, y1, y2⟩ | ⟨rfl, y1, y2⟩
      · rcases hm with ⟨x, z1, z2⟩ | ⟨x, z1, z2⟩ | ⟨x, z1, z2⟩
        · exact fin 0 y1 y2 z1 z2
        · omega
        · omega
      · rcases hm with ⟨x, z1, z2⟩ | ⟨x, z1, z2⟩ | ⟨x, z1, z2⟩
        · omega
        · exact fin 2 y1 y2 z1 z2
        · omega
      · rcases hm with ⟨x, z1, z2⟩ | ⟨x, z1, z2⟩ | ⟨x, z1, z2⟩
        · omega
        · omega
        · subst y1 z1
          exact ⟨-20 - nI j', (J, R), (Jm, Rm), (e_th ec).trans rfl, (e_th em).trans rfl, r_newR h hR ⟨y2, z2, hp, op⟩ cfn mfn⟩
  · refine fault 3 (by omega) (by omega) ?_ (fun n' n0 n1 => ?_)
    · unfold f_X4_faultInThree
      show (if I (82 + 2 * k) 1 = 0 then _ else if I (82 + 2 * k) 2 = nI l then _ else _) = _
      rw [s1, s2, if_neg (show ¬ nI 1 = (0 : Int32) by decide), if_neg (fun q => cl ((nI_eq (by omega) (by omega)).mp q))]
      rfl
    · unfold b_X8_read_56
      rw [if_neg (i3n n' n0 n1), if_pos (show nI 0 = (0 : Int32) from rfl)]
      simp (disch := omega) only [m_ld23 hM, m_ld24 hM, k_ix, s3']
      rw [if_neg (a_n4 (by omega)), if_neg (fun q => cl ((nI_eq (by omega) (by omega)).mp q))]
      unfold j_X8_read_126_in56 j_X8_read_201_in56
      rw [if_neg (show ¬ (3 : Int32) = 0 by decide)]
      rfl
