/-! ===== the other pieces of the relation, kept ===== -/
theorem r_tape_fr {I I' Im Im' : Nat → Nat → Int32} (h : r_tape I Im) (h1 : I' 33 1 = I 33 1) (h2 : I' 34 = I 34) (h3 : Im' 0 3 = Im 0 3) (h4 : Im' 3 = Im 3) : r_tape I' Im' := by
  obtain ⟨L, a, b, c, d⟩ := h
  exact ⟨L, a, by rw [h1]; exact b, by rw [h3]; exact c, fun i hi => by rw [h2, h4]; exact d i hi⟩
theorem r_seen_fr {I I' Im Im' : Nat → Nat → Int32} (h : r_seen I Im) (h1 : I' 36 2 = I 36 2) (h2 : I' 37 = I 37) (h3 : I' 38 = I 38) (h4 : Im' 0 20 = Im 0 20) (h5 : Im' 7 = Im 7) : r_seen I' Im' := by
  obtain ⟨s, a, b, c, d⟩ := h
  exact ⟨s, a, by rw [h1]; exact b, by rw [h4]; exact c, fun i hi => by rw [h2, h3, h5]; exact d i hi⟩
theorem r_sheet_fr {I I' Im Im' : Nat → Nat → Int32} (h : r_sheet I Im) (h1 : ∀ a, 82 ≤ a → I' a = I a) (h2 : ∀ a, 10 ≤ a → a ≤ 12 → Im' a = Im a) : r_sheet I' Im' := by
  intro k hk
  rw [h1 (82 + 2 * k) (by omega), h1 (83 + 2 * k) (by omega), h2 10 (by omega) (by omega), h2 11 (by omega) (by omega), h2 12 (by omega) (by omega)]
  exact h k hk
theorem r_rest_fr {I I' Im Im' : Nat → Nat → Int32} (h : r_rest I Im) (h1 : I' 35 2 = I 35 2) (h2 : I' 0 10 = I 0 10) (h3 : Im' 0 4 = Im 0 4) (h4 : Im' 0 26 = Im 0 26) (h5 : Im' 0 13 = Im 0 13) (h6 : Im' 4 = Im 4) (h7 : Im' 5 = Im 5) : r_rest I' Im' := by
  obtain ⟨a, b, c, d, e⟩ := h
  exact ⟨by rw [h1, h3]; exact a, by rw [h2, h4]; exact b, by rw [h5]; exact c, by rw [h6]; exact d, by rw [h7]; exact e⟩
theorem a_byte : ∀ j, j < 128 → (Int32.toInt8 (nI j)).toInt32 = nI j := by decide +kernel
theorem o_feed {fu : Nat} {I Im : Nat → Nat → Int32} {R Rm : Nat → Nat → Option Nat} {t P Q0 Q1 : Nat → Nat} (h : r_all I R Im Rm t P Q0 Q1) (x : Int32) : ∃ r Sc1 Sm1, f_X7_feed fu 0 x (I, R) = some (r, Sc1) ∧ f_X8_feed fu 0 x (Im, Rm) = some (r, Sm1) ∧ r_Rel Sc1 Sm1 := by
  obtain ⟨hR, hM, h3, h4, ⟨L, lL, cL, mL, hb⟩, h6, h7, h8⟩ := id h
  unfold f_X7_feed f_X8_feed
  rcases a_cases x (n := 128) (by omega) with hx | ⟨c, hc, rfl⟩
  · exact ⟨-1, (I, R), (Im, Rm), a_if2 (n := 127) hx rfl (by omega), by rw [m_in0 (c := 127) (n := 127) hx rfl (by omega), k_bd, if_pos rfl], r_same h⟩
  rw [if_neg (nI_pos (by omega)), if_pos (show nI c ≤ (127 : Int32) from nI_le (b := 127) (by omega) (by omega)), m_in1 (c := 127) (n := 127) (by omega) rfl (by omega), k_bd, if_neg (show ¬ (1 : Int32) = 0 by decide)]
  unfold f_X5_append
  simp (disch := omega) only [c_ld4 hR, c_ld40 hR, cL, mL, l_160, k_ix, nI_ltI, nI_eq, m_ld2 hM]
  by_cases hl : L = 160
  · refine ⟨-3, (I, R), (Im, Rm), ?_, if_pos hl, r_same h⟩
    rw [if_neg (by omega), e_zb0, k_bd, if_pos rfl]
  · have x1 : ∀ v, (g_u I 34 L v) 33 1 = nI L := fun v => by rw [u_ni (by decide)]; exact cL
    have x2 : ∀ v, (g_u Im 3 L v) 0 3 = nI L := fun v => by rw [u_ni (by decide)]; exact mL
    refine ⟨nI (L + 1), (g_u (g_u I 34 L (nI c)) 33 1 (nI (L + 1)), R), (g_u (g_u Im 3 L (nI c)) 0 3 (nI (L + 1)), Rm), ?_, ?_, r_same (t := t) (P := P) (Q0 := Q0) (Q1 := Q1) ⟨hR, hM, r_now_fr h3 (fun a h1 h2 => by rw [g_u_ne (by omega), g_u_ne (by omega)]) (fun k hk => by rw [g_u_ne (by decide), g_u_ne (by decide)]), r_img_fr h4 (fun a h1 h2 => by rw [g_u_ne (by omega), g_u_ne (by omega)]) (by rw [g_u_ne (by decide), g_u_ne (by decide)]) (fun k _ _ => by rw [g_u_ne (by decide), g_u_ne (by decide)]) (by rw [g_u_ne (by decide), g_u_ne (by decide)]), ⟨L + 1, by omega, u_at, u_at, fun i hi => ?_⟩, r_seen_fr h6 (by rw [g_u_ne (by decide), g_u_ne (by decide)]) (by rw [g_u_ne (by decide), g_u_ne (by decide)]) (by rw [g_u_ne (by decide), g_u_ne (by decide)]) (by rw [u_nk (by decide), u_ni (by decide)]) (by rw [g_u_ne (by decide), g_u_ne (by decide)]), r_sheet_fr h7 (fun a h1 => by rw [g_u_ne (by omega), g_u_ne (by omega)]) (fun a h1 h2 => by rw [g_u_ne (by omega), g_u_ne (by omega)]), r_rest_fr h8 (by rw [g_u_ne (by decide), g_u_ne (by decide)]) (by rw [g_u_ne (by decide), g_u_ne (by decide)]) (by rw [u_nk (by decide), u_ni (by decide)]) (by rw [u_nk (by decide), u_ni (by decide)]) (by rw [u_nk (by decide), u_ni (by decide)]) (by rw [g_u_ne (by decide), g_u_ne (by decide)]) (by rw [g_u_ne (by decide), g_u_ne (by decide)])⟩⟩
    · rw [if_pos (by omega), pk_vb, a_byte c hc, x1, e_zb1, k_bd, if_neg (show ¬ (1 : Int32) = 0 by decide), nI_1]
      simp only [c_ld4 hR, u_at]
    · rw [if_neg hl]
      simp only [x2, nI_1, u_at]
    · show ∃ q, q ≤ 127 ∧ (g_u (g_u I 34 L (nI c)) 33 1 (nI (L + 1))) 34 i = nI q ∧ (g_u (g_u Im 3 L (nI c)) 0 3 (nI (L + 1))) 3 i = nI q
      rw [u_ni (show (34 : Nat) ≠ 33 by decide), u_ni (show (3 : Nat) ≠ 0 by decide)]
      by_cases ci : i = L
      · subst ci
        exact ⟨c, by omega, u_at, u_at⟩
      · rw [u_nk ci, u_nk ci]; exact hb i (by omega)
theorem o_end {fu : Nat} {I Im : Nat → Nat → Int32} {R Rm : Nat → Nat → Option Nat} {t P Q0 Q1 : Nat → Nat} (h : r_all I R Im Rm t P Q0 Q1) (x : Int32) : ∃ r Sc1 Sm1, f_X7_end fu 0 x (I, R) = some (r, Sc1) ∧ f_X8_end fu 0 x (Im, Rm) = some (r, Sm1) ∧ r_Rel Sc1 Sm1 := by
  obtain ⟨hR, hM, h3, h4, ⟨L, lL, cL, mL, hb⟩, h6, h7, h8⟩ := id h
  unfold f_X7_end f_X8_end
  simp only [c_ld4 hR, cL, mL]
  rcases a_cases x (n := L + 1) (by omega) with hx | ⟨c, hc, rfl⟩
  · exact ⟨-1, (I, R), (Im, Rm), a_if2 (n := L) hx rfl (by omega), by rw [m_inn0 hx (by omega), k_bd, if_pos rfl], r_same h⟩
  refine ⟨nI L, (g_u I 33 1 (nI c), R), (g_u Im 0 3 (nI c), Rm), ?_, ?_, r_same (t := t) (P := P) (Q0 := Q0) (Q1 := Q1) ⟨hR, hM, r_now_fr h3 (fun a h1 h2 => by rw [g_u_ne (by omega)]) (fun k hk => by rw [g_u_ne (by decide)]), r_img_fr h4 (fun a h1 h2 => by rw [g_u_ne (by omega)]) (by rw [g_u_ne (by decide)]) (fun k _ _ => by rw [g_u_ne (by decide)]) (by rw [g_u_ne (by decide)]), ⟨c, by omega, u_at, u_at, fun i hi => ?_⟩, r_seen_fr h6 (by rw [g_u_ne (by decide)]) (by rw [g_u_ne (by decide)]) (by rw [g_u_ne (by decide)]) (by rw [u_nk (by decide)]) (by rw [g_u_ne (by decide)]), r_sheet_fr h7 (fun a h1 => by rw [g_u_ne (by omega)]) (fun a h1 h2 => by rw [g_u_ne (by omega)]), r_rest_fr h8 (by rw [g_u_ne (by decide)]) (by rw [g_u_ne (by decide)]) (by rw [u_nk (by decide)]) (by rw [u_nk (by decide)]) (by rw [u_nk (by decide)]) (by rw [g_u_ne (by decide)]) (by rw [g_u_ne (by decide)])⟩⟩
  · rw [if_neg (nI_pos (by omega)), if_pos (nI_le (by omega) (by omega))]
  · rw [m_inn1 (by omega) (by omega), k_bd, if_neg (show ¬ (1 : Int32) = 0 by decide)]
    dsimp only
    rw [mL]
  · show ∃ q, q ≤ 127 ∧ (g_u I 33 1 (nI c)) 34 i = nI q ∧ (g_u Im 0 3 (nI c)) 3 i = nI q
    rw [u_ni (by decide), u_ni (by decide)]; exact hb i (by omega)
theorem o_forget {fu : Nat} {I Im : Nat → Nat → Int32} {R Rm : Nat → Nat → Option Nat} {t P Q0 Q1 : Nat → Nat} (h : r_all I R Im Rm t P Q0 Q1) (x : Int32) : ∃ r Sc1 Sm1, f_X7_forget fu 0 x (I, R) = some (r, Sc1) ∧ f_X8_forget fu 0 x (Im, Rm) = some (r, Sm1) ∧ r_Rel Sc1 Sm1 := by
  obtain ⟨hR, hM, h3, h4, h5, ⟨L, lL, cL, mL, hb⟩, h7, h8⟩ := id h
  unfold f_X7_forget f_X8_forget
  simp only [c_ld6 hR, cL, mL]
  rcases a_cases x (n := L + 1) (by omega) with hx | ⟨c, hc, rfl⟩
  · exact ⟨-1, (I, R), (Im, Rm), a_if2 (n := L) hx rfl (by omega), by rw [m_inn0 hx (by omega), k_bd, if_pos rfl], r_same h⟩
  refine ⟨nI L, (g_u I 36 2 (nI c), R), (g_u Im 0 20 (nI c), Rm), ?_, ?_, r_same (t := t) (P := P) (Q0 := Q0) (Q1 := Q1) ⟨hR, hM, r_now_fr h3 (fun a h1 h2 => by rw [g_u_ne (by omega)]) (fun k hk => by rw [g_u_ne (by decide)]), r_img_fr h4 (fun a h1 h2 => by rw [g_u_ne (by omega)]) (by rw [g_u_ne (by decide)]) (fun k _ _ => by rw [g_u_ne (by decide)]) (by rw [g_u_ne (by decide)]), r_tape_fr h5 (by rw [g_u_ne (by decide)]) (by rw [g_u_ne (by decide)]) (by rw [u_nk (by decide)]) (by rw [g_u_ne (by decide)]), ⟨c, by omega, u_at, u_at, fun i hi => ?_⟩, r_sheet_fr h7 (fun a h1 => by rw [g_u_ne (by omega)]) (fun a h1 h2 => by rw [g_u_ne (by omega)]), r_rest_fr h8 (by rw [g_u_ne (by decide)]) (by rw [g_u_ne (by decide)]) (by rw [u_nk (by decide)]) (by rw [u_nk (by decide)]) (by rw [u_nk (by decide)]) (by rw [g_u_ne (by decide)]) (by rw [g_u_ne (by decide)])⟩⟩
  · rw [if_neg (nI_pos (by omega)), if_pos (nI_le (by omega) (by omega))]
  · rw [m_inn1 (by omega) (by omega), k_bd, if_neg (show ¬ (1 : Int32) = 0 by decide)]
    dsimp only
    rw [mL]
  · show ∃ n v, n ≤ 40 ∧ v ≤ 72 ∧ (g_u I 36 2 (nI c)) 37 i = nI n ∧ (g_u Im 0 20 (nI c)) 7 (2 * i) = nI n ∧ (g_u I 36 2 (nI c)) 38 i = nI v ∧ (g_u Im 0 20 (nI c)) 7 (2 * i + 1) = nI v
    rw [u_ni (by decide), u_ni (by decide), u_ni (by decide), u_ni (by decide)]; exact hb i (by omega)
theorem o_see {fu : Nat} {I Im : Nat → Nat → Int32} {R Rm : Nat → Nat → Option Nat} {t P Q0 Q1 : Nat → Nat} (h : r_all I R Im Rm t P Q0 Q1) (x y : Int32) : ∃ r Sc1 Sm1, f_X7_see fu 0 x y (I, R) = some (r, Sc1) ∧ f_X8_see fu 0 x y (Im, Rm) = some (r, Sm1) ∧ r_Rel Sc1 Sm1 := by
  obtain ⟨hR, hM, h3, h4, h5, ⟨L, lL, cL, mL, hb⟩, h7, h8⟩ := id h
  unfold f_X7_see f_X8_see
  rcases a_cases x (n := 41) (by omega) with hx | ⟨n, hn, rfl⟩
  · exact ⟨-1, (I, R), (Im, Rm), a_if1 (n := 40) hx rfl (by omega), by rw [m_in0 (c := 40) (n := 40) hx rfl (by omega), k_bd, if_pos rfl], r_same h⟩
  rw [if_neg (nI_pos (by omega)), if_neg (show ¬ (40 : Int32) < nI n from nI_nlt (a := 40) (by omega) (by omega)), m_in1 (c := 40) (n := 40) (by omega) rfl (by omega), k_bd, if_neg (show ¬ (1 : Int32) = 0 by decide)]
  rcases a_cases y (n := 73) (by omega) with hx | ⟨v, hv, rfl⟩
  · exact ⟨-1, (I, R), (Im, Rm), a_if2 (n := 72) hx rfl (by omega), by rw [m_in0 (c := 72) (n := 72) hx rfl (by omega), k_bd, if_pos rfl], r_same h⟩
  rw [if_neg (nI_pos (by omega)), if_pos (show nI v ≤ (72 : Int32) from nI_le (b := 72) (by omega) (by omega)), m_in1 (c := 72) (n := 72) (by omega) rfl (by omega), k_bd, if_neg (show ¬ (1 : Int32) = 0 by decide)]
  have x1 : ∀ v, (g_u I 37 L v) 36 2 = nI L := fun v => by rw [u_ni (by decide)]; exact cL
  have x2 : ∀ v w, (g_u (g_u I 37 L v) 38 L w) 36 2 = nI L := fun v w => by rw [u_ni (by decide), u_ni (by decide)]; exact cL
  have y1 : ∀ v k, (g_u Im 7 k v) 0 20 = nI L := fun v k => by rw [u_ni (by decide)]; exact mL
  have y2 : ∀ v w k l, (g_u (g_u Im 7 k v) 7 l w) 0 20 = nI L := fun v w k l => by rw [u_ni (by decide), u_ni (by decide)]; exact mL
  unfold f_X3_add
  by_cases hl : L = 6
  · refine ⟨-3, (I, R), (Im, Rm), ?_, ?_, r_same h⟩
    · simp (disch := omega) only [c_ld6 hR, cL, l_6, nI_ltI, c_ld60 hR, c_ld61 hR]
      rw [if_neg (by omega), e_zb0, k_bd, if_pos rfl]
    · exact if_pos (show Im 0 20 = 6 by rw [mL, hl]; rfl)
  · refine ⟨nI (L + 1), (g_u (g_u (g_u I 37 L (nI n)) 38 L (nI v)) 36 2 (nI (L + 1)), R), (g_u (g_u (g_u Im 7 (2 * L) (nI n)) 7 (2 * L + 1) (nI v)) 0 20 (nI (L + 1)), Rm), ?_, ?_, r_same (t := t) (P := P) (Q0 := Q0) (Q1 := Q1) ⟨hR, hM, r_now_fr h3 (fun a h1 h2 => by rw [g_u_ne (by omega), g_u_ne (by omega), g_u_ne (by omega)]) (fun k hk => by rw [g_u_ne (by decide), g_u_ne (by decide), g_u_ne (by decide)]), r_img_fr h4 (fun a h1 h2 => by rw [g_u_ne (by omega), g_u_ne (by omega), g_u_ne (by omega)]) (by rw [g_u_ne (by decide), g_u_ne (by decide), g_u_ne (by decide)]) (fun k _ _ => by rw [g_u_ne (by decide), g_u_ne (by decide), g_u_ne (by decide)]) (by rw [g_u_ne (by decide), g_u_ne (by decide), g_u_ne (by decide)]), r_tape_fr h5 (by rw [g_u_ne (by decide), g_u_ne (by decide), g_u_ne (by decide)]) (by rw [g_u_ne (by decide), g_u_ne (by decide), g_u_ne (by decide)]) (by rw [u_nk (by decide), u_ni (by decide), u_ni (by decide)]) (by rw [g_u_ne (by decide), g_u_ne (by decide), g_u_ne (by decide)]), ⟨L + 1, by omega, u_at, u_at, fun i hi => ?_⟩, r_sheet_fr h7 (fun a h1 => by rw [g_u_ne (by omega), g_u_ne (by omega), g_u_ne (by omega)]) (fun a h1 h2 => by rw [g_u_ne (by omega), g_u_ne (by omega), g_u_ne (by omega)]), r_rest_fr h8 (by rw [g_u_ne (by decide), g_u_ne (by decide), g_u_ne (by decide)]) (by rw [g_u_ne (by decide), g_u_ne (by decide), g_u_ne (by decide)]) (by rw [u_nk (by decide), u_ni (by decide), u_ni (by decide)]) (by rw [u_nk (by decide), u_ni (by decide), u_ni (by decide)]) (by rw [u_nk (by decide), u_ni (by decide), u_ni (by decide)]) (by rw [g_u_ne (by decide), g_u_ne (by decide), g_u_ne (by decide)]) (by rw [g_u_ne (by decide), g_u_ne (by decide), g_u_ne (by decide)])⟩⟩
    · simp (disch := omega) only [c_ld6 hR, cL, l_6, nI_ltI, c_ld60 hR, c_ld61 hR, k_ix, x1, x2, nI_1]
      rw [if_pos (by omega), e_zb1, k_bd, if_neg (show ¬ (1 : Int32) = 0 by decide)]
      simp only [c_ld6 hR, u_at]
    · simp (disch := omega) only [mL, l_6, nI_eq, m_ld19 hM, l_2, l_1, pk_mul, nI_add, k_ix, y1, y2]
      rw [if_neg hl]
      simp only [u_at]
    · show ∃ n' v', n' ≤ 40 ∧ v' ≤ 72 ∧ (g_u (g_u (g_u I 37 L (nI n)) 38 L (nI v)) 36 2 (nI (L + 1))) 37 i = nI n' ∧ (g_u (g_u (g_u Im 7 (2 * L) (nI n)) 7 (2 * L + 1) (nI v)) 0 20 (nI (L + 1))) 7 (2 * i) = nI n' ∧ (g_u (g_u (g_u I 37 L (nI n)) 38 L (nI v)) 36 2 (nI (L + 1))) 38 i = nI v' ∧ (g_u (g_u (g_u Im 7 (2 * L) (nI n)) 7 (2 * L + 1) (nI v)) 0 20 (nI (L + 1))) 7 (2 * i + 1) = nI v'
      by_cases ci : i = L
      · subst ci
        refine ⟨n, v, by omega, by omega, ?_, ?_, ?_, ?_⟩
        · rw [u_ni (by decide), u_ni (by decide), u_at]
        · rw [u_ni (by decide), u_nk (by omega), u_at]
        · rw [u_ni (by decide), u_at]
        · rw [u_ni (by decide), u_at]
      · obtain ⟨n', v', q1, q2, q3, q4, q5, q6⟩ := hb i (by omega)
        refine ⟨n', v', q1, q2, ?_, ?_, ?_, ?_⟩
        · rw [u_ni (by decide), u_ni (by decide), u_nk ci]; exact q3
        · rw [u_ni (by decide), u_nk (by omega), u_nk (by omega)]; exact q4
        · rw [u_ni (by decide), u_nk ci, u_ni (by decide)]; exact q5
        · rw [u_ni (by decide), u_nk (by omega), u_nk (by omega)]; exact q6
