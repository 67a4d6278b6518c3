theorem k_if {α : Type} {b : Nat} (hb : b ≤ 1) {A : Nat → α} : (if nI b = 0 then A 0 else A 1) = A b := by
  rcases (show b = 0 ∨ b = 1 by omega) with rfl | rfl
  · exact if_pos rfl
  · exact if_neg (by decide)
theorem o_keep {fu : Nat} {I Im : Nat → Nat → Int32} {R Rm : Nat → Nat → Option Nat} {t P Q0 Q1 : Nat → Nat} (h : r_all I R Im Rm t P Q0 Q1) (hf : 1000 < fu) (x : Int32) : ∃ r Sc1 Sm1, f_X7_keep fu 0 x (I, R) = some (r, Sc1) ∧ f_X8_keep fu 0 x (Im, Rm) = some (r, Sm1) ∧ r_Rel Sc1 Sm1 := by
  obtain ⟨hR, hM, h3, h4, h5, h6, h7, h8⟩ := id h
  obtain ⟨hr, hg, hp, ho⟩ := id h3
  obtain ⟨i0, i1, hk⟩ := id h4
  unfold f_X7_keep f_X8_keep
  rcases a_cases x (n := 2) (by omega) with hx | ⟨k, hk2, rfl⟩
  · exact ⟨-1, (I, R), (Im, Rm), a_if4 (n := 2) hx rfl (by omega), by rw [m_in0 (c := 1) (n := 1) hx rfl (by omega), k_bd, if_pos rfl], r_same h⟩
  rw [if_neg (nI_pos (by omega)), if_pos (show nI k < (2 : Int32) from nI_lt (b := 2) (by omega) (by omega)), m_in1 (c := 1) (n := 1) (by omega) rfl (by omega), k_bd, if_neg (show ¬ (1 : Int32) = 0 by decide)]
  obtain ⟨b, hb, kc, km⟩ := hk k hk2
  have hgeo : h_geo R (52 + 15 * k) (fun d => 55 + 15 * k + d) := by
    rcases (show k = 0 ∨ k = 1 by omega) with rfl | rfl
    · exact hR.2.2.1
    · exact hR.2.2.2.1
  obtain ⟨I1, e1, r1, k1, -⟩ := c_become (fu := fu) hgeo hR.1 (by omega) hr hp (by omega)
  obtain ⟨M1, e2, g2, kM, aM⟩ := m_copies (fu := fu) (q := 45 * (k + 1)) hM hg (by omega) (by omega) (by omega) (by omega)
  have j1 : ∀ s, j_X7_keep_25 fu 0 (nI k) s (I, R) = some (s, (g_u I1 32 k 1, R)) := fun s => by
    unfold j_X7_keep_25
    simp (disch := omega) only [c_ldi hR, c_ld0 hR, e1, k_bd, c_ld3 hR]
    simp (disch := omega) only [k_ix]
    rfl
  have j2 : ∀ s, j_X8_keep_37 fu 0 (nI k) s (M1, Rm) = some (s, (g_u M1 9 k 1, Rm)) := fun s => by
    unfold j_X8_keep_37
    simp (disch := omega) only [m_ld22 hM, k_ix]
    rfl
  have e2' : f_X8_copies fu 0 0 (nI (45 * (k + 1))) (Im, Rm) = _ := e2
  have km' : M1 9 k = nI b := by rw [aM 9 (by decide)]; exact km
  have fl : ∀ j, j < 2 → ∃ b, b ≤ 1 ∧ (g_u I1 32 k 1) 32 j = nI b ∧ (g_u M1 9 k 1) 9 j = nI b := fun j hj => by
    by_cases c : j = k
    · subst c
      exact ⟨1, by omega, u_at, u_at⟩
    · obtain ⟨b', q1, q2, q3⟩ := hk j hj
      exact ⟨b', q1, by rw [u_nk c, k1 32 (by omega)]; exact q2, by rw [u_nk c, aM 9 (by decide)]; exact q3⟩
  have fI : ∀ a, a ≠ 32 → a < 52 + 15 * k ∨ 52 + 15 * k + 15 ≤ a → (g_u I1 32 k 1) a = I a := fun a ha hb => by rw [g_u_ne ha, k1 a hb]
  have fM : ∀ a, a ≠ 9 → a ≠ 1 → (g_u M1 9 k 1) a = Im a := fun a ha hb => by rw [g_u_ne ha, aM a hb]
  have fM1 : ∀ j, j < 45 * (k + 1) ∨ 45 * (k + 1) + 45 ≤ j → (g_u M1 9 k 1) 1 j = Im 1 j := fun j hj => by rw [u_ni (by decide), kM j hj]
  have rk : h_rep (g_u I1 32 k 1) (52 + 15 * k) (fun d => 55 + 15 * k + d) P := h_rep_fr r1 (g_u_ne (by omega)) (fun d hd => g_u_ne (by show 55 + 15 * k + d ≠ 32; omega)) (fun i hi => g_u_ne (by omega))
  have gk : m_pg (g_u M1 9 k 1) (45 * (k + 1)) P := fun j hj => by rw [u_ni (by decide)]; exact g2 j hj
  refine ⟨nI b, (g_u I1 32 k 1, R), (g_u M1 9 k 1, Rm), ?_, ?_, r_same (t := t) (P := P) (Q0 := if k = 0 then P else Q0) (Q1 := if k = 0 then Q1 else P) ⟨hR, hM, r_now_fr h3 (fun a h1 h2 => fI a (by omega) (by omega)) (fun j hj => fM1 j (by omega)), ?_, r_tape_fr h5 (by rw [fI 33 (by omega) (by omega)]) (fI 34 (by omega) (by omega)) (by rw [fM 0 (by omega) (by omega)]) (fM 3 (by omega) (by omega)), r_seen_fr h6 (by rw [fI 36 (by omega) (by omega)]) (fI 37 (by omega) (by omega)) (fI 38 (by omega) (by omega)) (by rw [fM 0 (by omega) (by omega)]) (fM 7 (by omega) (by omega)), r_sheet_fr h7 (fun a ha => fI a (by omega) (by omega)) (fun a h1 h2 => fM a (by omega) (by omega)), r_rest_fr h8 (by rw [fI 35 (by omega) (by omega)]) (by rw [fI 0 (by omega) (by omega)]) (by rw [fM 0 (by omega) (by omega)]) (by rw [fM 0 (by omega) (by omega)]) (by rw [fM 0 (by omega) (by omega)]) (fM 4 (by omega) (by omega)) (fM 5 (by omega) (by omega))⟩⟩
  · simp (disch := omega) only [c_ld3 hR, k_ix, kc, j1]
    exact k_if hb (A := fun z => (some (nI z, (g_u I1 32 k 1, R)) : Option (Int32 × g_St)))
  · simp (disch := omega) only [l_45, l_1, nI_add, pk_mul, e2', k_bd, m_ld22 hM, k_ix, km', j2]
    exact k_if hb (A := fun z => (some (nI z, (g_u M1 9 k 1, Rm)) : Option (Int32 × g_St)))
  · rcases (show k = 0 ∨ k = 1 by omega) with rfl | rfl
    · refine ⟨⟨rk, gk, hp⟩, ⟨h_rep_fr i1.1 (fI 67 (by omega) (by omega)) (fun d hd => fI _ (by show 70 + d ≠ 32; omega) (by show 70 + d < _ ∨ _; omega)) (fun i hi => fI _ (by omega) (by omega)), fun j hj => by rw [fM1 _ (by omega)]; exact i1.2.1 j hj, i1.2.2⟩, fl⟩
    · have b0 := i0.2.2.1
      have b1 := i0.2.2.2.1
      refine ⟨⟨h_rep_fr i0.1 (fI 52 (by omega) (by omega)) (fun d hd => fI _ (by show 55 + d ≠ 32; omega) (by have : d < Q0 16 := hd; show 55 + d < _ ∨ _; omega)) (fun i hi => fI _ (by omega) (by have : i < Q0 41 := hi; omega)), fun j hj => by rw [fM1 _ (by omega)]; exact i0.2.1 j hj, i0.2.2⟩, ⟨rk, gk, hp⟩, fl⟩
theorem o_back {fu : Nat} {I Im : Nat → Nat → Int32} {R Rm : Nat → Nat → Option Nat} {t P Q0 Q1 : Nat → Nat} (h : r_all I R Im Rm t P Q0 Q1) (hf : 1000 < fu) (x : Int32) : ∃ r Sc1 Sm1, f_X7_back fu 0 x (I, R) = some (r, Sc1) ∧ f_X8_back fu 0 x (Im, Rm) = some (r, Sm1) ∧ r_Rel Sc1 Sm1 := by
  obtain ⟨hR, hM, h3, h4, -⟩ := id h
  obtain ⟨hr, hg, hp, ho⟩ := id h3
  obtain ⟨i0, i1, hk⟩ := id h4
  unfold f_X7_back f_X8_back
  rcases a_cases x (n := 2) (by omega) with hx | ⟨k, hk2, rfl⟩
  · exact ⟨-1, (I, R), (Im, Rm), a_if4 (n := 2) hx rfl (by omega), by rw [m_in0 (c := 1) (n := 1) hx rfl (by omega), k_bd, if_pos rfl], r_same h⟩
  rw [if_neg (nI_pos (by omega)), if_pos (show nI k < (2 : Int32) from nI_lt (b := 2) (by omega) (by omega)), m_in1 (c := 1) (n := 1) (by omega) rfl (by omega), k_bd, if_neg (show ¬ (1 : Int32) = 0 by decide)]
  obtain ⟨b, hb, kc, km⟩ := hk k hk2
  simp (disch := omega) only [c_ldi hR]
  simp (disch := omega) only [c_ld3 hR, k_ix, kc, m_ld22 hM, km, c_ld0 hR]
  rcases (show b = 0 ∨ b = 1 by omega) with rfl | rfl
  · exact ⟨-2, (I, R), (Im, Rm), if_pos rfl, if_pos rfl, r_same h⟩
  rw [if_neg (show ¬ nI 1 = (0 : Int32) by decide), if_neg (show ¬ nI 1 = (0 : Int32) by decide)]
  obtain ⟨Q, hgeo, rQ, gQ, pQ⟩ : ∃ Q, h_geo R (52 + 15 * k) (fun d => 55 + 15 * k + d) ∧ h_rep I (52 + 15 * k) (fun d => 55 + 15 * k + d) Q ∧ m_pg Im (45 * (k + 1)) Q ∧ p_ok 999 Q := by
    rcases (show k = 0 ∨ k = 1 by omega) with rfl | rfl
    · exact ⟨Q0, hR.2.2.1, i0⟩
    · exact ⟨Q1, hR.2.2.2.1, i1⟩
  obtain ⟨I1, e1, r1, k1, s1⟩ := c_become (fu := fu) hR.1 hgeo (by omega) rQ pQ (by omega)
  obtain ⟨M1, e2, g2, kM, aM⟩ := m_copies (fu := fu) (q := 0) hM gQ (by omega) (by omega) (by omega) (by omega)
  have g42 := m_pg0 g2 42 (by omega)
  have e2' : f_X8_copies fu 0 (nI (45 * (k + 1))) 0 (Im, Rm) = _ := e2
  refine ⟨nI (Q 42), (I1, R), (M1, Rm), ?_, ?_, r_newR h hR ⟨r1, g2, pQ, fun d hd => ?_⟩ (fun a ha => k1 a (by omega)) ⟨fun j _ => by rw [aM 0 (by decide)], fun j h1 _ => kM j (by omega), fun a _ h1 _ _ => aM a h1⟩⟩
  · rw [e1, k_bd]
    simp only [c_ld0 hR]
    rw [r1.2.2.1]
  · simp (disch := omega) only [l_45, l_1, nI_add, pk_mul, e2', k_bd, m_ld0 hM, l_42, k_ix, g42]
  · have : I1 (4 + d) 5 = I (4 + d) 5 := (s1 d hd).2
    rw [this]; exact ho d hd
