/-! ===== now is changed ===== -/
def c_fn (I I' : Nat → Nat → Int32) : Prop := ∀ a, a = 0 ∨ (31 ≤ a ∧ a < 40) ∨ 52 ≤ a → I' a = I a
def m_fn (I I' : Nat → Nat → Int32) : Prop := (∀ k, k < 14 ∨ 18 ≤ k → I' 0 k = I 0 k) ∧ (∀ k, 45 ≤ k → k < 135 → I' 1 k = I 1 k) ∧ ∀ a, a ≠ 0 → a ≠ 1 → a ≠ 6 → a ≠ 8 → I' a = I a
theorem m_fn_kept {I I' : Nat → Nat → Int32} (h : m_kept I I' 0) : m_fn I I' := ⟨h.1, fun k h1 _ => h.2.1 k (by omega), fun a x y z _ => h.2.2 a x y z⟩
theorem r_new {I I' Im Im' : Nat → Nat → Int32} {R R' Rm : Nat → Nat → Option Nat} {t t' P P' Q0 Q1 : Nat → Nat} (h : r_all I R Im Rm t P Q0 Q1) (hR : c_R R' t') (hn : r_now I' Im' P') (hc : c_fn I I') (hm : m_fn Im Im') : r_all I' R' Im' Rm t' P' Q0 Q1 := by
  obtain ⟨-, h2, -, h4, h5, h6, h7, h8⟩ := h
  refine ⟨hR, h2, hn, r_img_fr h4 (fun a _ _ => hc a (by omega)) (hc 32 (by omega)) (fun k h1 h2 => hm.2.1 k h1 h2) (hm.2.2 9 (by decide) (by decide) (by decide) (by decide)), ?_, ?_, ?_, ?_⟩
  · obtain ⟨L, a, b, c, d⟩ := h5
    refine ⟨L, a, ?_, ?_, fun i hi => ?_⟩
    · rw [hc 33 (by omega)]; exact b
    · rw [hm.1 3 (by omega)]; exact c
    · rw [hc 34 (by omega), hm.2.2 3 (by decide) (by decide) (by decide) (by decide)]; exact d i hi
  · obtain ⟨s, a, b, c, d⟩ := h6
    refine ⟨s, a, ?_, ?_, fun i hi => ?_⟩
    · rw [hc 36 (by omega)]; exact b
    · rw [hm.1 20 (by omega)]; exact c
    · rw [hc 37 (by omega), hc 38 (by omega), hm.2.2 7 (by decide) (by decide) (by decide) (by decide)]; exact d i hi
  · intro k hk
    rw [hc (82 + 2 * k) (by omega), hc (83 + 2 * k) (by omega), hm.2.2 10 (by decide) (by decide) (by decide) (by decide), hm.2.2 11 (by decide) (by decide) (by decide) (by decide), hm.2.2 12 (by decide) (by decide) (by decide) (by decide)]
    exact h7 k hk
  · obtain ⟨a, b, c, d, e⟩ := h8
    refine ⟨?_, ?_, ?_, ?_, ?_⟩
    · rw [hc 35 (by omega), hm.1 4 (by omega)]; exact a
    · rw [hc 0 (by omega), hm.1 26 (by omega)]; exact b
    · rw [hm.1 13 (by omega)]; exact c
    · rw [hm.2.2 4 (by decide) (by decide) (by decide) (by decide)]; exact d
    · rw [hm.2.2 5 (by decide) (by decide) (by decide) (by decide)]; exact e
theorem r_newR {I I' Im Im' : Nat → Nat → Int32} {R R' Rm : Nat → Nat → Option Nat} {t t' P P' Q0 Q1 : Nat → Nat} (h : r_all I R Im Rm t P Q0 Q1) (hR : c_R R' t') (hn : r_now I' Im' P') (hc : c_fn I I') (hm : m_fn Im Im') : r_Rel (I', R') (Im', Rm) := ⟨t', P', Q0, Q1, r_new h hR hn hc hm⟩
def p_put (P : Nat → Nat) (k v : Nat) : Nat → Nat := fun j => if j = k then v else P j
theorem put_at {P : Nat → Nat} {k v : Nat} : p_put P k v k = v := if_pos rfl
theorem put_ne {P : Nat → Nat} {k v j : Nat} (h : j ≠ k) : p_put P k v j = P j := if_neg h
theorem m_pg_put {I : Nat → Nat → Int32} {p k v : Nat} {P : Nat → Nat} (h : m_pg I p P) : m_pg (g_u I 1 (p + k) (nI v)) p (p_put P k v) := by
  intro j hj
  by_cases c : j = k
  · subst c
    rw [u_at, put_at]
  · rw [u_nk (by omega), put_ne c]
    exact h j hj
theorem m_pg_put0 {I : Nat → Nat → Int32} {k v : Nat} {P : Nat → Nat} (h : m_pg I 0 P) : m_pg (g_u I 1 k (nI v)) 0 (p_put P k v) := by
  have := m_pg_put (k := k) (v := v) h
  rwa [Nat.zero_add] at this
theorem m_fn_1 {I : Nat → Nat → Int32} {k : Nat} {v : Int32} (hk : k < 45) : m_fn I (g_u I 1 k v) := ⟨fun _ _ => u_ni (by decide), fun _ h _ => u_nk (by omega), fun _ _ h _ _ => g_u_ne h⟩
theorem m_fn_trans {I I' I'' : Nat → Nat → Int32} (h1 : m_fn I I') (h2 : m_fn I' I'') : m_fn I I'' := ⟨fun k hk => (h2.1 k hk).trans (h1.1 k hk), fun k hk hk' => (h2.2.1 k hk hk').trans (h1.2.1 k hk hk'), fun a x y z w => (h2.2.2 a x y z w).trans (h1.2.2 a x y z w)⟩
theorem c_fn_1 {I : Nat → Nat → Int32} {a k : Nat} {v : Int32} (h1 : 1 ≤ a) (h2 : a < 16) : c_fn I (g_u I a k v) := fun b hb => g_u_ne (by omega)
theorem c_fn_trans {I I' I'' : Nat → Nat → Int32} (h1 : c_fn I I') (h2 : c_fn I' I'') : c_fn I I'' := fun a ha => (h2 a ha).trans (h1 a ha)
theorem o_cut {fu : Nat} {I Im : Nat → Nat → Int32} {R Rm : Nat → Nat → Option Nat} {t P Q0 Q1 : Nat → Nat} (h : r_all I R Im Rm t P Q0 Q1) (x : Int32) : ∃ r Sc1 Sm1, f_X7_cut fu 0 x (I, R) = some (r, Sc1) ∧ f_X8_cut fu 0 x (Im, Rm) = some (r, Sm1) ∧ r_Rel Sc1 Sm1 := by
  obtain ⟨hR, hM, ⟨hr, hg, hp, ho⟩, -⟩ := id h
  have g16 := m_pg0 hg 16 (by omega)
  have b16 := hp.1
  rcases a_cases x (n := P 16 + 1) (by omega) with hx | ⟨j, hj, rfl⟩
  · refine ⟨-1, (I, R), (Im, Rm), ?_, ?_, r_same h⟩
    · unfold f_X7_cut
      simp only [c_ld0 hR]
      exact a_if2 hx hr.1 (by omega)
    · unfold f_X8_cut f_X8_puts
      simp (disch := omega) only [m_ld0 hM, l_16, k_ix, g16, m_inn0 hx, k_bd]
      rfl
  · refine ⟨nI (P 16), (g_u I 1 2 (nI j), R), (g_u Im 1 16 (nI j), Rm), ?_, ?_, r_newR (P' := p_put P 16 j) h hR ⟨⟨?_, ?_, ?_, ?_, ?_, fun d hd => ?_, fun i hi => ?_⟩, m_pg_put0 hg, ⟨?_, ?_, fun d hd => ?_, fun i hi => ?_, ?_, ?_, ?_⟩, fun d hd => ?_⟩ (c_fn_1 (by omega) (by omega)) (m_fn_1 (by omega))⟩
    · unfold f_X7_cut
      simp only [c_ld0 hR]
      rw [if_neg (nI_pos (by omega)), hr.1, if_pos (nI_le (by omega) (by omega))]
    · unfold f_X8_cut f_X8_puts
      simp (disch := omega) only [m_ld0 hM, l_16, k_ix, g16, m_inn1 (show j ≤ P 16 by omega), k_bd]
      rfl
    · rw [u_at, put_at]
    · rw [u_nk (by omega), put_ne (by omega)]; exact hr.2.1
    · rw [u_nk (by omega), put_ne (by omega)]; exact hr.2.2.1
    · rw [u_nk (by omega), put_ne (by omega)]; exact hr.2.2.2.1
    · rw [u_nk (by omega), put_ne (by omega)]; exact hr.2.2.2.2.1
    · rw [put_at] at hd
      dsimp only
      rw [g_u_ne (by omega), put_ne (by omega), put_ne (by omega), put_ne (by omega), put_ne (by omega)]; exact hr.2.2.2.2.2.1 d (by omega)
    · rw [put_ne (by omega)] at hi
      rw [g_u_ne (by omega), put_ne (by omega), put_ne (by omega), put_ne (by omega)]; exact hr.2.2.2.2.2.2 i hi
    · rw [put_at]; omega
    · rw [put_ne (by omega)]; exact hp.2.1
    · rw [put_ne (by omega), put_ne (by omega), put_ne (by omega), put_ne (by omega)]; exact hp.2.2.1 d hd
    · rw [put_ne (by omega), put_ne (by omega), put_ne (by omega)]; exact hp.2.2.2.1 i hi
    · rw [put_ne (by omega)]; exact hp.2.2.2.2.1
    · rw [put_ne (by omega)]; exact hp.2.2.2.2.2.1
    · rw [put_ne (by omega)]; exact hp.2.2.2.2.2.2
    · rw [g_u_ne (by omega)]; exact ho d hd
theorem o_leave {fu : Nat} {I Im : Nat → Nat → Int32} {R Rm : Nat → Nat → Option Nat} {t P Q0 Q1 : Nat → Nat} (h : r_all I R Im Rm t P Q0 Q1) (x : Int32) : ∃ r Sc1 Sm1, f_X7_leave fu 0 x (I, R) = some (r, Sc1) ∧ f_X8_leave fu 0 x (Im, Rm) = some (r, Sm1) ∧ r_Rel Sc1 Sm1 := by
  obtain ⟨hR, hM, ⟨hr, hg, hp, ho⟩, -⟩ := id h
  have g41 := m_pg0 hg 41 (by omega)
  have b16 := hp.1
  have b41 := hp.2.1
  rcases a_cases x (n := P 41 + 1) (by omega) with hx | ⟨j, hj, rfl⟩
  · refine ⟨-1, (I, R), (Im, Rm), ?_, ?_, r_same h⟩
    · unfold f_X7_leave
      simp only [c_ld0 hR]
      exact a_if2 hx hr.2.1 (by omega)
    · unfold f_X8_leave f_X8_puts
      simp (disch := omega) only [m_ld0 hM, l_41, k_ix, g41, m_inn0 hx, k_bd]
      rfl
  · refine ⟨nI (P 41), (g_u I 1 3 (nI j), R), (g_u Im 1 41 (nI j), Rm), ?_, ?_, r_newR (P' := p_put P 41 j) h hR ⟨⟨?_, ?_, ?_, ?_, ?_, fun d hd => ?_, fun i hi => ?_⟩, m_pg_put0 hg, ⟨?_, ?_, fun d hd => ?_, fun i hi => ?_, ?_, ?_, ?_⟩, fun d hd => ?_⟩ (c_fn_1 (by omega) (by omega)) (m_fn_1 (by omega))⟩
    · unfold f_X7_leave
      simp only [c_ld0 hR]
      rw [if_neg (nI_pos (by omega)), hr.2.1, if_pos (nI_le (by omega) (by omega))]
    · unfold f_X8_leave f_X8_puts
      simp (disch := omega) only [m_ld0 hM, l_41, k_ix, g41, m_inn1 (show j ≤ P 41 by omega), k_bd]
      rfl
    · rw [u_nk (by omega), put_ne (by omega)]; exact hr.1
    · rw [u_at, put_at]
    · rw [u_nk (by omega), put_ne (by omega)]; exact hr.2.2.1
    · rw [u_nk (by omega), put_ne (by omega)]; exact hr.2.2.2.1
    · rw [u_nk (by omega), put_ne (by omega)]; exact hr.2.2.2.2.1
    · rw [put_ne (by omega)] at hd
      dsimp only
      rw [g_u_ne (by omega), put_ne (by omega), put_ne (by omega), put_ne (by omega), put_ne (by omega)]; exact hr.2.2.2.2.2.1 d (by omega)
    · rw [put_at] at hi
      rw [g_u_ne (by omega), put_ne (by omega), put_ne (by omega), put_ne (by omega)]; exact hr.2.2.2.2.2.2 i (by omega)
    · rw [put_ne (by omega)]; exact hp.1
    · rw [put_at]; omega
    · rw [put_ne (by omega), put_ne (by omega), put_ne (by omega), put_ne (by omega)]; exact hp.2.2.1 d hd
    · rw [put_ne (by omega), put_ne (by omega), put_ne (by omega)]; exact hp.2.2.2.1 i hi
    · rw [put_ne (by omega)]; exact hp.2.2.2.2.1
    · rw [put_ne (by omega)]; exact hp.2.2.2.2.2.1
    · rw [put_ne (by omega)]; exact hp.2.2.2.2.2.2
    · rw [g_u_ne (by omega)]; exact ho d hd
