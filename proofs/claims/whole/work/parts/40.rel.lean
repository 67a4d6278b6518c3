/-! ===== how the two states are related ===== -/
def w_end : Nat → Nat
  | 0 => 0
  | 1 => 5
  | 2 => 9
  | 3 => 15
  | 4 => 19
  | _ => 24
def w_let (i : Nat) : Nat := [116, 111, 107, 101, 110, 108, 101, 97, 107, 119, 105, 110, 100, 111, 119, 104, 97, 108, 102, 99, 114, 111, 119, 100].getD i 0
def r_now (I Im : Nat → Nat → Int32) (P : Nat → Nat) : Prop := h_rep I 1 (fun d => 4 + d) P ∧ m_pg Im 0 P ∧ p_ok 999 P ∧ ∀ d, d < 4 → I (4 + d) 5 = nI 0
def r_img (I Im : Nat → Nat → Int32) (Q0 Q1 : Nat → Nat) : Prop := (h_rep I 52 (fun d => 55 + d) Q0 ∧ m_pg Im 45 Q0 ∧ p_ok 999 Q0) ∧ (h_rep I 67 (fun d => 70 + d) Q1 ∧ m_pg Im 90 Q1 ∧ p_ok 999 Q1) ∧ ∀ k, k < 2 → ∃ b, b ≤ 1 ∧ I 32 k = nI b ∧ Im 9 k = nI b
def r_tape (I Im : Nat → Nat → Int32) : Prop := ∃ L, L ≤ 160 ∧ I 33 1 = nI L ∧ Im 0 3 = nI L ∧ ∀ i, i < L → ∃ c, c ≤ 127 ∧ I 34 i = nI c ∧ Im 3 i = nI c
def r_seen (I Im : Nat → Nat → Int32) : Prop := ∃ s, s ≤ 6 ∧ I 36 2 = nI s ∧ Im 0 20 = nI s ∧ ∀ i, i < s → ∃ n v, n ≤ 40 ∧ v ≤ 72 ∧ I 37 i = nI n ∧ Im 7 (2 * i) = nI n ∧ I 38 i = nI v ∧ Im 7 (2 * i + 1) = nI v
def r_sheet (I Im : Nat → Nat → Int32) : Prop := ∀ k, k < 4 → (I (82 + 2 * k) 1 = nI 0 ∧ Im 10 k = -4) ∨ ∃ l z, l ≤ 2 ∧ z ≤ 40 ∧ I (82 + 2 * k) 1 = nI 1 ∧ I (82 + 2 * k) 2 = nI l ∧ Im 10 k = nI l ∧ I (82 + 2 * k) 3 = nI z ∧ Im 11 k = nI z ∧ ∀ i, i < 40 → I (83 + 2 * k) i = Im 12 (40 * k + i)
def r_rest (I Im : Nat → Nat → Int32) : Prop := I 35 2 = Im 0 4 ∧ I 0 10 = Im 0 26 ∧ Im 0 13 = -4 ∧ (∀ i, i < 6 → Im 4 i = nI (w_end i)) ∧ ∀ i, i < 24 → Im 5 i = nI (w_let i)
def r_all (I : Nat → Nat → Int32) (R : Nat → Nat → Option Nat) (Im : Nat → Nat → Int32) (Rm : Nat → Nat → Option Nat) (t P Q0 Q1 : Nat → Nat) : Prop := c_R R t ∧ m_R Rm ∧ r_now I Im P ∧ r_img I Im Q0 Q1 ∧ r_tape I Im ∧ r_seen I Im ∧ r_sheet I Im ∧ r_rest I Im
def r_Rel (Sc Sm : g_St) : Prop := ∃ t P Q0 Q1, r_all Sc.1 Sc.2 Sm.1 Sm.2 t P Q0 Q1
/-- the class has changed its trial and its tables alone -/
def c_fr (I I' : Nat → Nat → Int32) : Prop := ∀ a, a < 16 ∨ (31 ≤ a ∧ a < 40) ∨ 52 ≤ a → I' a = I a
/-- the reference has changed its trials and its tables alone -/
def m_fr (I I' : Nat → Nat → Int32) : Prop := (∀ k, k < 14 ∨ 18 ≤ k → I' 0 k = I 0 k) ∧ (∀ k, k < 135 → I' 1 k = I 1 k) ∧ ∀ a, a ≠ 0 → a ≠ 1 → a ≠ 6 → a ≠ 8 → I' a = I a
theorem c_fr_refl {I : Nat → Nat → Int32} : c_fr I I := fun _ _ => rfl
theorem m_fr_refl {I : Nat → Nat → Int32} : m_fr I I := ⟨fun _ _ => rfl, fun _ _ => rfl, fun _ _ _ _ _ => rfl⟩
theorem c_fr_trans {I I' I'' : Nat → Nat → Int32} (h1 : c_fr I I') (h2 : c_fr I' I'') : c_fr I I'' := fun a ha => (h2 a ha).trans (h1 a ha)
theorem m_fr_trans {I I' I'' : Nat → Nat → Int32} (h1 : m_fr I I') (h2 : m_fr I' I'') : m_fr I I'' := ⟨fun k hk => (h2.1 k hk).trans (h1.1 k hk), fun k hk => (h2.2.1 k hk).trans (h1.2.1 k hk), fun a x y z w => (h2.2.2 a x y z w).trans (h1.2.2 a x y z w)⟩
theorem c_fr_kept {I I' : Nat → Nat → Int32} (h : c_kept I I') : c_fr I I' := fun a ha => h a (by omega)
theorem m_fr_kept {I I' : Nat → Nat → Int32} {p : Nat} (hp : 135 ≤ p) (h : m_kept I I' p) : m_fr I I' := ⟨h.1, fun k hk => h.2.1 k (by omega), fun a x y z _ => h.2.2 a x y z⟩
theorem h_rep_fr {I I' : Nat → Nat → Int32} {o : Nat} {dr P : Nat → Nat} (h : h_rep I o dr P) (ho : I' o = I o) (hd : ∀ d, d < P 16 → I' (dr d) = I (dr d)) (hi : ∀ i, i < P 41 → I' (o + 7 + i) = I (o + 7 + i)) : h_rep I' o dr P := by
  obtain ⟨a, b, c, d, e, f, g⟩ := h
  refine ⟨by rw [ho]; exact a, by rw [ho]; exact b, by rw [ho]; exact c, by rw [ho]; exact d, by rw [ho]; exact e, fun d hd' => ?_, fun i hi' => ?_⟩
  · rw [hd d hd']; exact f d hd'
  · rw [hi i hi']; exact g i hi'
theorem r_now_fr {I I' Im Im' : Nat → Nat → Int32} {P : Nat → Nat} (h : r_now I Im P) (hc : ∀ a, 1 ≤ a → a < 16 → I' a = I a) (hm : ∀ k, k < 45 → Im' 1 k = Im 1 k) : r_now I' Im' P := by
  obtain ⟨a, b, c, d⟩ := h
  refine ⟨h_rep_fr a (hc 1 (by omega) (by omega)) (fun d hd => hc _ (by omega) (by have := c.1; omega)) (fun i hi => hc _ (by omega) (by have := c.2.1; omega)), fun k hk => ?_, c, fun e he => ?_⟩
  · rw [hm (0 + k) (by omega)]; exact b k hk
  · rw [hc _ (by omega) (by omega)]; exact d e he
theorem r_img_fr {I I' Im Im' : Nat → Nat → Int32} {Q0 Q1 : Nat → Nat} (h : r_img I Im Q0 Q1) (hc : ∀ a, 52 ≤ a → a < 82 → I' a = I a) (hk : I' 32 = I 32) (hm : ∀ k, 45 ≤ k → k < 135 → Im' 1 k = Im 1 k) (hk' : Im' 9 = Im 9) : r_img I' Im' Q0 Q1 := by
  obtain ⟨⟨a, b, c⟩, ⟨d, e, f⟩, g⟩ := h
  have := c.1
  have := c.2.1
  have := f.1
  have := f.2.1
  refine ⟨⟨h_rep_fr a (hc _ (by omega) (by omega)) (fun d hd => hc _ (by omega) (by omega)) (fun i hi => hc _ (by omega) (by omega)), fun k hk => ?_, c⟩, ⟨h_rep_fr d (hc _ (by omega) (by omega)) (fun d hd => hc _ (by omega) (by omega)) (fun i hi => hc _ (by omega) (by omega)), fun k hk => ?_, f⟩, ?_⟩
  · rw [hm _ (by omega) (by omega)]; exact b k hk
  · rw [hm _ (by omega) (by omega)]; exact e k hk
  · rw [hk, hk']; exact g
theorem r_frm {I I' Im Im' : Nat → Nat → Int32} {R R' Rm : Nat → Nat → Option Nat} {t t' P Q0 Q1 : Nat → Nat} (h : r_all I R Im Rm t P Q0 Q1) (hR : c_R R' t') (hc : c_fr I I') (hm : m_fr Im Im') : r_all I' R' Im' Rm t' P Q0 Q1 := by
  obtain ⟨-, h2, h3, h4, h5, h6, h7, h8⟩ := h
  refine ⟨hR, h2, r_now_fr h3 (fun a _ _ => hc a (by omega)) (fun k hk => hm.2.1 k (by omega)), r_img_fr h4 (fun a _ _ => hc a (by omega)) (hc 32 (by omega)) (fun k _ _ => hm.2.1 k (by omega)) (hm.2.2 9 (by decide) (by decide) (by decide) (by decide)), ?_, ?_, ?_, ?_⟩
  · obtain ⟨L, a, b, c, d⟩ := h5
    refine ⟨L, a, ?_, ?_, fun i hi => ?_⟩
    · rw [hc 33 (by omega)]; exact b
    · rw [hm.1 3 (by omega)]; exact c
    · rw [hc 34 (by omega), hm.2.2 3 (by decide) (by decide) (by decide) (by decide)]; exact d i hi
  · obtain ⟨s, a, b, c, d⟩ := h6
    refine ⟨s, a, ?_, ?_, fun i hi => ?_⟩
    · rw [hc 36 (by omega)]; exact b
    · rw [hm.1 20 (by omega)]; exact c
    · rw [hc 37 (by omega), hc 38 (by omega), hm.2.2 7 (by decide) (by decide) (by decide) (by decide)]; exact d i hi
  · intro k hk
    rw [hc (82 + 2 * k) (by omega), hc (83 + 2 * k) (by omega), hm.2.2 10 (by decide) (by decide) (by decide) (by decide), hm.2.2 11 (by decide) (by decide) (by decide) (by decide), hm.2.2 12 (by decide) (by decide) (by decide) (by decide)]
    exact h7 k hk
  · obtain ⟨a, b, c, d, e⟩ := h8
    refine ⟨?_, ?_, ?_, ?_, ?_⟩
    · rw [hc 35 (by omega), hm.1 4 (by omega)]; exact a
    · rw [hc 0 (by omega), hm.1 26 (by omega)]; exact b
    · rw [hm.1 13 (by omega)]; exact c
    · rw [hm.2.2 4 (by decide) (by decide) (by decide) (by decide)]; exact d
    · rw [hm.2.2 5 (by decide) (by decide) (by decide) (by decide)]; exact e
theorem r_frame {I I' Im Im' : Nat → Nat → Int32} {R R' Rm : Nat → Nat → Option Nat} {t t' P Q0 Q1 : Nat → Nat} (h : r_all I R Im Rm t P Q0 Q1) (hR : c_R R' t') (hc : c_fr I I') (hm : m_fr Im Im') : r_Rel (I', R') (Im', Rm) := ⟨t', P, Q0, Q1, r_frm h hR hc hm⟩
/-- nothing has changed -/
theorem r_same {I Im : Nat → Nat → Int32} {R Rm : Nat → Nat → Option Nat} {t P Q0 Q1 : Nat → Nat} (h : r_all I R Im Rm t P Q0 Q1) : r_Rel (I, R) (Im, Rm) := ⟨t, P, Q0, Q1, h⟩
/-! ===== at the beginning ===== -/
theorem z_geo {R : Nat → Nat → Option Nat} {o : Nat} {dr : Nat → Nat} (h : R o 0 = some (o + 1) ∧ R o 1 = some (o + 2) ∧ (∀ d, d < 4 → R (o + 1) d = some (dr d)) ∧ (∀ i, i < 8 → R (o + 2) i = some (o + 7 + i)) ∧ (o < 90 ∧ g_KC o = g_kX2) ∧ (o + 1 < 90 ∧ g_KC (o + 1) = .inr (3, 4, true)) ∧ (o + 2 < 90 ∧ g_KC (o + 2) = .inr (4, 8, true)) ∧ (∀ d, d < 4 → dr d < 90 ∧ g_KC (dr d) = g_kX1) ∧ (∀ i, i < 8 → o + 7 + i < 90 ∧ g_KC (o + 7 + i) = g_kX0)) (hd : ∀ d, dr d = o + 3 + d) : h_geo R o dr := by
  obtain ⟨a, b, c, d, e, f, g, i, j⟩ := h
  refine ⟨a, b, c, d, e, f, g, i, j, fun x y _ _ h => ?_, fun x hx => ?_⟩
  · rw [hd, hd] at h; omega
  · rw [hd]; omega
set_option maxRecDepth 100000 in
theorem z_geo1 : h_geo (z_X7_init 0 1 g_S0).2 1 (fun d => 4 + d) := by
  refine z_geo ⟨by decide +kernel, by decide +kernel, by decide +kernel, by decide +kernel, ⟨by decide, rfl⟩, ⟨by decide, rfl⟩, ⟨by decide, rfl⟩, fun d hd => ?_, fun i hi => ?_⟩ (fun _ => rfl)
  · rcases (show d = 0 ∨ d = 1 ∨ d = 2 ∨ d = 3 by omega) with rfl | rfl | rfl | rfl <;> exact ⟨by decide, rfl⟩
  · rcases (show i = 0 ∨ i = 1 ∨ i = 2 ∨ i = 3 ∨ i = 4 ∨ i = 5 ∨ i = 6 ∨ i = 7 by omega) with rfl | rfl | rfl | rfl | rfl | rfl | rfl | rfl <;> exact ⟨by decide, rfl⟩
set_option maxRecDepth 100000 in
theorem z_geo16 : h_geo (z_X7_init 0 1 g_S0).2 16 (fun d => 19 + d) := by
  refine z_geo ⟨by decide +kernel, by decide +kernel, by decide +kernel, by decide +kernel, ⟨by decide, rfl⟩, ⟨by decide, rfl⟩, ⟨by decide, rfl⟩, fun d hd => ?_, fun i hi => ?_⟩ (fun _ => rfl)
  · rcases (show d = 0 ∨ d = 1 ∨ d = 2 ∨ d = 3 by omega) with rfl | rfl | rfl | rfl <;> exact ⟨by decide, rfl⟩
  · rcases (show i = 0 ∨ i = 1 ∨ i = 2 ∨ i = 3 ∨ i = 4 ∨ i = 5 ∨ i = 6 ∨ i = 7 by omega) with rfl | rfl | rfl | rfl | rfl | rfl | rfl | rfl <;> exact ⟨by decide, rfl⟩
set_option maxRecDepth 100000 in
theorem z_geo52 : h_geo (z_X7_init 0 1 g_S0).2 52 (fun d => 55 + d) := by
  refine z_geo ⟨by decide +kernel, by decide +kernel, by decide +kernel, by decide +kernel, ⟨by decide, rfl⟩, ⟨by decide, rfl⟩, ⟨by decide, rfl⟩, fun d hd => ?_, fun i hi => ?_⟩ (fun _ => rfl)
  · rcases (show d = 0 ∨ d = 1 ∨ d = 2 ∨ d = 3 by omega) with rfl | rfl | rfl | rfl <;> exact ⟨by decide, rfl⟩
  · rcases (show i = 0 ∨ i = 1 ∨ i = 2 ∨ i = 3 ∨ i = 4 ∨ i = 5 ∨ i = 6 ∨ i = 7 by omega) with rfl | rfl | rfl | rfl | rfl | rfl | rfl | rfl <;> exact ⟨by decide, rfl⟩
set_option maxRecDepth 100000 in
theorem z_geo67 : h_geo (z_X7_init 0 1 g_S0).2 67 (fun d => 70 + d) := by
  refine z_geo ⟨by decide +kernel, by decide +kernel, by decide +kernel, by decide +kernel, ⟨by decide, rfl⟩, ⟨by decide, rfl⟩, ⟨by decide, rfl⟩, fun d hd => ?_, fun i hi => ?_⟩ (fun _ => rfl)
  · rcases (show d = 0 ∨ d = 1 ∨ d = 2 ∨ d = 3 by omega) with rfl | rfl | rfl | rfl <;> exact ⟨by decide, rfl⟩
  · rcases (show i = 0 ∨ i = 1 ∨ i = 2 ∨ i = 3 ∨ i = 4 ∨ i = 5 ∨ i = 6 ∨ i = 7 by omega) with rfl | rfl | rfl | rfl | rfl | rfl | rfl | rfl <;> exact ⟨by decide, rfl⟩
set_option maxRecDepth 100000 in
theorem z_cR : c_R (z_X7_init 0 1 g_S0).2 (fun d => 19 + d) := by
  refine ⟨z_geo1, z_geo16, z_geo52, z_geo67, ?_⟩
  decide +kernel
set_option maxRecDepth 100000 in
theorem z_mR : m_R (z_X8_init 0 1 g_S0).2 := by
  unfold m_R
  decide +kernel
set_option maxRecDepth 100000 in
theorem z_words : (∀ i, i < 6 → (z_X8_init 0 1 g_S0).1 4 i = nI (w_end i)) ∧ ∀ i, i < 24 → (z_X8_init 0 1 g_S0).1 5 i = nI (w_let i) := by
  decide +kernel
set_option maxRecDepth 100000 in
theorem z_Im : (∀ k, k < 45 → (z_X8_init 0 1 g_S0).1 1 (0 + k) = nI 0) ∧ (∀ k, k < 45 → (z_X8_init 0 1 g_S0).1 1 (45 + k) = nI 0) ∧ (∀ k, k < 45 → (z_X8_init 0 1 g_S0).1 1 (90 + k) = nI 0) ∧ (∀ k, k < 2 → (z_X8_init 0 1 g_S0).1 9 k = nI 0) ∧ (z_X8_init 0 1 g_S0).1 0 3 = nI 0 ∧ (z_X8_init 0 1 g_S0).1 0 4 = 0 ∧ (z_X8_init 0 1 g_S0).1 0 26 = 0 ∧ (z_X8_init 0 1 g_S0).1 0 20 = nI 0 ∧ (z_X8_init 0 1 g_S0).1 0 13 = -4 ∧ ∀ k, k < 4 → (z_X8_init 0 1 g_S0).1 10 k = -4 := by
  decide +kernel
set_option maxRecDepth 100000 in
theorem z_Ic : (∀ a, a < 90 → ∀ k, k < 11 → (z_X7_init 0 1 g_S0).1 a k = 0) := by
  decide +kernel
theorem p_ok_0 : p_ok 999 (fun _ => 0) := ⟨Nat.zero_le _, Nat.zero_le _, fun _ _ => ⟨Nat.zero_le _, Nat.zero_le _, Nat.zero_le _, Nat.zero_le _⟩, fun _ _ => ⟨Nat.zero_le _, Nat.zero_le _, Nat.zero_le _⟩, Nat.zero_le _, Nat.zero_le _, Nat.zero_le _⟩
theorem z_Rel : r_Rel (z_X7_init 0 1 g_S0) (z_X8_init 0 1 g_S0) := by
  obtain ⟨m0, m1, m2, m3, m4, m5, m6, m7, m8, m9⟩ := z_Im
  have hr : ∀ o dr, o < 90 → h_rep (z_X7_init 0 1 g_S0).1 o dr (fun _ => 0) := fun o dr ho => ⟨z_Ic o ho 2 (by omega), z_Ic o ho 3 (by omega), z_Ic o ho 4 (by omega), z_Ic o ho 5 (by omega), z_Ic o ho 6 (by omega), fun d hd => absurd hd (Nat.not_lt_zero _), fun i hi => absurd hi (Nat.not_lt_zero _)⟩
  refine ⟨fun d => 19 + d, fun _ => 0, fun _ => 0, fun _ => 0, z_cR, z_mR, ⟨hr _ _ (by omega), m0, p_ok_0, fun d hd => z_Ic _ (by omega) _ (by omega)⟩, ⟨⟨hr _ _ (by omega), m1, p_ok_0⟩, ⟨hr _ _ (by omega), m2, p_ok_0⟩, fun k hk => ⟨0, by omega, z_Ic _ (by omega) _ (by omega), m3 k hk⟩⟩, ⟨0, by omega, z_Ic _ (by omega) _ (by omega), m4, fun i hi => absurd hi (Nat.not_lt_zero _)⟩, ⟨0, by omega, z_Ic _ (by omega) _ (by omega), m7, fun i hi => absurd hi (Nat.not_lt_zero _)⟩, fun k hk => Or.inl ⟨z_Ic _ (by omega) _ (by omega), m9 k hk⟩, ?_, ?_, m8, z_words.1, z_words.2⟩
  · rw [z_Ic 35 (by omega) 2 (by omega), m5]
  · rw [z_Ic 0 (by omega) 10 (by omega), m6]
