/-! ===== tokens of the text ===== -/
def t_let (c : Nat) : Prop := 97 ≤ c ∧ c ≤ 122
def t_fig (c : Nat) : Prop := 48 ≤ c ∧ c ≤ 57
def q_dg (b : Nat → Nat) (s : Nat) : Nat → Nat
  | 0 => 0
  | k + 1 => 10 * q_dg b s k + (b (s + k) - 48)
theorem t_run (pr : Nat → Prop) (L : Nat) : ∀ n p, p + n = L → ∃ e, p ≤ e ∧ e ≤ L ∧ (∀ i, p ≤ i → i < e → pr i) ∧ (e = L ∨ ¬ pr e)
  | 0, p, h => ⟨p, Nat.le_refl _, by omega, fun i h1 h2 => by omega, Or.inl (by omega)⟩
  | n + 1, p, h => by
    by_cases c : pr p
    · obtain ⟨e, h1, h2, h3, h4⟩ := t_run pr L n (p + 1) (by omega)
      refine ⟨e, by omega, h2, fun i q1 q2 => ?_, h4⟩
      rcases Nat.lt_or_ge p i with z | z
      · exact h3 i z q2
      · rw [show i = p by omega]; exact c
    · exact ⟨p, Nat.le_refl _, by omega, fun i h1 h2 => by omega, Or.inr c⟩
/-- at p the next token is of the sort κ, from s to e, its number v -/
def q_tok (b : Nat → Nat) (L p κ s e v : Nat) : Prop := p ≤ s ∧ s ≤ L ∧ (∀ i, p ≤ i → i < s → b i = 32) ∧ ((κ = 0 ∧ s = L ∧ e = s) ∨ (s < L ∧ b s ≠ 32 ∧ s < e ∧ e ≤ L ∧ ((κ = 1 ∧ (∀ i, s ≤ i → i < e → t_let (b i)) ∧ (e = L ∨ ¬ t_let (b e))) ∨ ((∀ i, s ≤ i → i < e → t_fig (b i)) ∧ (e = L ∨ ¬ t_fig (b e)) ∧ ((κ = 2 ∧ e - s ≤ 2 ∧ v = q_dg b s (e - s)) ∨ (κ = 4 ∧ 2 < e - s))) ∨ (e = s + 1 ∧ ¬ t_let (b s) ∧ ¬ t_fig (b s) ∧ ((κ = 3 ∧ b s = 59) ∨ (κ = 4 ∧ b s ≠ 59))))))
theorem q_tok_ex {b : Nat → Nat} {L p : Nat} (hp : p ≤ L) : ∃ κ s e v, q_tok b L p κ s e v := by
  obtain ⟨s, h1, h2, h3, h4⟩ := t_run (fun i => b i = 32) L (L - p) p (by omega)
  rcases Nat.lt_or_ge s L with z | z
  · have h5 : b s ≠ 32 := by
      rcases h4 with q | q
      · omega
      · exact q
    by_cases c1 : t_let (b s)
    · obtain ⟨e, e1, e2, e3, e4⟩ := t_run (fun i => t_let (b i)) L (L - (s + 1)) (s + 1) (by omega)
      refine ⟨1, s, e, 0, h1, h2, h3, Or.inr ⟨z, h5, by omega, e2, Or.inl ⟨rfl, fun i q1 q2 => ?_, e4⟩⟩⟩
      rcases Nat.lt_or_ge s i with y | y
      · exact e3 i y q2
      · rw [show i = s by omega]; exact c1
    · by_cases c2 : t_fig (b s)
      · obtain ⟨e, e1, e2, e3, e4⟩ := t_run (fun i => t_fig (b i)) L (L - (s + 1)) (s + 1) (by omega)
        have ef : ∀ i, s ≤ i → i < e → t_fig (b i) := fun i q1 q2 => by
          rcases Nat.lt_or_ge s i with y | y
          · exact e3 i y q2
          · rw [show i = s by omega]; exact c2
        rcases Nat.lt_or_ge 2 (e - s) with y | y
        · exact ⟨4, s, e, 0, h1, h2, h3, Or.inr ⟨z, h5, by omega, e2, Or.inr (Or.inl ⟨ef, e4, Or.inr ⟨rfl, y⟩⟩)⟩⟩
        · exact ⟨2, s, e, q_dg b s (e - s), h1, h2, h3, Or.inr ⟨z, h5, by omega, e2, Or.inr (Or.inl ⟨ef, e4, Or.inl ⟨rfl, y, rfl⟩⟩)⟩⟩
      · by_cases c3 : b s = 59
        · exact ⟨3, s, s + 1, 0, h1, h2, h3, Or.inr ⟨z, h5, by omega, by omega, Or.inr (Or.inr ⟨rfl, c1, c2, Or.inl ⟨rfl, c3⟩⟩)⟩⟩
        · exact ⟨4, s, s + 1, 0, h1, h2, h3, Or.inr ⟨z, h5, by omega, by omega, Or.inr (Or.inr ⟨rfl, c1, c2, Or.inr ⟨rfl, c3⟩⟩)⟩⟩
  · exact ⟨0, s, s, 0, h1, h2, h3, Or.inl ⟨rfl, by omega, rfl⟩⟩
theorem q_dg_1 {b : Nat → Nat} {s : Nat} (h : t_fig (b s)) : q_dg b s 1 ≤ 9 := by
  have e : q_dg b s 1 = 10 * 0 + (b (s + 0) - 48) := rfl
  unfold t_fig at h
  rw [e, Nat.add_zero]
  omega
theorem q_dg_2 {b : Nat → Nat} {s k : Nat} (h : ∀ i, i < k → t_fig (b (s + i))) (hk : k ≤ 2) : q_dg b s k ≤ 99 := by
  rcases (show k = 0 ∨ k = 1 ∨ k = 2 by omega) with rfl | rfl | rfl
  · exact Nat.zero_le _
  · have := q_dg_1 (b := b) (s := s) (h 0 (by omega))
    omega
  · have h1 := q_dg_1 (b := b) (s := s) (h 0 (by omega))
    have h2 := h 1 (by omega)
    have e : q_dg b s 2 = 10 * q_dg b s 1 + (b (s + 1) - 48) := rfl
    unfold t_fig at h2
    rw [e]
    omega
/-! ===== the class's tape ===== -/
def t_c (b : Nat → Nat) (L : Nat) (J : Nat → Nat → Int32) : Prop := L ≤ 160 ∧ J 33 1 = nI L ∧ ∀ i, i < L → b i ≤ 127 ∧ J 34 i = nI (b i)
def c_ft (J J' : Nat → Nat → Int32) : Prop := (∀ a, a ≠ 33 → J' a = J a) ∧ J' 33 1 = J 33 1
theorem c_ft_trans {I J K : Nat → Nat → Int32} (h : c_ft I J) (h' : c_ft J K) : c_ft I K := ⟨fun a ha => (h'.1 a ha).trans (h.1 a ha), h'.2.trans h.2⟩
theorem c_ft_u {J : Nat → Nat → Int32} {k : Nat} {v : Int32} (hk : k ≠ 1) : c_ft J (g_u J 33 k v) := ⟨fun _ h => g_u_ne h, u_nk (fun q => hk q.symm)⟩
theorem t_c_ft {b : Nat → Nat} {L : Nat} {J J' : Nat → Nat → Int32} (h : t_c b L J) (hf : c_ft J J') : t_c b L J' := ⟨h.1, by rw [hf.2]; exact h.2.1, fun i hi => by rw [hf.1 34 (by decide)]; exact h.2.2 i hi⟩
theorem c_let1 {fu c : Nat} {S : g_St} (h : t_let c) : f_X5_isLetter fu (nI c) S = some (1, S) := by
  unfold t_let at h
  unfold f_X5_isLetter
  rw [if_neg (show ¬ nI c < (97 : Int32) from nI_nlt (b := 97) h.1 (by omega)), if_neg (show ¬ (122 : Int32) < nI c from nI_nlt (a := 122) h.2 (by omega)), e_zb1]
theorem c_let0 {fu c : Nat} {S : g_St} (h : ¬ t_let c) (hc : c ≤ 127) : f_X5_isLetter fu (nI c) S = some (0, S) := by
  unfold t_let at h
  unfold f_X5_isLetter
  rw [e_zb0, e_zb1]
  by_cases q : c < 97
  · rw [if_pos (show nI c < (97 : Int32) from nI_lt (b := 97) q (by omega))]
  · rw [if_neg (show ¬ nI c < (97 : Int32) from nI_nlt (b := 97) (by omega) (by omega)), if_pos (show (122 : Int32) < nI c from nI_lt (a := 122) (by omega) (by omega))]
theorem c_fig1 {fu c : Nat} {S : g_St} (h : t_fig c) : f_X5_isFigure fu (nI c) S = some (1, S) := by
  unfold t_fig at h
  unfold f_X5_isFigure
  rw [if_neg (show ¬ nI c < (48 : Int32) from nI_nlt (b := 48) h.1 (by omega)), if_neg (show ¬ (57 : Int32) < nI c from nI_nlt (a := 57) h.2 (by omega)), e_zb1]
theorem c_fig0 {fu c : Nat} {S : g_St} (h : ¬ t_fig c) (hc : c ≤ 127) : f_X5_isFigure fu (nI c) S = some (0, S) := by
  unfold t_fig at h
  unfold f_X5_isFigure
  rw [e_zb0, e_zb1]
  by_cases q : c < 48
  · rw [if_pos (show nI c < (48 : Int32) from nI_lt (b := 48) q (by omega))]
  · rw [if_neg (show ¬ nI c < (48 : Int32) from nI_nlt (b := 48) (by omega) (by omega)), if_pos (show (57 : Int32) < nI c from nI_lt (a := 57) (by omega) (by omega))]
theorem c_skip {fu L p s : Nat} {b : Nat → Nat} {J : Nat → Nat → Int32} {R : Nat → Nat → Option Nat} {t : Nat → Nat} (hR : c_R R t) (ht : t_c b L J) (h2 : J 33 2 = nI p) (h1 : p ≤ s) (hs : s ≤ L) (h3 : ∀ i, p ≤ i → i < s → b i = 32) (h4 : s = L ∨ b s ≠ 32) (hf : 1000 < fu) : ∃ J', g_lp (fun t => b_X5_advance_0 fu 33 t) fu (J, R) = some (J', R) ∧ c_ft J J' ∧ J' 33 2 = nI s := by
  have hL := ht.1
  obtain ⟨r, e1, J', rfl, f1, g1⟩ := e_lp (body := fun t => b_X5_advance_0 fu 33 t) (s - p)
    (fun i q => ∃ J', q = (J', R) ∧ c_ft J J' ∧ J' 33 2 = nI (p + i)) (fun q => ∃ J', q = (J', R) ∧ c_ft J J' ∧ J' 33 2 = nI s) (by
    rintro i q hi ⟨J', rfl, f1, g1⟩
    have ht' := t_c_ft ht f1
    have b1 := (ht'.2.2 (p + i) (by omega)).2
    rw [h3 (p + i) (by omega) (by omega)] at b1
    refine ⟨(g_u J' 33 2 (nI (p + i + 1)), R), ?_, _, rfl, c_ft_trans f1 (c_ft_u (by decide)), u_at⟩
    show b_X5_advance_0 fu 33 (J', R) = _
    unfold b_X5_advance_0
    simp (disch := omega) only [ht'.2.1, g1, nI_leI, c_ld40 hR, k_ix, b1, nI_1]
    rw [if_neg (by omega)]
    exact if_pos rfl) (by
    rintro q ⟨J', rfl, f1, g1⟩
    rw [show p + (s - p) = s by omega] at g1
    have ht' := t_c_ft ht f1
    refine ⟨_, ?_, J', rfl, f1, g1⟩
    show b_X5_advance_0 fu 33 (J', R) = _
    unfold b_X5_advance_0
    simp (disch := omega) only [ht'.2.1, g1, nI_leI]
    rcases Nat.lt_or_ge s L with z | z
    · have b1 := ht'.2.2 s z
      have b2 : b s ≠ 32 := by
        rcases h4 with q | q
        · omega
        · exact q
      rw [if_neg (by omega), c_ld40 hR, k_ix (by omega) (by omega)]
      refine if_neg (fun q => b2 ?_)
      have q' : nI (b s) = nI 32 := b1.2.symm.trans q
      exact (nI_eq (by omega) (by omega)).mp q'
    · rw [if_pos z]) 0 fu (J, R) (Nat.zero_le _) (by omega) ⟨J, rfl, ⟨fun _ _ => rfl, rfl⟩, h2⟩
  exact ⟨J', e1, f1, g1⟩
theorem c_name {fu L s e : Nat} {b : Nat → Nat} {J : Nat → Nat → Int32} {R : Nat → Nat → Option Nat} {t : Nat → Nat} (hR : c_R R t) (ht : t_c b L J) (h2 : J 33 2 = nI s) (h3' : J 33 3 = nI s) (h1 : s ≤ e) (hs : e ≤ L) (h3 : ∀ i, s ≤ i → i < e → t_let (b i)) (h4 : e = L ∨ ¬ t_let (b e)) (hf : 1000 < fu) : ∃ J', f_X5_takeName fu 33 (J, R) = some (1, (J', R)) ∧ c_ft J J' ∧ J' 33 2 = nI e ∧ J' 33 3 = nI s := by
  have hL := ht.1
  obtain ⟨r, e1, J', rfl, f1, g1, k1⟩ := e_lp (body := fun t => b_X5_takeName_0 fu 33 t) (e - s)
    (fun i q => ∃ J', q = (J', R) ∧ c_ft J J' ∧ J' 33 2 = nI (s + i) ∧ J' 33 3 = nI s) (fun q => ∃ J', q = (J', R) ∧ c_ft J J' ∧ J' 33 2 = nI e ∧ J' 33 3 = nI s) (by
    rintro i q hi ⟨J', rfl, f1, g1, k1⟩
    have ht' := t_c_ft ht f1
    have b1 := (ht'.2.2 (s + i) (by omega)).2
    refine ⟨(g_u J' 33 2 (nI (s + i + 1)), R), ?_, _, rfl, c_ft_trans f1 (c_ft_u (by decide)), u_at, by rw [u_nk (by decide)]; exact k1⟩
    show b_X5_takeName_0 fu 33 (J', R) = _
    unfold b_X5_takeName_0
    simp (disch := omega) only [ht'.2.1, g1, nI_leI, c_ld40 hR, k_ix, b1, c_let1 (h3 (s + i) (by omega) (by omega)), k_bd, nI_1]
    rw [if_neg (by omega)]
    exact if_neg (show ¬ (1 : Int32) = 0 by decide)) (by
    rintro q ⟨J', rfl, f1, g1, k1⟩
    rw [show s + (e - s) = e by omega] at g1
    have ht' := t_c_ft ht f1
    refine ⟨_, ?_, J', rfl, f1, g1, k1⟩
    show b_X5_takeName_0 fu 33 (J', R) = _
    unfold b_X5_takeName_0
    simp (disch := omega) only [ht'.2.1, g1, nI_leI]
    rcases Nat.lt_or_ge e L with z | z
    · obtain ⟨b0, b1⟩ := ht'.2.2 e z
      have b2 : ¬ t_let (b e) := by
        rcases h4 with q | q
        · omega
        · exact q
      rw [if_neg (by omega), c_ld40 hR, k_ix (by omega) (by omega), b1, c_let0 b2 b0, k_bd]
      exact if_pos rfl
    · rw [if_pos z]) 0 fu (J, R) (Nat.zero_le _) (by omega) ⟨J, rfl, ⟨fun _ _ => rfl, rfl⟩, h2, h3'⟩
  exact ⟨J', (e_th e1).trans rfl, f1, g1, k1⟩
theorem t_rem {w c : Nat} (hw : w < 100) (hc : t_fig c) : ((10 : Int32) * nI w + nI c - 48) - ((10 : Int32) * nI w + nI c - 48) / 100 * 100 = nI ((10 * w + (c - 48)) % 100) := by
  unfold t_fig at hc
  have e1 : (10 : Int32) * nI w + nI c - 48 = nI (10 * w + (c - 48)) := by
    rw [show (10 : Int32) * nI w = nI (10 * w) from pk_mul 10 w, nI_add, show nI (10 * w + c) - 48 = nI (10 * w + c - 48) from pk_sub (b := 48) (by omega)]
    congr 1
    omega
  rw [e1]
  exact pk_rem (d := 100) (by omega) (by omega) (by omega)
theorem c_numb {fu L s e : Nat} {b : Nat → Nat} {J : Nat → Nat → Int32} {R : Nat → Nat → Option Nat} {t : Nat → Nat} (hR : c_R R t) (ht : t_c b L J) (h2 : J 33 2 = nI s) (h3' : J 33 3 = nI s) (h1 : s ≤ e) (hs : e ≤ L) (h3 : ∀ i, s ≤ i → i < e → t_fig (b i)) (h4 : e = L ∨ ¬ t_fig (b e)) (hf : 1000 < fu) : ∃ J', f_X5_takeNumber fu 33 (J, R) = some (nI (if 2 < e - s then 4 else 2), (J', R)) ∧ c_ft J J' ∧ J' 33 2 = nI e ∧ J' 33 3 = nI s ∧ (e - s ≤ 2 → J' 33 4 = nI (q_dg b s (e - s))) := by
  have hL := ht.1
  obtain ⟨r, e1, J', w, rfl, f1, g1, k1, w1, w2, w3⟩ := e_lp (body := fun t => b_X5_takeNumber_5 fu 33 t) (e - s)
    (fun i q => ∃ J' w, q = (J', R) ∧ c_ft J J' ∧ J' 33 2 = nI (s + i) ∧ J' 33 3 = nI s ∧ J' 33 4 = nI w ∧ w < 100 ∧ (i ≤ 2 → w = q_dg b s i)) (fun q => ∃ J' w, q = (J', R) ∧ c_ft J J' ∧ J' 33 2 = nI e ∧ J' 33 3 = nI s ∧ J' 33 4 = nI w ∧ w < 100 ∧ (e - s ≤ 2 → w = q_dg b s (e - s))) (by
    rintro i q hi ⟨J', w, rfl, f1, g1, k1, w1, w2, w3⟩
    have ht' := t_c_ft ht f1
    have b1 := (ht'.2.2 (s + i) (by omega)).2
    have hfig := h3 (s + i) (by omega) (by omega)
    refine ⟨(g_u (g_u J' 33 4 (nI ((10 * w + (b (s + i) - 48)) % 100))) 33 2 (nI (s + i + 1)), R), ?_, _, (10 * w + (b (s + i) - 48)) % 100, rfl, c_ft_trans f1 (c_ft_trans (c_ft_u (by decide)) (c_ft_u (by decide))), u_at, ?_, ?_, by omega, fun hi2 => ?_⟩
    · show b_X5_takeNumber_5 fu 33 (J', R) = _
      have u2 : ∀ x, (g_u J' 33 4 x) 33 2 = nI (s + i) := fun x => by rw [u_nk (by decide)]; exact g1
      unfold b_X5_takeNumber_5
      simp (disch := omega) only [ht'.2.1, g1, nI_leI, c_ld40 hR, k_ix, b1, c_fig1 hfig, k_bd, w1, u2, t_rem w2 hfig, nI_1]
      rw [if_neg (by omega), if_neg (show ¬ (1 : Int32) = 0 by decide), e_nz (show ¬ (100 : Int32) = 0 by decide)]
    · rw [u_nk (by decide), u_nk (by decide)]; exact k1
    · rw [u_nk (by decide), u_at]
    · have ew := w3 (by omega)
      have eq : q_dg b s (i + 1) = 10 * q_dg b s i + (b (s + i) - 48) := rfl
      have hle := q_dg_2 (b := b) (s := s) (k := i + 1) (fun j hj => h3 (s + j) (by omega) (by omega)) hi2
      rw [eq] at hle ⊢
      rw [ew]
      omega) (by
    rintro q ⟨J', w, rfl, f1, g1, k1, w1, w2, w3⟩
    rw [show s + (e - s) = e by omega] at g1
    have ht' := t_c_ft ht f1
    refine ⟨_, ?_, J', w, rfl, f1, g1, k1, w1, w2, w3⟩
    show b_X5_takeNumber_5 fu 33 (J', R) = _
    unfold b_X5_takeNumber_5
    simp (disch := omega) only [ht'.2.1, g1, nI_leI]
    rcases Nat.lt_or_ge e L with z | z
    · obtain ⟨b0, b1⟩ := ht'.2.2 e z
      have b2 : ¬ t_fig (b e) := by
        rcases h4 with q | q
        · omega
        · exact q
      rw [if_neg (by omega), c_ld40 hR, k_ix (by omega) (by omega), b1, c_fig0 b2 b0, k_bd]
      exact if_pos rfl
    · rw [if_pos z]) 0 fu (g_u J 33 4 (nI 0), R) (Nat.zero_le _) (by omega) ⟨g_u J 33 4 (nI 0), 0, rfl, c_ft_u (by decide), by rw [u_nk (by decide)]; exact h2, by rw [u_nk (by decide)]; exact h3', u_at, by omega, fun _ => rfl⟩
  refine ⟨J', ?_, f1, g1, k1, fun h => by rw [w1, w3 h]⟩
  refine (e_th e1).trans ?_
  show (if (2 : Int32) < J' 33 2 - J' 33 3 then _ else _) = _
  rw [g1, k1, pk_sub h1]
  by_cases c : 2 < e - s
  · rw [if_pos c, if_pos (show (2 : Int32) < nI (e - s) from nI_lt (a := 2) c (by omega))]
    rfl
  · rw [if_neg c, if_neg (show ¬ (2 : Int32) < nI (e - s) from nI_nlt (a := 2) (by omega) (by omega))]
    rfl
theorem c_adv {fu L p κ s e v : Nat} {b : Nat → Nat} {J : Nat → Nat → Int32} {R : Nat → Nat → Option Nat} {t : Nat → Nat} (hR : c_R R t) (ht : t_c b L J) (h2 : J 33 2 = nI p) (hq : q_tok b L p κ s e v) (hf : 1000 < fu) : ∃ J', f_X5_advance fu 33 (J, R) = some (nI κ, (J', R)) ∧ c_ft J J' ∧ J' 33 2 = nI e ∧ J' 33 3 = nI s ∧ (κ = 2 → J' 33 4 = nI v) := by
  have hL := ht.1
  obtain ⟨h1, hs, h3, h4⟩ := hq
  obtain ⟨J1, e1, f1, g1⟩ := c_skip (fu := fu) hR ht h2 h1 hs h3 (by rcases h4 with ⟨_, q, _⟩ | ⟨_, q, _⟩ <;> omega) hf
  have f2 : c_ft J (g_u J1 33 3 (J1 33 2)) := c_ft_trans f1 (c_ft_u (by decide))
  have a3 : (g_u J1 33 3 (J1 33 2)) 33 3 = nI s := by rw [u_at]; exact g1
  have a2 : (g_u J1 33 3 (J1 33 2)) 33 2 = nI s := by rw [u_nk (by decide)]; exact g1
  unfold f_X5_advance
  rw [e1, k_th]
  dsimp only
  generalize g_u J1 33 3 (J1 33 2) = J2 at f2 a2 a3
  have ht2 := t_c_ft ht f2
  rcases h4 with ⟨rfl, q1, q2⟩ | ⟨z, bs, he1, he2, h5⟩
  · refine ⟨J2, ?_, f2, by rw [q2]; exact a2, a3, fun q => absurd q (by decide)⟩
    rw [a3, ht2.2.1, if_neg (nI_nlt (by omega) (by omega))]
    rfl
  · obtain ⟨b0, b1⟩ := ht2.2.2 s z
    rw [a3, ht2.2.1, if_pos (nI_lt z (by omega)), c_ld40 hR, k_ix (by omega) (by omega), b1]
    rcases h5 with ⟨rfl, l1, l2⟩ | ⟨l1, l2, l3⟩ | ⟨l0, l1, l2, l3⟩
    · obtain ⟨J3, e3, f3, g3, k3⟩ := c_name (fu := fu) hR ht2 a2 a3 (by omega) he2 l1 l2 hf
      refine ⟨J3, ?_, c_ft_trans f2 f3, g3, k3, fun q => absurd q (by decide)⟩
      rw [c_let1 (l1 s (by omega) (by omega)), k_bd, if_neg (show ¬ (1 : Int32) = 0 by decide), e3, k_bd]
      rfl
    · have lf := l1 s (by omega) (by omega)
      have nl : ¬ t_let (b s) := fun q => by unfold t_let at q; unfold t_fig at lf; omega
      obtain ⟨J3, e3, f3, g3, k3, v3⟩ := c_numb (fu := fu) hR ht2 a2 a3 (by omega) he2 l1 l2 hf
      rw [c_let0 nl b0, k_bd, if_pos (show (0 : Int32) = 0 from rfl)]
      dsimp only
      rw [c_ld40 hR, a3, k_ix (by omega) (by omega), b1, c_fig1 lf, k_bd, if_neg (show ¬ (1 : Int32) = 0 by decide), e3, k_bd]
      rcases l3 with ⟨rfl, m1, m2⟩ | ⟨rfl, m1⟩
      · exact ⟨J3, by rw [if_neg (by omega)], c_ft_trans f2 f3, g3, k3, fun _ => by rw [m2]; exact v3 m1⟩
      · exact ⟨J3, by rw [if_pos m1], c_ft_trans f2 f3, g3, k3, fun q => absurd q (by decide)⟩
    · rw [c_let0 l1 b0, k_bd, if_pos (show (0 : Int32) = 0 from rfl)]
      dsimp only
      rw [c_ld40 hR, a3, k_ix (by omega) (by omega), b1, c_fig0 l2 b0, k_bd, if_pos (show (0 : Int32) = 0 from rfl)]
      dsimp only
      have x3 : (g_u J2 33 2 (nI (s + 1))) 33 3 = nI s := by rw [u_nk (by decide)]; exact a3
      have x4 : (g_u J2 33 2 (nI (s + 1))) 34 s = nI (b s) := by rw [u_ni (by decide)]; exact b1
      rw [c_ld40 hR, a2, nI_1, x3, k_ix (by omega) (by omega)]
      show ∃ J', (if (g_u J2 33 2 (nI (s + 1))) 34 s = 59 then _ else _) = _ ∧ _
      rw [x4]
      rcases l3 with ⟨rfl, m1⟩ | ⟨rfl, m1⟩
      · refine ⟨g_u J2 33 2 (nI (s + 1)), ?_, c_ft_trans f2 (c_ft_u (by decide)), by rw [u_at, l0], x3, fun q => absurd q (by decide)⟩
        rw [if_pos (show nI (b s) = (59 : Int32) from by rw [m1]; rfl)]
        rfl
      · refine ⟨g_u J2 33 2 (nI (s + 1)), ?_, c_ft_trans f2 (c_ft_u (by decide)), by rw [u_at, l0], x3, fun q => absurd q (by decide)⟩
        rw [if_neg (show ¬ nI (b s) = (59 : Int32) from fun q => m1 ((nI_eq (b := 59) (by omega) (by omega)).mp q))]
        rfl
/-! ===== the reference's tape ===== -/
def t_m (b : Nat → Nat) (L : Nat) (J : Nat → Nat → Int32) : Prop := L ≤ 160 ∧ J 0 3 = nI L ∧ ∀ i, i < L → b i ≤ 127 ∧ J 3 i = nI (b i)
def m_ft (J J' : Nat → Nat → Int32) : Prop := (∀ a, a ≠ 0 → J' a = J a) ∧ ∀ k, k < 5 ∨ 11 ≤ k → J' 0 k = J 0 k
theorem m_ft_trans {I J K : Nat → Nat → Int32} (h : m_ft I J) (h' : m_ft J K) : m_ft I K := ⟨fun a ha => (h'.1 a ha).trans (h.1 a ha), fun k hk => (h'.2 k hk).trans (h.2 k hk)⟩
theorem m_ft_refl {I : Nat → Nat → Int32} : m_ft I I := ⟨fun _ _ => rfl, fun _ _ => rfl⟩
theorem m_ft_u {J : Nat → Nat → Int32} {k : Nat} {v : Int32} (h1 : 5 ≤ k) (h2 : k ≤ 10) : m_ft J (g_u J 0 k v) := ⟨fun _ h => g_u_ne h, fun _ _ => u_nk (by omega)⟩
theorem t_m_ft {b : Nat → Nat} {L : Nat} {J J' : Nat → Nat → Int32} (h : t_m b L J) (hf : m_ft J J') : t_m b L J' := ⟨h.1, by rw [hf.2 3 (by omega)]; exact h.2.1, fun i hi => by rw [hf.1 3 (by decide)]; exact h.2.2 i hi⟩
def q_by (b : Nat → Nat) (L p : Nat) : Int32 := if p < L then nI (b p) else -4
theorem m_byte {fu L p : Nat} {b : Nat → Nat} {J : Nat → Nat → Int32} {R : Nat → Nat → Option Nat} (hM : m_R R) (ht : t_m b L J) (hp : p ≤ 1000) : f_X8_byteAt fu 0 (nI p) (J, R) = some (q_by b L p, (J, R)) := by
  have hL := ht.1
  unfold f_X8_byteAt q_by
  show (if J 0 3 ≤ nI p then _ else _) = _
  rw [ht.2.1]
  by_cases c : p < L
  · rw [if_neg (nI_ge c (by omega)), if_pos c]
    simp (disch := omega) only [m_ld2 hM, k_ix, (ht.2.2 p c).2]
  · rw [if_pos (nI_le (by omega) (by omega)), if_neg c]
theorem m_inb {fu L p lo hi : Nat} {x y : Int64} {b : Nat → Nat} {S : g_St} (hx : x = lN lo) (hy : y = lN hi) (hl : lo ≤ 200) (hh : hi ≤ 200) (hb : p < L → b p ≤ 127) : f_X8_in fu (Int32.toInt64 (q_by b L p)) x y S = some ((if p < L ∧ lo ≤ b p ∧ b p ≤ hi then 1 else 0), S) := by
  subst hx hy
  rw [m_in, Int32.toInt_toInt64, lN_toInt (by omega), lN_toInt (by omega)]
  unfold q_by
  by_cases c : p < L
  · have := hb c
    rw [if_pos c, nI_toInt (by omega)]
    by_cases d : lo ≤ b p ∧ b p ≤ hi
    · rw [if_pos (by omega), if_pos ⟨c, d⟩]
    · rw [if_neg (by omega), if_neg (fun q => d q.2)]
  · have e4 : (-4 : Int32).toInt = -4 := rfl
    rw [if_neg c, if_neg (by omega), if_neg (fun q => c q.1)]
/-- what the reference knows of the next token -/
def m_lk (J : Nat → Nat → Int32) (κ s e v : Nat) : Prop := (κ = 4 ∧ J 0 5 = nI 1 ∧ J 0 6 = nI s) ∨ (κ ≠ 4 ∧ J 0 5 = nI 0 ∧ J 0 9 = nI κ ∧ J 0 8 = nI s ∧ J 0 7 = nI e ∧ (κ = 2 → J 0 10 = nI v))
theorem m_fails {fu c : Nat} {J : Nat → Nat → Int32} {R : Nat → Nat → Option Nat} (h : J 0 5 = nI 0) : f_X8_fails fu 0 (nI c) (J, R) = some ((), (g_u (g_u J 0 5 (nI c)) 0 6 (J 0 8), R)) := by
  unfold f_X8_fails
  show (if J 0 5 = 0 then _ else _) = _
  rw [h, if_pos (show nI 0 = (0 : Int32) from rfl)]
  dsimp only
  rw [u_nk (show (8 : Nat) ≠ 5 by decide)]
theorem m_skip {fu L p s : Nat} {b : Nat → Nat} {J : Nat → Nat → Int32} {R : Nat → Nat → Option Nat} (hM : m_R R) (ht : t_m b L J) (h5 : J 0 5 = nI 0) (h2 : J 0 7 = nI p) (h1 : p ≤ s) (hs : s ≤ L) (h3 : ∀ i, p ≤ i → i < s → b i = 32) (h4 : s = L ∨ b s ≠ 32) (hf : 1000 < fu) : ∃ J', g_lp (fun t => b_X8_step_8 fu 0 t) fu (J, R) = some (J', R) ∧ m_ft J J' ∧ J' 0 7 = nI s ∧ J' 0 5 = nI 0 := by
  have hL := ht.1
  obtain ⟨r, e1, J', rfl, f1, g1, k1⟩ := e_lp (body := fun t => b_X8_step_8 fu 0 t) (s - p)
    (fun i q => ∃ J', q = (J', R) ∧ m_ft J J' ∧ J' 0 7 = nI (p + i) ∧ J' 0 5 = nI 0) (fun q => ∃ J', q = (J', R) ∧ m_ft J J' ∧ J' 0 7 = nI s ∧ J' 0 5 = nI 0) (by
    rintro i q hi ⟨J', rfl, f1, g1, k1⟩
    have ht' := t_m_ft ht f1
    refine ⟨(g_u J' 0 7 (nI (p + i + 1)), R), ?_, _, rfl, m_ft_trans f1 (m_ft_u (by decide) (by decide)), u_at, by rw [u_nk (by decide)]; exact k1⟩
    show b_X8_step_8 fu 0 (J', R) = _
    have eb : q_by b L (p + i) = 32 := by
      unfold q_by
      rw [if_pos (by omega), h3 (p + i) (by omega) (by omega)]
      rfl
    unfold b_X8_step_8
    simp (disch := omega) only [g1, m_byte hM ht', k_bd, eb, nI_1]
    exact if_pos trivial) (by
    rintro q ⟨J', rfl, f1, g1, k1⟩
    rw [show p + (s - p) = s by omega] at g1
    have ht' := t_m_ft ht f1
    refine ⟨_, ?_, J', rfl, f1, g1, k1⟩
    show b_X8_step_8 fu 0 (J', R) = _
    unfold b_X8_step_8
    simp (disch := omega) only [g1, m_byte hM ht', k_bd]
    refine if_neg (fun q => ?_)
    unfold q_by at q
    rcases Nat.lt_or_ge s L with z | z
    · rw [if_pos z] at q
      have := (ht'.2.2 s z).1
      have := (nI_eq (b := 32) (by omega) (by omega)).mp q
      omega
    · rw [if_neg (by omega)] at q
      exact absurd q (by decide)) 0 fu (J, R) (Nat.zero_le _) (by omega) ⟨J, rfl, m_ft_refl, h2, h5⟩
  exact ⟨J', e1, f1, g1, k1⟩
theorem m_name {fu L s e : Nat} {b : Nat → Nat} {J : Nat → Nat → Int32} {R : Nat → Nat → Option Nat} (hM : m_R R) (ht : t_m b L J) (h5 : J 0 5 = nI 0) (h8 : J 0 8 = nI s) (h2 : J 0 7 = nI s) (h1 : s ≤ e) (hs : e ≤ L) (h3 : ∀ i, s ≤ i → i < e → t_let (b i)) (h4 : e = L ∨ ¬ t_let (b e)) (hf : 1000 < fu) : ∃ J', g_lp (fun t => b_X8_step_84 fu 0 t) fu (J, R) = some (J', R) ∧ m_ft J J' ∧ J' 0 7 = nI e ∧ J' 0 5 = nI 0 ∧ J' 0 8 = nI s := by
  have hL := ht.1
  obtain ⟨r, e1, J', rfl, f1, g1, k1, l1⟩ := e_lp (body := fun t => b_X8_step_84 fu 0 t) (e - s)
    (fun i q => ∃ J', q = (J', R) ∧ m_ft J J' ∧ J' 0 7 = nI (s + i) ∧ J' 0 5 = nI 0 ∧ J' 0 8 = nI s) (fun q => ∃ J', q = (J', R) ∧ m_ft J J' ∧ J' 0 7 = nI e ∧ J' 0 5 = nI 0 ∧ J' 0 8 = nI s) (by
    rintro i q hi ⟨J', rfl, f1, g1, k1, l1⟩
    have ht' := t_m_ft ht f1
    have hl := h3 (s + i) (by omega) (by omega)
    refine ⟨(g_u J' 0 7 (nI (s + i + 1)), R), ?_, _, rfl, m_ft_trans f1 (m_ft_u (by decide) (by decide)), u_at, by rw [u_nk (by decide)]; exact k1, by rw [u_nk (by decide)]; exact l1⟩
    show b_X8_step_84 fu 0 (J', R) = _
    unfold b_X8_step_84
    simp (disch := omega) only [g1, m_byte hM ht', k_bd, nI_1]
    have hin := m_inb (fu := fu) (L := L) (p := s + i) (lo := 97) (hi := 122) (x := 97) (y := 122) (b := b) (S := (J', R)) rfl rfl (by omega) (by omega) (fun z => (ht'.2.2 _ z).1)
    rw [if_pos ⟨by omega, hl.1, hl.2⟩] at hin
    rw [hin, k_bd, if_neg (show ¬ (1 : Int32) = 0 by decide)]
    dsimp only
    rw [g1, nI_1]) (by
    rintro q ⟨J', rfl, f1, g1, k1, l1⟩
    rw [show s + (e - s) = e by omega] at g1
    have ht' := t_m_ft ht f1
    refine ⟨_, ?_, J', rfl, f1, g1, k1, l1⟩
    show b_X8_step_84 fu 0 (J', R) = _
    unfold b_X8_step_84
    simp (disch := omega) only [g1, m_byte hM ht', k_bd]
    have hin := m_inb (fu := fu) (L := L) (p := e) (lo := 97) (hi := 122) (x := 97) (y := 122) (b := b) (S := (J', R)) rfl rfl (by omega) (by omega) (fun z => (ht'.2.2 _ z).1)
    rw [if_neg (show ¬ (e < L ∧ 97 ≤ b e ∧ b e ≤ 122) from fun ⟨z, z1, z2⟩ => by
      rcases h4 with q | q
      · omega
      · exact q ⟨z1, z2⟩)] at hin
    rw [hin, k_bd]
    exact if_pos rfl) 0 fu (J, R) (Nat.zero_le _) (by omega) ⟨J, rfl, m_ft_refl, h2, h5, h8⟩
  exact ⟨J', e1, f1, g1, k1, l1⟩
theorem m_numb {fu L s e : Nat} {b : Nat → Nat} {J : Nat → Nat → Int32} {R : Nat → Nat → Option Nat} (hM : m_R R) (ht : t_m b L J) (h5 : J 0 5 = nI 0) (h8 : J 0 8 = nI s) (h2 : J 0 7 = nI s) (h10 : J 0 10 = nI 0) (h1 : s ≤ e) (hs : e ≤ L) (h3 : ∀ i, s ≤ i → i < e → t_fig (b i)) (h4 : e = L ∨ ¬ t_fig (b e)) (hf : 1000 < fu) : ∃ J', g_lp (fun t => b_X8_step_140 fu 0 t) fu (J, R) = some (J', R) ∧ m_ft J J' ∧ J' 0 7 = nI e ∧ J' 0 5 = nI 0 ∧ J' 0 8 = nI s ∧ (e - s ≤ 2 → J' 0 10 = nI (q_dg b s (e - s))) := by
  have hL := ht.1
  obtain ⟨r, e1, J', rfl, f1, g1, k1, l1, w1⟩ := e_lp (body := fun t => b_X8_step_140 fu 0 t) (e - s)
    (fun i q => ∃ J', q = (J', R) ∧ m_ft J J' ∧ J' 0 7 = nI (s + i) ∧ J' 0 5 = nI 0 ∧ J' 0 8 = nI s ∧ (i ≤ 2 → J' 0 10 = nI (q_dg b s i))) (fun q => ∃ J', q = (J', R) ∧ m_ft J J' ∧ J' 0 7 = nI e ∧ J' 0 5 = nI 0 ∧ J' 0 8 = nI s ∧ (e - s ≤ 2 → J' 0 10 = nI (q_dg b s (e - s)))) (by
    rintro i q hi ⟨J', rfl, f1, g1, k1, l1, w1⟩
    have ht' := t_m_ft ht f1
    have hl := h3 (s + i) (by omega) (by omega)
    have hin := m_inb (fu := fu) (L := L) (p := s + i) (lo := 48) (hi := 57) (x := 48) (y := 57) (b := b) (S := (J', R)) rfl rfl (by omega) (by omega) (fun z => (ht'.2.2 _ z).1)
    rw [if_pos ⟨by omega, hl.1, hl.2⟩] at hin
    have esub : nI (s + i) - nI s = nI i := by rw [pk_sub (by omega), Nat.add_sub_cancel_left]
    rcases Nat.lt_or_ge i 2 with z | z
    · have w := w1 (by omega)
      have eb : q_by b L (s + i) = nI (b (s + i)) := if_pos (by omega)
      have ev : (10 : Int32) * nI (q_dg b s i) + nI (b (s + i)) - 48 = nI (q_dg b s (i + 1)) := by
        have hl1 := hl.1
        rw [show (10 : Int32) * nI (q_dg b s i) = nI (10 * q_dg b s i) from pk_mul 10 _, nI_add, show nI (10 * q_dg b s i + b (s + i)) - 48 = nI (10 * q_dg b s i + b (s + i) - 48) from pk_sub (b := 48) (by omega)]
        have eq : q_dg b s (i + 1) = 10 * q_dg b s i + (b (s + i) - 48) := rfl
        rw [eq]
        congr 1
        omega
      refine ⟨(g_u (g_u J' 0 10 (nI (q_dg b s (i + 1)))) 0 7 (nI (s + i + 1)), R), ?_, _, rfl, m_ft_trans f1 (m_ft_trans (m_ft_u (by decide) (by decide)) (m_ft_u (by decide) (by decide))), u_at, by rw [u_nk (by decide), u_nk (by decide)]; exact k1, by rw [u_nk (by decide), u_nk (by decide)]; exact l1, fun _ => by rw [u_nk (by decide), u_at]⟩
      show b_X8_step_140 fu 0 (J', R) = _
      unfold b_X8_step_140 j_X8_step_201_in140
      simp (disch := omega) only [g1, m_byte hM ht', k_bd, hin, l1, esub]
      rw [if_neg (show ¬ (1 : Int32) = 0 by decide), if_neg (show ¬ (2 : Int32) ≤ nI i from nI_ge (b := 2) z (by omega)), w, eb, ev, u_nk (show (7 : Nat) ≠ 10 by decide), g1, nI_1]
    · refine ⟨(g_u (g_u J' 0 10 (J' 0 10)) 0 7 (nI (s + i + 1)), R), ?_, _, rfl, m_ft_trans f1 (m_ft_trans (m_ft_u (by decide) (by decide)) (m_ft_u (by decide) (by decide))), u_at, by rw [u_nk (by decide), u_nk (by decide)]; exact k1, by rw [u_nk (by decide), u_nk (by decide)]; exact l1, fun q => by omega⟩
      show b_X8_step_140 fu 0 (J', R) = _
      unfold b_X8_step_140 j_X8_step_201_in140
      simp (disch := omega) only [g1, m_byte hM ht', k_bd, hin, l1, esub]
      rw [if_neg (show ¬ (1 : Int32) = 0 by decide), if_pos (show (2 : Int32) ≤ nI i from nI_le (a := 2) z (by omega)), u_nk (show (7 : Nat) ≠ 10 by decide), g1, nI_1]) (by
    rintro q ⟨J', rfl, f1, g1, k1, l1, w1⟩
    rw [show s + (e - s) = e by omega] at g1
    have ht' := t_m_ft ht f1
    refine ⟨_, ?_, J', rfl, f1, g1, k1, l1, w1⟩
    show b_X8_step_140 fu 0 (J', R) = _
    unfold b_X8_step_140
    simp (disch := omega) only [g1, m_byte hM ht', k_bd]
    have hin := m_inb (fu := fu) (L := L) (p := e) (lo := 48) (hi := 57) (x := 48) (y := 57) (b := b) (S := (J', R)) rfl rfl (by omega) (by omega) (fun z => (ht'.2.2 _ z).1)
    rw [if_neg (show ¬ (e < L ∧ 48 ≤ b e ∧ b e ≤ 57) from fun ⟨z, z1, z2⟩ => by
      rcases h4 with q | q
      · omega
      · exact q ⟨z1, z2⟩)] at hin
    rw [hin, k_bd]
    exact if_pos rfl) 0 fu (J, R) (Nat.zero_le _) (by omega) ⟨J, rfl, m_ft_refl, h2, h5, h8, fun _ => h10⟩
  exact ⟨J', e1, f1, g1, k1, l1, w1⟩
theorem m_step {fu L p κ s e v : Nat} {b : Nat → Nat} {J : Nat → Nat → Int32} {R : Nat → Nat → Option Nat} (hM : m_R R) (ht : t_m b L J) (h5 : J 0 5 = nI 0) (h2 : J 0 7 = nI p) (hq : q_tok b L p κ s e v) (hf : 1000 < fu) : ∃ J', f_X8_step fu 0 (J, R) = some ((), (J', R)) ∧ m_ft J J' ∧ m_lk J' κ s e v := by
  have hL := ht.1
  obtain ⟨h1, hs, h3, h4⟩ := hq
  obtain ⟨J1, e1, f1, g1, k1⟩ := m_skip (fu := fu) hM ht h5 h2 h1 hs h3 (by rcases h4 with ⟨_, q, _⟩ | ⟨_, q, _⟩ <;> omega) hf
  have f2 : m_ft J (g_u J1 0 8 (J1 0 7)) := m_ft_trans f1 (m_ft_u (by decide) (by decide))
  have a8 : (g_u J1 0 8 (J1 0 7)) 0 8 = nI s := by rw [u_at]; exact g1
  have a7 : (g_u J1 0 8 (J1 0 7)) 0 7 = nI s := by rw [u_nk (by decide)]; exact g1
  have a5 : (g_u J1 0 8 (J1 0 7)) 0 5 = nI 0 := by rw [u_nk (by decide)]; exact k1
  unfold f_X8_step
  show ∃ J', (if J 0 5 ≤ 0 then _ else _) = _ ∧ _
  rw [h5, if_pos (show nI 0 ≤ (0 : Int32) by decide), e1, k_th]
  dsimp only
  generalize g_u J1 0 8 (J1 0 7) = J2 at f2 a5 a7 a8
  have ht2 := t_m_ft ht f2
  rw [a7, m_byte hM ht2 (by omega), k_bd]
  dsimp only
  have hb4 : ∀ x, t_m b L (g_u J2 0 10 x) := fun x => t_m_ft ht2 (m_ft_u (by decide) (by decide))
  rcases h4 with ⟨rfl, q1, q2⟩ | ⟨z, bs, he1, he2, h6⟩
  · have eb : q_by b L s = -4 := if_neg (by omega)
    refine ⟨g_u (g_u J2 0 10 0) 0 9 0, ?_, m_ft_trans f2 (m_ft_trans (m_ft_u (by decide) (by decide)) (m_ft_u (by decide) (by decide))), Or.inr ⟨by decide, ?_, u_at, ?_, ?_, fun q => absurd q (by decide)⟩⟩
    · rw [eb, if_pos rfl]
    · rw [u_nk (by decide), u_nk (by decide)]; exact a5
    · rw [u_nk (by decide), u_nk (by decide)]; exact a8
    · rw [u_nk (by decide), u_nk (by decide), q2]; exact a7
  · obtain ⟨b0, b1⟩ := ht2.2.2 s z
    have eb : q_by b L s = nI (b s) := if_pos z
    have hn4 : ¬ q_by b L s = -4 := by rw [eb]; exact a_n4 (by omega)
    have hl : f_X8_in fu (Int32.toInt64 (q_by b L s)) 97 122 (g_u J2 0 10 0, R) = some ((if s < L ∧ 97 ≤ b s ∧ b s ≤ 122 then 1 else 0), (g_u J2 0 10 0, R)) := m_inb rfl rfl (by omega) (by omega) (fun _ => b0)
    have hfg : f_X8_in fu (Int32.toInt64 (q_by b L s)) 48 57 (g_u J2 0 10 0, R) = some ((if s < L ∧ 48 ≤ b s ∧ b s ≤ 57 then 1 else 0), (g_u J2 0 10 0, R)) := m_inb rfl rfl (by omega) (by omega) (fun _ => b0)
    have f3 : m_ft J (g_u J2 0 10 0) := m_ft_trans f2 (m_ft_u (by decide) (by decide))
    have c5 : (g_u J2 0 10 0) 0 5 = nI 0 := by rw [u_nk (by decide)]; exact a5
    have c7 : (g_u J2 0 10 0) 0 7 = nI s := by rw [u_nk (by decide)]; exact a7
    have c8 : (g_u J2 0 10 0) 0 8 = nI s := by rw [u_nk (by decide)]; exact a8
    have c10 : (g_u J2 0 10 0) 0 10 = nI 0 := u_at
    rw [if_neg hn4]
    generalize g_u J2 0 10 0 = J3 at f3 c5 c7 c8 c10 hl hfg
    have ht3 := t_m_ft ht f3
    rcases h6 with ⟨rfl, l1, l2⟩ | ⟨l1, l2, l3⟩ | ⟨l0, l1, l2, l3⟩
    · have lf := l1 s (by omega) (by omega)
      obtain ⟨J4, e4, f4, g4, k4, m4⟩ := m_name (fu := fu) hM ht3 c5 c8 c7 (by omega) he2 l1 l2 hf
      rw [if_pos ⟨z, lf.1, lf.2⟩] at hl
      rw [hl, k_bd, if_neg (show ¬ (1 : Int32) = 0 by decide), e4, k_th]
      dsimp only
      refine ⟨_, rfl, m_ft_trans f3 (m_ft_trans f4 (m_ft_u (by decide) (by decide))), Or.inr ⟨by decide, ?_, u_at, ?_, ?_, fun q => absurd q (by decide)⟩⟩
      · rw [u_nk (by decide)]; exact k4
      · rw [u_nk (by decide)]; exact m4
      · rw [u_nk (by decide)]; exact g4
    · have lf := l1 s (by omega) (by omega)
      have nl : ¬ (s < L ∧ 97 ≤ b s ∧ b s ≤ 122) := fun q => by unfold t_fig at lf; omega
      obtain ⟨J4, e4, f4, g4, k4, m4, w4⟩ := m_numb (fu := fu) hM ht3 c5 c8 c7 c10 (by omega) he2 l1 l2 hf
      have d7 : (g_u J4 0 9 2) 0 7 = nI e := by rw [u_nk (by decide)]; exact g4
      have d8 : (g_u J4 0 9 2) 0 8 = nI s := by rw [u_nk (by decide)]; exact m4
      have d5 : (g_u J4 0 9 2) 0 5 = nI 0 := by rw [u_nk (by decide)]; exact k4
      have d10 : (g_u J4 0 9 2) 0 10 = J4 0 10 := u_nk (by decide)
      have d9 : (g_u J4 0 9 2) 0 9 = nI 2 := u_at
      have f5 : m_ft J (g_u J4 0 9 2) := m_ft_trans f3 (m_ft_trans f4 (m_ft_u (by decide) (by decide)))
      rw [if_neg nl] at hl
      rw [if_pos ⟨z, lf.1, lf.2⟩] at hfg
      rw [hl, k_bd, if_pos (show (0 : Int32) = 0 from rfl), hfg, k_bd, if_neg (show ¬ (1 : Int32) = 0 by decide), e4, k_th]
      dsimp only
      generalize g_u J4 0 9 2 = J5 at d5 d7 d8 d9 d10 f5
      rw [d7, d8, pk_sub (by omega)]
      rcases l3 with ⟨rfl, m1, m2⟩ | ⟨rfl, m1⟩
      · rw [if_pos (show nI (e - s) ≤ (2 : Int32) from nI_le (b := 2) m1 (by omega))]
        exact ⟨_, rfl, f5, Or.inr ⟨by decide, d5, d9, d8, d7, fun _ => by rw [d10, m2]; exact w4 m1⟩⟩
      · have efl : f_X8_fails fu 0 1 (J5, R) = _ := m_fails (fu := fu) (c := 1) (R := R) d5
        rw [if_neg (show ¬ nI (e - s) ≤ (2 : Int32) from nI_ge (a := 2) m1 (by omega)), efl, k_bd]
        refine ⟨_, rfl, m_ft_trans f5 (m_ft_trans (m_ft_u (by decide) (by decide)) (m_ft_u (by decide) (by decide))), Or.inl ⟨rfl, ?_, ?_⟩⟩
        · rw [u_nk (by decide), u_at]
        · rw [u_at]; exact d8
    · have nl : ¬ (s < L ∧ 97 ≤ b s ∧ b s ≤ 122) := fun q => l1 q.2
      have nf : ¬ (s < L ∧ 48 ≤ b s ∧ b s ≤ 57) := fun q => l2 q.2
      have d0 : (g_u J3 0 9 3) 0 7 = nI s := by rw [u_nk (by decide)]; exact c7
      have d7 : (g_u (g_u J3 0 9 3) 0 7 (nI (s + 1))) 0 7 = nI (s + 1) := u_at
      have d8 : (g_u (g_u J3 0 9 3) 0 7 (nI (s + 1))) 0 8 = nI s := by rw [u_nk (by decide), u_nk (by decide)]; exact c8
      have d5 : (g_u (g_u J3 0 9 3) 0 7 (nI (s + 1))) 0 5 = nI 0 := by rw [u_nk (by decide), u_nk (by decide)]; exact c5
      have d9 : (g_u (g_u J3 0 9 3) 0 7 (nI (s + 1))) 0 9 = nI 3 := by rw [u_nk (by decide), u_at]; rfl
      have f5 : m_ft J (g_u (g_u J3 0 9 3) 0 7 (nI (s + 1))) := m_ft_trans f3 (m_ft_trans (m_ft_u (by decide) (by decide)) (m_ft_u (by decide) (by decide)))
      rw [if_neg nl] at hl
      rw [if_neg nf] at hfg
      rw [hl, k_bd, if_pos (show (0 : Int32) = 0 from rfl), hfg, k_bd, if_pos (show (0 : Int32) = 0 from rfl), eb]
      dsimp only
      rw [d0, nI_1]
      generalize g_u (g_u J3 0 9 3) 0 7 (nI (s + 1)) = J5 at d5 d7 d8 d9 f5
      rcases l3 with ⟨rfl, m1⟩ | ⟨rfl, m1⟩
      · rw [if_pos (show nI (b s) = (59 : Int32) from by rw [m1]; rfl)]
        exact ⟨_, rfl, f5, Or.inr ⟨by decide, d5, d9, d8, by rw [l0]; exact d7, fun q => absurd q (by decide)⟩⟩
      · have efl : f_X8_fails fu 0 1 (J5, R) = _ := m_fails (fu := fu) (c := 1) (R := R) d5
        rw [if_neg (show ¬ nI (b s) = (59 : Int32) from fun q => m1 ((nI_eq (b := 59) (by omega) (by omega)).mp q)), efl, k_bd]
        refine ⟨_, rfl, m_ft_trans f5 (m_ft_trans (m_ft_u (by decide) (by decide)) (m_ft_u (by decide) (by decide))), Or.inl ⟨rfl, ?_, ?_⟩⟩
        · rw [u_nk (by decide), u_at]
        · rw [u_at]; exact d8
