/-! ===== a line of the text ===== -/
def cS (b : Nat → Nat) (L : Nat) (J : Nat → Nat → Int32) (p : Nat) : Prop := t_c b L J ∧ J 33 2 = nI p ∧ J 35 2 = nI 0
def mS (b : Nat → Nat) (L : Nat) (J : Nat → Nat → Int32) (p : Nat) : Prop := t_m b L J ∧ ∃ κ s e v, q_tok b L p κ s e v ∧ m_lk J κ s e v
def cF (J : Nat → Nat → Int32) (c s : Nat) : Prop := J 35 2 = nI c ∧ J 33 3 = nI s
def mF (J : Nat → Nat → Int32) (c s : Nat) : Prop := J 0 5 = nI c ∧ J 0 6 = nI s
def t_cf (J J' : Nat → Nat → Int32) : Prop := ∀ a, a ≠ 33 → a ≠ 35 → J' a = J a
theorem t_cf_trans {I J K : Nat → Nat → Int32} (h : t_cf I J) (h' : t_cf J K) : t_cf I K := fun a x y => (h' a x y).trans (h a x y)
theorem mS_2 {b : Nat → Nat} {L p : Nat} {J J' : Nat → Nat → Int32} (h : mS b L J p) (h0 : J' 0 = J 0) (h3 : J' 3 = J 3) : mS b L J' p := by
  obtain ⟨⟨a1, a2, a3⟩, κ, s, e, v, q, l⟩ := h
  refine ⟨⟨a1, by rw [h0]; exact a2, by rw [h3]; exact a3⟩, κ, s, e, v, q, ?_⟩
  unfold m_lk
  rw [h0]
  exact l
theorem q_tok_le {b : Nat → Nat} {L p κ s e v : Nat} (h : q_tok b L p κ s e v) : s ≤ e ∧ e ≤ L ∧ (κ ≠ 0 → p < e) ∧ κ ≤ 4 := by
  obtain ⟨h1, h2, -, h4⟩ := h
  rcases h4 with ⟨x, y, z⟩ | ⟨x, y, z, w, u⟩
  · exact ⟨by omega, by omega, fun q => absurd x q, by omega⟩
  · refine ⟨by omega, w, fun _ => by omega, ?_⟩
    rcases u with ⟨q, _⟩ | ⟨_, _, ⟨q, _⟩ | ⟨q, _⟩⟩ | ⟨_, _, _, ⟨q, _⟩ | ⟨q, _⟩⟩ <;> omega
theorem q_tok_v {b : Nat → Nat} {L p s e v : Nat} (h : q_tok b L p 2 s e v) : v ≤ 99 := by
  obtain ⟨h1, h2, -, h4⟩ := h
  rcases h4 with ⟨x, _⟩ | ⟨x, y, z, w, u⟩
  · omega
  · rcases u with ⟨q, _⟩ | ⟨f, _, ⟨_, q, r⟩ | ⟨q, _⟩⟩ | ⟨_, _, _, ⟨q, _⟩ | ⟨q, _⟩⟩
    · omega
    · rw [r]
      exact q_dg_2 (fun i hi => f (s + i) (by omega) (by omega)) q
    · omega
    · omega
    · omega
theorem m_stepF {fu c : Nat} {J : Nat → Nat → Int32} {R : Nat → Nat → Option Nat} (h : J 0 5 = nI c) (h1 : 1 ≤ c) (h5 : c ≤ 5) : f_X8_step fu 0 (J, R) = some ((), (J, R)) := by
  unfold f_X8_step
  show (if J 0 5 ≤ 0 then _ else _) = _
  rw [h, if_neg (nI_nle (by omega) (by omega))]
theorem m_numF {fu c : Nat} {x y : Int32} {J : Nat → Nat → Int32} {R : Nat → Nat → Option Nat} (h : J 0 5 = nI c) (h1 : 1 ≤ c) (h5 : c ≤ 5) : f_X8_number fu 0 x y (J, R) = some (x, (J, R)) := by
  have hc : ¬ nI c = (0 : Int32) := nI_ne0 (by omega) (by omega)
  unfold f_X8_number j_X8_number_20 j_X8_number_47 j_X8_number_62
  simp only [h]
  rw [if_neg hc, if_neg hc, if_neg hc, m_stepF h h1 h5, k_bd]
theorem m_inN {fu v lo hi : Nat} {S : g_St} (hv : v ≤ 1000) (hl : lo ≤ 1000) (hh : hi ≤ 1000) : f_X8_in fu (Int32.toInt64 (nI v)) (Int32.toInt64 (nI lo)) (Int32.toInt64 (nI hi)) S = some ((if lo ≤ v ∧ v ≤ hi then 1 else 0), S) := by
  rw [m_in, Int32.toInt_toInt64, Int32.toInt_toInt64, Int32.toInt_toInt64, nI_toInt (by omega), nI_toInt (by omega), nI_toInt (by omega)]
  by_cases c : lo ≤ v ∧ v ≤ hi
  · rw [if_pos c, if_pos (by omega)]
  · rw [if_neg c, if_neg (by omega)]
theorem m_fl {c : Nat} {J : Nat → Nat → Int32} : (g_u (g_u J 0 5 (nI c)) 0 6 (J 0 8)) 0 5 = nI c ∧ (g_u (g_u J 0 5 (nI c)) 0 6 (J 0 8)) 0 6 = J 0 8 ∧ m_ft J (g_u (g_u J 0 5 (nI c)) 0 6 (J 0 8)) := ⟨by rw [u_nk (by decide), u_at], u_at, m_ft_trans (m_ft_u (by decide) (by decide)) (m_ft_u (by decide) (by decide))⟩
/-- what a number may want -/
theorem m_num {fu L lo hi κ s e v : Nat} {b : Nat → Nat} {J : Nat → Nat → Int32} {R : Nat → Nat → Option Nat} (hM : m_R R) (ht : t_m b L J) (hk : κ ≠ 4) (h5 : J 0 5 = nI 0) (h9 : J 0 9 = nI κ) (h8 : J 0 8 = nI s) (h7 : J 0 7 = nI e) (h10 : κ = 2 → J 0 10 = nI v) (hv : κ = 2 → v ≤ 99) (k4 : κ ≤ 4) (he : e ≤ L) (hl : lo ≤ 99) (hh : hi ≤ 99) (hf : 1000 < fu) : (κ = 2 ∧ lo ≤ v ∧ v ≤ hi → ∃ J', f_X8_number fu 0 (nI lo) (nI hi) (J, R) = some (nI v, (J', R)) ∧ mS b L J' e ∧ m_ft J J') ∧ (κ = 2 ∧ ¬ (lo ≤ v ∧ v ≤ hi) → ∃ J', f_X8_number fu 0 (nI lo) (nI hi) (J, R) = some (nI lo, (J', R)) ∧ mF J' 3 s ∧ m_ft J J') ∧ (κ ≠ 2 → ∃ J', f_X8_number fu 0 (nI lo) (nI hi) (J, R) = some (nI lo, (J', R)) ∧ mF J' 2 s ∧ m_ft J J') := by
  have i0 : nI 0 = (0 : Int32) := rfl
  refine ⟨fun ⟨q, r1, r2⟩ => ?_, fun ⟨q, r⟩ => ?_, fun q => ?_⟩
  · subst q
    obtain ⟨κ', s', e', v', hq⟩ := q_tok_ex (b := b) (L := L) (p := e) he
    obtain ⟨J', e1, f1, l1⟩ := m_step (fu := fu) hM ht h5 h7 hq hf
    refine ⟨J', ?_, ⟨t_m_ft ht f1, κ', s', e', v', hq, l1⟩, f1⟩
    have hvv := hv rfl
    unfold f_X8_number j_X8_number_20 j_X8_number_47 j_X8_number_62
    simp only [h5, h9, h10 rfl]
    rw [if_pos i0, if_pos (show nI 2 = (2 : Int32) from rfl), if_pos i0, m_inN (by omega) (by omega) (by omega), k_bd, if_pos (show lo ≤ v ∧ v ≤ hi from ⟨r1, r2⟩), if_neg (show ¬ (1 : Int32) = 0 by decide)]
    simp only [h5, h10 rfl]
    rw [if_pos i0, e1, k_bd]
  · subst q
    have hvv := hv rfl
    obtain ⟨x5, x6, xf⟩ := m_fl (c := 3) (J := J)
    refine ⟨g_u (g_u J 0 5 (nI 3)) 0 6 (J 0 8), ?_, ⟨x5, x6.trans h8⟩, xf⟩
    have efl : f_X8_fails fu 0 3 (J, R) = _ := m_fails (fu := fu) (c := 3) (R := R) h5
    unfold f_X8_number j_X8_number_20 j_X8_number_47 j_X8_number_62
    simp only [h5, h9, h10 rfl]
    rw [if_pos i0, if_pos (show nI 2 = (2 : Int32) from rfl), if_pos i0, m_inN (by omega) (by omega) (by omega), k_bd, if_neg r, if_pos (show (0 : Int32) = 0 from rfl), efl, k_bd]
    simp only [x5]
    rw [if_neg (show ¬ nI 3 = (0 : Int32) by decide), m_stepF x5 (by omega) (by omega), k_bd]
  · obtain ⟨x5, x6, xf⟩ := m_fl (c := 2) (J := J)
    refine ⟨g_u (g_u J 0 5 (nI 2)) 0 6 (J 0 8), ?_, ⟨x5, x6.trans h8⟩, xf⟩
    have efl : f_X8_fails fu 0 2 (J, R) = _ := m_fails (fu := fu) (c := 2) (R := R) h5
    unfold f_X8_number j_X8_number_20 j_X8_number_47 j_X8_number_62
    simp only [h5, h9]
    rw [if_pos i0, if_neg (show ¬ nI κ = (2 : Int32) from fun z => q ((nI_eq (b := 2) (by omega) (by omega)).mp z)), efl, k_bd]
    simp only [x5]
    rw [if_neg (show ¬ nI 2 = (0 : Int32) by decide), if_neg (show ¬ nI 2 = (0 : Int32) by decide), m_stepF x5 (by omega) (by omega), k_bd]
theorem c_expect {fu κ due : Nat} {J : Nat → Nat → Int32} {R : Nat → Nat → Option Nat} (hk : κ ≤ 4) (hd : due ≤ 3) : (κ = due → f_X6_expect fu 35 (nI κ) (nI due) (J, R) = some (1, (J, R))) ∧ (κ = 4 → f_X6_expect fu 35 (nI κ) (nI due) (J, R) = some (0, (g_u J 35 2 (nI 1), R))) ∧ (κ ≠ 4 → κ ≠ due → f_X6_expect fu 35 (nI κ) (nI due) (J, R) = some (0, (g_u J 35 2 (nI 2), R))) := by
  have n4 : κ ≠ 4 → ¬ nI κ = (4 : Int32) := fun q z => q ((nI_eq (b := 4) (by omega) (by omega)).mp z)
  refine ⟨fun q => ?_, fun q => ?_, fun q r => ?_⟩
  · unfold f_X6_expect j_X6_expect_24
    rw [if_neg (n4 (by omega)), if_pos (by rw [q]), e_zb1]
  · subst q
    unfold f_X6_expect f_X6_fail
    rw [if_pos (show nI 4 = (4 : Int32) from rfl), e_zb0, k_bd, e_zb0]
    rfl
  · unfold f_X6_expect f_X6_fail j_X6_expect_24
    rw [if_neg (n4 q), if_neg (fun z => r ((nI_eq (by omega) (by omega)).mp z)), e_zb0, k_bd, if_pos (show (0 : Int32) = 0 from rfl), e_zb0]
    rfl
theorem cF_u {J : Nat → Nat → Int32} {c s : Nat} (h : J 33 3 = nI s) : cF (g_u J 35 2 (nI c)) c s := ⟨u_at, by rw [u_ni (by decide)]; exact h⟩
theorem t_cf_ft {J J' : Nat → Nat → Int32} (h : c_ft J J') : t_cf J J' := fun a x _ => h.1 a x
theorem t_cf_u {J : Nat → Nat → Int32} {v : Int32} : t_cf J (g_u J 35 2 v) := fun _ _ y => g_u_ne y
theorem t_num {fu L p lo hi : Nat} {b : Nat → Nat} {J Jm : Nat → Nat → Int32} {R Rm : Nat → Nat → Option Nat} {t : Nat → Nat} (hR : c_R R t) (hM : m_R Rm) (hc : cS b L J p) (hm : mS b L Jm p) (hl : lo ≤ 99) (hh : hi ≤ 99) (hf : 1000 < fu) : (∃ v p' J' Jm', lo ≤ v ∧ v ≤ hi ∧ p < p' ∧ p' ≤ L ∧ f_X6_takeNumber fu 35 (nI lo) (nI hi) (J, R) = some (1, (J', R)) ∧ cS b L J' p' ∧ J' 33 4 = nI v ∧ t_cf J J' ∧ f_X8_number fu 0 (nI lo) (nI hi) (Jm, Rm) = some (nI v, (Jm', Rm)) ∧ mS b L Jm' p' ∧ m_ft Jm Jm') ∨ (∃ c s J' Jm', 1 ≤ c ∧ c ≤ 5 ∧ f_X6_takeNumber fu 35 (nI lo) (nI hi) (J, R) = some (0, (J', R)) ∧ cF J' c s ∧ t_cf J J' ∧ f_X8_number fu 0 (nI lo) (nI hi) (Jm, Rm) = some (nI lo, (Jm', Rm)) ∧ mF Jm' c s ∧ m_ft Jm Jm') := by
  obtain ⟨hmt, κ, s, e, v, hq, hl4⟩ := hm
  obtain ⟨w1, w2, w3, w4⟩ := q_tok_le hq
  obtain ⟨hct, hcp, hcf⟩ := hc
  obtain ⟨J1, e1, f1, g1, k1, v1⟩ := c_adv (fu := fu) hR hct hcp hq hf
  obtain ⟨x1, x2, x3⟩ := c_expect (fu := fu) (due := 2) (J := J1) (R := R) w4 (by omega)
  have c35 : J1 35 2 = nI 0 := by rw [f1.1 35 (by decide)]; exact hcf
  -- the class, behind its next token
  have head : f_X6_takeNumber fu 35 (nI lo) (nI hi) (J, R) = g_bd (f_X6_expect fu 35 (nI κ) (nI 2) (J1, R)) fun r3 Sr3 => if r3 = 0 then (g_zb (0 : Int32) (some ((0 : Int32), Sr3))) else (g_ld g_KC 90 g_kX5 (Sr3.2 35 0) fun a4 => if (Sr3.1 a4 4) < nI lo then (j_X6_takeNumber_39 fu 35 Sr3) else (g_ld g_KC 90 g_kX5 (Sr3.2 35 0) fun a6 => if (Sr3.1 a6 4) ≤ nI hi then (j_X6_takeNumber_47 fu Sr3) else (j_X6_takeNumber_39 fu 35 Sr3))) := by
    unfold f_X6_takeNumber
    rw [c_ld50 hR, e1, k_bd]
    rfl
  rcases hl4 with ⟨rfl, m5, m6⟩ | ⟨hk, m5, m9, m8, m7, m10⟩
  · refine Or.inr ⟨1, s, g_u J1 35 2 (nI 1), Jm, by omega, by omega, ?_, cF_u k1, t_cf_trans (t_cf_ft f1) t_cf_u, m_numF m5 (by omega) (by omega), ⟨m5, m6⟩, m_ft_refl⟩
    rw [head, x2 rfl, k_bd, if_pos (show (0 : Int32) = 0 from rfl), e_zb0]
  · obtain ⟨y1, y2, y3⟩ := m_num (fu := fu) (lo := lo) (hi := hi) hM hmt hk m5 m9 m8 m7 m10 (fun q => by subst q; exact q_tok_v hq) w4 w2 hl hh hf
    by_cases q : κ = 2
    · have vv : v ≤ 99 := by subst q; exact q_tok_v hq
      rw [x1 q, k_bd, if_neg (show ¬ (1 : Int32) = 0 by decide)] at head
      simp only [c_ld50 hR, v1 q] at head
      have tail : j_X6_takeNumber_39 fu 35 (J1, R) = some (0, (g_u J1 35 2 (nI 3), R)) := by
        unfold j_X6_takeNumber_39 f_X6_fail
        rw [e_zb0, k_bd, if_pos (show (0 : Int32) = 0 from rfl), e_zb0]
        rfl
      by_cases r : lo ≤ v ∧ v ≤ hi
      · obtain ⟨Jm', z1, z2, z3⟩ := y1 ⟨q, r.1, r.2⟩
        refine Or.inl ⟨v, e, J1, Jm', r.1, r.2, w3 (by omega), w2, ?_, ⟨t_c_ft hct f1, g1, c35⟩, v1 q, t_cf_ft f1, z1, z2, z3⟩
        rw [head, if_neg (nI_nlt r.1 (by omega)), if_pos (nI_le r.2 (by omega))]
        exact e_zb1
      · obtain ⟨Jm', z1, z2, z3⟩ := y2 ⟨q, r⟩
        refine Or.inr ⟨3, s, g_u J1 35 2 (nI 3), Jm', by omega, by omega, ?_, cF_u k1, t_cf_trans (t_cf_ft f1) t_cf_u, z1, z2, z3⟩
        rw [head, tail]
        by_cases r1 : v < lo
        · rw [if_pos (nI_lt r1 (by omega))]
        · rw [if_neg (nI_nlt (by omega) (by omega)), if_neg (nI_ge (by omega) (by omega))]
    · obtain ⟨Jm', z1, z2, z3⟩ := y3 q
      refine Or.inr ⟨2, s, g_u J1 35 2 (nI 2), Jm', by omega, by omega, ?_, cF_u k1, t_cf_trans (t_cf_ft f1) t_cf_u, z1, z2, z3⟩
      rw [head, x3 hk q, k_bd, if_pos (show (0 : Int32) = 0 from rfl), e_zb0]
/-- the end of a line -/
def m_tl (fu : Nat) (S : g_St) : Option (Unit × g_St) := if (S.1 0 5) = 0 then (if (S.1 0 9) = (3 : Int32) then (j_X8_readLine_98 fu 0 S) else (g_bd (f_X8_fails fu 0 ((2 : Int32)) S) fun _ Sr6 => j_X8_readLine_98 fu 0 Sr6)) else (j_X8_readLine_98 fu 0 S)
theorem m_tlF {fu c : Nat} {J : Nat → Nat → Int32} {R : Nat → Nat → Option Nat} (h : J 0 5 = nI c) (h1 : 1 ≤ c) (h5 : c ≤ 5) : m_tl fu (J, R) = some ((), (J, R)) := by
  unfold m_tl j_X8_readLine_98
  show (if J 0 5 = 0 then _ else _) = _
  rw [h, if_neg (nI_ne0 (by omega) (by omega)), m_stepF h h1 h5, k_bd]
theorem t_stop {fu L p : Nat} {b : Nat → Nat} {J Jm : Nat → Nat → Int32} {R Rm : Nat → Nat → Option Nat} {t : Nat → Nat} (hR : c_R R t) (hM : m_R Rm) (hc : cS b L J p) (hm : mS b L Jm p) (hf : 1000 < fu) : (∃ p' J' Jm', p < p' ∧ p' ≤ L ∧ f_X6_takeStop fu 35 (J, R) = some (1, (J', R)) ∧ cS b L J' p' ∧ t_cf J J' ∧ m_tl fu (Jm, Rm) = some ((), (Jm', Rm)) ∧ mS b L Jm' p' ∧ m_ft Jm Jm') ∨ (∃ c s J' Jm', 1 ≤ c ∧ c ≤ 5 ∧ f_X6_takeStop fu 35 (J, R) = some (0, (J', R)) ∧ cF J' c s ∧ t_cf J J' ∧ m_tl fu (Jm, Rm) = some ((), (Jm', Rm)) ∧ mF Jm' c s ∧ m_ft Jm Jm') := by
  obtain ⟨hmt, κ, s, e, v, hq, hl4⟩ := hm
  obtain ⟨w1, w2, w3, w4⟩ := q_tok_le hq
  obtain ⟨hct, hcp, hcf⟩ := hc
  obtain ⟨J1, e1, f1, g1, k1, v1⟩ := c_adv (fu := fu) hR hct hcp hq hf
  obtain ⟨x1, x2, x3⟩ := c_expect (fu := fu) (due := 3) (J := J1) (R := R) w4 (by omega)
  have c35 : J1 35 2 = nI 0 := by rw [f1.1 35 (by decide)]; exact hcf
  have head : f_X6_takeStop fu 35 (J, R) = g_bd (f_X6_expect fu 35 (nI κ) (nI 3) (J1, R)) fun r3 Sr3 => g_zb r3 (some (r3, Sr3)) := by
    unfold f_X6_takeStop
    rw [c_ld50 hR, e1, k_bd]
    rfl
  rcases hl4 with ⟨rfl, m5, m6⟩ | ⟨hk, m5, m9, m8, m7, m10⟩
  · refine Or.inr ⟨1, s, g_u J1 35 2 (nI 1), Jm, by omega, by omega, ?_, cF_u k1, t_cf_trans (t_cf_ft f1) t_cf_u, m_tlF m5 (by omega) (by omega), ⟨m5, m6⟩, m_ft_refl⟩
    rw [head, x2 rfl, k_bd, e_zb0]
  · have i0 : nI 0 = (0 : Int32) := rfl
    by_cases q : κ = 3
    · obtain ⟨κ', s', e', v', hq'⟩ := q_tok_ex (b := b) (L := L) (p := e) w2
      obtain ⟨Jm', z1, z2, z3⟩ := m_step (fu := fu) hM hmt m5 m7 hq' hf
      refine Or.inl ⟨e, J1, Jm', w3 (by omega), w2, ?_, ⟨t_c_ft hct f1, g1, c35⟩, t_cf_ft f1, ?_, ⟨t_m_ft hmt z2, κ', s', e', v', hq', z3⟩, z2⟩
      · rw [head, x1 q, k_bd, e_zb1]
      · unfold m_tl j_X8_readLine_98
        show (if Jm 0 5 = 0 then (if Jm 0 9 = 3 then _ else _) else _) = _
        rw [m5, m9, q, if_pos i0, if_pos (show nI 3 = (3 : Int32) from rfl), z1, k_bd]
    · obtain ⟨y5, y6, yf⟩ := m_fl (c := 2) (J := Jm)
      have efl : f_X8_fails fu 0 2 (Jm, Rm) = _ := m_fails (fu := fu) (c := 2) (R := Rm) m5
      refine Or.inr ⟨2, s, g_u J1 35 2 (nI 2), g_u (g_u Jm 0 5 (nI 2)) 0 6 (Jm 0 8), by omega, by omega, ?_, cF_u k1, t_cf_trans (t_cf_ft f1) t_cf_u, ?_, ⟨y5, y6.trans m8⟩, yf⟩
      · rw [head, x3 hk q, k_bd, e_zb0]
      · unfold m_tl j_X8_readLine_98
        show (if Jm 0 5 = 0 then (if Jm 0 9 = 3 then _ else _) else _) = _
        rw [m5, m9, if_pos i0, if_neg (show ¬ nI κ = (3 : Int32) from fun z => q ((nI_eq (b := 3) (by omega) (by omega)).mp z)), efl, k_bd, m_stepF y5 (by omega) (by omega), k_bd]
/-! ===== a door, a crowd ===== -/
def t_cg (J J' : Nat → Nat → Int32) : Prop := ∀ a, a < 16 ∨ 31 ≤ a → a ≠ 33 → a ≠ 35 → J' a = J a
def t_mg (J J' : Nat → Nat → Int32) : Prop := (∀ a, a ≠ 0 → a ≠ 2 → J' a = J a) ∧ ∀ k, k < 5 ∨ 11 ≤ k → J' 0 k = J 0 k
def m_p2 (J : Nat → Nat → Int32) (P : Nat → Nat) : Prop := ∀ k, k < 45 → J 2 k = nI (P k)
theorem t_cg_trans {I J K : Nat → Nat → Int32} (h : t_cg I J) (h' : t_cg J K) : t_cg I K := fun a x y z => (h' a x y z).trans (h a x y z)
theorem t_mg_trans {I J K : Nat → Nat → Int32} (h : t_mg I J) (h' : t_mg J K) : t_mg I K := ⟨fun a x y => (h'.1 a x y).trans (h.1 a x y), fun k x => (h'.2 k x).trans (h.2 k x)⟩
theorem t_cg_cf {J J' : Nat → Nat → Int32} (h : t_cf J J') : t_cg J J' := fun a _ y z => h a y z
theorem t_mg_ft {J J' : Nat → Nat → Int32} (h : m_ft J J') : t_mg J J' := ⟨fun a x _ => h.1 a x, h.2⟩
theorem t_mg_u {J : Nat → Nat → Int32} {k : Nat} {v : Int32} : t_mg J (g_u J 2 k v) := ⟨fun _ _ h => g_u_ne h, fun _ _ => u_ni (by decide)⟩
theorem h_rep_cf {J J' : Nat → Nat → Int32} {R : Nat → Nat → Option Nat} {t P : Nat → Nat} (hR : c_R R t) (hr : h_rep J 16 t P) (hp : p_ok 999 P) (h : t_cf J J') : h_rep J' 16 t P := by
  have b16 := hp.1
  have b41 := hp.2.1
  refine h_rep_fr hr (h 16 (by decide) (by decide)) (fun d hd => ?_) (fun i hi => h _ (by omega) (by omega))
  have := hR.2.1.2.2.2.2.2.2.2.2.2.2 d (by omega)
  exact h _ (by omega) (by omega)
theorem m_more {fu d m : Nat} {x1 x2 : Int32} {J A B : Nat → Nat → Int32} {R : Nat → Nat → Option Nat} (hM : m_R R) (h16 : J 2 16 = nI d) (hd : d < 4) (hm : m ≤ 3) (n1 : f_X8_number fu 0 (nI 1) (nI 9) (g_u J 2 d (nI m), R) = some (x1, (A, R))) (n2 : f_X8_number fu 0 (nI 0) (nI 9) (g_u A 2 (4 + d) x1, R) = some (x2, (B, R))) (a2 : A 2 = (g_u J 2 d (nI m)) 2) (b2 : B 2 = (g_u A 2 (4 + d) x1) 2) : f_X8_readMore fu 0 (nI m) (J, R) = some ((), (g_u (g_u (g_u B 2 (8 + d) x2) 2 (12 + d) (if m = 0 then x1 else 0)) 2 16 (nI (d + 1)), R)) := by
  have n1' : f_X8_number fu 0 1 9 (g_u J 2 d (nI m), R) = _ := n1
  have n2' : f_X8_number fu 0 0 9 (g_u A 2 (4 + d) x1, R) = _ := n2
  have y : ∀ h, (g_u (g_u B 2 (8 + d) x2) 2 (12 + d) h) 2 16 = nI d := fun h => by
    rw [u_nk (by omega), u_nk (by omega), b2, u_nk (by omega), a2, u_nk (by omega)]
    exact h16
  have y4 : (g_u B 2 (8 + d) x2) 2 (4 + d) = x1 := by
    rw [u_nk (by omega), b2, u_at]
  unfold f_X8_readMore j_X8_readMore_75
  rw [if_neg (show ¬ (3 : Int32) < nI m from nI_nlt (a := 3) hm (by omega))]
  simp (disch := omega) only [m_ld1 hM, l_16, l_4, l_8, l_12, k_ix, h16, n1', k_bd, nI_add, n2', y, y4, nI_1]
  by_cases c : m = 0
  · subst c
    rw [if_pos (show nI 0 = (0 : Int32) from rfl), if_pos rfl]
  · rw [if_neg (nI_ne0 (by omega) (by omega)), if_neg c]
theorem m_moreC {fu i : Nat} {x1 x2 x3 : Int32} {J A B C : Nat → Nat → Int32} {R : Nat → Nat → Option Nat} (hM : m_R R) (h41 : J 2 41 = nI i) (hi : i < 8) (n1 : f_X8_number fu 0 (nI 0) (nI 99) (J, R) = some (x1, (A, R))) (n2 : f_X8_number fu 0 (nI 1) (nI 9) (g_u A 2 (17 + i) x1, R) = some (x2, (B, R))) (n3 : f_X8_number fu 0 (nI 0) (nI 9) (g_u B 2 (25 + i) x2, R) = some (x3, (C, R))) (a2 : A 2 = J 2) (b2 : B 2 = (g_u A 2 (17 + i) x1) 2) (c2 : C 2 = (g_u B 2 (25 + i) x2) 2) : f_X8_readMore fu 0 (nI 4) (J, R) = some ((), (g_u (g_u C 2 (33 + i) x3) 2 41 (nI (i + 1)), R)) := by
  have n1' : f_X8_number fu 0 0 99 (J, R) = _ := n1
  have n2' : f_X8_number fu 0 1 9 (g_u A 2 (17 + i) x1, R) = _ := n2
  have n3' : f_X8_number fu 0 0 9 (g_u B 2 (25 + i) x2, R) = _ := n3
  have y : (g_u C 2 (33 + i) x3) 2 41 = nI i := by
    rw [u_nk (by omega), c2, u_nk (by omega), b2, u_nk (by omega), a2]
    exact h41
  unfold f_X8_readMore
  rw [if_pos (show (3 : Int32) < nI 4 by decide)]
  simp (disch := omega) only [m_ld1 hM, l_41, l_17, l_25, l_33, k_ix, h41, n1', k_bd, nI_add, n2', n3', y, nI_1]
