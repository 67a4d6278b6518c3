/-! ===== what is told of the state ===== -/
theorem m_pg0 {I : Nat → Nat → Int32} {P : Nat → Nat} (h : m_pg I 0 P) (k : Nat) (hk : k < 45) : I 1 k = nI (P k) := by
  have := h k hk
  rwa [Nat.zero_add] at this
theorem k_push {α β : Type} {c : Prop} [Decidable c] {a b : α} {S : β} : (if c then some (a, S) else some (b, S)) = some ((if c then a else b), S) := by
  by_cases h : c
  · rw [if_pos h, if_pos h]
  · rw [if_neg h, if_neg h]
theorem o_fault {fu : Nat} {I Im : Nat → Nat → Int32} {R Rm : Nat → Nat → Option Nat} {t P Q0 Q1 : Nat → Nat} (h : r_all I R Im Rm t P Q0 Q1) : ∃ r Sc1 Sm1, f_X7_fault fu 0 (I, R) = some (r, Sc1) ∧ f_X8_fault fu 0 (Im, Rm) = some (r, Sm1) ∧ r_Rel Sc1 Sm1 := by
  refine ⟨I 35 2, (I, R), (Im, Rm), ?_, ?_, r_same h⟩
  · unfold f_X7_fault
    exact e_ld h.1.2.2.2.2.2.2.2.2.2.2.2.1 ⟨by decide, rfl⟩
  · unfold f_X8_fault
    rw [h.2.2.2.2.2.2.2.1]
theorem o_torn {fu : Nat} {I Im : Nat → Nat → Int32} {R Rm : Nat → Nat → Option Nat} {t P Q0 Q1 : Nat → Nat} (h : r_all I R Im Rm t P Q0 Q1) : ∃ r Sc1 Sm1, f_X7_torn fu 0 (I, R) = some (r, Sc1) ∧ f_X8_torn fu 0 (Im, Rm) = some (r, Sm1) ∧ r_Rel Sc1 Sm1 := by
  refine ⟨I 0 10, (I, R), (Im, Rm), rfl, ?_, r_same h⟩
  unfold f_X8_torn
  rw [h.2.2.2.2.2.2.2.2.1]
/-- the doors that have room -/
def p_bits (P : Nat → Nat) : Nat → Int32
  | 0 => nI 0
  | d + 1 => p_bits P d ||| if p_room P d ≤ 0 then nI 0 else nI 1 <<< (nI d &&& 31)
theorem c_letters {fu o T : Nat} {I : Nat → Nat → Int32} {R : Nat → Nat → Option Nat} {dr P : Nat → Nat} (hg : h_geo R o dr) (hr : h_rep I o dr P) (hp : p_ok T P) (hf : 10 < fu) : f_X2_letters fu o (I, R) = some (p_bits P (P 16), (I, R)) := by
  have b16 := hp.1
  obtain ⟨b, e1, rfl⟩ := e_lp (body := fun t => b_X2_letters_4 fu o t.1 t.2.1 t.2.2) (P 16) (fun i t => t = (p_bits P i, nI i, (I, R))) (fun b => b = (p_bits P (P 16), (I, R))) (by
    intro i t hi ht
    subst ht
    refine ⟨(p_bits P (i + 1), nI (i + 1), (I, R)), ?_, rfl⟩
    obtain ⟨r0, r1, r2, r3⟩ := hr.2.2.2.2.2.1 i hi
    have hl := p_room_le hp (d := i) (by omega)
    show b_X2_letters_4 fu o _ _ (I, R) = _
    unfold b_X2_letters_4
    refine (if_neg (by show ¬ I o 2 ≤ nI i; rw [hr.1]; exact nI_ge hi (by omega))).trans ?_
    refine (e_ld hg.1 hg.2.2.2.2.2.1).trans ?_
    refine (e_ix (m := i) rfl (by omega) (by omega)).trans ?_
    refine (e_ld (hg.2.2.1 i (by omega)) (hg.2.2.2.2.2.2.2.1 i (by omega))).trans ?_
    refine (e_bd (c_room r0 r1 r3 hp (by omega))).trans ?_
    unfold j_X2_letters_32_in4
    simp (disch := omega) only [l_0, l_1, nI_leI, nI_add]
    show _ = some (Sum.inl (p_bits P i ||| (if p_room P i ≤ 0 then nI 0 else nI 1 <<< (nI i &&& 31)), nI (i + 1), (I, R)))
    by_cases c : p_room P i ≤ 0
    · rw [if_pos c, if_pos c]
    · rw [if_neg c, if_neg c]) (by
    intro t ht
    subst ht
    refine ⟨_, ?_, rfl⟩
    show b_X2_letters_4 fu o _ _ (I, R) = _
    unfold b_X2_letters_4
    exact if_pos (by show I o 2 ≤ nI (P 16); rw [hr.1]; exact nI_le (Nat.le_refl _) (by omega))) 0 fu (nI 0, nI 0, (I, R)) (Nat.zero_le _) (by omega) rfl
  exact (e_th e1).trans rfl
theorem m_letters {fu T : Nat} {x : Int32} {I : Nat → Nat → Int32} {R : Nat → Nat → Option Nat} {P : Nat → Nat} (hR : m_R R) (hg : m_pg I 0 P) (hp : p_ok T P) (hf : 10 < fu) : g_lp (fun t => b_X8_rule_4 fu 0 x t.1 t.2.1 t.2.2) fu ((0 : Int32), (0 : Int32), (I, R)) = some (p_bits P (P 16), (I, R)) := by
  have b16 := hp.1
  have g16 := m_pg0 hg 16 (by omega)
  obtain ⟨b, e1, rfl⟩ := e_lp (body := fun t => b_X8_rule_4 fu 0 x t.1 t.2.1 t.2.2) (P 16) (fun i t => t = (p_bits P i, nI i, (I, R))) (fun b => b = (p_bits P (P 16), (I, R))) (by
    intro i t hi ht
    subst ht
    refine ⟨(p_bits P (i + 1), nI (i + 1), (I, R)), ?_, rfl⟩
    have hl := p_room_le hp (d := i) (by omega)
    have hro := m_roomOn (fu := fu) hR hg hp (by omega) (show i < 4 by omega)
    show b_X8_rule_4 fu 0 x _ _ (I, R) = _
    unfold b_X8_rule_4 j_X8_rule_32_in4
    simp (disch := omega) only [m_ld0 hR, l_16, l_0, l_1, k_ix, g16, nI_leI, hro, k_bd, nI_add]
    rw [if_neg (by omega)]
    show _ = some (Sum.inl (p_bits P i ||| (if p_room P i ≤ 0 then nI 0 else nI 1 <<< (nI i &&& 31)), nI (i + 1), (I, R)))
    by_cases c : p_room P i ≤ 0
    · rw [if_pos c, if_pos c]
    · rw [if_neg c, if_neg c]) (by
    intro t ht
    subst ht
    refine ⟨_, ?_, rfl⟩
    show b_X8_rule_4 fu 0 x _ _ (I, R) = _
    unfold b_X8_rule_4
    simp (disch := omega) only [m_ld0 hR, l_16, k_ix, g16, nI_leI]
    exact if_pos (Nat.le_refl _)) 0 fu (nI 0, nI 0, (I, R)) (Nat.zero_le _) (by omega) rfl
  exact e1
theorem o_rule {fu : Nat} {I Im : Nat → Nat → Int32} {R Rm : Nat → Nat → Option Nat} {t P Q0 Q1 : Nat → Nat} (h : r_all I R Im Rm t P Q0 Q1) (hf : 1000 < fu) (x : Int32) : ∃ r Sc1 Sm1, f_X7_rule fu 0 x (I, R) = some (r, Sc1) ∧ f_X8_rule fu 0 x (Im, Rm) = some (r, Sm1) ∧ r_Rel Sc1 Sm1 := by
  obtain ⟨hR, hM, ⟨hr, hg, hp, -⟩, -⟩ := id h
  have g := m_pg0 hg
  have e1 := c_letters (fu := fu) hR.1 hr hp (by omega)
  have e2 := c_comers (fu := fu) hR.1 hr hp (by omega) (by omega)
  have e3 := m_comeOn (fu := fu) hM hg hp (by omega) (by omega) (by omega)
  have e4 := m_letters (fu := fu) (x := x) hM hg hp (by omega)
  have e3' : f_X8_comeOn fu 0 0 (Im, Rm) = some (nI (p_come P), (Im, Rm)) := e3
  refine ⟨if x = 0 then nI (P 16) else if x = 1 then nI (P 41) else if x = 2 then nI (P 42) else if x = 3 then nI (P 43) else if x = 4 then nI (P 44) else if x = 5 then nI (p_come P) else if x = 6 then p_bits P (P 16) else -1, (I, R), (Im, Rm), ?_, ?_, r_same h⟩
  · unfold f_X7_rule
    simp only [c_ld0 hR, e1, e2, k_bd, hr.1, hr.2.1, hr.2.2.1, hr.2.2.2.1, hr.2.2.2.2.1, k_push]
  · unfold f_X8_rule
    simp (disch := omega) only [e4, k_th, m_ld0 hM, l_16, l_41, l_42, l_43, l_44, k_ix, g, e3', k_bd, k_push]
