/-! ===== a door is changed ===== -/
def p_chg (P : Nat → Nat) (w d v : Nat) : Nat → Nat := fun k => if k = 4 * w + d then v else if w = 1 ∧ k = 12 + d then min (P k) v else P k
/-- what a door may become -/
def p_may (P : Nat → Nat) (w d v : Nat) : Prop := (w = 0 ∧ v ≤ 3) ∨ (w = 1 ∧ v ≤ 9) ∨ (w = 2 ∧ v ≤ 9) ∨ (w = 3 ∧ v ≤ P (4 + d))
theorem chg_at {P : Nat → Nat} {w d v : Nat} : p_chg P w d v (4 * w + d) = v := if_pos rfl
theorem chg_ne {P : Nat → Nat} {w d v k : Nat} (h : k ≠ 4 * w + d) (h1 : ¬ (w = 1 ∧ k = 12 + d)) : p_chg P w d v k = P k := by
  unfold p_chg
  rw [if_neg h, if_neg h1]
theorem chg_h {P : Nat → Nat} {d v : Nat} : p_chg P 1 d v (12 + d) = min (P (12 + d)) v := by
  unfold p_chg
  rw [if_neg (by omega), if_pos ⟨rfl, rfl⟩]
theorem p_ok_chg {T w d v : Nat} {P : Nat → Nat} (hp : p_ok T P) (hd : d < 4) (hm : p_may P w d v) : p_ok T (p_chg P w d v) := by
  unfold p_may at hm
  have hw : w < 4 := by omega
  have ex : ∀ k, 16 ≤ k → p_chg P w d v k = P k := fun k hk => chg_ne (by omega) (by omega)
  refine ⟨?_, ?_, fun e he => ?_, fun i hi => ?_, ?_, ?_, ?_⟩
  · rw [ex _ (by omega)]; exact hp.1
  · rw [ex _ (by omega)]; exact hp.2.1
  · obtain ⟨b0, b1, b2, b3⟩ := hp.2.2.1 e he
    have b4 := (hp.2.2.1 d hd).2.1
    by_cases c : e = d
    · subst c
      rcases hm with ⟨rfl, hm⟩ | ⟨rfl, hm⟩ | ⟨rfl, hm⟩ | ⟨rfl, hm⟩
      · have q : p_chg P 0 e v e = v := by have := @chg_at P 0 e v; rwa [show 4 * 0 + e = e by omega] at this
        rw [q, chg_ne (k := 4 + e) (by omega) (by omega), chg_ne (k := 8 + e) (by omega) (by omega), chg_ne (k := 12 + e) (by omega) (by omega)]
        exact ⟨hm, b1, b2, b3⟩
      · have q : p_chg P 1 e v (4 + e) = v := chg_at
        rw [q, chg_h, chg_ne (k := e) (by omega) (by omega), chg_ne (k := 8 + e) (by omega) (by omega)]
        exact ⟨b0, hm, b2, by omega⟩
      · have q : p_chg P 2 e v (8 + e) = v := chg_at
        rw [q, chg_ne (k := e) (by omega) (by omega), chg_ne (k := 4 + e) (by omega) (by omega), chg_ne (k := 12 + e) (by omega) (by omega)]
        exact ⟨b0, b1, hm, b3⟩
      · have q : p_chg P 3 e v (12 + e) = v := chg_at
        rw [q, chg_ne (k := e) (by omega) (by omega), chg_ne (k := 4 + e) (by omega) (by omega), chg_ne (k := 8 + e) (by omega) (by omega)]
        exact ⟨b0, b1, b2, hm⟩
    · rw [chg_ne (k := e) (by omega) (by omega), chg_ne (k := 4 + e) (by omega) (by omega), chg_ne (k := 8 + e) (by omega) (by omega), chg_ne (k := 12 + e) (by omega) (by omega)]
      exact ⟨b0, b1, b2, b3⟩
  · rw [ex _ (by omega), ex _ (by omega), ex _ (by omega)]; exact hp.2.2.2.1 i hi
  · rw [ex _ (by omega)]; exact hp.2.2.2.2.1
  · rw [ex _ (by omega)]; exact hp.2.2.2.2.2.1
  · rw [ex _ (by omega)]; exact hp.2.2.2.2.2.2
theorem p_z_chg {P : Nat → Nat} {w d v : Nat} (hw : w < 4) (hd : d < 4) : p_z (p_chg P w d v) = p_chg (p_z P) w d v := by
  funext k
  unfold p_z p_chg
  dsimp only
  by_cases c : k = 43 ∨ k = 44
  · rw [if_pos c, if_neg (by omega), if_neg (by omega), if_pos c]
  · rw [if_neg c, if_neg c]
theorem c_change {fu o d w v T : Nat} {I : Nat → Nat → Int32} {R : Nat → Nat → Option Nat} {dr P : Nat → Nat} (hg : h_geo R o dr) (hr : h_rep I o dr P) (hp : p_ok T P) (hd : d < P 16) (hm : p_may P w d v) : ∃ I', f_X1_change fu (dr d) (nI w) (nI v) (I, R) = some ((), (I', R)) ∧ h_rep I' o dr (p_chg P w d v) ∧ (∀ a, a ≠ dr d → I' a = I a) ∧ I' (dr d) 4 = I (dr d) 4 ∧ I' (dr d) 5 = I (dr d) 5 := by
  have b16 := hp.1
  obtain ⟨b0, b1, b2, b3⟩ := hp.2.2.1 d (by omega)
  obtain ⟨r0, r1, r2, r3⟩ := hr.2.2.2.2.2.1 d hd
  have hdo := hg.2.2.2.2.2.2.2.2.2.2
  have inj := hg.2.2.2.2.2.2.2.2.2.1
  have hw : w < 4 := by unfold p_may at hm; omega
  have ex : ∀ k, 16 ≤ k → p_chg P w d v k = P k := fun k hk => chg_ne (by omega) (by omega)
  -- the rest, from the door's four numbers
  have rest : ∀ I' : Nat → Nat → Int32, (∀ a, a ≠ dr d → I' a = I a) → I' (dr d) 0 = nI (p_chg P w d v d) → I' (dr d) 1 = nI (p_chg P w d v (4 + d)) → I' (dr d) 2 = nI (p_chg P w d v (8 + d)) → I' (dr d) 3 = nI (p_chg P w d v (12 + d)) → h_rep I' o dr (p_chg P w d v) := by
    intro I' ha i0 i1 i2 i3
    have ho : I' o = I o := ha o (fun e => by have := hdo d (by omega); omega)
    refine ⟨?_, ?_, ?_, ?_, ?_, fun e he => ?_, fun i hi => ?_⟩
    · rw [ho, ex _ (by omega)]; exact hr.1
    · rw [ho, ex _ (by omega)]; exact hr.2.1
    · rw [ho, ex _ (by omega)]; exact hr.2.2.1
    · rw [ho, ex _ (by omega)]; exact hr.2.2.2.1
    · rw [ho, ex _ (by omega)]; exact hr.2.2.2.2.1
    · rw [ex _ (by omega)] at he
      by_cases c : e = d
      · subst c
        exact ⟨i0, i1, i2, i3⟩
      · rw [ha (dr e) (fun q => c (inj e d (by omega) (by omega) q)), chg_ne (k := e) (by omega) (by omega), chg_ne (k := 4 + e) (by omega) (by omega), chg_ne (k := 8 + e) (by omega) (by omega), chg_ne (k := 12 + e) (by omega) (by omega)]
        exact hr.2.2.2.2.2.1 e he
    · rw [ex _ (by omega)] at hi
      have := hp.2.1
      rw [ha (o + 7 + i) (fun e => by have := hdo d (by omega); omega), ex _ (by omega), ex _ (by omega), ex _ (by omega)]
      exact hr.2.2.2.2.2.2 i hi
  have hmin : ∀ x y : Nat, x ≤ 9 → y ≤ 9 → (if nI x < nI y then nI x else nI y) = nI (min y x) := fun x y h1 h2 => n_min (by omega) (by omega)
  unfold p_may at hm
  rcases hm with ⟨rfl, hm⟩ | ⟨rfl, hm⟩ | ⟨rfl, hm⟩ | ⟨rfl, hm⟩
  · refine ⟨g_u (g_u I (dr d) 0 (nI v)) (dr d) 3 (nI (P (12 + d))), ?_, rest _ (fun a ha => by rw [g_u_ne ha, g_u_ne ha]) ?_ ?_ ?_ ?_, fun a ha => by rw [g_u_ne ha, g_u_ne ha], ?_, ?_⟩
    · unfold f_X1_change j_X1_change_57
      refine (if_pos rfl).trans ?_
      have e1 : (g_u I (dr d) 0 (nI v)) (dr d) 1 = nI (P (4 + d)) := by rw [u_nk (by decide)]; exact r1
      have e3 : (g_u I (dr d) 0 (nI v)) (dr d) 3 = nI (P (12 + d)) := by rw [u_nk (by decide)]; exact r3
      simp only [e1, e3]
      rw [hmin _ _ (by omega) (by omega), show min (P (12 + d)) (P (4 + d)) = P (12 + d) by omega]
    · have q : p_chg P 0 d v d = v := by have := @chg_at P 0 d v; rwa [show 4 * 0 + d = d by omega] at this
      rw [u_nk (by decide), u_at, q]
    · rw [u_nk (by decide), u_nk (by decide), chg_ne (by omega) (by omega)]; exact r1
    · rw [u_nk (by decide), u_nk (by decide), chg_ne (by omega) (by omega)]; exact r2
    · rw [u_at, chg_ne (by omega) (by omega)]
    · rw [u_nk (by decide), u_nk (by decide)]
    · rw [u_nk (by decide), u_nk (by decide)]
  · refine ⟨g_u (g_u I (dr d) 1 (nI v)) (dr d) 3 (nI (min (P (12 + d)) v)), ?_, rest _ (fun a ha => by rw [g_u_ne ha, g_u_ne ha]) ?_ ?_ ?_ ?_, fun a ha => by rw [g_u_ne ha, g_u_ne ha], ?_, ?_⟩
    · unfold f_X1_change j_X1_change_57
      refine (if_neg (by decide)).trans ((if_pos rfl).trans ?_)
      have e1 : (g_u I (dr d) 1 (nI v)) (dr d) 1 = nI v := u_at
      have e3 : (g_u I (dr d) 1 (nI v)) (dr d) 3 = nI (P (12 + d)) := by rw [u_nk (by decide)]; exact r3
      simp only [e1, e3]
      rw [hmin _ _ (by omega) (by omega)]
    · rw [u_nk (by decide), u_nk (by decide), chg_ne (by omega) (by omega)]; exact r0
    · rw [u_nk (by decide), u_at]; exact congrArg nI (@chg_at P 1 d v).symm
    · rw [u_nk (by decide), u_nk (by decide), chg_ne (by omega) (by omega)]; exact r2
    · rw [u_at, chg_h]
    · rw [u_nk (by decide), u_nk (by decide)]
    · rw [u_nk (by decide), u_nk (by decide)]
  · refine ⟨g_u (g_u I (dr d) 2 (nI v)) (dr d) 3 (nI (P (12 + d))), ?_, rest _ (fun a ha => by rw [g_u_ne ha, g_u_ne ha]) ?_ ?_ ?_ ?_, fun a ha => by rw [g_u_ne ha, g_u_ne ha], ?_, ?_⟩
    · unfold f_X1_change j_X1_change_57
      refine (if_neg (by decide)).trans ((if_neg (by decide)).trans ((if_pos rfl).trans ?_))
      have e1 : (g_u I (dr d) 2 (nI v)) (dr d) 1 = nI (P (4 + d)) := by rw [u_nk (by decide)]; exact r1
      have e3 : (g_u I (dr d) 2 (nI v)) (dr d) 3 = nI (P (12 + d)) := by rw [u_nk (by decide)]; exact r3
      simp only [e1, e3]
      rw [hmin _ _ (by omega) (by omega), show min (P (12 + d)) (P (4 + d)) = P (12 + d) by omega]
    · rw [u_nk (by decide), u_nk (by decide), chg_ne (by omega) (by omega)]; exact r0
    · rw [u_nk (by decide), u_nk (by decide), chg_ne (by omega) (by omega)]; exact r1
    · rw [u_nk (by decide), u_at]; exact congrArg nI (@chg_at P 2 d v).symm
    · rw [u_at, chg_ne (by omega) (by omega)]
    · rw [u_nk (by decide), u_nk (by decide)]
    · rw [u_nk (by decide), u_nk (by decide)]
  · refine ⟨g_u (g_u I (dr d) 3 (nI v)) (dr d) 3 (nI v), ?_, rest _ (fun a ha => by rw [g_u_ne ha, g_u_ne ha]) ?_ ?_ ?_ ?_, fun a ha => by rw [g_u_ne ha, g_u_ne ha], ?_, ?_⟩
    · unfold f_X1_change j_X1_change_57
      refine (if_neg (by decide)).trans ((if_neg (by decide)).trans ((if_neg (by decide)).trans ?_))
      have e1 : (g_u I (dr d) 3 (nI v)) (dr d) 1 = nI (P (4 + d)) := by rw [u_nk (by decide)]; exact r1
      have e3 : (g_u I (dr d) 3 (nI v)) (dr d) 3 = nI v := u_at
      simp only [e1, e3]
      rw [hmin _ _ (by omega) (by omega), show min v (P (4 + d)) = v by omega]
    · rw [u_nk (by decide), u_nk (by decide), chg_ne (by omega) (by omega)]; exact r0
    · rw [u_nk (by decide), u_nk (by decide), chg_ne (by omega) (by omega)]; exact r1
    · rw [u_nk (by decide), u_nk (by decide), chg_ne (by omega) (by omega)]; exact r2
    · rw [u_at]; exact congrArg nI (@chg_at P 3 d v).symm
    · rw [u_nk (by decide), u_nk (by decide)]
    · rw [u_nk (by decide), u_nk (by decide)]
/-- the reference: a page's door is made so deep -/
theorem m_deepOn {fu p d v T : Nat} {I : Nat → Nat → Int32} {R : Nat → Nat → Option Nat} {P : Nat → Nat} (hR : m_R R) (hg : m_pg I p P) (hp : p_ok T P) (hd : d < 4) (hv : v ≤ 9) (hq : p ≤ 225) : ∃ I', f_X8_deepOn fu 0 (nI p) (nI d) (nI v) (I, R) = some ((), (I', R)) ∧ m_pg I' p (p_chg P 1 d v) ∧ (∀ k, k < p ∨ p + 45 ≤ k → I' 1 k = I 1 k) ∧ ∀ a, a ≠ 1 → I' a = I a := by
  obtain ⟨b0, b1, b2, b3⟩ := hp.2.2.1 d hd
  have g12 := hg (12 + d) (by omega)
  rw [← Nat.add_assoc] at g12
  have x12 : (g_u I 1 (p + 4 + d) (nI v)) 1 (p + 12 + d) = nI (P (12 + d)) := by rw [u_nk (by omega)]; exact g12
  refine ⟨g_u (g_u I 1 (p + 4 + d) (nI v)) 1 (p + 12 + d) (nI (min (P (12 + d)) v)), ?_, fun k hk => ?_, fun k hk => by rw [u_nk (by omega), u_nk (by omega)], fun a ha => by rw [g_u_ne ha, g_u_ne ha]⟩
  · unfold f_X8_deepOn
    simp (disch := omega) only [m_ld0 hR, l_4, l_12, nI_add, k_ix, x12, nI_leI]
    by_cases c : P (12 + d) ≤ v
    · rw [if_pos c, show min (P (12 + d)) v = P (12 + d) by omega]
    · rw [if_neg c, show min (P (12 + d)) v = v by omega]
  · by_cases c1 : k = 12 + d
    · subst c1
      rw [← Nat.add_assoc, u_at, chg_h]
    · rw [u_nk (by omega)]
      by_cases c2 : k = 4 + d
      · subst c2
        rw [← Nat.add_assoc, u_at]; exact congrArg nI (@chg_at P 1 d v).symm
      · rw [u_nk (by omega), chg_ne (by omega) (by omega)]; exact hg k hk
/-- the reference: a page's number is set -/
theorem m_set {I : Nat → Nat → Int32} {p d v w : Nat} {P : Nat → Nat} (hg : m_pg I p P) (h1 : w ≠ 1) : m_pg (g_u I 1 (p + (4 * w + d)) (nI v)) p (p_chg P w d v) := by
  intro k hk
  by_cases c : k = 4 * w + d
  · subst c
    rw [u_at, chg_at]
  · rw [u_nk (by omega), chg_ne c (by omega)]
    exact hg k hk
