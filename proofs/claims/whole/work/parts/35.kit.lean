/-! ===== numbers: all to Nat ===== -/
theorem l_0 : (0 : Int32) = nI 0 := rfl
theorem l_1 : (1 : Int32) = nI 1 := rfl
theorem l_2 : (2 : Int32) = nI 2 := rfl
theorem l_3 : (3 : Int32) = nI 3 := rfl
theorem l_4 : (4 : Int32) = nI 4 := rfl
theorem l_5 : (5 : Int32) = nI 5 := rfl
theorem l_6 : (6 : Int32) = nI 6 := rfl
theorem l_8 : (8 : Int32) = nI 8 := rfl
theorem l_9 : (9 : Int32) = nI 9 := rfl
theorem l_10 : (10 : Int32) = nI 10 := rfl
theorem l_12 : (12 : Int32) = nI 12 := rfl
theorem l_13 : (13 : Int32) = nI 13 := rfl
theorem l_16 : (16 : Int32) = nI 16 := rfl
theorem l_17 : (17 : Int32) = nI 17 := rfl
theorem l_20 : (20 : Int32) = nI 20 := rfl
theorem l_25 : (25 : Int32) = nI 25 := rfl
theorem l_32 : (32 : Int32) = nI 32 := rfl
theorem l_33 : (33 : Int32) = nI 33 := rfl
theorem l_40 : (40 : Int32) = nI 40 := rfl
theorem l_41 : (41 : Int32) = nI 41 := rfl
theorem l_42 : (42 : Int32) = nI 42 := rfl
theorem l_43 : (43 : Int32) = nI 43 := rfl
theorem l_44 : (44 : Int32) = nI 44 := rfl
theorem l_45 : (45 : Int32) = nI 45 := rfl
theorem l_72 : (72 : Int32) = nI 72 := rfl
theorem l_99 : (99 : Int32) = nI 99 := rfl
theorem l_100 : (100 : Int32) = nI 100 := rfl
theorem l_127 : (127 : Int32) = nI 127 := rfl
theorem l_135 : (135 : Int32) = nI 135 := rfl
theorem l_160 : (160 : Int32) = nI 160 := rfl
theorem l_180 : (180 : Int32) = nI 180 := rfl
theorem l_192 : (192 : Int32) = nI 192 := rfl
theorem l_225 : (225 : Int32) = nI 225 := rfl
theorem l_233 : (233 : Int32) = nI 233 := rfl
theorem l_999 : (999 : Int32) = nI 999 := rfl
theorem l_1000 : (1000 : Int32) = nI 1000 := rfl
theorem l_99999 : (99999 : Int32) = nI 99999 := rfl
theorem k_ix {β : Type} {m n : Nat} {k : Nat → Option β} (hm : m < n) (hn : n < 2 ^ 31) : g_ix (nI m) n k = k m := e_ix rfl hm hn
theorem k_zb0 {β : Type} {k : Option β} : g_zb (nI 0) k = k := e_zb0
theorem k_zb1 {β : Type} {k : Option β} : g_zb (nI 1) k = k := e_zb1
theorem k_bd {α β : Type} {r : α} {S : g_St} {k : α → g_St → Option β} : g_bd (some (r, S)) k = k r S := rfl
theorem k_th {α β : Type} {r : α} {k : α → Option β} : g_th (some r) k = k r := rfl
theorem k_nz {β : Type} {n : Nat} {k : Option β} (h0 : 0 < n) (h : n < 2 ^ 31) : g_nz (nI n) k = k := e_nz (nI_ne0 h0 h)
theorem k_lt0 {m : Nat} (h : m < 2 ^ 31) : (nI m < 0) = False := by simp [nI_pos h]
/-! ===== the reference: where its arrays lie ===== -/
def m_R (R : Nat → Nat → Option Nat) : Prop := R 0 0 = some 1 ∧ R 0 1 = some 2 ∧ R 0 2 = some 3 ∧ R 0 11 = some 4 ∧ R 0 12 = some 5 ∧ R 0 18 = some 6 ∧ R 0 19 = some 7 ∧ R 0 21 = some 8 ∧ R 0 22 = some 9 ∧ R 0 23 = some 10 ∧ R 0 24 = some 11 ∧ R 0 25 = some 12
theorem m_ld0 {β : Type} {R : Nat → Nat → Option Nat} (h : m_R R) {k : Nat → Option β} : g_ld g_KM 13 (.inr (0, 270, false)) (R 0 0) k = k 1 := e_ld h.1 ⟨by decide, rfl⟩
theorem m_ld1 {β : Type} {R : Nat → Nat → Option Nat} (h : m_R R) {k : Nat → Option β} : g_ld g_KM 13 (.inr (0, 45, false)) (R 0 1) k = k 2 := e_ld h.2.1 ⟨by decide, rfl⟩
theorem m_ld2 {β : Type} {R : Nat → Nat → Option Nat} (h : m_R R) {k : Nat → Option β} : g_ld g_KM 13 (.inr (0, 160, false)) (R 0 2) k = k 3 := e_ld h.2.2.1 ⟨by decide, rfl⟩
theorem m_ld11 {β : Type} {R : Nat → Nat → Option Nat} (h : m_R R) {k : Nat → Option β} : g_ld g_KM 13 (.inr (0, 6, false)) (R 0 11) k = k 4 := e_ld h.2.2.2.1 ⟨by decide, rfl⟩
theorem m_ld12 {β : Type} {R : Nat → Nat → Option Nat} (h : m_R R) {k : Nat → Option β} : g_ld g_KM 13 (.inr (0, 24, false)) (R 0 12) k = k 5 := e_ld h.2.2.2.2.1 ⟨by decide, rfl⟩
theorem m_ld18 {β : Type} {R : Nat → Nat → Option Nat} (h : m_R R) {k : Nat → Option β} : g_ld g_KM 13 (.inr (0, 4, false)) (R 0 18) k = k 6 := e_ld h.2.2.2.2.2.1 ⟨by decide, rfl⟩
theorem m_ld19 {β : Type} {R : Nat → Nat → Option Nat} (h : m_R R) {k : Nat → Option β} : g_ld g_KM 13 (.inr (0, 12, false)) (R 0 19) k = k 7 := e_ld h.2.2.2.2.2.2.1 ⟨by decide, rfl⟩
theorem m_ld21 {β : Type} {R : Nat → Nat → Option Nat} (h : m_R R) {k : Nat → Option β} : g_ld g_KM 13 (.inr (0, 410, false)) (R 0 21) k = k 8 := e_ld h.2.2.2.2.2.2.2.1 ⟨by decide, rfl⟩
theorem m_ld22 {β : Type} {R : Nat → Nat → Option Nat} (h : m_R R) {k : Nat → Option β} : g_ld g_KM 13 (.inr (2, 2, false)) (R 0 22) k = k 9 := e_ld h.2.2.2.2.2.2.2.2.1 ⟨by decide, rfl⟩
theorem m_ld23 {β : Type} {R : Nat → Nat → Option Nat} (h : m_R R) {k : Nat → Option β} : g_ld g_KM 13 (.inr (0, 4, false)) (R 0 23) k = k 10 := e_ld h.2.2.2.2.2.2.2.2.2.1 ⟨by decide, rfl⟩
theorem m_ld24 {β : Type} {R : Nat → Nat → Option Nat} (h : m_R R) {k : Nat → Option β} : g_ld g_KM 13 (.inr (0, 4, false)) (R 0 24) k = k 11 := e_ld h.2.2.2.2.2.2.2.2.2.2.1 ⟨by decide, rfl⟩
theorem m_ld25 {β : Type} {R : Nat → Nat → Option Nat} (h : m_R R) {k : Nat → Option β} : g_ld g_KM 13 (.inr (0, 160, false)) (R 0 25) k = k 12 := e_ld h.2.2.2.2.2.2.2.2.2.2.2 ⟨by decide, rfl⟩
/-- a page of the reference -/
def m_pg (I : Nat → Nat → Int32) (p : Nat) (P : Nat → Nat) : Prop := ∀ k, k < 45 → I 1 (p + k) = nI (P k)
theorem m_room1 {fu p d kd dp ho : Nat} {I : Nat → Nat → Int32} {R : Nat → Nat → Option Nat} (hR : m_R R) (g0 : I 1 (p + d) = nI kd) (g1 : I 1 (p + 4 + d) = nI dp) (g3 : I 1 (p + 12 + d) = nI ho) (hk : kd ≤ 3) (hh : ho ≤ dp) (hq : p ≤ 225) (hd : d < 4) : f_X8_roomOn fu 0 (nI p) (nI d) (I, R) = some (nI (if kd = 0 then ho else dp - ho), (I, R)) := by
  unfold f_X8_roomOn
  simp (disch := omega) only [m_ld0 hR, l_12, l_4, nI_add, k_ix, g0, g1, g3, l_0, nI_eq]
  by_cases c : kd = 0
  · rw [if_pos c, if_pos c]
  · rw [if_neg c, if_neg c, pk_sub hh]
theorem m_roomOn {fu p d T : Nat} {I : Nat → Nat → Int32} {R : Nat → Nat → Option Nat} {P : Nat → Nat} (hR : m_R R) (hg : m_pg I p P) (hp : p_ok T P) (hq : p ≤ 225) (hd : d < 4) : f_X8_roomOn fu 0 (nI p) (nI d) (I, R) = some (nI (p_room P d), (I, R)) := by
  obtain ⟨b0, b1, b2, b3⟩ := hp.2.2.1 d hd
  exact m_room1 hR (hg d (by omega)) (by rw [Nat.add_assoc]; exact hg (4 + d) (by omega)) (by rw [Nat.add_assoc]; exact hg (12 + d) (by omega)) b0 b3 hq hd
theorem m_starts {fu : Nat} {I : Nat → Nat → Int32} {R : Nat → Nat → Option Nat} (hR : m_R R) (hf : 10 < fu) : ∃ I', f_X8_starts fu 0 (I, R) = some ((), (I', R)) ∧ (∀ k, 14 ≤ k → k < 18 → I' 0 k = nI 0) ∧ (∀ d, d < 4 → I' 6 d = nI 0) ∧ (∀ k, k < 14 ∨ 18 ≤ k → I' 0 k = I 0 k) ∧ ∀ a, a ≠ 0 → a ≠ 6 → I' a = I a := by
  have hz : ∀ k, k < 14 ∨ 18 ≤ k → (g_u (g_u (g_u (g_u I 0 14 (nI 0)) 0 15 (nI 0)) 0 16 (nI 0)) 0 17 (nI 0)) 0 k = I 0 k := fun k hk => by
    rw [u_nk (by omega), u_nk (by omega), u_nk (by omega), u_nk (by omega)]
  have hz2 : ∀ k, 14 ≤ k → k < 18 → (g_u (g_u (g_u (g_u I 0 14 (nI 0)) 0 15 (nI 0)) 0 16 (nI 0)) 0 17 (nI 0)) 0 k = nI 0 := fun k h1 h2 => by
    rcases (show k = 14 ∨ k = 15 ∨ k = 16 ∨ k = 17 by omega) with rfl | rfl | rfl | rfl <;> rfl
  obtain ⟨b, e1, J, rfl, hJ, hK⟩ := e_lp (body := fun t => b_X8_starts_22 fu 0 t.1 t.2) 4 (fun i t => ∃ J, t = (nI i, (J, R)) ∧ (∀ a, a ≠ 6 → J a = (g_u (g_u (g_u (g_u I 0 14 (nI 0)) 0 15 (nI 0)) 0 16 (nI 0)) 0 17 (nI 0)) a) ∧ ∀ d, d < i → J 6 d = nI 0) (fun b => ∃ J, b = (J, R) ∧ (∀ a, a ≠ 6 → J a = (g_u (g_u (g_u (g_u I 0 14 (nI 0)) 0 15 (nI 0)) 0 16 (nI 0)) 0 17 (nI 0)) a) ∧ ∀ d, d < 4 → J 6 d = nI 0) (by
    rintro i t hi ⟨J, rfl, hJ, hK⟩
    refine ⟨(nI (i + 1), (g_u J 6 i (nI 0), R)), ?_, _, rfl, fun a ha => ?_, fun d hd => ?_⟩
    · show b_X8_starts_22 fu 0 (nI i) (J, R) = _
      unfold b_X8_starts_22
      simp (disch := omega) only [m_ld18 hR, l_4, l_1, l_0, nI_leI, nI_add, k_ix]
      rw [if_neg (by omega)]
    · rw [g_u_ne ha]; exact hJ a ha
    · rcases Nat.lt_or_ge d i with q | q
      · rw [u_nk (by omega)]; exact hK d q
      · have : d = i := by omega
        subst this
        rw [u_at]) (by
    rintro t ⟨J, rfl, hJ, hK⟩
    refine ⟨_, ?_, J, rfl, hJ, hK⟩
    exact if_pos (show (4 : Int32) ≤ nI 4 from by decide)) 0 fu (nI 0, (g_u (g_u (g_u (g_u I 0 14 (nI 0)) 0 15 (nI 0)) 0 16 (nI 0)) 0 17 (nI 0), R)) (Nat.zero_le _) (by omega) ⟨_, rfl, fun _ _ => rfl, fun d hd => absurd hd (Nat.not_lt_zero _)⟩
  refine ⟨J, (e_th e1).trans rfl, fun k h1 h2 => ?_, hK, fun k hk => ?_, fun a h0 h6 => ?_⟩
  · rw [hJ 0 (by decide)]; exact hz2 k h1 h2
  · rw [hJ 0 (by decide)]; exact hz k hk
  · rw [hJ a h6, g_u_ne h0, g_u_ne h0, g_u_ne h0, g_u_ne h0]
