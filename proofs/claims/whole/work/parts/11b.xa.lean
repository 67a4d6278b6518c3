abbrev rm_X2_clear : Room := { frames := 0, cells := 0, slots := 0, locals := 0 }
theorem hd_X2_clear : yX2_clear.cls = RX2 ∧ yX2_clear.cls ≠ "java/lang/invoke/MethodHandle" ∧ yX2_clear.cls ≠ "java/lang/invoke/VarHandle" ∧ (parseMethodDescriptor yX2_clear.desc).map (fun d => d.parameters.length) = some 0 := by decide +kernel
theorem w_X2_clear_25 : Cond.fieldLink RX2 25 "TokenDoors$Hall" "doorCount" "I" ∈ wsX2_clear := by decide +kernel
theorem w_X2_clear_inX2 : ∀ w ∈ wsX20, w ∈ wsX2_clear := by decide +kernel
theorem w_X2_clear_29 : Cond.fieldLink RX2 29 "TokenDoors$Hall" "crowdCount" "I" ∈ wsX2_clear := by decide +kernel
theorem w_X2_clear_32 : Cond.fieldLink RX2 32 "TokenDoors$Hall" "tick" "I" ∈ wsX2_clear := by decide +kernel
theorem w_X2_clear_35 : Cond.fieldLink RX2 35 "TokenDoors$Hall" "let" "I" ∈ wsX2_clear := by decide +kernel
theorem w_X2_clear_38 : Cond.fieldLink RX2 38 "TokenDoors$Hall" "turned" "I" ∈ wsX2_clear := by decide +kernel
def f_X2_clear (fu : Nat) (o : Nat) (S : g_St) : Option (Unit × g_St) :=
  some ((), (g_u (g_u (g_u (g_u (g_u S.1 o 2 (0 : Int32)) o 3 (0 : Int32)) o 4 (0 : Int32)) o 5 (0 : Int32)) o 6 (0 : Int32), S.2))
set_option maxRecDepth 100000 in
set_option maxHeartbeats 400000 in
theorem ct_X2_clear {l : Launch} {D : va_G} {ad : Nat → Nat} {cy : Nat → ClassId} {zz : (Nat → Nat) × (Nat → Nat)} (hinj : ∀ i j, i < 90 → j < 90 → ad i = ad j → i = j) {fu : Nat} (o : Nat) (hk_o : o < 90 ∧ g_KC o = g_kX2) {S : g_St} (z : Unit × g_St) (h : f_X2_clear fu o S = some z) : g_Mv l g_KC 90 D ad cy zz yX2_clear wsX2_clear rm_X2_clear [.ref (ad o)] S z := by
  refine g_ofv hinj (cc := cX2_clear) (maxL := 1) (ret := none) (lv := [(0, .ref (ad o))]) (by decide) rfl (Nat.le_of_ble_eq_true rfl) rfl ?_
  intro x X hl hD ha hy hz
  subst hl hD ha hy hz
  unfold f_X2_clear at h
  refine g_aload_n X dX2_clear_0 0 rfl ?_
  refine g_iconst X (v := 0) dX2_clear_1 (by decide) ?_
  refine g_puti X g_cX2 w_X2_clear_inX2 2 (by decide) w_X2_clear_25 hk_o rfl rfl (t := .int) (by decide +kernel) rfl rfl dX2_clear_2 ?_
  refine g_aload_n X dX2_clear_5 0 rfl ?_
  refine g_iconst X (v := 0) dX2_clear_6 (by decide) ?_
  refine g_puti X g_cX2 w_X2_clear_inX2 3 (by decide) w_X2_clear_29 hk_o rfl rfl (t := .int) (by decide +kernel) rfl rfl dX2_clear_7 ?_
  refine g_aload_n X dX2_clear_10 0 rfl ?_
  refine g_iconst X (v := 0) dX2_clear_11 (by decide) ?_
  refine g_puti X g_cX2 w_X2_clear_inX2 4 (by decide) w_X2_clear_32 hk_o rfl rfl (t := .int) (by decide +kernel) rfl rfl dX2_clear_12 ?_
  refine g_aload_n X dX2_clear_15 0 rfl ?_
  refine g_iconst X (v := 0) dX2_clear_16 (by decide) ?_
  refine g_puti X g_cX2 w_X2_clear_inX2 5 (by decide) w_X2_clear_35 hk_o rfl rfl (t := .int) (by decide +kernel) rfl rfl dX2_clear_17 ?_
  refine g_aload_n X dX2_clear_20 0 rfl ?_
  refine g_iconst X (v := 0) dX2_clear_21 (by decide) ?_
  refine g_puti X g_cX2 w_X2_clear_inX2 6 (by decide) w_X2_clear_38 hk_o rfl rfl (t := .int) (by decide +kernel) rfl rfl dX2_clear_22 ?_
  exact g_vret X h dX2_clear_25
abbrev rm_X2_become : Room := { frames := 1, cells := 0, slots := 0, locals := 23 }
theorem hd_X2_become : yX2_become.cls = RX2 ∧ yX2_become.cls ≠ "java/lang/invoke/MethodHandle" ∧ yX2_become.cls ≠ "java/lang/invoke/VarHandle" ∧ (parseMethodDescriptor yX2_become.desc).map (fun d => d.parameters.length) = some 1 := by decide +kernel
theorem w_X2_become_25 : Cond.fieldLink RX2 25 "TokenDoors$Hall" "doorCount" "I" ∈ wsX2_become := by decide +kernel
theorem w_X2_become_inX2 : ∀ w ∈ wsX20, w ∈ wsX2_become := by decide +kernel
theorem w_X2_become_11 : Cond.fieldLink RX2 11 "TokenDoors$Hall" "doors" "[LTokenDoors$Door;" ∈ wsX2_become := by decide +kernel
theorem w_X2_become_29 : Cond.fieldLink RX2 29 "TokenDoors$Hall" "crowdCount" "I" ∈ wsX2_become := by decide +kernel
theorem w_X2_become_19 : Cond.fieldLink RX2 19 "TokenDoors$Hall" "crowds" "[LTokenDoors$Crowd;" ∈ wsX2_become := by decide +kernel
theorem w_X2_become_45 : Cond.fieldLink RX2 45 "TokenDoors$Crowd" "start" "I" ∈ wsX2_become := by decide +kernel
theorem w_X2_become_inX0 : ∀ w ∈ wsX00, w ∈ wsX2_become := by decide +kernel
theorem w_X2_become_48 : Cond.fieldLink RX2 48 "TokenDoors$Crowd" "many" "I" ∈ wsX2_become := by decide +kernel
theorem w_X2_become_51 : Cond.fieldLink RX2 51 "TokenDoors$Crowd" "every" "I" ∈ wsX2_become := by decide +kernel
theorem w_X2_become_32 : Cond.fieldLink RX2 32 "TokenDoors$Hall" "tick" "I" ∈ wsX2_become := by decide +kernel
theorem w_X2_become_35 : Cond.fieldLink RX2 35 "TokenDoors$Hall" "let" "I" ∈ wsX2_become := by decide +kernel
theorem w_X2_become_38 : Cond.fieldLink RX2 38 "TokenDoors$Hall" "turned" "I" ∈ wsX2_become := by decide +kernel
def b_X2_become_10 (fu : Nat) (v0 : Nat) (v1 : Nat) (v2 : Int32) (S : g_St) : Option ((Int32 × g_St) ⊕ (g_St)) :=
  if (S.1 v0 2) ≤ v2 then (some (.inr S)) else (g_ld g_KC 90 (.inr (3, 4, true)) (S.2 v0 0) fun a1 => g_ix v2 4 fun i2 => g_ld g_KC 90 g_kX1 (S.2 a1 i2) fun a2 => g_ld g_KC 90 (.inr (3, 4, true)) (S.2 v1 0) fun a3 => g_ix v2 4 fun i4 => g_ld g_KC 90 g_kX1 (S.2 a3 i4) fun a4 => g_bd (f_X1_become fu a2 a4 S) fun _ Sr5 => some (.inl ((v2 + 1), Sr5)))
def b_X2_become_49 (fu : Nat) (v0 : Nat) (v1 : Nat) (v2 : Int32) (S : g_St) : Option ((Int32 × g_St) ⊕ (g_St)) :=
  if (S.1 v0 3) ≤ v2 then (some (.inr S)) else (g_ld g_KC 90 (.inr (4, 8, true)) (S.2 v1 1) fun a6 => g_ix v2 8 fun i7 => g_ld g_KC 90 g_kX0 (S.2 a6 i7) fun a7 => g_ld g_KC 90 (.inr (4, 8, true)) (S.2 v0 1) fun a8 => g_ix v2 8 fun i9 => g_ld g_KC 90 g_kX0 (S.2 a8 i9) fun a9 => g_bd (f_X0_make fu a9 ((S.1 a7 0)) ((S.1 a7 1)) ((S.1 a7 2)) S) fun _ Sr10 => some (.inl ((v2 + 1), Sr10)))
def f_X2_become (fu : Nat) (o : Nat) (p0 : Nat) (S : g_St) : Option (Unit × g_St) :=
  g_th (g_lp (fun t => b_X2_become_10 fu o p0 t.1 t.2) fu ((0 : Int32), (g_u S.1 o 2 (S.1 p0 2), S.2))) fun e => match e with | S1 => g_th (g_lp (fun t => b_X2_become_49 fu o p0 t.1 t.2) fu ((0 : Int32), (g_u S1.1 o 3 (S1.1 p0 3), S1.2))) fun e => match e with | S2 => some ((), (g_u (g_u (g_u S2.1 o 4 (S2.1 p0 4)) o 5 ((g_u S2.1 o 4 (S2.1 p0 4)) p0 5)) o 6 ((g_u (g_u S2.1 o 4 (S2.1 p0 4)) o 5 ((g_u S2.1 o 4 (S2.1 p0 4)) p0 5)) p0 6), S2.2))
set_option maxRecDepth 100000 in
set_option maxHeartbeats 400000 in
theorem vb_X2_become_10 {x : g_CX} {z : Unit × g_St} {fu : Nat} (X : g_X 90 x cX2_become RX2 4 wsX2_become rm_X2_become none) (v0 : Nat) (v1 : Nat) (v2 : Int32) (hk_v0 : v0 < 90 ∧ g_KC v0 = g_kX2) (hk_v1 : v1 < 90 ∧ g_KC v1 = g_kX2) (S : g_St) {r : (Int32 × g_St) ⊕ (g_St)} (h : b_X2_become_10 fu v0 v1 v2 S = some r) (hc : Sum.elim (fun t : Int32 × g_St => g_V g_KC 90 x 4 (g_qv g_KC 90 x z) t.2 10 [(0, .ref (g_ad x v0)), (1, .ref (g_ad x v1)), (2, .int (t.1))] []) (fun e : g_St => g_V g_KC 90 x 4 (g_qv g_KC 90 x z) e 39 [(0, .ref (g_ad x v0)), (1, .ref (g_ad x v1))] []) r) : g_V g_KC 90 x 4 (g_qv g_KC 90 x z) S 10 [(0, .ref (g_ad x v0)), (1, .ref (g_ad x v1)), (2, .int (v2))] [] := by
  unfold b_X2_become_10 at h
  refine g_iload_n X dX2_become_10 2 rfl ?_
  refine g_aload_n X dX2_become_11 0 rfl ?_
  refine g_geti X g_cX2 w_X2_become_inX2 2 (by decide) w_X2_become_25 hk_v0 rfl dX2_become_12 ?_
  refine g_icmp_ge X 39 dX2_become_15 (by decide) h (fun c_15 h => ?_) (fun c_15 h => ?_)
  · skip
    cases h
    exact g_sub [0, 1] _ rfl hc
  · skip
    refine g_aload_n X dX2_become_18 0 rfl ?_
    refine g_getr X g_cX2 w_X2_become_inX2 0 (by decide) w_X2_become_11 hk_v0 rfl dX2_become_19 h (fun a1 hk_a1 h => ?_)
    refine g_iload_n X dX2_become_22 2 rfl ?_
    refine g_aald X 3 RX1 rfl hk_a1 dX2_become_23 h (fun a2 hk_a2 h => ?_)
    refine g_aload_n X dX2_become_24 1 rfl ?_
    refine g_getr X g_cX2 w_X2_become_inX2 0 (by decide) w_X2_become_11 hk_v1 rfl dX2_become_25 h (fun a3 hk_a3 h => ?_)
    refine g_iload_n X dX2_become_28 2 rfl ?_
    refine g_aald X 3 RX1 rfl hk_a3 dX2_become_29 h (fun a4 hk_a4 h => ?_)
    refine g_callVv X g_cX1 hk_a2 [.ref (g_ad x a4)] rfl (cwV 1 X.2.2.2.2.1 gX2_become_X1_become rfl rfl rfl hd_X1_become ⟨Nat.le_of_ble_eq_true rfl, Nat.le_of_ble_eq_true rfl⟩) (Nat.le_of_ble_eq_true rfl) dX2_become_30 h (fun q hq => ct_X1_become X.2.2.2.2.2.2.1 a2 a4 hk_a2 hk_a4 _ hq) (fun _ Sr5 h => ?_)
    refine g_iinc X [(2, _), (0, _), (1, _)] dX2_become_33 2 rfl rfl (by decide) rfl ?_
    refine g_goto X 10 dX2_become_36 (by decide) ?_
    cases h
    exact g_sub [1, 2, 0] _ rfl hc
set_option maxRecDepth 100000 in
set_option maxHeartbeats 400000 in
theorem vb_X2_become_49 {x : g_CX} {z : Unit × g_St} {fu : Nat} (X : g_X 90 x cX2_become RX2 4 wsX2_become rm_X2_become none) (v0 : Nat) (v1 : Nat) (v2 : Int32) (hk_v0 : v0 < 90 ∧ g_KC v0 = g_kX2) (hk_v1 : v1 < 90 ∧ g_KC v1 = g_kX2) (S : g_St) {r : (Int32 × g_St) ⊕ (g_St)} (h : b_X2_become_49 fu v0 v1 v2 S = some r) (hc : Sum.elim (fun t : Int32 × g_St => g_V g_KC 90 x 4 (g_qv g_KC 90 x z) t.2 49 [(0, .ref (g_ad x v0)), (1, .ref (g_ad x v1)), (2, .int (t.1))] []) (fun e : g_St => g_V g_KC 90 x 4 (g_qv g_KC 90 x z) e 91 [(0, .ref (g_ad x v0)), (1, .ref (g_ad x v1))] []) r) : g_V g_KC 90 x 4 (g_qv g_KC 90 x z) S 49 [(0, .ref (g_ad x v0)), (1, .ref (g_ad x v1)), (2, .int (v2))] [] := by
  unfold b_X2_become_49 at h
  refine g_iload_n X dX2_become_49 2 rfl ?_
  refine g_aload_n X dX2_become_50 0 rfl ?_
  refine g_geti X g_cX2 w_X2_become_inX2 3 (by decide) w_X2_become_29 hk_v0 rfl dX2_become_51 ?_
  refine g_icmp_ge X 91 dX2_become_54 (by decide) h (fun c_54 h => ?_) (fun c_54 h => ?_)
  · skip
    cases h
    exact g_sub [0, 1] _ rfl hc
  · skip
    refine g_aload_n X dX2_become_57 1 rfl ?_
    refine g_getr X g_cX2 w_X2_become_inX2 1 (by decide) w_X2_become_19 hk_v1 rfl dX2_become_58 h (fun a6 hk_a6 h => ?_)
    refine g_iload_n X dX2_become_61 2 rfl ?_
    refine g_aald X 4 RX0 rfl hk_a6 dX2_become_62 h (fun a7 hk_a7 h => ?_)
    refine g_astore_n X [(3, _), (0, _), (1, _), (2, _)] dX2_become_63 (by decide) rfl ?_
    refine g_aload_n X dX2_become_64 1 rfl ?_
    refine g_getr X g_cX2 w_X2_become_inX2 1 (by decide) w_X2_become_19 hk_v0 rfl dX2_become_65 h (fun a8 hk_a8 h => ?_)
    refine g_iload_n X dX2_become_68 3 rfl ?_
    refine g_aald X 4 RX0 rfl hk_a8 dX2_become_69 h (fun a9 hk_a9 h => ?_)
    refine g_aload_n X dX2_become_70 0 rfl ?_
    refine g_geti X g_cX0 w_X2_become_inX0 0 (by decide) w_X2_become_45 hk_a7 rfl dX2_become_71 ?_
    refine g_aload_n X dX2_become_74 0 rfl ?_
    refine g_geti X g_cX0 w_X2_become_inX0 1 (by decide) w_X2_become_48 hk_a7 rfl dX2_become_75 ?_
    refine g_aload_n X dX2_become_78 0 rfl ?_
    refine g_geti X g_cX0 w_X2_become_inX0 2 (by decide) w_X2_become_51 hk_a7 rfl dX2_become_79 ?_
    refine g_callVv X g_cX0 hk_a9 [.int ((S.1 a7 0)), .int ((S.1 a7 1)), .int ((S.1 a7 2))] rfl (cwV 3 X.2.2.2.2.1 gX2_become_X0_make rfl rfl rfl hd_X0_make ⟨Nat.le_of_ble_eq_true rfl, Nat.le_of_ble_eq_true rfl⟩) (Nat.le_of_ble_eq_true rfl) dX2_become_82 h (fun q hq => ct_X0_make X.2.2.2.2.2.2.1 a9 ((S.1 a7 0)) ((S.1 a7 1)) ((S.1 a7 2)) hk_a9 _ hq) (fun _ Sr10 h => ?_)
    refine g_iinc X [(2, _), (3, _), (0, _), (1, _)] dX2_become_85 3 rfl rfl (by decide) rfl ?_
    refine g_goto X 49 dX2_become_88 (by decide) ?_
    cases h
    exact g_sub [2, 3, 0] _ rfl hc
set_option maxRecDepth 100000 in
set_option maxHeartbeats 400000 in
theorem ct_X2_become {l : Launch} {D : va_G} {ad : Nat → Nat} {cy : Nat → ClassId} {zz : (Nat → Nat) × (Nat → Nat)} (hinj : ∀ i j, i < 90 → j < 90 → ad i = ad j → i = j) {fu : Nat} (o : Nat) (p0 : Nat) (hk_o : o < 90 ∧ g_KC o = g_kX2) (hk_p0 : p0 < 90 ∧ g_KC p0 = g_kX2) {S : g_St} (z : Unit × g_St) (h : f_X2_become fu o p0 S = some z) : g_Mv l g_KC 90 D ad cy zz yX2_become wsX2_become rm_X2_become [.ref (ad o), .ref (ad p0)] S z := by
  refine g_ofv hinj (cc := cX2_become) (maxL := 4) (ret := none) (lv := [(0, .ref (ad o)), (1, .ref (ad p0))]) (by decide) rfl (Nat.le_of_ble_eq_true rfl) rfl ?_
  intro x X hl hD ha hy hz
  subst hl hD ha hy hz
  unfold f_X2_become at h
  refine g_aload_n X dX2_become_0 0 rfl ?_
  refine g_aload_n X dX2_become_1 1 rfl ?_
  refine g_geti X g_cX2 w_X2_become_inX2 2 (by decide) w_X2_become_25 hk_p0 rfl dX2_become_2 ?_
  refine g_puti X g_cX2 w_X2_become_inX2 2 (by decide) w_X2_become_25 hk_o rfl rfl (t := .int) (by decide +kernel) rfl rfl dX2_become_5 ?_
  refine g_iconst X (v := 0) dX2_become_8 (by decide) ?_
  refine g_istore_n X [(2, _), (0, _), (1, _)] dX2_become_9 (by decide) rfl ?_
  obtain ⟨e, he, h⟩ := g_th_s h
  refine g_sub [1, 2, 0] _ rfl ?_
  refine g_lp_w (body := (fun t => b_X2_become_10 fu o p0 t.1 t.2)) (P := fun t : Int32 × g_St => g_V g_KC 90 x 4 (g_qv g_KC 90 x z) t.2 10 [(0, .ref (g_ad x o)), (1, .ref (g_ad x p0)), (2, .int (t.1))] []) (E := (fun e : g_St => g_V g_KC 90 x 4 (g_qv g_KC 90 x z) e 39 [(0, .ref (g_ad x o)), (1, .ref (g_ad x p0))] [])) (fun t r hb hc => vb_X2_become_10 X o p0 t.1 hk_o hk_p0 t.2 hb hc) fu ((0 : Int32), (g_u S.1 o 2 (S.1 p0 2), S.2)) e he ?_
  obtain ⟨S1, rfl⟩ : ∃ q, q = e := ⟨_, rfl⟩
  show g_V g_KC 90 x 4 (g_qv g_KC 90 x z) S1 39 [(0, .ref (g_ad x o)), (1, .ref (g_ad x p0))] []
  refine g_aload_n X dX2_become_39 0 rfl ?_
  refine g_aload_n X dX2_become_40 1 rfl ?_
  refine g_geti X g_cX2 w_X2_become_inX2 3 (by decide) w_X2_become_29 hk_p0 rfl dX2_become_41 ?_
  refine g_puti X g_cX2 w_X2_become_inX2 3 (by decide) w_X2_become_29 hk_o rfl rfl (t := .int) (by decide +kernel) rfl rfl dX2_become_44 ?_
  refine g_iconst X (v := 0) dX2_become_47 (by decide) ?_
  refine g_istore_n X [(2, _), (0, _), (1, _)] dX2_become_48 (by decide) rfl ?_
  obtain ⟨e, he, h⟩ := g_th_s h
  refine g_sub [1, 2, 0] _ rfl ?_
  refine g_lp_w (body := (fun t => b_X2_become_49 fu o p0 t.1 t.2)) (P := fun t : Int32 × g_St => g_V g_KC 90 x 4 (g_qv g_KC 90 x z) t.2 49 [(0, .ref (g_ad x o)), (1, .ref (g_ad x p0)), (2, .int (t.1))] []) (E := (fun e : g_St => g_V g_KC 90 x 4 (g_qv g_KC 90 x z) e 91 [(0, .ref (g_ad x o)), (1, .ref (g_ad x p0))] [])) (fun t r hb hc => vb_X2_become_49 X o p0 t.1 hk_o hk_p0 t.2 hb hc) fu ((0 : Int32), (g_u S1.1 o 3 (S1.1 p0 3), S1.2)) e he ?_
  obtain ⟨S2, rfl⟩ : ∃ q, q = e := ⟨_, rfl⟩
  show g_V g_KC 90 x 4 (g_qv g_KC 90 x z) S2 91 [(0, .ref (g_ad x o)), (1, .ref (g_ad x p0))] []
  refine g_aload_n X dX2_become_91 0 rfl ?_
  refine g_aload_n X dX2_become_92 1 rfl ?_
  refine g_geti X g_cX2 w_X2_become_inX2 4 (by decide) w_X2_become_32 hk_p0 rfl dX2_become_93 ?_
  refine g_puti X g_cX2 w_X2_become_inX2 4 (by decide) w_X2_become_32 hk_o rfl rfl (t := .int) (by decide +kernel) rfl rfl dX2_become_96 ?_
  refine g_aload_n X dX2_become_99 0 rfl ?_
  refine g_aload_n X dX2_become_100 1 rfl ?_
  refine g_geti X g_cX2 w_X2_become_inX2 5 (by decide) w_X2_become_35 hk_p0 rfl dX2_become_101 ?_
  refine g_puti X g_cX2 w_X2_become_inX2 5 (by decide) w_X2_become_35 hk_o rfl rfl (t := .int) (by decide +kernel) rfl rfl dX2_become_104 ?_
  refine g_aload_n X dX2_become_107 0 rfl ?_
  refine g_aload_n X dX2_become_108 1 rfl ?_
  refine g_geti X g_cX2 w_X2_become_inX2 6 (by decide) w_X2_become_38 hk_p0 rfl dX2_become_109 ?_
  refine g_puti X g_cX2 w_X2_become_inX2 6 (by decide) w_X2_become_38 hk_o rfl rfl (t := .int) (by decide +kernel) rfl rfl dX2_become_112 ?_
  exact g_vret X h dX2_become_115
abbrev rm_X2_countAnew : Room := { frames := 1, cells := 0, slots := 0, locals := 20 }
theorem hd_X2_countAnew : yX2_countAnew.cls = RX2 ∧ yX2_countAnew.cls ≠ "java/lang/invoke/MethodHandle" ∧ yX2_countAnew.cls ≠ "java/lang/invoke/VarHandle" ∧ (parseMethodDescriptor yX2_countAnew.desc).map (fun d => d.parameters.length) = some 0 := by decide +kernel
theorem w_X2_countAnew_35 : Cond.fieldLink RX2 35 "TokenDoors$Hall" "let" "I" ∈ wsX2_countAnew := by decide +kernel
theorem w_X2_countAnew_inX2 : ∀ w ∈ wsX20, w ∈ wsX2_countAnew := by decide +kernel
theorem w_X2_countAnew_38 : Cond.fieldLink RX2 38 "TokenDoors$Hall" "turned" "I" ∈ wsX2_countAnew := by decide +kernel
theorem w_X2_countAnew_25 : Cond.fieldLink RX2 25 "TokenDoors$Hall" "doorCount" "I" ∈ wsX2_countAnew := by decide +kernel
theorem w_X2_countAnew_11 : Cond.fieldLink RX2 11 "TokenDoors$Hall" "doors" "[LTokenDoors$Door;" ∈ wsX2_countAnew := by decide +kernel
def b_X2_countAnew_12 (fu : Nat) (v0 : Nat) (v1 : Int32) (S : g_St) : Option ((Int32 × g_St) ⊕ (g_St)) :=
  if (S.1 v0 2) ≤ v1 then (some (.inr S)) else (g_ld g_KC 90 (.inr (3, 4, true)) (S.2 v0 0) fun a1 => g_ix v1 4 fun i2 => g_ld g_KC 90 g_kX1 (S.2 a1 i2) fun a2 => g_bd (f_X1_countAnew fu a2 S) fun _ Sr3 => some (.inl ((v1 + 1), Sr3)))
def f_X2_countAnew (fu : Nat) (o : Nat) (S : g_St) : Option (Unit × g_St) :=
  g_th (g_lp (fun t => b_X2_countAnew_12 fu o t.1 t.2) fu ((0 : Int32), (g_u (g_u S.1 o 5 (0 : Int32)) o 6 (0 : Int32), S.2))) fun e => match e with | S1 => some ((), S1)
set_option maxRecDepth 100000 in
set_option maxHeartbeats 400000 in
theorem vb_X2_countAnew_12 {x : g_CX} {z : Unit × g_St} {fu : Nat} (X : g_X 90 x cX2_countAnew RX2 2 wsX2_countAnew rm_X2_countAnew none) (v0 : Nat) (v1 : Int32) (hk_v0 : v0 < 90 ∧ g_KC v0 = g_kX2) (S : g_St) {r : (Int32 × g_St) ⊕ (g_St)} (h : b_X2_countAnew_12 fu v0 v1 S = some r) (hc : Sum.elim (fun t : Int32 × g_St => g_V g_KC 90 x 2 (g_qv g_KC 90 x z) t.2 12 [(0, .ref (g_ad x v0)), (1, .int (t.1))] []) (fun e : g_St => g_V g_KC 90 x 2 (g_qv g_KC 90 x z) e 35 [] []) r) : g_V g_KC 90 x 2 (g_qv g_KC 90 x z) S 12 [(0, .ref (g_ad x v0)), (1, .int (v1))] [] := by
  unfold b_X2_countAnew_12 at h
  refine g_iload_n X dX2_countAnew_12 1 rfl ?_
  refine g_aload_n X dX2_countAnew_13 0 rfl ?_
  refine g_geti X g_cX2 w_X2_countAnew_inX2 2 (by decide) w_X2_countAnew_25 hk_v0 rfl dX2_countAnew_14 ?_
  refine g_icmp_ge X 35 dX2_countAnew_17 (by decide) h (fun c_17 h => ?_) (fun c_17 h => ?_)
  · skip
    cases h
    exact g_sub [] _ rfl hc
  · skip
    refine g_aload_n X dX2_countAnew_20 0 rfl ?_
    refine g_getr X g_cX2 w_X2_countAnew_inX2 0 (by decide) w_X2_countAnew_11 hk_v0 rfl dX2_countAnew_21 h (fun a1 hk_a1 h => ?_)
    refine g_iload_n X dX2_countAnew_24 1 rfl ?_
    refine g_aald X 3 RX1 rfl hk_a1 dX2_countAnew_25 h (fun a2 hk_a2 h => ?_)
    refine g_callVv X g_cX1 hk_a2 [] rfl (cwV 0 X.2.2.2.2.1 gX2_countAnew_X1_countAnew rfl rfl rfl hd_X1_countAnew ⟨Nat.le_of_ble_eq_true rfl, Nat.le_of_ble_eq_true rfl⟩) (Nat.le_of_ble_eq_true rfl) dX2_countAnew_26 h (fun q hq => ct_X1_countAnew X.2.2.2.2.2.2.1 a2 hk_a2 _ hq) (fun _ Sr3 h => ?_)
    refine g_iinc X [(1, _), (0, _)] dX2_countAnew_29 1 rfl rfl (by decide) rfl ?_
    refine g_goto X 12 dX2_countAnew_32 (by decide) ?_
    cases h
    exact g_sub [1, 0] _ rfl hc
set_option maxRecDepth 100000 in
set_option maxHeartbeats 400000 in
theorem ct_X2_countAnew {l : Launch} {D : va_G} {ad : Nat → Nat} {cy : Nat → ClassId} {zz : (Nat → Nat) × (Nat → Nat)} (hinj : ∀ i j, i < 90 → j < 90 → ad i = ad j → i = j) {fu : Nat} (o : Nat) (hk_o : o < 90 ∧ g_KC o = g_kX2) {S : g_St} (z : Unit × g_St) (h : f_X2_countAnew fu o S = some z) : g_Mv l g_KC 90 D ad cy zz yX2_countAnew wsX2_countAnew rm_X2_countAnew [.ref (ad o)] S z := by
  refine g_ofv hinj (cc := cX2_countAnew) (maxL := 2) (ret := none) (lv := [(0, .ref (ad o))]) (by decide) rfl (Nat.le_of_ble_eq_true rfl) rfl ?_
  intro x X hl hD ha hy hz
  subst hl hD ha hy hz
  unfold f_X2_countAnew at h
  refine g_aload_n X dX2_countAnew_0 0 rfl ?_
  refine g_iconst X (v := 0) dX2_countAnew_1 (by decide) ?_
  refine g_puti X g_cX2 w_X2_countAnew_inX2 5 (by decide) w_X2_countAnew_35 hk_o rfl rfl (t := .int) (by decide +kernel) rfl rfl dX2_countAnew_2 ?_
  refine g_aload_n X dX2_countAnew_5 0 rfl ?_
  refine g_iconst X (v := 0) dX2_countAnew_6 (by decide) ?_
  refine g_puti X g_cX2 w_X2_countAnew_inX2 6 (by decide) w_X2_countAnew_38 hk_o rfl rfl (t := .int) (by decide +kernel) rfl rfl dX2_countAnew_7 ?_
  refine g_iconst X (v := 0) dX2_countAnew_10 (by decide) ?_
  refine g_istore_n X [(1, _), (0, _)] dX2_countAnew_11 (by decide) rfl ?_
  obtain ⟨e, he, h⟩ := g_th_s h
  refine g_sub [1, 0] _ rfl ?_
  refine g_lp_w (body := (fun t => b_X2_countAnew_12 fu o t.1 t.2)) (P := fun t : Int32 × g_St => g_V g_KC 90 x 2 (g_qv g_KC 90 x z) t.2 12 [(0, .ref (g_ad x o)), (1, .int (t.1))] []) (E := (fun e : g_St => g_V g_KC 90 x 2 (g_qv g_KC 90 x z) e 35 [] [])) (fun t r hb hc => vb_X2_countAnew_12 X o t.1 hk_o t.2 hb hc) fu ((0 : Int32), (g_u (g_u S.1 o 5 (0 : Int32)) o 6 (0 : Int32), S.2)) e he ?_
  obtain ⟨S1, rfl⟩ : ∃ q, q = e := ⟨_, rfl⟩
  show g_V g_KC 90 x 2 (g_qv g_KC 90 x z) S1 35 [] []
  exact g_vret X h dX2_countAnew_35
abbrev rm_X2_addDoor : Room := { frames := 1, cells := 0, slots := 0, locals := 23 }
theorem hd_X2_addDoor : yX2_addDoor.cls = RX2 ∧ yX2_addDoor.cls ≠ "java/lang/invoke/MethodHandle" ∧ yX2_addDoor.cls ≠ "java/lang/invoke/VarHandle" ∧ (parseMethodDescriptor yX2_addDoor.desc).map (fun d => d.parameters.length) = some 3 := by decide +kernel
theorem w_X2_addDoor_25 : Cond.fieldLink RX2 25 "TokenDoors$Hall" "doorCount" "I" ∈ wsX2_addDoor := by decide +kernel
theorem w_X2_addDoor_inX2 : ∀ w ∈ wsX20, w ∈ wsX2_addDoor := by decide +kernel
theorem w_X2_addDoor_11 : Cond.fieldLink RX2 11 "TokenDoors$Hall" "doors" "[LTokenDoors$Door;" ∈ wsX2_addDoor := by decide +kernel
def f_X2_addDoor (fu : Nat) (o : Nat) (p0 : Int32) (p1 : Int32) (p2 : Int32) (S : g_St) : Option (Int32 × g_St) :=
  if (S.1 o 2) < (4 : Int32) then (g_ld g_KC 90 (.inr (3, 4, true)) (S.2 o 0) fun a1 => g_ix (S.1 o 2) 4 fun i2 => g_ld g_KC 90 g_kX1 (S.2 a1 i2) fun a2 => g_bd (f_X1_make fu a2 p0 p1 p2 S) fun _ Sr3 => g_zb (1 : Int32) (some ((1 : Int32), (g_u Sr3.1 o 2 ((Sr3.1 o 2) + (1 : Int32)), Sr3.2)))) else (g_zb (0 : Int32) (some ((0 : Int32), S)))
set_option maxRecDepth 100000 in
set_option maxHeartbeats 400000 in
theorem ct_X2_addDoor {l : Launch} {D : va_G} {ad : Nat → Nat} {cy : Nat → ClassId} {zz : (Nat → Nat) × (Nat → Nat)} (hinj : ∀ i j, i < 90 → j < 90 → ad i = ad j → i = j) {fu : Nat} (o : Nat) (p0 : Int32) (p1 : Int32) (p2 : Int32) (hk_o : o < 90 ∧ g_KC o = g_kX2) {S : g_St} (z : Int32 × g_St) (h : f_X2_addDoor fu o p0 p1 p2 S = some z) : g_Mi l g_KC 90 D ad cy zz yX2_addDoor wsX2_addDoor rm_X2_addDoor [.ref (ad o), .int (p0), .int (p1), .int (p2)] S z := by
  refine g_ofi hinj (cc := cX2_addDoor) (maxL := 4) (ret := (some .boolean)) (lv := [(0, .ref (ad o)), (1, .int (p0)), (2, .int (p1)), (3, .int (p2))]) (by decide) rfl (Nat.le_of_ble_eq_true rfl) rfl ?_
  intro x X hl hD ha hy hz
  subst hl hD ha hy hz
  unfold f_X2_addDoor at h
  refine g_aload_n X dX2_addDoor_0 0 rfl ?_
  refine g_geti X g_cX2 w_X2_addDoor_inX2 2 (by decide) w_X2_addDoor_25 hk_o rfl dX2_addDoor_1 ?_
  refine g_iconst X (v := 4) dX2_addDoor_4 (by decide) ?_
  refine g_icmp_lt X 10 dX2_addDoor_5 (by decide) h (fun c_5 h => ?_) (fun c_5 h => ?_)
  · skip
    refine g_aload_n X dX2_addDoor_10 0 rfl ?_
    refine g_getr X g_cX2 w_X2_addDoor_inX2 0 (by decide) w_X2_addDoor_11 hk_o rfl dX2_addDoor_11 h (fun a1 hk_a1 h => ?_)
    refine g_aload_n X dX2_addDoor_14 0 rfl ?_
    refine g_geti X g_cX2 w_X2_addDoor_inX2 2 (by decide) w_X2_addDoor_25 hk_o rfl dX2_addDoor_15 ?_
    refine g_aald X 3 RX1 rfl hk_a1 dX2_addDoor_18 h (fun a2 hk_a2 h => ?_)
    refine g_iload_n X dX2_addDoor_19 1 rfl ?_
    refine g_iload_n X dX2_addDoor_20 2 rfl ?_
    refine g_iload_n X dX2_addDoor_21 3 rfl ?_
    refine g_callVv X g_cX1 hk_a2 [.int (p0), .int (p1), .int (p2)] rfl (cwV 3 X.2.2.2.2.1 gX2_addDoor_X1_make rfl rfl rfl hd_X1_make ⟨Nat.le_of_ble_eq_true rfl, Nat.le_of_ble_eq_true rfl⟩) (Nat.le_of_ble_eq_true rfl) dX2_addDoor_22 h (fun q hq => ct_X1_make X.2.2.2.2.2.2.1 a2 p0 p1 p2 hk_a2 _ hq) (fun _ Sr3 h => ?_)
    refine g_aload_n X dX2_addDoor_25 0 rfl ?_
    refine g_dup X dX2_addDoor_26 rfl ?_
    refine g_geti X g_cX2 w_X2_addDoor_inX2 2 (by decide) w_X2_addDoor_25 hk_o rfl dX2_addDoor_27 ?_
    refine g_iconst X (v := 1) dX2_addDoor_30 (by decide) ?_
    refine g_iadd X dX2_addDoor_31 ?_
    refine g_puti X g_cX2 w_X2_addDoor_inX2 2 (by decide) w_X2_addDoor_25 hk_o rfl rfl (t := .int) (by decide +kernel) rfl rfl dX2_addDoor_32 ?_
    refine g_iconst X (v := 1) dX2_addDoor_35 (by decide) ?_
    exact g_zret X h dX2_addDoor_36
  · skip
    refine g_iconst X (v := 0) dX2_addDoor_8 (by decide) ?_
    exact g_zret X h dX2_addDoor_9
abbrev rm_X2_addCrowd : Room := { frames := 1, cells := 0, slots := 0, locals := 23 }
theorem hd_X2_addCrowd : yX2_addCrowd.cls = RX2 ∧ yX2_addCrowd.cls ≠ "java/lang/invoke/MethodHandle" ∧ yX2_addCrowd.cls ≠ "java/lang/invoke/VarHandle" ∧ (parseMethodDescriptor yX2_addCrowd.desc).map (fun d => d.parameters.length) = some 3 := by decide +kernel
theorem w_X2_addCrowd_29 : Cond.fieldLink RX2 29 "TokenDoors$Hall" "crowdCount" "I" ∈ wsX2_addCrowd := by decide +kernel
theorem w_X2_addCrowd_inX2 : ∀ w ∈ wsX20, w ∈ wsX2_addCrowd := by decide +kernel
theorem w_X2_addCrowd_19 : Cond.fieldLink RX2 19 "TokenDoors$Hall" "crowds" "[LTokenDoors$Crowd;" ∈ wsX2_addCrowd := by decide +kernel
def f_X2_addCrowd (fu : Nat) (o : Nat) (p0 : Int32) (p1 : Int32) (p2 : Int32) (S : g_St) : Option (Int32 × g_St) :=
  if (S.1 o 3) < (8 : Int32) then (g_ld g_KC 90 (.inr (4, 8, true)) (S.2 o 1) fun a1 => g_ix (S.1 o 3) 8 fun i2 => g_ld g_KC 90 g_kX0 (S.2 a1 i2) fun a2 => g_bd (f_X0_make fu a2 p0 p1 p2 S) fun _ Sr3 => g_zb (1 : Int32) (some ((1 : Int32), (g_u Sr3.1 o 3 ((Sr3.1 o 3) + (1 : Int32)), Sr3.2)))) else (g_zb (0 : Int32) (some ((0 : Int32), S)))
set_option maxRecDepth 100000 in
set_option maxHeartbeats 400000 in
theorem ct_X2_addCrowd {l : Launch} {D : va_G} {ad : Nat → Nat} {cy : Nat → ClassId} {zz : (Nat → Nat) × (Nat → Nat)} (hinj : ∀ i j, i < 90 → j < 90 → ad i = ad j → i = j) {fu : Nat} (o : Nat) (p0 : Int32) (p1 : Int32) (p2 : Int32) (hk_o : o < 90 ∧ g_KC o = g_kX2) {S : g_St} (z : Int32 × g_St) (h : f_X2_addCrowd fu o p0 p1 p2 S = some z) : g_Mi l g_KC 90 D ad cy zz yX2_addCrowd wsX2_addCrowd rm_X2_addCrowd [.ref (ad o), .int (p0), .int (p1), .int (p2)] S z := by
  refine g_ofi hinj (cc := cX2_addCrowd) (maxL := 4) (ret := (some .boolean)) (lv := [(0, .ref (ad o)), (1, .int (p0)), (2, .int (p1)), (3, .int (p2))]) (by decide) rfl (Nat.le_of_ble_eq_true rfl) rfl ?_
  intro x X hl hD ha hy hz
  subst hl hD ha hy hz
  unfold f_X2_addCrowd at h
  refine g_aload_n X dX2_addCrowd_0 0 rfl ?_
  refine g_geti X g_cX2 w_X2_addCrowd_inX2 3 (by decide) w_X2_addCrowd_29 hk_o rfl dX2_addCrowd_1 ?_
  refine g_bipush X (v := (8)) dX2_addCrowd_4 (by decide) ?_
  refine g_icmp_lt X 11 dX2_addCrowd_6 (by decide) h (fun c_6 h => ?_) (fun c_6 h => ?_)
  · skip
    refine g_aload_n X dX2_addCrowd_11 0 rfl ?_
    refine g_getr X g_cX2 w_X2_addCrowd_inX2 1 (by decide) w_X2_addCrowd_19 hk_o rfl dX2_addCrowd_12 h (fun a1 hk_a1 h => ?_)
    refine g_aload_n X dX2_addCrowd_15 0 rfl ?_
    refine g_geti X g_cX2 w_X2_addCrowd_inX2 3 (by decide) w_X2_addCrowd_29 hk_o rfl dX2_addCrowd_16 ?_
    refine g_aald X 4 RX0 rfl hk_a1 dX2_addCrowd_19 h (fun a2 hk_a2 h => ?_)
    refine g_iload_n X dX2_addCrowd_20 1 rfl ?_
    refine g_iload_n X dX2_addCrowd_21 2 rfl ?_
    refine g_iload_n X dX2_addCrowd_22 3 rfl ?_
    refine g_callVv X g_cX0 hk_a2 [.int (p0), .int (p1), .int (p2)] rfl (cwV 3 X.2.2.2.2.1 gX2_addCrowd_X0_make rfl rfl rfl hd_X0_make ⟨Nat.le_of_ble_eq_true rfl, Nat.le_of_ble_eq_true rfl⟩) (Nat.le_of_ble_eq_true rfl) dX2_addCrowd_23 h (fun q hq => ct_X0_make X.2.2.2.2.2.2.1 a2 p0 p1 p2 hk_a2 _ hq) (fun _ Sr3 h => ?_)
    refine g_aload_n X dX2_addCrowd_26 0 rfl ?_
    refine g_dup X dX2_addCrowd_27 rfl ?_
    refine g_geti X g_cX2 w_X2_addCrowd_inX2 3 (by decide) w_X2_addCrowd_29 hk_o rfl dX2_addCrowd_28 ?_
    refine g_iconst X (v := 1) dX2_addCrowd_31 (by decide) ?_
    refine g_iadd X dX2_addCrowd_32 ?_
    refine g_puti X g_cX2 w_X2_addCrowd_inX2 3 (by decide) w_X2_addCrowd_29 hk_o rfl rfl (t := .int) (by decide +kernel) rfl rfl dX2_addCrowd_33 ?_
    refine g_iconst X (v := 1) dX2_addCrowd_36 (by decide) ?_
    exact g_zret X h dX2_addCrowd_37
  · skip
    refine g_iconst X (v := 0) dX2_addCrowd_9 (by decide) ?_
    exact g_zret X h dX2_addCrowd_10
abbrev rm_X2_exchange : Room := { frames := 0, cells := 0, slots := 0, locals := 0 }
theorem hd_X2_exchange : yX2_exchange.cls = RX2 ∧ yX2_exchange.cls ≠ "java/lang/invoke/MethodHandle" ∧ yX2_exchange.cls ≠ "java/lang/invoke/VarHandle" ∧ (parseMethodDescriptor yX2_exchange.desc).map (fun d => d.parameters.length) = some 2 := by decide +kernel
theorem w_X2_exchange_11 : Cond.fieldLink RX2 11 "TokenDoors$Hall" "doors" "[LTokenDoors$Door;" ∈ wsX2_exchange := by decide +kernel
theorem w_X2_exchange_inX2 : ∀ w ∈ wsX20, w ∈ wsX2_exchange := by decide +kernel
def f_X2_exchange (fu : Nat) (o : Nat) (p0 : Int32) (p1 : Int32) (S : g_St) : Option (Unit × g_St) :=
  g_ld g_KC 90 (.inr (3, 4, true)) (S.2 o 0) fun a1 => g_ix p0 4 fun i2 => g_ld g_KC 90 g_kX1 (S.2 a1 i2) fun a2 => g_ld g_KC 90 (.inr (3, 4, true)) (S.2 o 0) fun a3 => g_ld g_KC 90 (.inr (3, 4, true)) (S.2 o 0) fun a4 => g_ix p1 4 fun i5 => g_ld g_KC 90 g_kX1 (S.2 a4 i5) fun a5 => g_ix p0 4 fun i6 => g_ld g_KC 90 (.inr (3, 4, true)) ((g_u S.2 a3 i6 (some a5)) o 0) fun a7 => g_ix p1 4 fun i8 => some ((), (S.1, g_u (g_u S.2 a3 i6 (some a5)) a7 i8 (some a2)))
set_option maxRecDepth 100000 in
set_option maxHeartbeats 400000 in
theorem ct_X2_exchange {l : Launch} {D : va_G} {ad : Nat → Nat} {cy : Nat → ClassId} {zz : (Nat → Nat) × (Nat → Nat)} (hinj : ∀ i j, i < 90 → j < 90 → ad i = ad j → i = j) {fu : Nat} (o : Nat) (p0 : Int32) (p1 : Int32) (hk_o : o < 90 ∧ g_KC o = g_kX2) {S : g_St} (z : Unit × g_St) (h : f_X2_exchange fu o p0 p1 S = some z) : g_Mv l g_KC 90 D ad cy zz yX2_exchange wsX2_exchange rm_X2_exchange [.ref (ad o), .int (p0), .int (p1)] S z := by
  refine g_ofv hinj (cc := cX2_exchange) (maxL := 4) (ret := none) (lv := [(0, .ref (ad o)), (1, .int (p0)), (2, .int (p1))]) (by decide) rfl (Nat.le_of_ble_eq_true rfl) rfl ?_
  intro x X hl hD ha hy hz
  subst hl hD ha hy hz
  unfold f_X2_exchange at h
  refine g_aload_n X dX2_exchange_0 0 rfl ?_
  refine g_getr X g_cX2 w_X2_exchange_inX2 0 (by decide) w_X2_exchange_11 hk_o rfl dX2_exchange_1 h (fun a1 hk_a1 h => ?_)
  refine g_iload_n X dX2_exchange_4 1 rfl ?_
  refine g_aald X 3 RX1 rfl hk_a1 dX2_exchange_5 h (fun a2 hk_a2 h => ?_)
  refine g_astore_n X [(3, _), (0, _), (1, _), (2, _)] dX2_exchange_6 (by decide) rfl ?_
  refine g_aload_n X dX2_exchange_7 1 rfl ?_
  refine g_getr X g_cX2 w_X2_exchange_inX2 0 (by decide) w_X2_exchange_11 hk_o rfl dX2_exchange_8 h (fun a3 hk_a3 h => ?_)
  refine g_iload_n X dX2_exchange_11 2 rfl ?_
  refine g_aload_n X dX2_exchange_12 1 rfl ?_
  refine g_getr X g_cX2 w_X2_exchange_inX2 0 (by decide) w_X2_exchange_11 hk_o rfl dX2_exchange_13 h (fun a4 hk_a4 h => ?_)
  refine g_iload_n X dX2_exchange_16 3 rfl ?_
  refine g_aald X 3 RX1 rfl hk_a4 dX2_exchange_17 h (fun a5 hk_a5 h => ?_)
  refine g_aast X 3 g_cX1 rfl hk_a3 hk_a5 dX2_exchange_18 h (fun i6 _ h => ?_)
  refine g_aload_n X dX2_exchange_19 1 rfl ?_
  refine g_getr X g_cX2 w_X2_exchange_inX2 0 (by decide) w_X2_exchange_11 hk_o rfl dX2_exchange_20 h (fun a7 hk_a7 h => ?_)
  refine g_iload_n X dX2_exchange_23 3 rfl ?_
  refine g_aload_n X dX2_exchange_24 0 rfl ?_
  refine g_aast X 3 g_cX1 rfl hk_a7 hk_a2 dX2_exchange_25 h (fun i8 _ h => ?_)
  exact g_vret X h dX2_exchange_26
abbrev rm_X2_comers : Room := { frames := 1, cells := 0, slots := 0, locals := 21 }
theorem hd_X2_comers : yX2_comers.cls = RX2 ∧ yX2_comers.cls ≠ "java/lang/invoke/MethodHandle" ∧ yX2_comers.cls ≠ "java/lang/invoke/VarHandle" ∧ (parseMethodDescriptor yX2_comers.desc).map (fun d => d.parameters.length) = some 0 := by decide +kernel
theorem w_X2_comers_29 : Cond.fieldLink RX2 29 "TokenDoors$Hall" "crowdCount" "I" ∈ wsX2_comers := by decide +kernel
theorem w_X2_comers_inX2 : ∀ w ∈ wsX20, w ∈ wsX2_comers := by decide +kernel
theorem w_X2_comers_19 : Cond.fieldLink RX2 19 "TokenDoors$Hall" "crowds" "[LTokenDoors$Crowd;" ∈ wsX2_comers := by decide +kernel
theorem w_X2_comers_32 : Cond.fieldLink RX2 32 "TokenDoors$Hall" "tick" "I" ∈ wsX2_comers := by decide +kernel
theorem w_X2_comers_48 : Cond.fieldLink RX2 48 "TokenDoors$Crowd" "many" "I" ∈ wsX2_comers := by decide +kernel
theorem w_X2_comers_inX0 : ∀ w ∈ wsX00, w ∈ wsX2_comers := by decide +kernel
def j_X2_comers_42_in4 (fu : Nat) (v0 : Nat) (v2 : Int32) (s0 : Int32) (s1 : Int32) (S : g_St) : Option ((Int32 × Int32 × g_St) ⊕ (Int32 × g_St)) :=
  some (.inl ((s0 + s1), (v2 + 1), S))
def b_X2_comers_4 (fu : Nat) (v0 : Nat) (v1 : Int32) (v2 : Int32) (S : g_St) : Option ((Int32 × Int32 × g_St) ⊕ (Int32 × g_St)) :=
  if (S.1 v0 3) ≤ v2 then (some (.inr (v1, S))) else (g_ld g_KC 90 (.inr (4, 8, true)) (S.2 v0 1) fun a1 => g_ix v2 8 fun i2 => g_ld g_KC 90 g_kX0 (S.2 a1 i2) fun a2 => g_bd (f_X0_comesAt fu a2 ((S.1 v0 4)) S) fun r3 Sr3 => if r3 = 0 then (j_X2_comers_42_in4 fu v0 v2 v1 ((0 : Int32)) Sr3) else (g_ld g_KC 90 (.inr (4, 8, true)) (Sr3.2 v0 1) fun a4 => g_ix v2 8 fun i5 => g_ld g_KC 90 g_kX0 (Sr3.2 a4 i5) fun a5 => j_X2_comers_42_in4 fu v0 v2 v1 ((Sr3.1 a5 1)) Sr3))
def f_X2_comers (fu : Nat) (o : Nat) (S : g_St) : Option (Int32 × g_St) :=
  g_th (g_lp (fun t => b_X2_comers_4 fu o t.1 t.2.1 t.2.2) fu ((0 : Int32), (0 : Int32), S)) fun e => match e with | (w1_1, S1) => some (w1_1, S1)
set_option maxRecDepth 100000 in
set_option maxHeartbeats 400000 in
theorem vj_X2_comers_42_in4 {x : g_CX} {z : Int32 × g_St} {fu : Nat} (X : g_X 90 x cX2_comers RX2 3 wsX2_comers rm_X2_comers (some .int)) (v0 : Nat) (v2 : Int32) (s0 : Int32) (s1 : Int32) (hk_v0 : v0 < 90 ∧ g_KC v0 = g_kX2) (S : g_St) {r : (Int32 × Int32 × g_St) ⊕ (Int32 × g_St)} (h : j_X2_comers_42_in4 fu v0 v2 s0 s1 S = some r) (hc : Sum.elim (fun t : Int32 × Int32 × g_St => g_V g_KC 90 x 3 (g_qi g_KC 90 x z) t.2.2 4 [(0, .ref (g_ad x v0)), (1, .int (t.1)), (2, .int (t.2.1))] []) (fun e : Int32 × g_St => g_V g_KC 90 x 3 (g_qi g_KC 90 x z) e.2 50 [(1, .int (e.1))] []) r) : g_V g_KC 90 x 3 (g_qi g_KC 90 x z) S 42 [(0, .ref (g_ad x v0)), (2, .int (v2))] [.int (s1), .int (s0)] := by
  unfold j_X2_comers_42_in4 at h
  refine g_iadd X dX2_comers_42 ?_
  refine g_istore_n X [(1, _), (0, _), (2, _)] dX2_comers_43 (by decide) rfl ?_
  refine g_iinc X [(2, _), (1, _), (0, _)] dX2_comers_44 2 rfl rfl (by decide) rfl ?_
  refine g_goto X 4 dX2_comers_47 (by decide) ?_
  cases h
  exact g_sub [2, 1, 0] _ rfl hc
set_option maxRecDepth 100000 in
set_option maxHeartbeats 400000 in
theorem vb_X2_comers_4 {x : g_CX} {z : Int32 × g_St} {fu : Nat} (X : g_X 90 x cX2_comers RX2 3 wsX2_comers rm_X2_comers (some .int)) (v0 : Nat) (v1 : Int32) (v2 : Int32) (hk_v0 : v0 < 90 ∧ g_KC v0 = g_kX2) (S : g_St) {r : (Int32 × Int32 × g_St) ⊕ (Int32 × g_St)} (h : b_X2_comers_4 fu v0 v1 v2 S = some r) (hc : Sum.elim (fun t : Int32 × Int32 × g_St => g_V g_KC 90 x 3 (g_qi g_KC 90 x z) t.2.2 4 [(0, .ref (g_ad x v0)), (1, .int (t.1)), (2, .int (t.2.1))] []) (fun e : Int32 × g_St => g_V g_KC 90 x 3 (g_qi g_KC 90 x z) e.2 50 [(1, .int (e.1))] []) r) : g_V g_KC 90 x 3 (g_qi g_KC 90 x z) S 4 [(0, .ref (g_ad x v0)), (1, .int (v1)), (2, .int (v2))] [] := by
  unfold b_X2_comers_4 at h
  refine g_iload_n X dX2_comers_4 2 rfl ?_
  refine g_aload_n X dX2_comers_5 0 rfl ?_
  refine g_geti X g_cX2 w_X2_comers_inX2 3 (by decide) w_X2_comers_29 hk_v0 rfl dX2_comers_6 ?_
  refine g_icmp_ge X 50 dX2_comers_9 (by decide) h (fun c_9 h => ?_) (fun c_9 h => ?_)
  · skip
    cases h
    exact g_sub [1] _ rfl hc
  · skip
    refine g_iload_n X dX2_comers_12 1 rfl ?_
    refine g_aload_n X dX2_comers_13 0 rfl ?_
    refine g_getr X g_cX2 w_X2_comers_inX2 1 (by decide) w_X2_comers_19 hk_v0 rfl dX2_comers_14 h (fun a1 hk_a1 h => ?_)
    refine g_iload_n X dX2_comers_17 2 rfl ?_
    refine g_aald X 4 RX0 rfl hk_a1 dX2_comers_18 h (fun a2 hk_a2 h => ?_)
    refine g_aload_n X dX2_comers_19 0 rfl ?_
    refine g_geti X g_cX2 w_X2_comers_inX2 4 (by decide) w_X2_comers_32 hk_v0 rfl dX2_comers_20 ?_
    refine g_callVi X g_cX0 hk_a2 [.int ((S.1 v0 4))] rfl (cwV 1 X.2.2.2.2.1 gX2_comers_X0_comesAt rfl rfl rfl hd_X0_comesAt ⟨Nat.le_of_ble_eq_true rfl, Nat.le_of_ble_eq_true rfl⟩) (Nat.le_of_ble_eq_true rfl) dX2_comers_23 h (fun q hq => ct_X0_comesAt X.2.2.2.2.2.2.1 a2 ((S.1 v0 4)) hk_a2 _ hq) (fun r3 Sr3 h => ?_)
    refine g_if_eq X 41 dX2_comers_26 (by decide) h (fun c_26 h => ?_) (fun c_26 h => ?_)
    · skip
      refine g_iconst X (v := 0) dX2_comers_41 (by decide) ?_
      refine g_sub [0, 2] _ rfl ?_
      exact vj_X2_comers_42_in4 X v0 v2 v1 ((0 : Int32)) hk_v0 _ h hc
    · skip
      refine g_aload_n X dX2_comers_29 0 rfl ?_
      refine g_getr X g_cX2 w_X2_comers_inX2 1 (by decide) w_X2_comers_19 hk_v0 rfl dX2_comers_30 h (fun a4 hk_a4 h => ?_)
      refine g_iload_n X dX2_comers_33 2 rfl ?_
      refine g_aald X 4 RX0 rfl hk_a4 dX2_comers_34 h (fun a5 hk_a5 h => ?_)
      refine g_geti X g_cX0 w_X2_comers_inX0 1 (by decide) w_X2_comers_48 hk_a5 rfl dX2_comers_35 ?_
      refine g_goto X 42 dX2_comers_38 (by decide) ?_
      refine g_sub [0, 2] _ rfl ?_
      exact vj_X2_comers_42_in4 X v0 v2 v1 ((Sr3.1 a5 1)) hk_v0 _ h hc
set_option maxRecDepth 100000 in
set_option maxHeartbeats 400000 in
theorem ct_X2_comers {l : Launch} {D : va_G} {ad : Nat → Nat} {cy : Nat → ClassId} {zz : (Nat → Nat) × (Nat → Nat)} (hinj : ∀ i j, i < 90 → j < 90 → ad i = ad j → i = j) {fu : Nat} (o : Nat) (hk_o : o < 90 ∧ g_KC o = g_kX2) {S : g_St} (z : Int32 × g_St) (h : f_X2_comers fu o S = some z) : g_Mi l g_KC 90 D ad cy zz yX2_comers wsX2_comers rm_X2_comers [.ref (ad o)] S z := by
  refine g_ofi hinj (cc := cX2_comers) (maxL := 3) (ret := (some .int)) (lv := [(0, .ref (ad o))]) (by decide) rfl (Nat.le_of_ble_eq_true rfl) rfl ?_
  intro x X hl hD ha hy hz
  subst hl hD ha hy hz
  unfold f_X2_comers at h
  refine g_iconst X (v := 0) dX2_comers_0 (by decide) ?_
  refine g_istore_n X [(1, _), (0, _)] dX2_comers_1 (by decide) rfl ?_
  refine g_iconst X (v := 0) dX2_comers_2 (by decide) ?_
  refine g_istore_n X [(2, _), (1, _), (0, _)] dX2_comers_3 (by decide) rfl ?_
  obtain ⟨e, he, h⟩ := g_th_s h
  refine g_sub [2, 1, 0] _ rfl ?_
  refine g_lp_w (body := (fun t => b_X2_comers_4 fu o t.1 t.2.1 t.2.2)) (P := fun t : Int32 × Int32 × g_St => g_V g_KC 90 x 3 (g_qi g_KC 90 x z) t.2.2 4 [(0, .ref (g_ad x o)), (1, .int (t.1)), (2, .int (t.2.1))] []) (E := (fun e : Int32 × g_St => g_V g_KC 90 x 3 (g_qi g_KC 90 x z) e.2 50 [(1, .int (e.1))] [])) (fun t r hb hc => vb_X2_comers_4 X o t.1 t.2.1 hk_o t.2.2 hb hc) fu ((0 : Int32), (0 : Int32), S) e he ?_
  obtain ⟨w1_1, S1⟩ := e
  show g_V g_KC 90 x 3 (g_qi g_KC 90 x z) S1 50 [(1, .int (w1_1))] []
  refine g_iload_n X dX2_comers_50 0 rfl ?_
  exact g_iret X h dX2_comers_51
abbrev rm_X2_letters : Room := { frames := 1, cells := 0, slots := 0, locals := 20 }
theorem hd_X2_letters : yX2_letters.cls = RX2 ∧ yX2_letters.cls ≠ "java/lang/invoke/MethodHandle" ∧ yX2_letters.cls ≠ "java/lang/invoke/VarHandle" ∧ (parseMethodDescriptor yX2_letters.desc).map (fun d => d.parameters.length) = some 0 := by decide +kernel
theorem w_X2_letters_25 : Cond.fieldLink RX2 25 "TokenDoors$Hall" "doorCount" "I" ∈ wsX2_letters := by decide +kernel
theorem w_X2_letters_inX2 : ∀ w ∈ wsX20, w ∈ wsX2_letters := by decide +kernel
theorem w_X2_letters_11 : Cond.fieldLink RX2 11 "TokenDoors$Hall" "doors" "[LTokenDoors$Door;" ∈ wsX2_letters := by decide +kernel
def j_X2_letters_32_in4 (fu : Nat) (v0 : Nat) (v2 : Int32) (s0 : Int32) (s1 : Int32) (S : g_St) : Option ((Int32 × Int32 × g_St) ⊕ (Int32 × g_St)) :=
  some (.inl ((s0 ||| s1), (v2 + 1), S))
def b_X2_letters_4 (fu : Nat) (v0 : Nat) (v1 : Int32) (v2 : Int32) (S : g_St) : Option ((Int32 × Int32 × g_St) ⊕ (Int32 × g_St)) :=
  if (S.1 v0 2) ≤ v2 then (some (.inr (v1, S))) else (g_ld g_KC 90 (.inr (3, 4, true)) (S.2 v0 0) fun a1 => g_ix v2 4 fun i2 => g_ld g_KC 90 g_kX1 (S.2 a1 i2) fun a2 => g_bd (f_X1_room fu a2 S) fun r3 Sr3 => if r3 ≤ 0 then (j_X2_letters_32_in4 fu v0 v2 v1 ((0 : Int32)) Sr3) else (j_X2_letters_32_in4 fu v0 v2 v1 (((1 : Int32) <<< (v2 &&& 31))) Sr3))
def f_X2_letters (fu : Nat) (o : Nat) (S : g_St) : Option (Int32 × g_St) :=
  g_th (g_lp (fun t => b_X2_letters_4 fu o t.1 t.2.1 t.2.2) fu ((0 : Int32), (0 : Int32), S)) fun e => match e with | (w1_1, S1) => some (w1_1, S1)
set_option maxRecDepth 100000 in
set_option maxHeartbeats 400000 in
theorem vj_X2_letters_32_in4 {x : g_CX} {z : Int32 × g_St} {fu : Nat} (X : g_X 90 x cX2_letters RX2 3 wsX2_letters rm_X2_letters (some .int)) (v0 : Nat) (v2 : Int32) (s0 : Int32) (s1 : Int32) (hk_v0 : v0 < 90 ∧ g_KC v0 = g_kX2) (S : g_St) {r : (Int32 × Int32 × g_St) ⊕ (Int32 × g_St)} (h : j_X2_letters_32_in4 fu v0 v2 s0 s1 S = some r) (hc : Sum.elim (fun t : Int32 × Int32 × g_St => g_V g_KC 90 x 3 (g_qi g_KC 90 x z) t.2.2 4 [(0, .ref (g_ad x v0)), (1, .int (t.1)), (2, .int (t.2.1))] []) (fun e : Int32 × g_St => g_V g_KC 90 x 3 (g_qi g_KC 90 x z) e.2 40 [(1, .int (e.1))] []) r) : g_V g_KC 90 x 3 (g_qi g_KC 90 x z) S 32 [(0, .ref (g_ad x v0)), (2, .int (v2))] [.int (s1), .int (s0)] := by
  unfold j_X2_letters_32_in4 at h
  refine g_ior X dX2_letters_32 ?_
  refine g_istore_n X [(1, _), (0, _), (2, _)] dX2_letters_33 (by decide) rfl ?_
  refine g_iinc X [(2, _), (1, _), (0, _)] dX2_letters_34 2 rfl rfl (by decide) rfl ?_
  refine g_goto X 4 dX2_letters_37 (by decide) ?_
  cases h
  exact g_sub [2, 1, 0] _ rfl hc
set_option maxRecDepth 100000 in
set_option maxHeartbeats 400000 in
theorem vb_X2_letters_4 {x : g_CX} {z : Int32 × g_St} {fu : Nat} (X : g_X 90 x cX2_letters RX2 3 wsX2_letters rm_X2_letters (some .int)) (v0 : Nat) (v1 : Int32) (v2 : Int32) (hk_v0 : v0 < 90 ∧ g_KC v0 = g_kX2) (S : g_St) {r : (Int32 × Int32 × g_St) ⊕ (Int32 × g_St)} (h : b_X2_letters_4 fu v0 v1 v2 S = some r) (hc : Sum.elim (fun t : Int32 × Int32 × g_St => g_V g_KC 90 x 3 (g_qi g_KC 90 x z) t.2.2 4 [(0, .ref (g_ad x v0)), (1, .int (t.1)), (2, .int (t.2.1))] []) (fun e : Int32 × g_St => g_V g_KC 90 x 3 (g_qi g_KC 90 x z) e.2 40 [(1, .int (e.1))] []) r) : g_V g_KC 90 x 3 (g_qi g_KC 90 x z) S 4 [(0, .ref (g_ad x v0)), (1, .int (v1)), (2, .int (v2))] [] := by
  unfold b_X2_letters_4 at h
  refine g_iload_n X dX2_letters_4 2 rfl ?_
  refine g_aload_n X dX2_letters_5 0 rfl ?_
  refine g_geti X g_cX2 w_X2_letters_inX2 2 (by decide) w_X2_letters_25 hk_v0 rfl dX2_letters_6 ?_
  refine g_icmp_ge X 40 dX2_letters_9 (by decide) h (fun c_9 h => ?_) (fun c_9 h => ?_)
  · skip
    cases h
    exact g_sub [1] _ rfl hc
  · skip
    refine g_iload_n X dX2_letters_12 1 rfl ?_
    refine g_aload_n X dX2_letters_13 0 rfl ?_
    refine g_getr X g_cX2 w_X2_letters_inX2 0 (by decide) w_X2_letters_11 hk_v0 rfl dX2_letters_14 h (fun a1 hk_a1 h => ?_)
    refine g_iload_n X dX2_letters_17 2 rfl ?_
    refine g_aald X 3 RX1 rfl hk_a1 dX2_letters_18 h (fun a2 hk_a2 h => ?_)
    refine g_callVi X g_cX1 hk_a2 [] rfl (cwV 0 X.2.2.2.2.1 gX2_letters_X1_room rfl rfl rfl hd_X1_room ⟨Nat.le_of_ble_eq_true rfl, Nat.le_of_ble_eq_true rfl⟩) (Nat.le_of_ble_eq_true rfl) dX2_letters_19 h (fun q hq => ct_X1_room X.2.2.2.2.2.2.1 a2 hk_a2 _ hq) (fun r3 Sr3 h => ?_)
    refine g_if_le X 31 dX2_letters_22 (by decide) h (fun c_22 h => ?_) (fun c_22 h => ?_)
    · skip
      refine g_iconst X (v := 0) dX2_letters_31 (by decide) ?_
      refine g_sub [0, 2] _ rfl ?_
      exact vj_X2_letters_32_in4 X v0 v2 v1 ((0 : Int32)) hk_v0 _ h hc
    · skip
      refine g_iconst X (v := 1) dX2_letters_25 (by decide) ?_
      refine g_iload_n X dX2_letters_26 2 rfl ?_
      refine g_ishl X dX2_letters_27 ?_
      refine g_goto X 32 dX2_letters_28 (by decide) ?_
      refine g_sub [0, 2] _ rfl ?_
      exact vj_X2_letters_32_in4 X v0 v2 v1 (((1 : Int32) <<< (v2 &&& 31))) hk_v0 _ h hc
set_option maxRecDepth 100000 in
set_option maxHeartbeats 400000 in
theorem ct_X2_letters {l : Launch} {D : va_G} {ad : Nat → Nat} {cy : Nat → ClassId} {zz : (Nat → Nat) × (Nat → Nat)} (hinj : ∀ i j, i < 90 → j < 90 → ad i = ad j → i = j) {fu : Nat} (o : Nat) (hk_o : o < 90 ∧ g_KC o = g_kX2) {S : g_St} (z : Int32 × g_St) (h : f_X2_letters fu o S = some z) : g_Mi l g_KC 90 D ad cy zz yX2_letters wsX2_letters rm_X2_letters [.ref (ad o)] S z := by
  refine g_ofi hinj (cc := cX2_letters) (maxL := 3) (ret := (some .int)) (lv := [(0, .ref (ad o))]) (by decide) rfl (Nat.le_of_ble_eq_true rfl) rfl ?_
  intro x X hl hD ha hy hz
  subst hl hD ha hy hz
  unfold f_X2_letters at h
  refine g_iconst X (v := 0) dX2_letters_0 (by decide) ?_
  refine g_istore_n X [(1, _), (0, _)] dX2_letters_1 (by decide) rfl ?_
  refine g_iconst X (v := 0) dX2_letters_2 (by decide) ?_
  refine g_istore_n X [(2, _), (1, _), (0, _)] dX2_letters_3 (by decide) rfl ?_
  obtain ⟨e, he, h⟩ := g_th_s h
  refine g_sub [2, 1, 0] _ rfl ?_
  refine g_lp_w (body := (fun t => b_X2_letters_4 fu o t.1 t.2.1 t.2.2)) (P := fun t : Int32 × Int32 × g_St => g_V g_KC 90 x 3 (g_qi g_KC 90 x z) t.2.2 4 [(0, .ref (g_ad x o)), (1, .int (t.1)), (2, .int (t.2.1))] []) (E := (fun e : Int32 × g_St => g_V g_KC 90 x 3 (g_qi g_KC 90 x z) e.2 40 [(1, .int (e.1))] [])) (fun t r hb hc => vb_X2_letters_4 X o t.1 t.2.1 hk_o t.2.2 hb hc) fu ((0 : Int32), (0 : Int32), S) e he ?_
  obtain ⟨w1_1, S1⟩ := e
  show g_V g_KC 90 x 3 (g_qi g_KC 90 x z) S1 40 [(1, .int (w1_1))] []
  refine g_iload_n X dX2_letters_40 0 rfl ?_
  exact g_iret X h dX2_letters_41
abbrev rm_X2_firstShut : Room := { frames := 1, cells := 0, slots := 0, locals := 20 }
theorem hd_X2_firstShut : yX2_firstShut.cls = RX2 ∧ yX2_firstShut.cls ≠ "java/lang/invoke/MethodHandle" ∧ yX2_firstShut.cls ≠ "java/lang/invoke/VarHandle" ∧ (parseMethodDescriptor yX2_firstShut.desc).map (fun d => d.parameters.length) = some 0 := by decide +kernel
theorem w_X2_firstShut_25 : Cond.fieldLink RX2 25 "TokenDoors$Hall" "doorCount" "I" ∈ wsX2_firstShut := by decide +kernel
theorem w_X2_firstShut_inX2 : ∀ w ∈ wsX20, w ∈ wsX2_firstShut := by decide +kernel
theorem w_X2_firstShut_11 : Cond.fieldLink RX2 11 "TokenDoors$Hall" "doors" "[LTokenDoors$Door;" ∈ wsX2_firstShut := by decide +kernel
def b_X2_firstShut_2 (fu : Nat) (v0 : Nat) (v1 : Int32) (S : g_St) : Option ((Int32 × g_St) ⊕ ((g_St) ⊕ (Int32 × g_St))) :=
  if (S.1 v0 2) ≤ v1 then (some (.inr (.inl S))) else (g_ld g_KC 90 (.inr (3, 4, true)) (S.2 v0 0) fun a1 => g_ix v1 4 fun i2 => g_ld g_KC 90 g_kX1 (S.2 a1 i2) fun a2 => g_bd (f_X1_room fu a2 S) fun r3 Sr3 => if r3 = 0 then (some (.inr (.inr (v1, Sr3)))) else (some (.inl ((v1 + 1), Sr3))))
def f_X2_firstShut (fu : Nat) (o : Nat) (S : g_St) : Option (Int32 × g_St) :=
  g_th (g_lp (fun t => b_X2_firstShut_2 fu o t.1 t.2) fu ((0 : Int32), S)) fun e => match e with | .inl S1 => (some ((-4 : Int32), S1)) | .inr q => some q
set_option maxRecDepth 100000 in
set_option maxHeartbeats 400000 in
theorem vb_X2_firstShut_2 {x : g_CX} {z : Int32 × g_St} {fu : Nat} (X : g_X 90 x cX2_firstShut RX2 2 wsX2_firstShut rm_X2_firstShut (some .int)) (v0 : Nat) (v1 : Int32) (hk_v0 : v0 < 90 ∧ g_KC v0 = g_kX2) (S : g_St) {r : (Int32 × g_St) ⊕ ((g_St) ⊕ (Int32 × g_St))} (h : b_X2_firstShut_2 fu v0 v1 S = some r) (hc : Sum.elim (fun t : Int32 × g_St => g_V g_KC 90 x 2 (g_qi g_KC 90 x z) t.2 2 [(0, .ref (g_ad x v0)), (1, .int (t.1))] []) (fun b : (g_St) ⊕ (Int32 × g_St) => Sum.elim (fun e : g_St => g_V g_KC 90 x 2 (g_qi g_KC 90 x z) e 30 [] []) (fun q : Int32 × g_St => q = z) b) r) : g_V g_KC 90 x 2 (g_qi g_KC 90 x z) S 2 [(0, .ref (g_ad x v0)), (1, .int (v1))] [] := by
  unfold b_X2_firstShut_2 at h
  refine g_iload_n X dX2_firstShut_2 1 rfl ?_
  refine g_aload_n X dX2_firstShut_3 0 rfl ?_
  refine g_geti X g_cX2 w_X2_firstShut_inX2 2 (by decide) w_X2_firstShut_25 hk_v0 rfl dX2_firstShut_4 ?_
  refine g_icmp_ge X 30 dX2_firstShut_7 (by decide) h (fun c_7 h => ?_) (fun c_7 h => ?_)
  · skip
    cases h
    exact g_sub [] _ rfl hc
  · skip
    refine g_aload_n X dX2_firstShut_10 0 rfl ?_
    refine g_getr X g_cX2 w_X2_firstShut_inX2 0 (by decide) w_X2_firstShut_11 hk_v0 rfl dX2_firstShut_11 h (fun a1 hk_a1 h => ?_)
    refine g_iload_n X dX2_firstShut_14 1 rfl ?_
    refine g_aald X 3 RX1 rfl hk_a1 dX2_firstShut_15 h (fun a2 hk_a2 h => ?_)
    refine g_callVi X g_cX1 hk_a2 [] rfl (cwV 0 X.2.2.2.2.1 gX2_firstShut_X1_room rfl rfl rfl hd_X1_room ⟨Nat.le_of_ble_eq_true rfl, Nat.le_of_ble_eq_true rfl⟩) (Nat.le_of_ble_eq_true rfl) dX2_firstShut_16 h (fun q hq => ct_X1_room X.2.2.2.2.2.2.1 a2 hk_a2 _ hq) (fun r3 Sr3 h => ?_)
    refine g_if_ne X 24 dX2_firstShut_19 (by decide) h (fun c_19 h => ?_) (fun c_19 h => ?_)
    · skip
      refine g_iinc X [(1, _), (0, _)] dX2_firstShut_24 1 rfl rfl (by decide) rfl ?_
      refine g_goto X 2 dX2_firstShut_27 (by decide) ?_
      cases h
      exact g_sub [1, 0] _ rfl hc
    · skip
      refine g_iload_n X dX2_firstShut_22 1 rfl ?_
      cases h
      exact g_iret X (congrArg some hc) dX2_firstShut_23
set_option maxRecDepth 100000 in
set_option maxHeartbeats 400000 in
theorem ct_X2_firstShut {l : Launch} {D : va_G} {ad : Nat → Nat} {cy : Nat → ClassId} {zz : (Nat → Nat) × (Nat → Nat)} (hinj : ∀ i j, i < 90 → j < 90 → ad i = ad j → i = j) {fu : Nat} (o : Nat) (hk_o : o < 90 ∧ g_KC o = g_kX2) {S : g_St} (z : Int32 × g_St) (h : f_X2_firstShut fu o S = some z) : g_Mi l g_KC 90 D ad cy zz yX2_firstShut wsX2_firstShut rm_X2_firstShut [.ref (ad o)] S z := by
  refine g_ofi hinj (cc := cX2_firstShut) (maxL := 2) (ret := (some .int)) (lv := [(0, .ref (ad o))]) (by decide) rfl (Nat.le_of_ble_eq_true rfl) rfl ?_
  intro x X hl hD ha hy hz
  subst hl hD ha hy hz
  unfold f_X2_firstShut at h
  refine g_iconst X (v := 0) dX2_firstShut_0 (by decide) ?_
  refine g_istore_n X [(1, _), (0, _)] dX2_firstShut_1 (by decide) rfl ?_
  obtain ⟨e, he, h⟩ := g_th_s h
  refine g_sub [1, 0] _ rfl ?_
  refine g_lp_w (body := (fun t => b_X2_firstShut_2 fu o t.1 t.2)) (P := fun t : Int32 × g_St => g_V g_KC 90 x 2 (g_qi g_KC 90 x z) t.2 2 [(0, .ref (g_ad x o)), (1, .int (t.1))] []) (E := (fun b : (g_St) ⊕ (Int32 × g_St) => Sum.elim (fun e : g_St => g_V g_KC 90 x 2 (g_qi g_KC 90 x z) e 30 [] []) (fun q : Int32 × g_St => q = z) b)) (fun t r hb hc => vb_X2_firstShut_2 X o t.1 hk_o t.2 hb hc) fu ((0 : Int32), S) e he ?_
  rcases e with S1 | q
  · show g_V g_KC 90 x 2 (g_qi g_KC 90 x z) S1 30 [] []
    refine g_bipush X (v := (-4)) dX2_firstShut_30 (by decide) ?_
    exact g_iret X h dX2_firstShut_32
  · cases h; rfl
abbrev rm_X2_admit : Room := { frames := 2, cells := 0, slots := 0, locals := 45 }
theorem hd_X2_admit : yX2_admit.cls = RX2 ∧ yX2_admit.cls ≠ "java/lang/invoke/MethodHandle" ∧ yX2_admit.cls ≠ "java/lang/invoke/VarHandle" ∧ (parseMethodDescriptor yX2_admit.desc).map (fun d => d.parameters.length) = some 1 := by decide +kernel
theorem w_X2_admit_25 : Cond.fieldLink RX2 25 "TokenDoors$Hall" "doorCount" "I" ∈ wsX2_admit := by decide +kernel
theorem w_X2_admit_inX2 : ∀ w ∈ wsX20, w ∈ wsX2_admit := by decide +kernel
theorem w_X2_admit_11 : Cond.fieldLink RX2 11 "TokenDoors$Hall" "doors" "[LTokenDoors$Door;" ∈ wsX2_admit := by decide +kernel
theorem w_X2_admit_74 : Cond.constant RX2 74 (99999) ∈ wsX2_admit := by decide +kernel
theorem w_X2_admit_35 : Cond.fieldLink RX2 35 "TokenDoors$Hall" "let" "I" ∈ wsX2_admit := by decide +kernel
theorem w_X2_admit_75 : Cond.methodLink RX2 75 Lib.Math.min.name ∈ wsX2_admit := by decide +kernel
theorem w_X2_admit_stmmin : Cond.static Lib.Math.min.name ∈ wsX2_admit := by decide +kernel
theorem w_X2_admit_inMath : Cond.initialized "java/lang/Math" ∈ wsX2_admit := by decide +kernel
theorem w_X2_admit_commin : Cond.code Lib.Math.min.name Lib.Math.min.code 2 (some .int) ∈ wsX2_admit := by decide +kernel
theorem w_X2_admit_38 : Cond.fieldLink RX2 38 "TokenDoors$Hall" "turned" "I" ∈ wsX2_admit := by decide +kernel
def b_X2_admit_4 (fu : Nat) (v0 : Nat) (v1 : Int32) (v2 : Int32) (v3 : Int32) (S : g_St) : Option ((Int32 × Int32 × g_St) ⊕ (Int32 × g_St)) :=
  if (S.1 v0 2) ≤ v3 then (some (.inr (v2, S))) else (g_ld g_KC 90 (.inr (3, 4, true)) (S.2 v0 0) fun a1 => g_ix v3 4 fun i2 => g_ld g_KC 90 g_kX1 (S.2 a1 i2) fun a2 => g_bd (f_X1_admit fu a2 v2 S) fun r3 Sr3 => some (.inl (r3, (v3 + 1), Sr3)))
def f_X2_admit (fu : Nat) (o : Nat) (p0 : Int32) (S : g_St) : Option (Int32 × g_St) :=
  g_th (g_lp (fun t => b_X2_admit_4 fu o p0 t.1 t.2.1 t.2.2) fu (p0, (0 : Int32), S)) fun e => match e with | (w2_1, S1) => some (w2_1, (g_u (g_u S1.1 o 5 (if ((S1.1 o 5) + w2_1) < (99999 : Int32) then ((S1.1 o 5) + w2_1) else (99999 : Int32))) o 6 (if ((((g_u S1.1 o 5 (if ((S1.1 o 5) + w2_1) < (99999 : Int32) then ((S1.1 o 5) + w2_1) else (99999 : Int32))) o 6) + p0) - w2_1) < (99999 : Int32) then ((((g_u S1.1 o 5 (if ((S1.1 o 5) + w2_1) < (99999 : Int32) then ((S1.1 o 5) + w2_1) else (99999 : Int32))) o 6) + p0) - w2_1) else (99999 : Int32)), S1.2))
set_option maxRecDepth 100000 in
set_option maxHeartbeats 400000 in
theorem vb_X2_admit_4 {x : g_CX} {z : Int32 × g_St} {fu : Nat} (X : g_X 90 x cX2_admit RX2 4 wsX2_admit rm_X2_admit (some .int)) (v0 : Nat) (v1 : Int32) (v2 : Int32) (v3 : Int32) (hk_v0 : v0 < 90 ∧ g_KC v0 = g_kX2) (S : g_St) {r : (Int32 × Int32 × g_St) ⊕ (Int32 × g_St)} (h : b_X2_admit_4 fu v0 v1 v2 v3 S = some r) (hc : Sum.elim (fun t : Int32 × Int32 × g_St => g_V g_KC 90 x 4 (g_qi g_KC 90 x z) t.2.2 4 [(0, .ref (g_ad x v0)), (1, .int (v1)), (2, .int (t.1)), (3, .int (t.2.1))] []) (fun e : Int32 × g_St => g_V g_KC 90 x 4 (g_qi g_KC 90 x z) e.2 29 [(0, .ref (g_ad x v0)), (1, .int (v1)), (2, .int (e.1))] []) r) : g_V g_KC 90 x 4 (g_qi g_KC 90 x z) S 4 [(0, .ref (g_ad x v0)), (1, .int (v1)), (2, .int (v2)), (3, .int (v3))] [] := by
  unfold b_X2_admit_4 at h
  refine g_iload_n X dX2_admit_4 3 rfl ?_
  refine g_aload_n X dX2_admit_5 0 rfl ?_
  refine g_geti X g_cX2 w_X2_admit_inX2 2 (by decide) w_X2_admit_25 hk_v0 rfl dX2_admit_6 ?_
  refine g_icmp_ge X 29 dX2_admit_9 (by decide) h (fun c_9 h => ?_) (fun c_9 h => ?_)
  · skip
    cases h
    exact g_sub [0, 1, 2] _ rfl hc
  · skip
    refine g_aload_n X dX2_admit_12 0 rfl ?_
    refine g_getr X g_cX2 w_X2_admit_inX2 0 (by decide) w_X2_admit_11 hk_v0 rfl dX2_admit_13 h (fun a1 hk_a1 h => ?_)
    refine g_iload_n X dX2_admit_16 3 rfl ?_
    refine g_aald X 3 RX1 rfl hk_a1 dX2_admit_17 h (fun a2 hk_a2 h => ?_)
    refine g_iload_n X dX2_admit_18 2 rfl ?_
    refine g_callVi X g_cX1 hk_a2 [.int (v2)] rfl (cwV 1 X.2.2.2.2.1 gX2_admit_X1_admit rfl rfl rfl hd_X1_admit ⟨Nat.le_of_ble_eq_true rfl, Nat.le_of_ble_eq_true rfl⟩) (Nat.le_of_ble_eq_true rfl) dX2_admit_19 h (fun q hq => ct_X1_admit X.2.2.2.2.2.2.1 a2 v2 hk_a2 _ hq) (fun r3 Sr3 h => ?_)
    refine g_istore_n X [(2, _), (0, _), (1, _), (3, _)] dX2_admit_22 (by decide) rfl ?_
    refine g_iinc X [(3, _), (2, _), (0, _), (1, _)] dX2_admit_23 3 rfl rfl (by decide) rfl ?_
    refine g_goto X 4 dX2_admit_26 (by decide) ?_
    cases h
    exact g_sub [2, 3, 1, 0] _ rfl hc
set_option maxRecDepth 100000 in
set_option maxHeartbeats 400000 in
theorem ct_X2_admit {l : Launch} {D : va_G} {ad : Nat → Nat} {cy : Nat → ClassId} {zz : (Nat → Nat) × (Nat → Nat)} (hinj : ∀ i j, i < 90 → j < 90 → ad i = ad j → i = j) {fu : Nat} (o : Nat) (p0 : Int32) (hk_o : o < 90 ∧ g_KC o = g_kX2) {S : g_St} (z : Int32 × g_St) (h : f_X2_admit fu o p0 S = some z) : g_Mi l g_KC 90 D ad cy zz yX2_admit wsX2_admit rm_X2_admit [.ref (ad o), .int (p0)] S z := by
  refine g_ofi hinj (cc := cX2_admit) (maxL := 4) (ret := (some .int)) (lv := [(0, .ref (ad o)), (1, .int (p0))]) (by decide) rfl (Nat.le_of_ble_eq_true rfl) rfl ?_
  intro x X hl hD ha hy hz
  subst hl hD ha hy hz
  unfold f_X2_admit at h
  refine g_iload_n X dX2_admit_0 1 rfl ?_
  refine g_istore_n X [(2, _), (0, _), (1, _)] dX2_admit_1 (by decide) rfl ?_
  refine g_iconst X (v := 0) dX2_admit_2 (by decide) ?_
  refine g_istore_n X [(3, _), (2, _), (0, _), (1, _)] dX2_admit_3 (by decide) rfl ?_
  obtain ⟨e, he, h⟩ := g_th_s h
  refine g_sub [2, 3, 1, 0] _ rfl ?_
  refine g_lp_w (body := (fun t => b_X2_admit_4 fu o p0 t.1 t.2.1 t.2.2)) (P := fun t : Int32 × Int32 × g_St => g_V g_KC 90 x 4 (g_qi g_KC 90 x z) t.2.2 4 [(0, .ref (g_ad x o)), (1, .int (p0)), (2, .int (t.1)), (3, .int (t.2.1))] []) (E := (fun e : Int32 × g_St => g_V g_KC 90 x 4 (g_qi g_KC 90 x z) e.2 29 [(0, .ref (g_ad x o)), (1, .int (p0)), (2, .int (e.1))] [])) (fun t r hb hc => vb_X2_admit_4 X o p0 t.1 t.2.1 hk_o t.2.2 hb hc) fu (p0, (0 : Int32), S) e he ?_
  obtain ⟨w2_1, S1⟩ := e
  show g_V g_KC 90 x 4 (g_qi g_KC 90 x z) S1 29 [(0, .ref (g_ad x o)), (1, .int (p0)), (2, .int (w2_1))] []
  refine g_aload_n X dX2_admit_29 0 rfl ?_
  refine g_ldc X w_X2_admit_74 dX2_admit_30 ?_
  refine g_aload_n X dX2_admit_32 0 rfl ?_
  refine g_geti X g_cX2 w_X2_admit_inX2 5 (by decide) w_X2_admit_35 hk_o rfl dX2_admit_33 ?_
  refine g_iload_n X dX2_admit_36 2 rfl ?_
  refine g_iadd X dX2_admit_37 ?_
  refine g_mmin X w_X2_admit_75 w_X2_admit_stmmin w_X2_admit_inMath w_X2_admit_commin (by decide) (Nat.le_of_ble_eq_true rfl) dX2_admit_38 ?_
  refine g_puti X g_cX2 w_X2_admit_inX2 5 (by decide) w_X2_admit_35 hk_o rfl rfl (t := .int) (by decide +kernel) rfl rfl dX2_admit_41 ?_
  refine g_aload_n X dX2_admit_44 0 rfl ?_
  refine g_ldc X w_X2_admit_74 dX2_admit_45 ?_
  refine g_aload_n X dX2_admit_47 0 rfl ?_
  refine g_geti X g_cX2 w_X2_admit_inX2 6 (by decide) w_X2_admit_38 hk_o rfl dX2_admit_48 ?_
  refine g_iload_n X dX2_admit_51 1 rfl ?_
  refine g_iadd X dX2_admit_52 ?_
  refine g_iload_n X dX2_admit_53 2 rfl ?_
  refine g_isub X dX2_admit_54 ?_
  refine g_mmin X w_X2_admit_75 w_X2_admit_stmmin w_X2_admit_inMath w_X2_admit_commin (by decide) (Nat.le_of_ble_eq_true rfl) dX2_admit_55 ?_
  refine g_puti X g_cX2 w_X2_admit_inX2 6 (by decide) w_X2_admit_38 hk_o rfl rfl (t := .int) (by decide +kernel) rfl rfl dX2_admit_58 ?_
  refine g_iload_n X dX2_admit_61 2 rfl ?_
  exact g_iret X h dX2_admit_62
abbrev rm_X2_tickWith : Room := { frames := 3, cells := 0, slots := 0, locals := 68 }
theorem hd_X2_tickWith : yX2_tickWith.cls = RX2 ∧ yX2_tickWith.cls ≠ "java/lang/invoke/MethodHandle" ∧ yX2_tickWith.cls ≠ "java/lang/invoke/VarHandle" ∧ (parseMethodDescriptor yX2_tickWith.desc).map (fun d => d.parameters.length) = some 1 := by decide +kernel
theorem w_X2_tickWith_25 : Cond.fieldLink RX2 25 "TokenDoors$Hall" "doorCount" "I" ∈ wsX2_tickWith := by decide +kernel
theorem w_X2_tickWith_inX2 : ∀ w ∈ wsX20, w ∈ wsX2_tickWith := by decide +kernel
theorem w_X2_tickWith_11 : Cond.fieldLink RX2 11 "TokenDoors$Hall" "doors" "[LTokenDoors$Door;" ∈ wsX2_tickWith := by decide +kernel
theorem w_X2_tickWith_32 : Cond.fieldLink RX2 32 "TokenDoors$Hall" "tick" "I" ∈ wsX2_tickWith := by decide +kernel
def b_X2_tickWith_8 (fu : Nat) (v0 : Nat) (v2 : Int32) (v3 : Int32) (S : g_St) : Option ((Int32 × g_St) ⊕ (g_St)) :=
  if (S.1 v0 2) ≤ v3 then (some (.inr S)) else (g_ld g_KC 90 (.inr (3, 4, true)) (S.2 v0 0) fun a2 => g_ix v3 4 fun i3 => g_ld g_KC 90 g_kX1 (S.2 a2 i3) fun a3 => g_bd (f_X1_settle fu a3 ((S.1 v0 4)) S) fun _ Sr4 => some (.inl ((v3 + 1), Sr4)))
def f_X2_tickWith (fu : Nat) (o : Nat) (p0 : Int32) (S : g_St) : Option (Int32 × g_St) :=
  g_bd (f_X2_admit fu o p0 S) fun r1 Sr1 => g_th (g_lp (fun t => b_X2_tickWith_8 fu o r1 t.1 t.2) fu ((0 : Int32), Sr1)) fun e => match e with | S1 => some (r1, (g_u S1.1 o 4 ((S1.1 o 4) + (1 : Int32)), S1.2))
set_option maxRecDepth 100000 in
set_option maxHeartbeats 400000 in
theorem vb_X2_tickWith_8 {x : g_CX} {z : Int32 × g_St} {fu : Nat} (X : g_X 90 x cX2_tickWith RX2 4 wsX2_tickWith rm_X2_tickWith (some .int)) (v0 : Nat) (v2 : Int32) (v3 : Int32) (hk_v0 : v0 < 90 ∧ g_KC v0 = g_kX2) (S : g_St) {r : (Int32 × g_St) ⊕ (g_St)} (h : b_X2_tickWith_8 fu v0 v2 v3 S = some r) (hc : Sum.elim (fun t : Int32 × g_St => g_V g_KC 90 x 4 (g_qi g_KC 90 x z) t.2 8 [(0, .ref (g_ad x v0)), (2, .int (v2)), (3, .int (t.1))] []) (fun e : g_St => g_V g_KC 90 x 4 (g_qi g_KC 90 x z) e 35 [(0, .ref (g_ad x v0)), (2, .int (v2))] []) r) : g_V g_KC 90 x 4 (g_qi g_KC 90 x z) S 8 [(0, .ref (g_ad x v0)), (2, .int (v2)), (3, .int (v3))] [] := by
  unfold b_X2_tickWith_8 at h
  refine g_iload_n X dX2_tickWith_8 2 rfl ?_
  refine g_aload_n X dX2_tickWith_9 0 rfl ?_
  refine g_geti X g_cX2 w_X2_tickWith_inX2 2 (by decide) w_X2_tickWith_25 hk_v0 rfl dX2_tickWith_10 ?_
  refine g_icmp_ge X 35 dX2_tickWith_13 (by decide) h (fun c_13 h => ?_) (fun c_13 h => ?_)
  · skip
    cases h
    exact g_sub [0, 1] _ rfl hc
  · skip
    refine g_aload_n X dX2_tickWith_16 0 rfl ?_
    refine g_getr X g_cX2 w_X2_tickWith_inX2 0 (by decide) w_X2_tickWith_11 hk_v0 rfl dX2_tickWith_17 h (fun a2 hk_a2 h => ?_)
    refine g_iload_n X dX2_tickWith_20 2 rfl ?_
    refine g_aald X 3 RX1 rfl hk_a2 dX2_tickWith_21 h (fun a3 hk_a3 h => ?_)
    refine g_aload_n X dX2_tickWith_22 0 rfl ?_
    refine g_geti X g_cX2 w_X2_tickWith_inX2 4 (by decide) w_X2_tickWith_32 hk_v0 rfl dX2_tickWith_23 ?_
    refine g_callVv X g_cX1 hk_a3 [.int ((S.1 v0 4))] rfl (cwV 1 X.2.2.2.2.1 gX2_tickWith_X1_settle rfl rfl rfl hd_X1_settle ⟨Nat.le_of_ble_eq_true rfl, Nat.le_of_ble_eq_true rfl⟩) (Nat.le_of_ble_eq_true rfl) dX2_tickWith_26 h (fun q hq => ct_X1_settle X.2.2.2.2.2.2.1 a3 ((S.1 v0 4)) hk_a3 _ hq) (fun _ Sr4 h => ?_)
    refine g_iinc X [(3, _), (0, _), (2, _)] dX2_tickWith_29 2 rfl rfl (by decide) rfl ?_
    refine g_goto X 8 dX2_tickWith_32 (by decide) ?_
    cases h
    exact g_sub [1, 2, 0] _ rfl hc
set_option maxRecDepth 100000 in
set_option maxHeartbeats 400000 in
theorem ct_X2_tickWith {l : Launch} {D : va_G} {ad : Nat → Nat} {cy : Nat → ClassId} {zz : (Nat → Nat) × (Nat → Nat)} (hinj : ∀ i j, i < 90 → j < 90 → ad i = ad j → i = j) {fu : Nat} (o : Nat) (p0 : Int32) (hk_o : o < 90 ∧ g_KC o = g_kX2) {S : g_St} (z : Int32 × g_St) (h : f_X2_tickWith fu o p0 S = some z) : g_Mi l g_KC 90 D ad cy zz yX2_tickWith wsX2_tickWith rm_X2_tickWith [.ref (ad o), .int (p0)] S z := by
  refine g_ofi hinj (cc := cX2_tickWith) (maxL := 4) (ret := (some .int)) (lv := [(0, .ref (ad o)), (1, .int (p0))]) (by decide) rfl (Nat.le_of_ble_eq_true rfl) rfl ?_
  intro x X hl hD ha hy hz
  subst hl hD ha hy hz
  unfold f_X2_tickWith at h
  refine g_aload_n X dX2_tickWith_0 0 rfl ?_
  refine g_iload_n X dX2_tickWith_1 1 rfl ?_
  refine g_callVi X g_cX2 hk_o [.int (p0)] rfl (cwV 1 X.2.2.2.2.1 gX2_tickWith_X2_admit rfl rfl rfl hd_X2_admit ⟨Nat.le_of_ble_eq_true rfl, Nat.le_of_ble_eq_true rfl⟩) (Nat.le_of_ble_eq_true rfl) dX2_tickWith_2 h (fun q hq => ct_X2_admit X.2.2.2.2.2.2.1 o p0 hk_o _ hq) (fun r1 Sr1 h => ?_)
  refine g_istore_n X [(2, _), (0, _), (1, _)] dX2_tickWith_5 (by decide) rfl ?_
  refine g_iconst X (v := 0) dX2_tickWith_6 (by decide) ?_
  refine g_istore_n X [(3, _), (2, _), (0, _), (1, _)] dX2_tickWith_7 (by decide) rfl ?_
  obtain ⟨e, he, h⟩ := g_th_s h
  refine g_sub [2, 1, 0] _ rfl ?_
  refine g_lp_w (body := (fun t => b_X2_tickWith_8 fu o r1 t.1 t.2)) (P := fun t : Int32 × g_St => g_V g_KC 90 x 4 (g_qi g_KC 90 x z) t.2 8 [(0, .ref (g_ad x o)), (2, .int (r1)), (3, .int (t.1))] []) (E := (fun e : g_St => g_V g_KC 90 x 4 (g_qi g_KC 90 x z) e 35 [(0, .ref (g_ad x o)), (2, .int (r1))] [])) (fun t r hb hc => vb_X2_tickWith_8 X o r1 t.1 hk_o t.2 hb hc) fu ((0 : Int32), Sr1) e he ?_
  obtain ⟨S1, rfl⟩ : ∃ q, q = e := ⟨_, rfl⟩
  show g_V g_KC 90 x 4 (g_qi g_KC 90 x z) S1 35 [(0, .ref (g_ad x o)), (2, .int (r1))] []
  refine g_aload_n X dX2_tickWith_35 0 rfl ?_
  refine g_dup X dX2_tickWith_36 rfl ?_
  refine g_geti X g_cX2 w_X2_tickWith_inX2 4 (by decide) w_X2_tickWith_32 hk_o rfl dX2_tickWith_37 ?_
  refine g_iconst X (v := 1) dX2_tickWith_40 (by decide) ?_
  refine g_iadd X dX2_tickWith_41 ?_
  refine g_puti X g_cX2 w_X2_tickWith_inX2 4 (by decide) w_X2_tickWith_32 hk_o rfl rfl (t := .int) (by decide +kernel) rfl rfl dX2_tickWith_42 ?_
  refine g_iload_n X dX2_tickWith_45 1 rfl ?_
  exact g_iret X h dX2_tickWith_46
abbrev rm_X2_tickOn : Room := { frames := 4, cells := 0, slots := 0, locals := 91 }
theorem hd_X2_tickOn : yX2_tickOn.cls = RX2 ∧ yX2_tickOn.cls ≠ "java/lang/invoke/MethodHandle" ∧ yX2_tickOn.cls ≠ "java/lang/invoke/VarHandle" ∧ (parseMethodDescriptor yX2_tickOn.desc).map (fun d => d.parameters.length) = some 0 := by decide +kernel
def f_X2_tickOn (fu : Nat) (o : Nat) (S : g_St) : Option (Int32 × g_St) :=
  g_bd (f_X2_comers fu o S) fun r1 Sr1 => g_bd (f_X2_tickWith fu o r1 Sr1) fun r2 Sr2 => some (r2, Sr2)
set_option maxRecDepth 100000 in
set_option maxHeartbeats 400000 in
theorem ct_X2_tickOn {l : Launch} {D : va_G} {ad : Nat → Nat} {cy : Nat → ClassId} {zz : (Nat → Nat) × (Nat → Nat)} (hinj : ∀ i j, i < 90 → j < 90 → ad i = ad j → i = j) {fu : Nat} (o : Nat) (hk_o : o < 90 ∧ g_KC o = g_kX2) {S : g_St} (z : Int32 × g_St) (h : f_X2_tickOn fu o S = some z) : g_Mi l g_KC 90 D ad cy zz yX2_tickOn wsX2_tickOn rm_X2_tickOn [.ref (ad o)] S z := by
  refine g_ofi hinj (cc := cX2_tickOn) (maxL := 1) (ret := (some .int)) (lv := [(0, .ref (ad o))]) (by decide) rfl (Nat.le_of_ble_eq_true rfl) rfl ?_
  intro x X hl hD ha hy hz
  subst hl hD ha hy hz
  unfold f_X2_tickOn at h
  refine g_aload_n X dX2_tickOn_0 0 rfl ?_
  refine g_aload_n X dX2_tickOn_1 0 rfl ?_
  refine g_callVi X g_cX2 hk_o [] rfl (cwV 0 X.2.2.2.2.1 gX2_tickOn_X2_comers rfl rfl rfl hd_X2_comers ⟨Nat.le_of_ble_eq_true rfl, Nat.le_of_ble_eq_true rfl⟩) (Nat.le_of_ble_eq_true rfl) dX2_tickOn_2 h (fun q hq => ct_X2_comers X.2.2.2.2.2.2.1 o hk_o _ hq) (fun r1 Sr1 h => ?_)
  refine g_callVi X g_cX2 hk_o [.int (r1)] rfl (cwV 1 X.2.2.2.2.1 gX2_tickOn_X2_tickWith rfl rfl rfl hd_X2_tickWith ⟨Nat.le_of_ble_eq_true rfl, Nat.le_of_ble_eq_true rfl⟩) (Nat.le_of_ble_eq_true rfl) dX2_tickOn_5 h (fun q hq => ct_X2_tickWith X.2.2.2.2.2.2.1 o r1 hk_o _ hq) (fun r2 Sr2 h => ?_)
  exact g_iret X h dX2_tickOn_8
abbrev rm_X2_runOn : Room := { frames := 5, cells := 0, slots := 0, locals := 111 }
theorem hd_X2_runOn : yX2_runOn.cls = RX2 ∧ yX2_runOn.cls ≠ "java/lang/invoke/MethodHandle" ∧ yX2_runOn.cls ≠ "java/lang/invoke/VarHandle" ∧ (parseMethodDescriptor yX2_runOn.desc).map (fun d => d.parameters.length) = some 1 := by decide +kernel
def b_X2_runOn_4 (fu : Nat) (v0 : Nat) (v1 : Int32) (v2 : Int32) (v3 : Int32) (S : g_St) : Option ((Int32 × Int32 × g_St) ⊕ (Int32 × g_St)) :=
  if v1 ≤ v3 then (some (.inr (v2, S))) else (g_bd (f_X2_tickOn fu v0 S) fun r1 Sr1 => some (.inl ((v2 + r1), (v3 + 1), Sr1)))
def f_X2_runOn (fu : Nat) (o : Nat) (p0 : Int32) (S : g_St) : Option (Int32 × g_St) :=
  g_th (g_lp (fun t => b_X2_runOn_4 fu o p0 t.1 t.2.1 t.2.2) fu ((0 : Int32), (0 : Int32), S)) fun e => match e with | (w2_1, S1) => some (w2_1, S1)
set_option maxRecDepth 100000 in
set_option maxHeartbeats 400000 in
theorem vb_X2_runOn_4 {x : g_CX} {z : Int32 × g_St} {fu : Nat} (X : g_X 90 x cX2_runOn RX2 4 wsX2_runOn rm_X2_runOn (some .int)) (v0 : Nat) (v1 : Int32) (v2 : Int32) (v3 : Int32) (hk_v0 : v0 < 90 ∧ g_KC v0 = g_kX2) (S : g_St) {r : (Int32 × Int32 × g_St) ⊕ (Int32 × g_St)} (h : b_X2_runOn_4 fu v0 v1 v2 v3 S = some r) (hc : Sum.elim (fun t : Int32 × Int32 × g_St => g_V g_KC 90 x 4 (g_qi g_KC 90 x z) t.2.2 4 [(0, .ref (g_ad x v0)), (1, .int (v1)), (2, .int (t.1)), (3, .int (t.2.1))] []) (fun e : Int32 × g_St => g_V g_KC 90 x 4 (g_qi g_KC 90 x z) e.2 22 [(2, .int (e.1))] []) r) : g_V g_KC 90 x 4 (g_qi g_KC 90 x z) S 4 [(0, .ref (g_ad x v0)), (1, .int (v1)), (2, .int (v2)), (3, .int (v3))] [] := by
  unfold b_X2_runOn_4 at h
  refine g_iload_n X dX2_runOn_4 3 rfl ?_
  refine g_iload_n X dX2_runOn_5 1 rfl ?_
  refine g_icmp_ge X 22 dX2_runOn_6 (by decide) h (fun c_6 h => ?_) (fun c_6 h => ?_)
  · skip
    cases h
    exact g_sub [2] _ rfl hc
  · skip
    refine g_iload_n X dX2_runOn_9 2 rfl ?_
    refine g_aload_n X dX2_runOn_10 0 rfl ?_
    refine g_callVi X g_cX2 hk_v0 [] rfl (cwV 0 X.2.2.2.2.1 gX2_runOn_X2_tickOn rfl rfl rfl hd_X2_tickOn ⟨Nat.le_of_ble_eq_true rfl, Nat.le_of_ble_eq_true rfl⟩) (Nat.le_of_ble_eq_true rfl) dX2_runOn_11 h (fun q hq => ct_X2_tickOn X.2.2.2.2.2.2.1 v0 hk_v0 _ hq) (fun r1 Sr1 h => ?_)
    refine g_iadd X dX2_runOn_14 ?_
    refine g_istore_n X [(2, _), (0, _), (1, _), (3, _)] dX2_runOn_15 (by decide) rfl ?_
    refine g_iinc X [(3, _), (2, _), (0, _), (1, _)] dX2_runOn_16 3 rfl rfl (by decide) rfl ?_
    refine g_goto X 4 dX2_runOn_19 (by decide) ?_
    cases h
    exact g_sub [2, 3, 1, 0] _ rfl hc
set_option maxRecDepth 100000 in
set_option maxHeartbeats 400000 in
theorem ct_X2_runOn {l : Launch} {D : va_G} {ad : Nat → Nat} {cy : Nat → ClassId} {zz : (Nat → Nat) × (Nat → Nat)} (hinj : ∀ i j, i < 90 → j < 90 → ad i = ad j → i = j) {fu : Nat} (o : Nat) (p0 : Int32) (hk_o : o < 90 ∧ g_KC o = g_kX2) {S : g_St} (z : Int32 × g_St) (h : f_X2_runOn fu o p0 S = some z) : g_Mi l g_KC 90 D ad cy zz yX2_runOn wsX2_runOn rm_X2_runOn [.ref (ad o), .int (p0)] S z := by
  refine g_ofi hinj (cc := cX2_runOn) (maxL := 4) (ret := (some .int)) (lv := [(0, .ref (ad o)), (1, .int (p0))]) (by decide) rfl (Nat.le_of_ble_eq_true rfl) rfl ?_
  intro x X hl hD ha hy hz
  subst hl hD ha hy hz
  unfold f_X2_runOn at h
  refine g_iconst X (v := 0) dX2_runOn_0 (by decide) ?_
  refine g_istore_n X [(2, _), (0, _), (1, _)] dX2_runOn_1 (by decide) rfl ?_
  refine g_iconst X (v := 0) dX2_runOn_2 (by decide) ?_
  refine g_istore_n X [(3, _), (2, _), (0, _), (1, _)] dX2_runOn_3 (by decide) rfl ?_
  obtain ⟨e, he, h⟩ := g_th_s h
  refine g_sub [2, 3, 1, 0] _ rfl ?_
  refine g_lp_w (body := (fun t => b_X2_runOn_4 fu o p0 t.1 t.2.1 t.2.2)) (P := fun t : Int32 × Int32 × g_St => g_V g_KC 90 x 4 (g_qi g_KC 90 x z) t.2.2 4 [(0, .ref (g_ad x o)), (1, .int (p0)), (2, .int (t.1)), (3, .int (t.2.1))] []) (E := (fun e : Int32 × g_St => g_V g_KC 90 x 4 (g_qi g_KC 90 x z) e.2 22 [(2, .int (e.1))] [])) (fun t r hb hc => vb_X2_runOn_4 X o p0 t.1 t.2.1 hk_o t.2.2 hb hc) fu ((0 : Int32), (0 : Int32), S) e he ?_
  obtain ⟨w2_1, S1⟩ := e
  show g_V g_KC 90 x 4 (g_qi g_KC 90 x z) S1 22 [(2, .int (w2_1))] []
  refine g_iload_n X dX2_runOn_22 0 rfl ?_
  exact g_iret X h dX2_runOn_23
abbrev rm_X2_heldByAll : Room := { frames := 0, cells := 0, slots := 0, locals := 0 }
theorem hd_X2_heldByAll : yX2_heldByAll.cls = RX2 ∧ yX2_heldByAll.cls ≠ "java/lang/invoke/MethodHandle" ∧ yX2_heldByAll.cls ≠ "java/lang/invoke/VarHandle" ∧ (parseMethodDescriptor yX2_heldByAll.desc).map (fun d => d.parameters.length) = some 0 := by decide +kernel
theorem w_X2_heldByAll_25 : Cond.fieldLink RX2 25 "TokenDoors$Hall" "doorCount" "I" ∈ wsX2_heldByAll := by decide +kernel
theorem w_X2_heldByAll_inX2 : ∀ w ∈ wsX20, w ∈ wsX2_heldByAll := by decide +kernel
theorem w_X2_heldByAll_11 : Cond.fieldLink RX2 11 "TokenDoors$Hall" "doors" "[LTokenDoors$Door;" ∈ wsX2_heldByAll := by decide +kernel
theorem w_X2_heldByAll_95 : Cond.fieldLink RX2 95 "TokenDoors$Door" "holds" "I" ∈ wsX2_heldByAll := by decide +kernel
theorem w_X2_heldByAll_inX1 : ∀ w ∈ wsX10, w ∈ wsX2_heldByAll := by decide +kernel
def b_X2_heldByAll_4 (fu : Nat) (v0 : Nat) (v1 : Int32) (v2 : Int32) (S : g_St) : Option ((Int32 × Int32 × g_St) ⊕ (Int32 × g_St)) :=
  if (S.1 v0 2) ≤ v2 then (some (.inr (v1, S))) else (g_ld g_KC 90 (.inr (3, 4, true)) (S.2 v0 0) fun a1 => g_ix v2 4 fun i2 => g_ld g_KC 90 g_kX1 (S.2 a1 i2) fun a2 => some (.inl ((v1 + (S.1 a2 3)), (v2 + 1), S)))
def f_X2_heldByAll (fu : Nat) (o : Nat) (S : g_St) : Option (Int32 × g_St) :=
  g_th (g_lp (fun t => b_X2_heldByAll_4 fu o t.1 t.2.1 t.2.2) fu ((0 : Int32), (0 : Int32), S)) fun e => match e with | (w1_1, S1) => some (w1_1, S1)
set_option maxRecDepth 100000 in
set_option maxHeartbeats 400000 in
theorem vb_X2_heldByAll_4 {x : g_CX} {z : Int32 × g_St} {fu : Nat} (X : g_X 90 x cX2_heldByAll RX2 3 wsX2_heldByAll rm_X2_heldByAll (some .int)) (v0 : Nat) (v1 : Int32) (v2 : Int32) (hk_v0 : v0 < 90 ∧ g_KC v0 = g_kX2) (S : g_St) {r : (Int32 × Int32 × g_St) ⊕ (Int32 × g_St)} (h : b_X2_heldByAll_4 fu v0 v1 v2 S = some r) (hc : Sum.elim (fun t : Int32 × Int32 × g_St => g_V g_KC 90 x 3 (g_qi g_KC 90 x z) t.2.2 4 [(0, .ref (g_ad x v0)), (1, .int (t.1)), (2, .int (t.2.1))] []) (fun e : Int32 × g_St => g_V g_KC 90 x 3 (g_qi g_KC 90 x z) e.2 30 [(1, .int (e.1))] []) r) : g_V g_KC 90 x 3 (g_qi g_KC 90 x z) S 4 [(0, .ref (g_ad x v0)), (1, .int (v1)), (2, .int (v2))] [] := by
  unfold b_X2_heldByAll_4 at h
  refine g_iload_n X dX2_heldByAll_4 2 rfl ?_
  refine g_aload_n X dX2_heldByAll_5 0 rfl ?_
  refine g_geti X g_cX2 w_X2_heldByAll_inX2 2 (by decide) w_X2_heldByAll_25 hk_v0 rfl dX2_heldByAll_6 ?_
  refine g_icmp_ge X 30 dX2_heldByAll_9 (by decide) h (fun c_9 h => ?_) (fun c_9 h => ?_)
  · skip
    cases h
    exact g_sub [1] _ rfl hc
  · skip
    refine g_iload_n X dX2_heldByAll_12 1 rfl ?_
    refine g_aload_n X dX2_heldByAll_13 0 rfl ?_
    refine g_getr X g_cX2 w_X2_heldByAll_inX2 0 (by decide) w_X2_heldByAll_11 hk_v0 rfl dX2_heldByAll_14 h (fun a1 hk_a1 h => ?_)
    refine g_iload_n X dX2_heldByAll_17 2 rfl ?_
    refine g_aald X 3 RX1 rfl hk_a1 dX2_heldByAll_18 h (fun a2 hk_a2 h => ?_)
    refine g_geti X g_cX1 w_X2_heldByAll_inX1 3 (by decide) w_X2_heldByAll_95 hk_a2 rfl dX2_heldByAll_19 ?_
    refine g_iadd X dX2_heldByAll_22 ?_
    refine g_istore_n X [(1, _), (0, _), (2, _)] dX2_heldByAll_23 (by decide) rfl ?_
    refine g_iinc X [(2, _), (1, _), (0, _)] dX2_heldByAll_24 2 rfl rfl (by decide) rfl ?_
    refine g_goto X 4 dX2_heldByAll_27 (by decide) ?_
    cases h
    exact g_sub [2, 1, 0] _ rfl hc
set_option maxRecDepth 100000 in
set_option maxHeartbeats 400000 in
theorem ct_X2_heldByAll {l : Launch} {D : va_G} {ad : Nat → Nat} {cy : Nat → ClassId} {zz : (Nat → Nat) × (Nat → Nat)} (hinj : ∀ i j, i < 90 → j < 90 → ad i = ad j → i = j) {fu : Nat} (o : Nat) (hk_o : o < 90 ∧ g_KC o = g_kX2) {S : g_St} (z : Int32 × g_St) (h : f_X2_heldByAll fu o S = some z) : g_Mi l g_KC 90 D ad cy zz yX2_heldByAll wsX2_heldByAll rm_X2_heldByAll [.ref (ad o)] S z := by
  refine g_ofi hinj (cc := cX2_heldByAll) (maxL := 3) (ret := (some .int)) (lv := [(0, .ref (ad o))]) (by decide) rfl (Nat.le_of_ble_eq_true rfl) rfl ?_
  intro x X hl hD ha hy hz
  subst hl hD ha hy hz
  unfold f_X2_heldByAll at h
  refine g_iconst X (v := 0) dX2_heldByAll_0 (by decide) ?_
  refine g_istore_n X [(1, _), (0, _)] dX2_heldByAll_1 (by decide) rfl ?_
  refine g_iconst X (v := 0) dX2_heldByAll_2 (by decide) ?_
  refine g_istore_n X [(2, _), (1, _), (0, _)] dX2_heldByAll_3 (by decide) rfl ?_
  obtain ⟨e, he, h⟩ := g_th_s h
  refine g_sub [2, 1, 0] _ rfl ?_
  refine g_lp_w (body := (fun t => b_X2_heldByAll_4 fu o t.1 t.2.1 t.2.2)) (P := fun t : Int32 × Int32 × g_St => g_V g_KC 90 x 3 (g_qi g_KC 90 x z) t.2.2 4 [(0, .ref (g_ad x o)), (1, .int (t.1)), (2, .int (t.2.1))] []) (E := (fun e : Int32 × g_St => g_V g_KC 90 x 3 (g_qi g_KC 90 x z) e.2 30 [(1, .int (e.1))] [])) (fun t r hb hc => vb_X2_heldByAll_4 X o t.1 t.2.1 hk_o t.2.2 hb hc) fu ((0 : Int32), (0 : Int32), S) e he ?_
  obtain ⟨w1_1, S1⟩ := e
  show g_V g_KC 90 x 3 (g_qi g_KC 90 x z) S1 30 [(1, .int (w1_1))] []
  refine g_iload_n X dX2_heldByAll_30 0 rfl ?_
  exact g_iret X h dX2_heldByAll_31
abbrev rm_X2_depthOfAll : Room := { frames := 0, cells := 0, slots := 0, locals := 0 }
theorem hd_X2_depthOfAll : yX2_depthOfAll.cls = RX2 ∧ yX2_depthOfAll.cls ≠ "java/lang/invoke/MethodHandle" ∧ yX2_depthOfAll.cls ≠ "java/lang/invoke/VarHandle" ∧ (parseMethodDescriptor yX2_depthOfAll.desc).map (fun d => d.parameters.length) = some 0 := by decide +kernel
theorem w_X2_depthOfAll_25 : Cond.fieldLink RX2 25 "TokenDoors$Hall" "doorCount" "I" ∈ wsX2_depthOfAll := by decide +kernel
theorem w_X2_depthOfAll_inX2 : ∀ w ∈ wsX20, w ∈ wsX2_depthOfAll := by decide +kernel
theorem w_X2_depthOfAll_11 : Cond.fieldLink RX2 11 "TokenDoors$Hall" "doors" "[LTokenDoors$Door;" ∈ wsX2_depthOfAll := by decide +kernel
theorem w_X2_depthOfAll_98 : Cond.fieldLink RX2 98 "TokenDoors$Door" "depth" "I" ∈ wsX2_depthOfAll := by decide +kernel
theorem w_X2_depthOfAll_inX1 : ∀ w ∈ wsX10, w ∈ wsX2_depthOfAll := by decide +kernel
def b_X2_depthOfAll_4 (fu : Nat) (v0 : Nat) (v1 : Int32) (v2 : Int32) (S : g_St) : Option ((Int32 × Int32 × g_St) ⊕ (Int32 × g_St)) :=
  if (S.1 v0 2) ≤ v2 then (some (.inr (v1, S))) else (g_ld g_KC 90 (.inr (3, 4, true)) (S.2 v0 0) fun a1 => g_ix v2 4 fun i2 => g_ld g_KC 90 g_kX1 (S.2 a1 i2) fun a2 => some (.inl ((v1 + (S.1 a2 1)), (v2 + 1), S)))
def f_X2_depthOfAll (fu : Nat) (o : Nat) (S : g_St) : Option (Int32 × g_St) :=
  g_th (g_lp (fun t => b_X2_depthOfAll_4 fu o t.1 t.2.1 t.2.2) fu ((0 : Int32), (0 : Int32), S)) fun e => match e with | (w1_1, S1) => some (w1_1, S1)
set_option maxRecDepth 100000 in
set_option maxHeartbeats 400000 in
theorem vb_X2_depthOfAll_4 {x : g_CX} {z : Int32 × g_St} {fu : Nat} (X : g_X 90 x cX2_depthOfAll RX2 3 wsX2_depthOfAll rm_X2_depthOfAll (some .int)) (v0 : Nat) (v1 : Int32) (v2 : Int32) (hk_v0 : v0 < 90 ∧ g_KC v0 = g_kX2) (S : g_St) {r : (Int32 × Int32 × g_St) ⊕ (Int32 × g_St)} (h : b_X2_depthOfAll_4 fu v0 v1 v2 S = some r) (hc : Sum.elim (fun t : Int32 × Int32 × g_St => g_V g_KC 90 x 3 (g_qi g_KC 90 x z) t.2.2 4 [(0, .ref (g_ad x v0)), (1, .int (t.1)), (2, .int (t.2.1))] []) (fun e : Int32 × g_St => g_V g_KC 90 x 3 (g_qi g_KC 90 x z) e.2 30 [(1, .int (e.1))] []) r) : g_V g_KC 90 x 3 (g_qi g_KC 90 x z) S 4 [(0, .ref (g_ad x v0)), (1, .int (v1)), (2, .int (v2))] [] := by
  unfold b_X2_depthOfAll_4 at h
  refine g_iload_n X dX2_depthOfAll_4 2 rfl ?_
  refine g_aload_n X dX2_depthOfAll_5 0 rfl ?_
  refine g_geti X g_cX2 w_X2_depthOfAll_inX2 2 (by decide) w_X2_depthOfAll_25 hk_v0 rfl dX2_depthOfAll_6 ?_
  refine g_icmp_ge X 30 dX2_depthOfAll_9 (by decide) h (fun c_9 h => ?_) (fun c_9 h => ?_)
  · skip
    cases h
    exact g_sub [1] _ rfl hc
  · skip
    refine g_iload_n X dX2_depthOfAll_12 1 rfl ?_
    refine g_aload_n X dX2_depthOfAll_13 0 rfl ?_
    refine g_getr X g_cX2 w_X2_depthOfAll_inX2 0 (by decide) w_X2_depthOfAll_11 hk_v0 rfl dX2_depthOfAll_14 h (fun a1 hk_a1 h => ?_)
    refine g_iload_n X dX2_depthOfAll_17 2 rfl ?_
    refine g_aald X 3 RX1 rfl hk_a1 dX2_depthOfAll_18 h (fun a2 hk_a2 h => ?_)
    refine g_geti X g_cX1 w_X2_depthOfAll_inX1 1 (by decide) w_X2_depthOfAll_98 hk_a2 rfl dX2_depthOfAll_19 ?_
    refine g_iadd X dX2_depthOfAll_22 ?_
    refine g_istore_n X [(1, _), (0, _), (2, _)] dX2_depthOfAll_23 (by decide) rfl ?_
    refine g_iinc X [(2, _), (1, _), (0, _)] dX2_depthOfAll_24 2 rfl rfl (by decide) rfl ?_
    refine g_goto X 4 dX2_depthOfAll_27 (by decide) ?_
    cases h
    exact g_sub [2, 1, 0] _ rfl hc
set_option maxRecDepth 100000 in
set_option maxHeartbeats 400000 in
theorem ct_X2_depthOfAll {l : Launch} {D : va_G} {ad : Nat → Nat} {cy : Nat → ClassId} {zz : (Nat → Nat) × (Nat → Nat)} (hinj : ∀ i j, i < 90 → j < 90 → ad i = ad j → i = j) {fu : Nat} (o : Nat) (hk_o : o < 90 ∧ g_KC o = g_kX2) {S : g_St} (z : Int32 × g_St) (h : f_X2_depthOfAll fu o S = some z) : g_Mi l g_KC 90 D ad cy zz yX2_depthOfAll wsX2_depthOfAll rm_X2_depthOfAll [.ref (ad o)] S z := by
  refine g_ofi hinj (cc := cX2_depthOfAll) (maxL := 3) (ret := (some .int)) (lv := [(0, .ref (ad o))]) (by decide) rfl (Nat.le_of_ble_eq_true rfl) rfl ?_
  intro x X hl hD ha hy hz
  subst hl hD ha hy hz
  unfold f_X2_depthOfAll at h
  refine g_iconst X (v := 0) dX2_depthOfAll_0 (by decide) ?_
  refine g_istore_n X [(1, _), (0, _)] dX2_depthOfAll_1 (by decide) rfl ?_
  refine g_iconst X (v := 0) dX2_depthOfAll_2 (by decide) ?_
  refine g_istore_n X [(2, _), (1, _), (0, _)] dX2_depthOfAll_3 (by decide) rfl ?_
  obtain ⟨e, he, h⟩ := g_th_s h
  refine g_sub [2, 1, 0] _ rfl ?_
  refine g_lp_w (body := (fun t => b_X2_depthOfAll_4 fu o t.1 t.2.1 t.2.2)) (P := fun t : Int32 × Int32 × g_St => g_V g_KC 90 x 3 (g_qi g_KC 90 x z) t.2.2 4 [(0, .ref (g_ad x o)), (1, .int (t.1)), (2, .int (t.2.1))] []) (E := (fun e : Int32 × g_St => g_V g_KC 90 x 3 (g_qi g_KC 90 x z) e.2 30 [(1, .int (e.1))] [])) (fun t r hb hc => vb_X2_depthOfAll_4 X o t.1 t.2.1 hk_o t.2.2 hb hc) fu ((0 : Int32), (0 : Int32), S) e he ?_
  obtain ⟨w1_1, S1⟩ := e
  show g_V g_KC 90 x 3 (g_qi g_KC 90 x z) S1 30 [(1, .int (w1_1))] []
  refine g_iload_n X dX2_depthOfAll_30 0 rfl ?_
  exact g_iret X h dX2_depthOfAll_31
abbrev rm_X2_manyOfAll : Room := { frames := 0, cells := 0, slots := 0, locals := 0 }
theorem hd_X2_manyOfAll : yX2_manyOfAll.cls = RX2 ∧ yX2_manyOfAll.cls ≠ "java/lang/invoke/MethodHandle" ∧ yX2_manyOfAll.cls ≠ "java/lang/invoke/VarHandle" ∧ (parseMethodDescriptor yX2_manyOfAll.desc).map (fun d => d.parameters.length) = some 0 := by decide +kernel
theorem w_X2_manyOfAll_29 : Cond.fieldLink RX2 29 "TokenDoors$Hall" "crowdCount" "I" ∈ wsX2_manyOfAll := by decide +kernel
theorem w_X2_manyOfAll_inX2 : ∀ w ∈ wsX20, w ∈ wsX2_manyOfAll := by decide +kernel
theorem w_X2_manyOfAll_19 : Cond.fieldLink RX2 19 "TokenDoors$Hall" "crowds" "[LTokenDoors$Crowd;" ∈ wsX2_manyOfAll := by decide +kernel
theorem w_X2_manyOfAll_48 : Cond.fieldLink RX2 48 "TokenDoors$Crowd" "many" "I" ∈ wsX2_manyOfAll := by decide +kernel
theorem w_X2_manyOfAll_inX0 : ∀ w ∈ wsX00, w ∈ wsX2_manyOfAll := by decide +kernel
def b_X2_manyOfAll_4 (fu : Nat) (v0 : Nat) (v1 : Int32) (v2 : Int32) (S : g_St) : Option ((Int32 × Int32 × g_St) ⊕ (Int32 × g_St)) :=
  if (S.1 v0 3) ≤ v2 then (some (.inr (v1, S))) else (g_ld g_KC 90 (.inr (4, 8, true)) (S.2 v0 1) fun a1 => g_ix v2 8 fun i2 => g_ld g_KC 90 g_kX0 (S.2 a1 i2) fun a2 => some (.inl ((v1 + (S.1 a2 1)), (v2 + 1), S)))
def f_X2_manyOfAll (fu : Nat) (o : Nat) (S : g_St) : Option (Int32 × g_St) :=
  g_th (g_lp (fun t => b_X2_manyOfAll_4 fu o t.1 t.2.1 t.2.2) fu ((0 : Int32), (0 : Int32), S)) fun e => match e with | (w1_1, S1) => some (w1_1, S1)
set_option maxRecDepth 100000 in
set_option maxHeartbeats 400000 in
theorem vb_X2_manyOfAll_4 {x : g_CX} {z : Int32 × g_St} {fu : Nat} (X : g_X 90 x cX2_manyOfAll RX2 3 wsX2_manyOfAll rm_X2_manyOfAll (some .int)) (v0 : Nat) (v1 : Int32) (v2 : Int32) (hk_v0 : v0 < 90 ∧ g_KC v0 = g_kX2) (S : g_St) {r : (Int32 × Int32 × g_St) ⊕ (Int32 × g_St)} (h : b_X2_manyOfAll_4 fu v0 v1 v2 S = some r) (hc : Sum.elim (fun t : Int32 × Int32 × g_St => g_V g_KC 90 x 3 (g_qi g_KC 90 x z) t.2.2 4 [(0, .ref (g_ad x v0)), (1, .int (t.1)), (2, .int (t.2.1))] []) (fun e : Int32 × g_St => g_V g_KC 90 x 3 (g_qi g_KC 90 x z) e.2 30 [(1, .int (e.1))] []) r) : g_V g_KC 90 x 3 (g_qi g_KC 90 x z) S 4 [(0, .ref (g_ad x v0)), (1, .int (v1)), (2, .int (v2))] [] := by
  unfold b_X2_manyOfAll_4 at h
  refine g_iload_n X dX2_manyOfAll_4 2 rfl ?_
  refine g_aload_n X dX2_manyOfAll_5 0 rfl ?_
  refine g_geti X g_cX2 w_X2_manyOfAll_inX2 3 (by decide) w_X2_manyOfAll_29 hk_v0 rfl dX2_manyOfAll_6 ?_
  refine g_icmp_ge X 30 dX2_manyOfAll_9 (by decide) h (fun c_9 h => ?_) (fun c_9 h => ?_)
  · skip
    cases h
    exact g_sub [1] _ rfl hc
  · skip
    refine g_iload_n X dX2_manyOfAll_12 1 rfl ?_
    refine g_aload_n X dX2_manyOfAll_13 0 rfl ?_
    refine g_getr X g_cX2 w_X2_manyOfAll_inX2 1 (by decide) w_X2_manyOfAll_19 hk_v0 rfl dX2_manyOfAll_14 h (fun a1 hk_a1 h => ?_)
    refine g_iload_n X dX2_manyOfAll_17 2 rfl ?_
    refine g_aald X 4 RX0 rfl hk_a1 dX2_manyOfAll_18 h (fun a2 hk_a2 h => ?_)
    refine g_geti X g_cX0 w_X2_manyOfAll_inX0 1 (by decide) w_X2_manyOfAll_48 hk_a2 rfl dX2_manyOfAll_19 ?_
    refine g_iadd X dX2_manyOfAll_22 ?_
    refine g_istore_n X [(1, _), (0, _), (2, _)] dX2_manyOfAll_23 (by decide) rfl ?_
    refine g_iinc X [(2, _), (1, _), (0, _)] dX2_manyOfAll_24 2 rfl rfl (by decide) rfl ?_
    refine g_goto X 4 dX2_manyOfAll_27 (by decide) ?_
    cases h
    exact g_sub [2, 1, 0] _ rfl hc
set_option maxRecDepth 100000 in
set_option maxHeartbeats 400000 in
theorem ct_X2_manyOfAll {l : Launch} {D : va_G} {ad : Nat → Nat} {cy : Nat → ClassId} {zz : (Nat → Nat) × (Nat → Nat)} (hinj : ∀ i j, i < 90 → j < 90 → ad i = ad j → i = j) {fu : Nat} (o : Nat) (hk_o : o < 90 ∧ g_KC o = g_kX2) {S : g_St} (z : Int32 × g_St) (h : f_X2_manyOfAll fu o S = some z) : g_Mi l g_KC 90 D ad cy zz yX2_manyOfAll wsX2_manyOfAll rm_X2_manyOfAll [.ref (ad o)] S z := by
  refine g_ofi hinj (cc := cX2_manyOfAll) (maxL := 3) (ret := (some .int)) (lv := [(0, .ref (ad o))]) (by decide) rfl (Nat.le_of_ble_eq_true rfl) rfl ?_
  intro x X hl hD ha hy hz
  subst hl hD ha hy hz
  unfold f_X2_manyOfAll at h
  refine g_iconst X (v := 0) dX2_manyOfAll_0 (by decide) ?_
  refine g_istore_n X [(1, _), (0, _)] dX2_manyOfAll_1 (by decide) rfl ?_
  refine g_iconst X (v := 0) dX2_manyOfAll_2 (by decide) ?_
  refine g_istore_n X [(2, _), (1, _), (0, _)] dX2_manyOfAll_3 (by decide) rfl ?_
  obtain ⟨e, he, h⟩ := g_th_s h
  refine g_sub [2, 1, 0] _ rfl ?_
  refine g_lp_w (body := (fun t => b_X2_manyOfAll_4 fu o t.1 t.2.1 t.2.2)) (P := fun t : Int32 × Int32 × g_St => g_V g_KC 90 x 3 (g_qi g_KC 90 x z) t.2.2 4 [(0, .ref (g_ad x o)), (1, .int (t.1)), (2, .int (t.2.1))] []) (E := (fun e : Int32 × g_St => g_V g_KC 90 x 3 (g_qi g_KC 90 x z) e.2 30 [(1, .int (e.1))] [])) (fun t r hb hc => vb_X2_manyOfAll_4 X o t.1 t.2.1 hk_o t.2.2 hb hc) fu ((0 : Int32), (0 : Int32), S) e he ?_
  obtain ⟨w1_1, S1⟩ := e
  show g_V g_KC 90 x 3 (g_qi g_KC 90 x z) S1 30 [(1, .int (w1_1))] []
  refine g_iload_n X dX2_manyOfAll_30 0 rfl ?_
  exact g_iret X h dX2_manyOfAll_31
