abbrev rm_X7_bestChange : Room := { frames := 6, cells := 0, slots := 0, locals := 134 }
theorem hd_X7_bestChange : yX7_bestChange.cls = RX7 ∧ yX7_bestChange.cls ≠ "java/lang/invoke/MethodHandle" ∧ yX7_bestChange.cls ≠ "java/lang/invoke/VarHandle" ∧ (parseMethodDescriptor yX7_bestChange.desc).map (fun d => d.parameters.length) = some 5 := by decide +kernel
theorem w_X7_bestChange_16 : Cond.fieldLink RX7 16 "TokenDoors" "trial" "LTokenDoors$Hall;" ∈ wsX7_bestChange := by decide +kernel
theorem w_X7_bestChange_inX7 : ∀ w ∈ wsX70, w ∈ wsX7_bestChange := by decide +kernel
theorem w_X7_bestChange_115 : Cond.fieldLink RX7 115 "TokenDoors$Hall" "doors" "[LTokenDoors$Door;" ∈ wsX7_bestChange := by decide +kernel
theorem w_X7_bestChange_inX2 : ∀ w ∈ wsX20, w ∈ wsX7_bestChange := by decide +kernel
def j_X7_bestChange_60_in9 (fu : Nat) (v0 : Nat) (v1 : Int32) (v2 : Int32) (v3 : Int32) (v4 : Int32) (v5 : Int32) (v6 : Int32) (v7 : Int32) (v8 : Int32) (S : g_St) : Option ((Int32 × Int32 × Int32 × g_St) ⊕ (Int32 × Int32 × g_St)) :=
  some (.inl (v6, v7, (v8 + 1), S))
def b_X7_bestChange_9 (fu : Nat) (v0 : Nat) (v1 : Int32) (v2 : Int32) (v3 : Int32) (v4 : Int32) (v5 : Int32) (v6 : Int32) (v7 : Int32) (v8 : Int32) (S : g_St) : Option ((Int32 × Int32 × Int32 × g_St) ⊕ (Int32 × Int32 × g_St)) :=
  if v3 < v8 then (some (.inr (v6, v7, S))) else (g_bd (f_X7_startTrial fu v0 S) fun _ Sr1 => g_ld g_KC 90 g_kX2 (Sr1.2 v0 1) fun a2 => g_ld g_KC 90 (.inr (3, 4, true)) (Sr1.2 a2 0) fun a3 => g_ix v1 4 fun i4 => g_ld g_KC 90 g_kX1 (Sr1.2 a3 i4) fun a4 => g_bd (f_X1_change fu a4 v2 v8 Sr1) fun _ Sr5 => g_ld g_KC 90 g_kX2 (Sr5.2 v0 1) fun a6 => g_bd (f_X2_runOn fu a6 v4 Sr5) fun r7 Sr7 => if r7 ≤ v6 then (j_X7_bestChange_60_in9 fu v0 v1 v2 v3 v4 v5 v6 v7 v8 Sr7) else (j_X7_bestChange_60_in9 fu v0 v1 v2 v3 v4 v5 r7 v8 v8 Sr7))
def f_X7_bestChange (fu : Nat) (o : Nat) (p0 : Int32) (p1 : Int32) (p2 : Int32) (p3 : Int32) (p4 : Int32) (S : g_St) : Option (Int32 × g_St) :=
  g_th (g_lp (fun t => b_X7_bestChange_9 fu o p0 p1 p2 p3 p4 t.1 t.2.1 t.2.2.1 t.2.2.2) fu ((-1 : Int32), (0 : Int32), (0 : Int32), S)) fun e => match e with | (w6_1, w7_1, S1) => if p4 = 0 then (some (w7_1, S1)) else (some (w6_1, S1))
set_option maxRecDepth 100000 in
set_option maxHeartbeats 400000 in
theorem vj_X7_bestChange_60_in9 {x : g_CX} {z : Int32 × g_St} {fu : Nat} (X : g_X 90 x cX7_bestChange RX7 10 wsX7_bestChange rm_X7_bestChange (some .int)) (v0 : Nat) (v1 : Int32) (v2 : Int32) (v3 : Int32) (v4 : Int32) (v5 : Int32) (v6 : Int32) (v7 : Int32) (v8 : Int32) (hk_v0 : v0 < 90 ∧ g_KC v0 = g_kX7) (S : g_St) {r : (Int32 × Int32 × Int32 × g_St) ⊕ (Int32 × Int32 × g_St)} (h : j_X7_bestChange_60_in9 fu v0 v1 v2 v3 v4 v5 v6 v7 v8 S = some r) (hc : Sum.elim (fun t : Int32 × Int32 × Int32 × g_St => g_V g_KC 90 x 10 (g_qi g_KC 90 x z) t.2.2.2 9 [(0, .ref (g_ad x v0)), (1, .int (v1)), (2, .int (v2)), (3, .int (v3)), (4, .int (v4)), (5, .int (v5)), (6, .int (t.1)), (7, .int (t.2.1)), (8, .int (t.2.2.1))] []) (fun e : Int32 × Int32 × g_St => g_V g_KC 90 x 10 (g_qi g_KC 90 x z) e.2.2 66 [(5, .int (v5)), (6, .int (e.1)), (7, .int (e.2.1))] []) r) : g_V g_KC 90 x 10 (g_qi g_KC 90 x z) S 60 [(0, .ref (g_ad x v0)), (1, .int (v1)), (2, .int (v2)), (3, .int (v3)), (4, .int (v4)), (5, .int (v5)), (6, .int (v6)), (7, .int (v7)), (8, .int (v8))] [] := by
  unfold j_X7_bestChange_60_in9 at h
  refine g_iinc X [(8, _), (0, _), (1, _), (2, _), (3, _), (4, _), (5, _), (6, _), (7, _)] dX7_bestChange_60 8 rfl rfl (by decide) rfl ?_
  refine g_goto X 9 dX7_bestChange_63 (by decide) ?_
  cases h
  exact g_sub [1, 2, 3, 4, 5, 6, 7, 8, 0] _ rfl hc
set_option maxRecDepth 100000 in
set_option maxHeartbeats 400000 in
theorem vb_X7_bestChange_9 {x : g_CX} {z : Int32 × g_St} {fu : Nat} (X : g_X 90 x cX7_bestChange RX7 10 wsX7_bestChange rm_X7_bestChange (some .int)) (v0 : Nat) (v1 : Int32) (v2 : Int32) (v3 : Int32) (v4 : Int32) (v5 : Int32) (v6 : Int32) (v7 : Int32) (v8 : Int32) (hk_v0 : v0 < 90 ∧ g_KC v0 = g_kX7) (S : g_St) {r : (Int32 × Int32 × Int32 × g_St) ⊕ (Int32 × Int32 × g_St)} (h : b_X7_bestChange_9 fu v0 v1 v2 v3 v4 v5 v6 v7 v8 S = some r) (hc : Sum.elim (fun t : Int32 × Int32 × Int32 × g_St => g_V g_KC 90 x 10 (g_qi g_KC 90 x z) t.2.2.2 9 [(0, .ref (g_ad x v0)), (1, .int (v1)), (2, .int (v2)), (3, .int (v3)), (4, .int (v4)), (5, .int (v5)), (6, .int (t.1)), (7, .int (t.2.1)), (8, .int (t.2.2.1))] []) (fun e : Int32 × Int32 × g_St => g_V g_KC 90 x 10 (g_qi g_KC 90 x z) e.2.2 66 [(5, .int (v5)), (6, .int (e.1)), (7, .int (e.2.1))] []) r) : g_V g_KC 90 x 10 (g_qi g_KC 90 x z) S 9 [(0, .ref (g_ad x v0)), (1, .int (v1)), (2, .int (v2)), (3, .int (v3)), (4, .int (v4)), (5, .int (v5)), (6, .int (v6)), (7, .int (v7)), (8, .int (v8))] [] := by
  unfold b_X7_bestChange_9 at h
  refine g_iload X dX7_bestChange_9 8 rfl ?_
  refine g_iload_n X dX7_bestChange_11 3 rfl ?_
  refine g_icmp_gt X 66 dX7_bestChange_12 (by decide) h (fun c_12 h => ?_) (fun c_12 h => ?_)
  · skip
    cases h
    exact g_sub [5, 6, 7] _ rfl hc
  · skip
    refine g_aload_n X dX7_bestChange_15 0 rfl ?_
    refine g_callVv X g_cX7 hk_v0 [] rfl (cwV 0 X.2.2.2.2.1 gX7_bestChange_X7_startTrial rfl rfl rfl hd_X7_startTrial ⟨Nat.le_of_ble_eq_true rfl, Nat.le_of_ble_eq_true rfl⟩) (Nat.le_of_ble_eq_true rfl) dX7_bestChange_16 h (fun q hq => ct_X7_startTrial X.2.2.2.2.2.2.1 v0 hk_v0 _ hq) (fun _ Sr1 h => ?_)
    refine g_aload_n X dX7_bestChange_19 0 rfl ?_
    refine g_getr X g_cX7 w_X7_bestChange_inX7 1 (by decide) w_X7_bestChange_16 hk_v0 rfl dX7_bestChange_20 h (fun a2 hk_a2 h => ?_)
    refine g_getr X g_cX2 w_X7_bestChange_inX2 0 (by decide) w_X7_bestChange_115 hk_a2 rfl dX7_bestChange_23 h (fun a3 hk_a3 h => ?_)
    refine g_iload_n X dX7_bestChange_26 1 rfl ?_
    refine g_aald X 3 RX1 rfl hk_a3 dX7_bestChange_27 h (fun a4 hk_a4 h => ?_)
    refine g_iload_n X dX7_bestChange_28 2 rfl ?_
    refine g_iload X dX7_bestChange_29 8 rfl ?_
    refine g_callVv X g_cX1 hk_a4 [.int (v2), .int (v8)] rfl (cwV 2 X.2.2.2.2.1 gX7_bestChange_X1_change rfl rfl rfl hd_X1_change ⟨Nat.le_of_ble_eq_true rfl, Nat.le_of_ble_eq_true rfl⟩) (Nat.le_of_ble_eq_true rfl) dX7_bestChange_31 h (fun q hq => ct_X1_change X.2.2.2.2.2.2.1 a4 v2 v8 hk_a4 _ hq) (fun _ Sr5 h => ?_)
    refine g_aload_n X dX7_bestChange_34 0 rfl ?_
    refine g_getr X g_cX7 w_X7_bestChange_inX7 1 (by decide) w_X7_bestChange_16 hk_v0 rfl dX7_bestChange_35 h (fun a6 hk_a6 h => ?_)
    refine g_iload X dX7_bestChange_38 4 rfl ?_
    refine g_callVi X g_cX2 hk_a6 [.int (v4)] rfl (cwV 1 X.2.2.2.2.1 gX7_bestChange_X2_runOn rfl rfl rfl hd_X2_runOn ⟨Nat.le_of_ble_eq_true rfl, Nat.le_of_ble_eq_true rfl⟩) (Nat.le_of_ble_eq_true rfl) dX7_bestChange_40 h (fun q hq => ct_X2_runOn X.2.2.2.2.2.2.1 a6 v4 hk_a6 _ hq) (fun r7 Sr7 h => ?_)
    refine g_istore X [(9, _), (0, _), (1, _), (2, _), (3, _), (4, _), (5, _), (6, _), (7, _), (8, _)] dX7_bestChange_43 (by decide) rfl ?_
    refine g_iload X dX7_bestChange_45 0 rfl ?_
    refine g_iload X dX7_bestChange_47 7 rfl ?_
    refine g_icmp_le X 60 dX7_bestChange_49 (by decide) h (fun c_49 h => ?_) (fun c_49 h => ?_)
    · skip
      refine g_sub [1, 2, 3, 4, 5, 6, 7, 8, 9] _ rfl ?_
      exact vj_X7_bestChange_60_in9 X v0 v1 v2 v3 v4 v5 v6 v7 v8 hk_v0 _ h hc
    · skip
      refine g_iload X dX7_bestChange_52 0 rfl ?_
      refine g_istore X [(6, _), (9, _), (0, _), (1, _), (2, _), (3, _), (4, _), (5, _), (7, _), (8, _)] dX7_bestChange_54 (by decide) rfl ?_
      refine g_iload X dX7_bestChange_56 9 rfl ?_
      refine g_istore X [(7, _), (6, _), (9, _), (0, _), (1, _), (2, _), (3, _), (4, _), (5, _), (8, _)] dX7_bestChange_58 (by decide) rfl ?_
      refine g_sub [3, 4, 5, 6, 7, 8, 1, 0, 9] _ rfl ?_
      exact vj_X7_bestChange_60_in9 X v0 v1 v2 v3 v4 v5 r7 v8 v8 hk_v0 _ h hc
set_option maxRecDepth 100000 in
set_option maxHeartbeats 400000 in
theorem ct_X7_bestChange {l : Launch} {D : va_G} {ad : Nat → Nat} {cy : Nat → ClassId} {zz : (Nat → Nat) × (Nat → Nat)} (hinj : ∀ i j, i < 90 → j < 90 → ad i = ad j → i = j) {fu : Nat} (o : Nat) (p0 : Int32) (p1 : Int32) (p2 : Int32) (p3 : Int32) (p4 : Int32) (hk_o : o < 90 ∧ g_KC o = g_kX7) {S : g_St} (z : Int32 × g_St) (h : f_X7_bestChange fu o p0 p1 p2 p3 p4 S = some z) : g_Mi l g_KC 90 D ad cy zz yX7_bestChange wsX7_bestChange rm_X7_bestChange [.ref (ad o), .int (p0), .int (p1), .int (p2), .int (p3), .int (p4)] S z := by
  refine g_ofi hinj (cc := cX7_bestChange) (maxL := 10) (ret := (some .int)) (lv := [(0, .ref (ad o)), (1, .int (p0)), (2, .int (p1)), (3, .int (p2)), (4, .int (p3)), (5, .int (p4))]) (by decide) rfl (Nat.le_of_ble_eq_true rfl) rfl ?_
  intro x X hl hD ha hy hz
  subst hl hD ha hy hz
  unfold f_X7_bestChange at h
  refine g_iconst X (v := (-1)) dX7_bestChange_0 (by decide) ?_
  refine g_istore X [(6, _), (0, _), (1, _), (2, _), (3, _), (4, _), (5, _)] dX7_bestChange_1 (by decide) rfl ?_
  refine g_iconst X (v := 0) dX7_bestChange_3 (by decide) ?_
  refine g_istore X [(7, _), (6, _), (0, _), (1, _), (2, _), (3, _), (4, _), (5, _)] dX7_bestChange_4 (by decide) rfl ?_
  refine g_iconst X (v := 0) dX7_bestChange_6 (by decide) ?_
  refine g_istore X [(8, _), (7, _), (6, _), (0, _), (1, _), (2, _), (3, _), (4, _), (5, _)] dX7_bestChange_7 (by decide) rfl ?_
  obtain ⟨e, he, h⟩ := g_th_s h
  refine g_sub [3, 4, 5, 6, 7, 8, 2, 1, 0] _ rfl ?_
  refine g_lp_w (body := (fun t => b_X7_bestChange_9 fu o p0 p1 p2 p3 p4 t.1 t.2.1 t.2.2.1 t.2.2.2)) (P := fun t : Int32 × Int32 × Int32 × g_St => g_V g_KC 90 x 10 (g_qi g_KC 90 x z) t.2.2.2 9 [(0, .ref (g_ad x o)), (1, .int (p0)), (2, .int (p1)), (3, .int (p2)), (4, .int (p3)), (5, .int (p4)), (6, .int (t.1)), (7, .int (t.2.1)), (8, .int (t.2.2.1))] []) (E := (fun e : Int32 × Int32 × g_St => g_V g_KC 90 x 10 (g_qi g_KC 90 x z) e.2.2 66 [(5, .int (p4)), (6, .int (e.1)), (7, .int (e.2.1))] [])) (fun t r hb hc => vb_X7_bestChange_9 X o p0 p1 p2 p3 p4 t.1 t.2.1 t.2.2.1 hk_o t.2.2.2 hb hc) fu ((-1 : Int32), (0 : Int32), (0 : Int32), S) e he ?_
  obtain ⟨w6_1, w7_1, S1⟩ := e
  show g_V g_KC 90 x 10 (g_qi g_KC 90 x z) S1 66 [(5, .int (p4)), (6, .int (w6_1)), (7, .int (w7_1))] []
  refine g_iload X dX7_bestChange_66 0 rfl ?_
  refine g_if_ne X 76 dX7_bestChange_68 (by decide) h (fun c_68 h => ?_) (fun c_68 h => ?_)
  · skip
    refine g_iload X dX7_bestChange_76 1 rfl ?_
    exact g_iret X h dX7_bestChange_78
  · skip
    refine g_iload X dX7_bestChange_71 2 rfl ?_
    refine g_goto X 78 dX7_bestChange_73 (by decide) ?_
    exact g_iret X h dX7_bestChange_78
abbrev rm_X7_kind : Room := { frames := 7, cells := 0, slots := 0, locals := 163 }
theorem hd_X7_kind : yX7_kind.cls = RX7 ∧ yX7_kind.cls ≠ "java/lang/invoke/MethodHandle" ∧ yX7_kind.cls ≠ "java/lang/invoke/VarHandle" ∧ (parseMethodDescriptor yX7_kind.desc).map (fun d => d.parameters.length) = some 3 := by decide +kernel
def f_X7_kind (fu : Nat) (o : Nat) (p0 : Int32) (p1 : Int32) (p2 : Int32) (S : g_St) : Option (Int32 × g_St) :=
  g_bd (f_X7_isDoor fu o p0 S) fun r1 Sr1 => if r1 = 0 then (some ((-1 : Int32), Sr1)) else (g_bd (f_X7_isRun fu p1 Sr1) fun r2 Sr2 => if r2 = 0 then (some ((-1 : Int32), Sr2)) else (g_bd (f_X7_isChoice fu p2 Sr2) fun r3 Sr3 => if r3 = 0 then (some ((-1 : Int32), Sr3)) else (g_bd (f_X7_bestChange fu o p0 ((0 : Int32)) ((3 : Int32)) p1 p2 Sr3) fun r4 Sr4 => some (r4, Sr4))))
set_option maxRecDepth 100000 in
set_option maxHeartbeats 400000 in
theorem ct_X7_kind {l : Launch} {D : va_G} {ad : Nat → Nat} {cy : Nat → ClassId} {zz : (Nat → Nat) × (Nat → Nat)} (hinj : ∀ i j, i < 90 → j < 90 → ad i = ad j → i = j) {fu : Nat} (o : Nat) (p0 : Int32) (p1 : Int32) (p2 : Int32) (hk_o : o < 90 ∧ g_KC o = g_kX7) {S : g_St} (z : Int32 × g_St) (h : f_X7_kind fu o p0 p1 p2 S = some z) : g_Mi l g_KC 90 D ad cy zz yX7_kind wsX7_kind rm_X7_kind [.ref (ad o), .int (p0), .int (p1), .int (p2)] S z := by
  refine g_ofi hinj (cc := cX7_kind) (maxL := 4) (ret := (some .int)) (lv := [(0, .ref (ad o)), (1, .int (p0)), (2, .int (p1)), (3, .int (p2))]) (by decide) rfl (Nat.le_of_ble_eq_true rfl) rfl ?_
  intro x X hl hD ha hy hz
  subst hl hD ha hy hz
  unfold f_X7_kind at h
  refine g_aload_n X dX7_kind_0 0 rfl ?_
  refine g_iload_n X dX7_kind_1 1 rfl ?_
  refine g_callVi X g_cX7 hk_o [.int (p0)] rfl (cwV 1 X.2.2.2.2.1 gX7_kind_X7_isDoor rfl rfl rfl hd_X7_isDoor ⟨Nat.le_of_ble_eq_true rfl, Nat.le_of_ble_eq_true rfl⟩) (Nat.le_of_ble_eq_true rfl) dX7_kind_2 h (fun q hq => ct_X7_isDoor X.2.2.2.2.2.2.1 o p0 hk_o _ hq) (fun r1 Sr1 h => ?_)
  refine g_if_eq X 22 dX7_kind_5 (by decide) h (fun c_5 h => ?_) (fun c_5 h => ?_)
  · skip
    refine g_iconst X (v := (-1)) dX7_kind_22 (by decide) ?_
    exact g_iret X h dX7_kind_23
  · skip
    refine g_iload_n X dX7_kind_8 2 rfl ?_
    refine g_callSi X [.int (p1)] rfl (va_cwS 1 X.2.2.2.2.1 gX7_kind_X7_isRun rfl rfl rfl hd_X7_isRun ⟨Nat.le_of_ble_eq_true rfl, Nat.le_of_ble_eq_true rfl⟩) (Nat.le_of_ble_eq_true rfl) dX7_kind_9 h (fun q hq => ct_X7_isRun X.2.2.2.2.2.2.1 p1  _ hq) (fun r2 Sr2 h => ?_)
    refine g_if_eq X 22 dX7_kind_12 (by decide) h (fun c_12 h => ?_) (fun c_12 h => ?_)
    · skip
      refine g_iconst X (v := (-1)) dX7_kind_22 (by decide) ?_
      exact g_iret X h dX7_kind_23
    · skip
      refine g_iload_n X dX7_kind_15 3 rfl ?_
      refine g_callSi X [.int (p2)] rfl (va_cwS 1 X.2.2.2.2.1 gX7_kind_X7_isChoice rfl rfl rfl hd_X7_isChoice ⟨Nat.le_of_ble_eq_true rfl, Nat.le_of_ble_eq_true rfl⟩) (Nat.le_of_ble_eq_true rfl) dX7_kind_16 h (fun q hq => ct_X7_isChoice X.2.2.2.2.2.2.1 p2  _ hq) (fun r3 Sr3 h => ?_)
      refine g_if_ne X 24 dX7_kind_19 (by decide) h (fun c_19 h => ?_) (fun c_19 h => ?_)
      · skip
        refine g_aload_n X dX7_kind_24 0 rfl ?_
        refine g_iload_n X dX7_kind_25 1 rfl ?_
        refine g_iconst X (v := 0) dX7_kind_26 (by decide) ?_
        refine g_iconst X (v := 3) dX7_kind_27 (by decide) ?_
        refine g_iload_n X dX7_kind_28 2 rfl ?_
        refine g_iload_n X dX7_kind_29 3 rfl ?_
        refine g_callVi X g_cX7 hk_o [.int (p0), .int ((0 : Int32)), .int ((3 : Int32)), .int (p1), .int (p2)] rfl (cwV 5 X.2.2.2.2.1 gX7_kind_X7_bestChange rfl rfl rfl hd_X7_bestChange ⟨Nat.le_of_ble_eq_true rfl, Nat.le_of_ble_eq_true rfl⟩) (Nat.le_of_ble_eq_true rfl) dX7_kind_30 h (fun q hq => ct_X7_bestChange X.2.2.2.2.2.2.1 o p0 ((0 : Int32)) ((3 : Int32)) p1 p2 hk_o _ hq) (fun r4 Sr4 h => ?_)
        exact g_iret X h dX7_kind_33
      · skip
        refine g_iconst X (v := (-1)) dX7_kind_22 (by decide) ?_
        exact g_iret X h dX7_kind_23
abbrev rm_X7_fill : Room := { frames := 7, cells := 0, slots := 0, locals := 163 }
theorem hd_X7_fill : yX7_fill.cls = RX7 ∧ yX7_fill.cls ≠ "java/lang/invoke/MethodHandle" ∧ yX7_fill.cls ≠ "java/lang/invoke/VarHandle" ∧ (parseMethodDescriptor yX7_fill.desc).map (fun d => d.parameters.length) = some 3 := by decide +kernel
theorem w_X7_fill_10 : Cond.fieldLink RX7 10 "TokenDoors" "now" "LTokenDoors$Hall;" ∈ wsX7_fill := by decide +kernel
theorem w_X7_fill_inX7 : ∀ w ∈ wsX70, w ∈ wsX7_fill := by decide +kernel
theorem w_X7_fill_115 : Cond.fieldLink RX7 115 "TokenDoors$Hall" "doors" "[LTokenDoors$Door;" ∈ wsX7_fill := by decide +kernel
theorem w_X7_fill_inX2 : ∀ w ∈ wsX20, w ∈ wsX7_fill := by decide +kernel
theorem w_X7_fill_145 : Cond.fieldLink RX7 145 "TokenDoors$Door" "depth" "I" ∈ wsX7_fill := by decide +kernel
theorem w_X7_fill_inX1 : ∀ w ∈ wsX10, w ∈ wsX7_fill := by decide +kernel
def f_X7_fill (fu : Nat) (o : Nat) (p0 : Int32) (p1 : Int32) (p2 : Int32) (S : g_St) : Option (Int32 × g_St) :=
  g_bd (f_X7_isDoor fu o p0 S) fun r1 Sr1 => if r1 = 0 then (some ((-1 : Int32), Sr1)) else (g_bd (f_X7_isRun fu p1 Sr1) fun r2 Sr2 => if r2 = 0 then (some ((-1 : Int32), Sr2)) else (g_bd (f_X7_isChoice fu p2 Sr2) fun r3 Sr3 => if r3 = 0 then (some ((-1 : Int32), Sr3)) else (g_ld g_KC 90 g_kX2 (Sr3.2 o 0) fun a4 => g_ld g_KC 90 (.inr (3, 4, true)) (Sr3.2 a4 0) fun a5 => g_ix p0 4 fun i6 => g_ld g_KC 90 g_kX1 (Sr3.2 a5 i6) fun a6 => g_bd (f_X7_bestChange fu o p0 ((3 : Int32)) ((Sr3.1 a6 1)) p1 p2 Sr3) fun r7 Sr7 => some (r7, Sr7))))
set_option maxRecDepth 100000 in
set_option maxHeartbeats 400000 in
theorem ct_X7_fill {l : Launch} {D : va_G} {ad : Nat → Nat} {cy : Nat → ClassId} {zz : (Nat → Nat) × (Nat → Nat)} (hinj : ∀ i j, i < 90 → j < 90 → ad i = ad j → i = j) {fu : Nat} (o : Nat) (p0 : Int32) (p1 : Int32) (p2 : Int32) (hk_o : o < 90 ∧ g_KC o = g_kX7) {S : g_St} (z : Int32 × g_St) (h : f_X7_fill fu o p0 p1 p2 S = some z) : g_Mi l g_KC 90 D ad cy zz yX7_fill wsX7_fill rm_X7_fill [.ref (ad o), .int (p0), .int (p1), .int (p2)] S z := by
  refine g_ofi hinj (cc := cX7_fill) (maxL := 4) (ret := (some .int)) (lv := [(0, .ref (ad o)), (1, .int (p0)), (2, .int (p1)), (3, .int (p2))]) (by decide) rfl (Nat.le_of_ble_eq_true rfl) rfl ?_
  intro x X hl hD ha hy hz
  subst hl hD ha hy hz
  unfold f_X7_fill at h
  refine g_aload_n X dX7_fill_0 0 rfl ?_
  refine g_iload_n X dX7_fill_1 1 rfl ?_
  refine g_callVi X g_cX7 hk_o [.int (p0)] rfl (cwV 1 X.2.2.2.2.1 gX7_fill_X7_isDoor rfl rfl rfl hd_X7_isDoor ⟨Nat.le_of_ble_eq_true rfl, Nat.le_of_ble_eq_true rfl⟩) (Nat.le_of_ble_eq_true rfl) dX7_fill_2 h (fun q hq => ct_X7_isDoor X.2.2.2.2.2.2.1 o p0 hk_o _ hq) (fun r1 Sr1 h => ?_)
  refine g_if_eq X 22 dX7_fill_5 (by decide) h (fun c_5 h => ?_) (fun c_5 h => ?_)
  · skip
    refine g_iconst X (v := (-1)) dX7_fill_22 (by decide) ?_
    exact g_iret X h dX7_fill_23
  · skip
    refine g_iload_n X dX7_fill_8 2 rfl ?_
    refine g_callSi X [.int (p1)] rfl (va_cwS 1 X.2.2.2.2.1 gX7_fill_X7_isRun rfl rfl rfl hd_X7_isRun ⟨Nat.le_of_ble_eq_true rfl, Nat.le_of_ble_eq_true rfl⟩) (Nat.le_of_ble_eq_true rfl) dX7_fill_9 h (fun q hq => ct_X7_isRun X.2.2.2.2.2.2.1 p1  _ hq) (fun r2 Sr2 h => ?_)
    refine g_if_eq X 22 dX7_fill_12 (by decide) h (fun c_12 h => ?_) (fun c_12 h => ?_)
    · skip
      refine g_iconst X (v := (-1)) dX7_fill_22 (by decide) ?_
      exact g_iret X h dX7_fill_23
    · skip
      refine g_iload_n X dX7_fill_15 3 rfl ?_
      refine g_callSi X [.int (p2)] rfl (va_cwS 1 X.2.2.2.2.1 gX7_fill_X7_isChoice rfl rfl rfl hd_X7_isChoice ⟨Nat.le_of_ble_eq_true rfl, Nat.le_of_ble_eq_true rfl⟩) (Nat.le_of_ble_eq_true rfl) dX7_fill_16 h (fun q hq => ct_X7_isChoice X.2.2.2.2.2.2.1 p2  _ hq) (fun r3 Sr3 h => ?_)
      refine g_if_ne X 24 dX7_fill_19 (by decide) h (fun c_19 h => ?_) (fun c_19 h => ?_)
      · skip
        refine g_aload_n X dX7_fill_24 0 rfl ?_
        refine g_iload_n X dX7_fill_25 1 rfl ?_
        refine g_iconst X (v := 3) dX7_fill_26 (by decide) ?_
        refine g_aload_n X dX7_fill_27 0 rfl ?_
        refine g_getr X g_cX7 w_X7_fill_inX7 0 (by decide) w_X7_fill_10 hk_o rfl dX7_fill_28 h (fun a4 hk_a4 h => ?_)
        refine g_getr X g_cX2 w_X7_fill_inX2 0 (by decide) w_X7_fill_115 hk_a4 rfl dX7_fill_31 h (fun a5 hk_a5 h => ?_)
        refine g_iload_n X dX7_fill_34 1 rfl ?_
        refine g_aald X 3 RX1 rfl hk_a5 dX7_fill_35 h (fun a6 hk_a6 h => ?_)
        refine g_geti X g_cX1 w_X7_fill_inX1 1 (by decide) w_X7_fill_145 hk_a6 rfl dX7_fill_36 ?_
        refine g_iload_n X dX7_fill_39 2 rfl ?_
        refine g_iload_n X dX7_fill_40 3 rfl ?_
        refine g_callVi X g_cX7 hk_o [.int (p0), .int ((3 : Int32)), .int ((Sr3.1 a6 1)), .int (p1), .int (p2)] rfl (cwV 5 X.2.2.2.2.1 gX7_fill_X7_bestChange rfl rfl rfl hd_X7_bestChange ⟨Nat.le_of_ble_eq_true rfl, Nat.le_of_ble_eq_true rfl⟩) (Nat.le_of_ble_eq_true rfl) dX7_fill_41 h (fun q hq => ct_X7_bestChange X.2.2.2.2.2.2.1 o p0 ((3 : Int32)) ((Sr3.1 a6 1)) p1 p2 hk_o _ hq) (fun r7 Sr7 h => ?_)
        exact g_iret X h dX7_fill_44
      · skip
        refine g_iconst X (v := (-1)) dX7_fill_22 (by decide) ?_
        exact g_iret X h dX7_fill_23
abbrev rm_X7_isOdds : Room := { frames := 0, cells := 0, slots := 0, locals := 0 }
theorem hd_X7_isOdds : yX7_isOdds.cls ≠ "java/lang/invoke/MethodHandle" ∧ yX7_isOdds.cls ≠ "java/lang/invoke/VarHandle" ∧ (parseMethodDescriptor yX7_isOdds.desc).map (fun d => d.parameters.length) = some 2 := by decide +kernel
def f_X7_isOdds (fu : Nat) (p0 : Int32) (p1 : Int32) (S : g_St) : Option (Int32 × g_St) :=
  if p0 < 0 then (g_zb (0 : Int32) (some ((0 : Int32), S))) else (if (10 : Int32) < p0 then (g_zb (0 : Int32) (some ((0 : Int32), S))) else (if p1 < 0 then (g_zb (0 : Int32) (some ((0 : Int32), S))) else (if (8 : Int32) < p1 then (g_zb (0 : Int32) (some ((0 : Int32), S))) else (g_zb (1 : Int32) (some ((1 : Int32), S))))))
set_option maxRecDepth 100000 in
set_option maxHeartbeats 400000 in
theorem ct_X7_isOdds {l : Launch} {D : va_G} {ad : Nat → Nat} {cy : Nat → ClassId} {zz : (Nat → Nat) × (Nat → Nat)} (hinj : ∀ i j, i < 90 → j < 90 → ad i = ad j → i = j) {fu : Nat} (p0 : Int32) (p1 : Int32)  {S : g_St} (z : Int32 × g_St) (h : f_X7_isOdds fu p0 p1 S = some z) : g_Mi l g_KC 90 D ad cy zz yX7_isOdds wsX7_isOdds rm_X7_isOdds [.int (p0), .int (p1)] S z := by
  refine g_ofi hinj (cc := cX7_isOdds) (maxL := 2) (ret := (some .boolean)) (lv := [(0, .int (p0)), (1, .int (p1))]) (by decide) rfl (Nat.le_of_ble_eq_true rfl) rfl ?_
  intro x X hl hD ha hy hz
  subst hl hD ha hy hz
  unfold f_X7_isOdds at h
  refine g_iload_n X dX7_isOdds_0 0 rfl ?_
  refine g_if_lt X 24 dX7_isOdds_1 (by decide) h (fun c_1 h => ?_) (fun c_1 h => ?_)
  · skip
    refine g_iconst X (v := 0) dX7_isOdds_24 (by decide) ?_
    exact g_zret X h dX7_isOdds_25
  · skip
    refine g_iload_n X dX7_isOdds_4 0 rfl ?_
    refine g_bipush X (v := (10)) dX7_isOdds_5 (by decide) ?_
    refine g_icmp_gt X 24 dX7_isOdds_7 (by decide) h (fun c_7 h => ?_) (fun c_7 h => ?_)
    · skip
      refine g_iconst X (v := 0) dX7_isOdds_24 (by decide) ?_
      exact g_zret X h dX7_isOdds_25
    · skip
      refine g_iload_n X dX7_isOdds_10 1 rfl ?_
      refine g_if_lt X 24 dX7_isOdds_11 (by decide) h (fun c_11 h => ?_) (fun c_11 h => ?_)
      · skip
        refine g_iconst X (v := 0) dX7_isOdds_24 (by decide) ?_
        exact g_zret X h dX7_isOdds_25
      · skip
        refine g_iload_n X dX7_isOdds_14 1 rfl ?_
        refine g_bipush X (v := (8)) dX7_isOdds_15 (by decide) ?_
        refine g_icmp_gt X 24 dX7_isOdds_17 (by decide) h (fun c_17 h => ?_) (fun c_17 h => ?_)
        · skip
          refine g_iconst X (v := 0) dX7_isOdds_24 (by decide) ?_
          exact g_zret X h dX7_isOdds_25
        · skip
          refine g_iconst X (v := 1) dX7_isOdds_20 (by decide) ?_
          refine g_goto X 25 dX7_isOdds_21 (by decide) ?_
          exact g_zret X h dX7_isOdds_25
abbrev rm_X7_power : Room := { frames := 0, cells := 0, slots := 0, locals := 0 }
theorem hd_X7_power : yX7_power.cls ≠ "java/lang/invoke/MethodHandle" ∧ yX7_power.cls ≠ "java/lang/invoke/VarHandle" ∧ (parseMethodDescriptor yX7_power.desc).map (fun d => d.parameters.length) = some 2 := by decide +kernel
def b_X7_power_5 (fu : Nat) (v0 : Int32) (v1 : Int32) (v2 : Int64) (v4 : Int32) (S : g_St) : Option ((Int64 × Int32 × g_St) ⊕ (Int64 × g_St)) :=
  if v1 ≤ v4 then (some (.inr (v2, S))) else (some (.inl ((v2 * (Int32.toInt64 v0)), (v4 + 1), S)))
def f_X7_power (fu : Nat) (p0 : Int32) (p1 : Int32) (S : g_St) : Option (Int64 × g_St) :=
  g_th (g_lp (fun t => b_X7_power_5 fu p0 p1 t.1 t.2.1 t.2.2) fu ((1 : Int64), (0 : Int32), S)) fun e => match e with | (w2_1, S1) => some (w2_1, S1)
set_option maxRecDepth 100000 in
set_option maxHeartbeats 400000 in
theorem vb_X7_power_5 {x : g_CX} {z : Int64 × g_St} {fu : Nat} (X : g_X 90 x cX7_power RX7 5 wsX7_power rm_X7_power (some .long)) (v0 : Int32) (v1 : Int32) (v2 : Int64) (v4 : Int32)  (S : g_St) {r : (Int64 × Int32 × g_St) ⊕ (Int64 × g_St)} (h : b_X7_power_5 fu v0 v1 v2 v4 S = some r) (hc : Sum.elim (fun t : Int64 × Int32 × g_St => g_V g_KC 90 x 5 (g_ql g_KC 90 x z) t.2.2 5 [(0, .int (v0)), (1, .int (v1)), (2, .long (t.1)), (4, .int (t.2.1))] []) (fun e : Int64 × g_St => g_V g_KC 90 x 5 (g_ql g_KC 90 x z) e.2 22 [(2, .long (e.1))] []) r) : g_V g_KC 90 x 5 (g_ql g_KC 90 x z) S 5 [(0, .int (v0)), (1, .int (v1)), (2, .long (v2)), (4, .int (v4))] [] := by
  unfold b_X7_power_5 at h
  refine g_iload X dX7_power_5 3 rfl ?_
  refine g_iload_n X dX7_power_7 1 rfl ?_
  refine g_icmp_ge X 22 dX7_power_8 (by decide) h (fun c_8 h => ?_) (fun c_8 h => ?_)
  · skip
    cases h
    exact g_sub [2] _ rfl hc
  · skip
    refine g_lload_n X dX7_power_11 2 rfl ?_
    refine g_iload_n X dX7_power_12 0 rfl ?_
    refine g_i2l X dX7_power_13 ?_
    refine g_lmul X dX7_power_14 ?_
    refine g_lstore_n X [(2, _), (0, _), (1, _), (4, _)] dX7_power_15 (by decide) rfl ?_
    refine g_iinc X [(4, _), (2, _), (0, _), (1, _)] dX7_power_16 3 rfl rfl (by decide) rfl ?_
    refine g_goto X 5 dX7_power_19 (by decide) ?_
    cases h
    exact g_sub [2, 3, 1, 0] _ rfl hc
set_option maxRecDepth 100000 in
set_option maxHeartbeats 400000 in
theorem ct_X7_power {l : Launch} {D : va_G} {ad : Nat → Nat} {cy : Nat → ClassId} {zz : (Nat → Nat) × (Nat → Nat)} (hinj : ∀ i j, i < 90 → j < 90 → ad i = ad j → i = j) {fu : Nat} (p0 : Int32) (p1 : Int32)  {S : g_St} (z : Int64 × g_St) (h : f_X7_power fu p0 p1 S = some z) : g_Ml l g_KC 90 D ad cy zz yX7_power wsX7_power rm_X7_power [.int (p0), .int (p1)] S z := by
  refine g_ofl hinj (cc := cX7_power) (maxL := 5) (ret := (some .long)) (lv := [(0, .int (p0)), (1, .int (p1))]) (by decide) rfl (Nat.le_of_ble_eq_true rfl) rfl ?_
  intro x X hl hD ha hy hz
  subst hl hD ha hy hz
  unfold f_X7_power at h
  refine g_lconst X (v := 1) dX7_power_0 (by decide) ?_
  refine g_lstore_n X [(2, _), (0, _), (1, _)] dX7_power_1 (by decide) rfl ?_
  refine g_iconst X (v := 0) dX7_power_2 (by decide) ?_
  refine g_istore X [(4, _), (2, _), (0, _), (1, _)] dX7_power_3 (by decide) rfl ?_
  obtain ⟨e, he, h⟩ := g_th_s h
  refine g_sub [2, 3, 1, 0] _ rfl ?_
  refine g_lp_w (body := (fun t => b_X7_power_5 fu p0 p1 t.1 t.2.1 t.2.2)) (P := fun t : Int64 × Int32 × g_St => g_V g_KC 90 x 5 (g_ql g_KC 90 x z) t.2.2 5 [(0, .int (p0)), (1, .int (p1)), (2, .long (t.1)), (4, .int (t.2.1))] []) (E := (fun e : Int64 × g_St => g_V g_KC 90 x 5 (g_ql g_KC 90 x z) e.2 22 [(2, .long (e.1))] [])) (fun t r hb hc => vb_X7_power_5 X p0 p1 t.1 t.2.1 t.2.2 hb hc) fu ((1 : Int64), (0 : Int32), S) e he ?_
  obtain ⟨w2_1, S1⟩ := e
  show g_V g_KC 90 x 5 (g_ql g_KC 90 x z) S1 22 [(2, .long (w2_1))] []
  refine g_lload_n X dX7_power_22 0 rfl ?_
  exact g_lret X h dX7_power_23
abbrev rm_X7_runQuiet : Room := { frames := 4, cells := 0, slots := 0, locals := 91 }
theorem hd_X7_runQuiet : yX7_runQuiet.cls = RX7 ∧ yX7_runQuiet.cls ≠ "java/lang/invoke/MethodHandle" ∧ yX7_runQuiet.cls ≠ "java/lang/invoke/VarHandle" ∧ (parseMethodDescriptor yX7_runQuiet.desc).map (fun d => d.parameters.length) = some 2 := by decide +kernel
theorem w_X7_runQuiet_16 : Cond.fieldLink RX7 16 "TokenDoors" "trial" "LTokenDoors$Hall;" ∈ wsX7_runQuiet := by decide +kernel
theorem w_X7_runQuiet_inX7 : ∀ w ∈ wsX70, w ∈ wsX7_runQuiet := by decide +kernel
def j_X7_runQuiet_35_in6 (fu : Nat) (v0 : Nat) (v1 : Int32) (v2 : Int32) (v3 : Int32) (s0 : Nat) (s1 : Int32) (S : g_St) : Option ((Int32 × g_St) ⊕ (g_St)) :=
  g_bd (f_X2_tickWith fu s0 s1 S) fun r5 Sr5 => some (.inl ((v3 + 1), Sr5))
def b_X7_runQuiet_6 (fu : Nat) (v0 : Nat) (v1 : Int32) (v2 : Int32) (v3 : Int32) (S : g_St) : Option ((Int32 × g_St) ⊕ (g_St)) :=
  if v2 ≤ v3 then (some (.inr S)) else (g_ld g_KC 90 g_kX2 (S.2 v0 1) fun a2 => if ((v1 >>> (v3 &&& 31)) &&& (1 : Int32)) = (1 : Int32) then (j_X7_runQuiet_35_in6 fu v0 v1 v2 v3 a2 ((0 : Int32)) S) else (g_ld g_KC 90 g_kX2 (S.2 v0 1) fun a3 => g_bd (f_X2_comers fu a3 S) fun r4 Sr4 => j_X7_runQuiet_35_in6 fu v0 v1 v2 v3 a2 r4 Sr4))
def f_X7_runQuiet (fu : Nat) (o : Nat) (p0 : Int32) (p1 : Int32) (S : g_St) : Option (Unit × g_St) :=
  g_bd (f_X7_startTrial fu o S) fun _ Sr1 => g_th (g_lp (fun t => b_X7_runQuiet_6 fu o p0 p1 t.1 t.2) fu ((0 : Int32), Sr1)) fun e => match e with | S1 => some ((), S1)
set_option maxRecDepth 100000 in
set_option maxHeartbeats 400000 in
theorem vj_X7_runQuiet_35_in6 {x : g_CX} {z : Unit × g_St} {fu : Nat} (X : g_X 90 x cX7_runQuiet RX7 4 wsX7_runQuiet rm_X7_runQuiet none) (v0 : Nat) (v1 : Int32) (v2 : Int32) (v3 : Int32) (s0 : Nat) (s1 : Int32) (hk_v0 : v0 < 90 ∧ g_KC v0 = g_kX7) (hk_s0 : s0 < 90 ∧ g_KC s0 = g_kX2) (S : g_St) {r : (Int32 × g_St) ⊕ (g_St)} (h : j_X7_runQuiet_35_in6 fu v0 v1 v2 v3 s0 s1 S = some r) (hc : Sum.elim (fun t : Int32 × g_St => g_V g_KC 90 x 4 (g_qv g_KC 90 x z) t.2 6 [(0, .ref (g_ad x v0)), (1, .int (v1)), (2, .int (v2)), (3, .int (t.1))] []) (fun e : g_St => g_V g_KC 90 x 4 (g_qv g_KC 90 x z) e 45 [] []) r) : g_V g_KC 90 x 4 (g_qv g_KC 90 x z) S 35 [(0, .ref (g_ad x v0)), (1, .int (v1)), (2, .int (v2)), (3, .int (v3))] [.int (s1), .ref (g_ad x s0)] := by
  unfold j_X7_runQuiet_35_in6 at h
  refine g_callVi X g_cX2 hk_s0 [.int (s1)] rfl (cwV 1 X.2.2.2.2.1 gX7_runQuiet_X2_tickWith rfl rfl rfl hd_X2_tickWith ⟨Nat.le_of_ble_eq_true rfl, Nat.le_of_ble_eq_true rfl⟩) (Nat.le_of_ble_eq_true rfl) dX7_runQuiet_35 h (fun q hq => ct_X2_tickWith X.2.2.2.2.2.2.1 s0 s1 hk_s0 _ hq) (fun r5 Sr5 h => ?_)
  refine g_pop X dX7_runQuiet_38 rfl ?_
  refine g_iinc X [(3, _), (0, _), (1, _), (2, _)] dX7_runQuiet_39 3 rfl rfl (by decide) rfl ?_
  refine g_goto X 6 dX7_runQuiet_42 (by decide) ?_
  cases h
  exact g_sub [1, 2, 3, 0] _ rfl hc
set_option maxRecDepth 100000 in
set_option maxHeartbeats 400000 in
theorem vb_X7_runQuiet_6 {x : g_CX} {z : Unit × g_St} {fu : Nat} (X : g_X 90 x cX7_runQuiet RX7 4 wsX7_runQuiet rm_X7_runQuiet none) (v0 : Nat) (v1 : Int32) (v2 : Int32) (v3 : Int32) (hk_v0 : v0 < 90 ∧ g_KC v0 = g_kX7) (S : g_St) {r : (Int32 × g_St) ⊕ (g_St)} (h : b_X7_runQuiet_6 fu v0 v1 v2 v3 S = some r) (hc : Sum.elim (fun t : Int32 × g_St => g_V g_KC 90 x 4 (g_qv g_KC 90 x z) t.2 6 [(0, .ref (g_ad x v0)), (1, .int (v1)), (2, .int (v2)), (3, .int (t.1))] []) (fun e : g_St => g_V g_KC 90 x 4 (g_qv g_KC 90 x z) e 45 [] []) r) : g_V g_KC 90 x 4 (g_qv g_KC 90 x z) S 6 [(0, .ref (g_ad x v0)), (1, .int (v1)), (2, .int (v2)), (3, .int (v3))] [] := by
  unfold b_X7_runQuiet_6 at h
  refine g_iload_n X dX7_runQuiet_6 3 rfl ?_
  refine g_iload_n X dX7_runQuiet_7 2 rfl ?_
  refine g_icmp_ge X 45 dX7_runQuiet_8 (by decide) h (fun c_8 h => ?_) (fun c_8 h => ?_)
  · skip
    cases h
    exact g_sub [] _ rfl hc
  · skip
    refine g_aload_n X dX7_runQuiet_11 0 rfl ?_
    refine g_getr X g_cX7 w_X7_runQuiet_inX7 1 (by decide) w_X7_runQuiet_16 hk_v0 rfl dX7_runQuiet_12 h (fun a2 hk_a2 h => ?_)
    refine g_iload_n X dX7_runQuiet_15 1 rfl ?_
    refine g_iload_n X dX7_runQuiet_16 3 rfl ?_
    refine g_ishr X dX7_runQuiet_17 ?_
    refine g_iconst X (v := 1) dX7_runQuiet_18 (by decide) ?_
    refine g_iand X dX7_runQuiet_19 ?_
    refine g_iconst X (v := 1) dX7_runQuiet_20 (by decide) ?_
    refine g_icmp_ne X 28 dX7_runQuiet_21 (by decide) h (fun c_21 h => ?_) (fun c_21 h => ?_)
    · skip
      refine g_aload_n X dX7_runQuiet_28 0 rfl ?_
      refine g_getr X g_cX7 w_X7_runQuiet_inX7 1 (by decide) w_X7_runQuiet_16 hk_v0 rfl dX7_runQuiet_29 h (fun a3 hk_a3 h => ?_)
      refine g_callVi X g_cX2 hk_a3 [] rfl (cwV 0 X.2.2.2.2.1 gX7_runQuiet_X2_comers rfl rfl rfl hd_X2_comers ⟨Nat.le_of_ble_eq_true rfl, Nat.le_of_ble_eq_true rfl⟩) (Nat.le_of_ble_eq_true rfl) dX7_runQuiet_32 h (fun q hq => ct_X2_comers X.2.2.2.2.2.2.1 a3 hk_a3 _ hq) (fun r4 Sr4 h => ?_)
      refine g_sub [0, 1, 2, 3] _ rfl ?_
      exact vj_X7_runQuiet_35_in6 X v0 v1 v2 v3 a2 r4 hk_v0 hk_a2 _ h hc
    · skip
      refine g_iconst X (v := 0) dX7_runQuiet_24 (by decide) ?_
      refine g_goto X 35 dX7_runQuiet_25 (by decide) ?_
      refine g_sub [0, 1, 2, 3] _ rfl ?_
      exact vj_X7_runQuiet_35_in6 X v0 v1 v2 v3 a2 ((0 : Int32)) hk_v0 hk_a2 _ h hc
set_option maxRecDepth 100000 in
set_option maxHeartbeats 400000 in
theorem ct_X7_runQuiet {l : Launch} {D : va_G} {ad : Nat → Nat} {cy : Nat → ClassId} {zz : (Nat → Nat) × (Nat → Nat)} (hinj : ∀ i j, i < 90 → j < 90 → ad i = ad j → i = j) {fu : Nat} (o : Nat) (p0 : Int32) (p1 : Int32) (hk_o : o < 90 ∧ g_KC o = g_kX7) {S : g_St} (z : Unit × g_St) (h : f_X7_runQuiet fu o p0 p1 S = some z) : g_Mv l g_KC 90 D ad cy zz yX7_runQuiet wsX7_runQuiet rm_X7_runQuiet [.ref (ad o), .int (p0), .int (p1)] S z := by
  refine g_ofv hinj (cc := cX7_runQuiet) (maxL := 4) (ret := none) (lv := [(0, .ref (ad o)), (1, .int (p0)), (2, .int (p1))]) (by decide) rfl (Nat.le_of_ble_eq_true rfl) rfl ?_
  intro x X hl hD ha hy hz
  subst hl hD ha hy hz
  unfold f_X7_runQuiet at h
  refine g_aload_n X dX7_runQuiet_0 0 rfl ?_
  refine g_callVv X g_cX7 hk_o [] rfl (cwV 0 X.2.2.2.2.1 gX7_runQuiet_X7_startTrial rfl rfl rfl hd_X7_startTrial ⟨Nat.le_of_ble_eq_true rfl, Nat.le_of_ble_eq_true rfl⟩) (Nat.le_of_ble_eq_true rfl) dX7_runQuiet_1 h (fun q hq => ct_X7_startTrial X.2.2.2.2.2.2.1 o hk_o _ hq) (fun _ Sr1 h => ?_)
  refine g_iconst X (v := 0) dX7_runQuiet_4 (by decide) ?_
  refine g_istore_n X [(3, _), (0, _), (1, _), (2, _)] dX7_runQuiet_5 (by decide) rfl ?_
  obtain ⟨e, he, h⟩ := g_th_s h
  refine g_sub [1, 2, 3, 0] _ rfl ?_
  refine g_lp_w (body := (fun t => b_X7_runQuiet_6 fu o p0 p1 t.1 t.2)) (P := fun t : Int32 × g_St => g_V g_KC 90 x 4 (g_qv g_KC 90 x z) t.2 6 [(0, .ref (g_ad x o)), (1, .int (p0)), (2, .int (p1)), (3, .int (t.1))] []) (E := (fun e : g_St => g_V g_KC 90 x 4 (g_qv g_KC 90 x z) e 45 [] [])) (fun t r hb hc => vb_X7_runQuiet_6 X o p0 p1 t.1 hk_o t.2 hb hc) fu ((0 : Int32), Sr1) e he ?_
  obtain ⟨S1, rfl⟩ : ∃ q, q = e := ⟨_, rfl⟩
  show g_V g_KC 90 x 4 (g_qv g_KC 90 x z) S1 45 [] []
  exact g_vret X h dX7_runQuiet_45
abbrev rm_X7_weighAll : Room := { frames := 5, cells := 0, slots := 0, locals := 114 }
theorem hd_X7_weighAll : yX7_weighAll.cls = RX7 ∧ yX7_weighAll.cls ≠ "java/lang/invoke/MethodHandle" ∧ yX7_weighAll.cls ≠ "java/lang/invoke/VarHandle" ∧ (parseMethodDescriptor yX7_weighAll.desc).map (fun d => d.parameters.length) = some 3 := by decide +kernel
theorem w_X7_weighAll_16 : Cond.fieldLink RX7 16 "TokenDoors" "trial" "LTokenDoors$Hall;" ∈ wsX7_weighAll := by decide +kernel
theorem w_X7_weighAll_inX7 : ∀ w ∈ wsX70, w ∈ wsX7_weighAll := by decide +kernel
theorem w_X7_weighAll_103 : Cond.fieldLink RX7 103 "TokenDoors$Hall" "turned" "I" ∈ wsX7_weighAll := by decide +kernel
theorem w_X7_weighAll_inX2 : ∀ w ∈ wsX20, w ∈ wsX7_weighAll := by decide +kernel
theorem w_X7_weighAll_100 : Cond.fieldLink RX7 100 "TokenDoors$Hall" "let" "I" ∈ wsX7_weighAll := by decide +kernel
def j_X7_weighAll_97_in6 (fu : Nat) (v0 : Nat) (v1 : Int32) (v2 : Int32) (v3 : Int32) (v4 : Int64) (v6 : Int32) (S : g_St) : Option ((Int64 × Int32 × g_St) ⊕ (Int64 × g_St)) :=
  some (.inl (v4, (v6 + 1), S))
def j_X7_weighAll_92_in6 (fu : Nat) (v0 : Nat) (v1 : Int32) (v2 : Int32) (v3 : Int32) (v6 : Int32) (s0 : Int64) (s1 : Int64) (s2 : Int32) (S : g_St) : Option ((Int64 × Int32 × g_St) ⊕ (Int64 × g_St)) :=
  j_X7_weighAll_97_in6 fu v0 v1 v2 v3 ((s0 + (s1 * (Int32.toInt64 s2)))) v6 S
def j_X7_weighAll_70_in6 (fu : Nat) (v0 : Nat) (v1 : Int32) (v2 : Int32) (v3 : Int32) (v4 : Int64) (v6 : Int32) (v8 : Int64) (s0 : Int32) (S : g_St) : Option ((Int64 × Int32 × g_St) ⊕ (Int64 × g_St)) :=
  if v3 = 0 then (j_X7_weighAll_92_in6 fu v0 v1 v2 v3 v6 v4 v8 s0 S) else (g_ld g_KC 90 g_kX2 (S.2 v0 1) fun a6 => j_X7_weighAll_92_in6 fu v0 v1 v2 v3 v6 v4 v8 ((S.1 a6 5)) S)
def b_X7_weighAll_6 (fu : Nat) (v0 : Nat) (v1 : Int32) (v2 : Int32) (v3 : Int32) (v4 : Int64) (v6 : Int32) (S : g_St) : Option ((Int64 × Int32 × g_St) ⊕ (Int64 × g_St)) :=
  if ((1 : Int32) <<< (v2 &&& 31)) ≤ v6 then (some (.inr (v4, S))) else (g_bd (f_J6_bitCount_0f7a4 fu v6 S) fun r1 Sr1 => g_bd (f_X7_power fu v1 r1 Sr1) fun r2 Sr2 => g_bd (f_X7_power fu (((10 : Int32) - v1)) ((v2 - r1)) Sr2) fun r3 Sr3 => if (lg_cmp (r2 * r3) (0 : Int64)) = 0 then (j_X7_weighAll_97_in6 fu v0 v1 v2 v3 v4 v6 Sr3) else (g_bd (f_X7_runQuiet fu v0 v6 v2 Sr3) fun _ Sr4 => g_ld g_KC 90 g_kX2 (Sr4.2 v0 1) fun a5 => if (Sr4.1 a5 6) = 0 then (j_X7_weighAll_70_in6 fu v0 v1 v2 v3 v4 v6 ((r2 * r3)) ((1 : Int32)) Sr4) else (j_X7_weighAll_70_in6 fu v0 v1 v2 v3 v4 v6 ((r2 * r3)) ((0 : Int32)) Sr4)))
def f_X7_weighAll (fu : Nat) (o : Nat) (p0 : Int32) (p1 : Int32) (p2 : Int32) (S : g_St) : Option (Int64 × g_St) :=
  g_th (g_lp (fun t => b_X7_weighAll_6 fu o p0 p1 p2 t.1 t.2.1 t.2.2) fu ((0 : Int64), (0 : Int32), S)) fun e => match e with | (w4_1, S1) => some (w4_1, S1)
set_option maxRecDepth 100000 in
set_option maxHeartbeats 400000 in
theorem vj_X7_weighAll_97_in6 {x : g_CX} {z : Int64 × g_St} {fu : Nat} (X : g_X 90 x cX7_weighAll RX7 11 wsX7_weighAll rm_X7_weighAll (some .long)) (v0 : Nat) (v1 : Int32) (v2 : Int32) (v3 : Int32) (v4 : Int64) (v6 : Int32) (hk_v0 : v0 < 90 ∧ g_KC v0 = g_kX7) (S : g_St) {r : (Int64 × Int32 × g_St) ⊕ (Int64 × g_St)} (h : j_X7_weighAll_97_in6 fu v0 v1 v2 v3 v4 v6 S = some r) (hc : Sum.elim (fun t : Int64 × Int32 × g_St => g_V g_KC 90 x 11 (g_ql g_KC 90 x z) t.2.2 6 [(0, .ref (g_ad x v0)), (1, .int (v1)), (2, .int (v2)), (3, .int (v3)), (4, .long (t.1)), (6, .int (t.2.1))] []) (fun e : Int64 × g_St => g_V g_KC 90 x 11 (g_ql g_KC 90 x z) e.2 103 [(4, .long (e.1))] []) r) : g_V g_KC 90 x 11 (g_ql g_KC 90 x z) S 97 [(0, .ref (g_ad x v0)), (1, .int (v1)), (2, .int (v2)), (3, .int (v3)), (4, .long (v4)), (6, .int (v6))] [] := by
  unfold j_X7_weighAll_97_in6 at h
  refine g_iinc X [(6, _), (0, _), (1, _), (2, _), (3, _), (4, _)] dX7_weighAll_97 5 rfl rfl (by decide) rfl ?_
  refine g_goto X 6 dX7_weighAll_100 (by decide) ?_
  cases h
  exact g_sub [1, 2, 3, 4, 5, 0] _ rfl hc
set_option maxRecDepth 100000 in
set_option maxHeartbeats 400000 in
theorem vj_X7_weighAll_92_in6 {x : g_CX} {z : Int64 × g_St} {fu : Nat} (X : g_X 90 x cX7_weighAll RX7 11 wsX7_weighAll rm_X7_weighAll (some .long)) (v0 : Nat) (v1 : Int32) (v2 : Int32) (v3 : Int32) (v6 : Int32) (s0 : Int64) (s1 : Int64) (s2 : Int32) (hk_v0 : v0 < 90 ∧ g_KC v0 = g_kX7) (S : g_St) {r : (Int64 × Int32 × g_St) ⊕ (Int64 × g_St)} (h : j_X7_weighAll_92_in6 fu v0 v1 v2 v3 v6 s0 s1 s2 S = some r) (hc : Sum.elim (fun t : Int64 × Int32 × g_St => g_V g_KC 90 x 11 (g_ql g_KC 90 x z) t.2.2 6 [(0, .ref (g_ad x v0)), (1, .int (v1)), (2, .int (v2)), (3, .int (v3)), (4, .long (t.1)), (6, .int (t.2.1))] []) (fun e : Int64 × g_St => g_V g_KC 90 x 11 (g_ql g_KC 90 x z) e.2 103 [(4, .long (e.1))] []) r) : g_V g_KC 90 x 11 (g_ql g_KC 90 x z) S 92 [(0, .ref (g_ad x v0)), (1, .int (v1)), (2, .int (v2)), (3, .int (v3)), (6, .int (v6))] [.int (s2), .long (s1), .long (s0)] := by
  unfold j_X7_weighAll_92_in6 at h
  refine g_i2l X dX7_weighAll_92 ?_
  refine g_lmul X dX7_weighAll_93 ?_
  refine g_ladd X dX7_weighAll_94 ?_
  refine g_lstore X [(4, _), (0, _), (1, _), (2, _), (3, _), (6, _)] dX7_weighAll_95 (by decide) rfl ?_
  refine g_sub [1, 2, 3, 4, 0, 5] _ rfl ?_
  exact vj_X7_weighAll_97_in6 X v0 v1 v2 v3 ((s0 + (s1 * (Int32.toInt64 s2)))) v6 hk_v0 _ h hc
set_option maxRecDepth 100000 in
set_option maxHeartbeats 400000 in
theorem vj_X7_weighAll_70_in6 {x : g_CX} {z : Int64 × g_St} {fu : Nat} (X : g_X 90 x cX7_weighAll RX7 11 wsX7_weighAll rm_X7_weighAll (some .long)) (v0 : Nat) (v1 : Int32) (v2 : Int32) (v3 : Int32) (v4 : Int64) (v6 : Int32) (v8 : Int64) (s0 : Int32) (hk_v0 : v0 < 90 ∧ g_KC v0 = g_kX7) (S : g_St) {r : (Int64 × Int32 × g_St) ⊕ (Int64 × g_St)} (h : j_X7_weighAll_70_in6 fu v0 v1 v2 v3 v4 v6 v8 s0 S = some r) (hc : Sum.elim (fun t : Int64 × Int32 × g_St => g_V g_KC 90 x 11 (g_ql g_KC 90 x z) t.2.2 6 [(0, .ref (g_ad x v0)), (1, .int (v1)), (2, .int (v2)), (3, .int (v3)), (4, .long (t.1)), (6, .int (t.2.1))] []) (fun e : Int64 × g_St => g_V g_KC 90 x 11 (g_ql g_KC 90 x z) e.2 103 [(4, .long (e.1))] []) r) : g_V g_KC 90 x 11 (g_ql g_KC 90 x z) S 70 [(0, .ref (g_ad x v0)), (1, .int (v1)), (2, .int (v2)), (3, .int (v3)), (4, .long (v4)), (6, .int (v6)), (8, .long (v8))] [.int (s0)] := by
  unfold j_X7_weighAll_70_in6 at h
  refine g_istore X [(10, _), (0, _), (1, _), (2, _), (3, _), (4, _), (6, _), (8, _)] dX7_weighAll_70 (by decide) rfl ?_
  refine g_lload X dX7_weighAll_72 5 rfl ?_
  refine g_lload X dX7_weighAll_74 7 rfl ?_
  refine g_iload_n X dX7_weighAll_76 4 rfl ?_
  refine g_if_eq X 90 dX7_weighAll_77 (by decide) h (fun c_77 h => ?_) (fun c_77 h => ?_)
  · skip
    refine g_iload X dX7_weighAll_90 0 rfl ?_
    refine g_sub [1, 2, 3, 4, 6] _ rfl ?_
    exact vj_X7_weighAll_92_in6 X v0 v1 v2 v3 v6 v4 v8 s0 hk_v0 _ h hc
  · skip
    refine g_aload_n X dX7_weighAll_80 1 rfl ?_
    refine g_getr X g_cX7 w_X7_weighAll_inX7 1 (by decide) w_X7_weighAll_16 hk_v0 rfl dX7_weighAll_81 h (fun a6 hk_a6 h => ?_)
    refine g_geti X g_cX2 w_X7_weighAll_inX2 5 (by decide) w_X7_weighAll_100 hk_a6 rfl dX7_weighAll_84 ?_
    refine g_goto X 92 dX7_weighAll_87 (by decide) ?_
    refine g_sub [1, 2, 3, 4, 6] _ rfl ?_
    exact vj_X7_weighAll_92_in6 X v0 v1 v2 v3 v6 v4 v8 ((S.1 a6 5)) hk_v0 _ h hc
set_option maxRecDepth 100000 in
set_option maxHeartbeats 400000 in
theorem vb_X7_weighAll_6 {x : g_CX} {z : Int64 × g_St} {fu : Nat} (X : g_X 90 x cX7_weighAll RX7 11 wsX7_weighAll rm_X7_weighAll (some .long)) (v0 : Nat) (v1 : Int32) (v2 : Int32) (v3 : Int32) (v4 : Int64) (v6 : Int32) (hk_v0 : v0 < 90 ∧ g_KC v0 = g_kX7) (S : g_St) {r : (Int64 × Int32 × g_St) ⊕ (Int64 × g_St)} (h : b_X7_weighAll_6 fu v0 v1 v2 v3 v4 v6 S = some r) (hc : Sum.elim (fun t : Int64 × Int32 × g_St => g_V g_KC 90 x 11 (g_ql g_KC 90 x z) t.2.2 6 [(0, .ref (g_ad x v0)), (1, .int (v1)), (2, .int (v2)), (3, .int (v3)), (4, .long (t.1)), (6, .int (t.2.1))] []) (fun e : Int64 × g_St => g_V g_KC 90 x 11 (g_ql g_KC 90 x z) e.2 103 [(4, .long (e.1))] []) r) : g_V g_KC 90 x 11 (g_ql g_KC 90 x z) S 6 [(0, .ref (g_ad x v0)), (1, .int (v1)), (2, .int (v2)), (3, .int (v3)), (4, .long (v4)), (6, .int (v6))] [] := by
  unfold b_X7_weighAll_6 at h
  refine g_iload X dX7_weighAll_6 5 rfl ?_
  refine g_iconst X (v := 1) dX7_weighAll_8 (by decide) ?_
  refine g_iload_n X dX7_weighAll_9 2 rfl ?_
  refine g_ishl X dX7_weighAll_10 ?_
  refine g_icmp_ge X 103 dX7_weighAll_11 (by decide) h (fun c_11 h => ?_) (fun c_11 h => ?_)
  · skip
    cases h
    exact g_sub [4] _ rfl hc
  · skip
    refine g_iload X dX7_weighAll_14 5 rfl ?_
    refine g_callSi X [.int (v6)] rfl (va_cwS 1 X.2.2.2.2.1 gX7_weighAll_J6_bitCount_0f7a4 rfl rfl rfl hd_J6_bitCount_0f7a4 ⟨Nat.le_of_ble_eq_true rfl, Nat.le_of_ble_eq_true rfl⟩) (Nat.le_of_ble_eq_true rfl) dX7_weighAll_16 h (fun q hq => ct_J6_bitCount_0f7a4 X.2.2.2.2.2.2.1 v6  _ hq) (fun r1 Sr1 h => ?_)
    refine g_istore X [(7, _), (0, _), (1, _), (2, _), (3, _), (4, _), (6, _)] dX7_weighAll_19 (by decide) rfl ?_
    refine g_iload_n X dX7_weighAll_21 2 rfl ?_
    refine g_iload X dX7_weighAll_22 0 rfl ?_
    refine g_callSl X [.int (v1), .int (r1)] rfl (va_cwS 2 X.2.2.2.2.1 gX7_weighAll_X7_power rfl rfl rfl hd_X7_power ⟨Nat.le_of_ble_eq_true rfl, Nat.le_of_ble_eq_true rfl⟩) (Nat.le_of_ble_eq_true rfl) dX7_weighAll_24 h (fun q hq => ct_X7_power X.2.2.2.2.2.2.1 v1 r1  _ hq) (fun r2 Sr2 h => ?_)
    refine g_bipush X (v := (10)) dX7_weighAll_27 (by decide) ?_
    refine g_iload_n X dX7_weighAll_29 2 rfl ?_
    refine g_isub X dX7_weighAll_30 ?_
    refine g_iload_n X dX7_weighAll_31 3 rfl ?_
    refine g_iload X dX7_weighAll_32 0 rfl ?_
    refine g_isub X dX7_weighAll_34 ?_
    refine g_callSl X [.int (((10 : Int32) - v1)), .int ((v2 - r1))] rfl (va_cwS 2 X.2.2.2.2.1 gX7_weighAll_X7_power rfl rfl rfl hd_X7_power ⟨Nat.le_of_ble_eq_true rfl, Nat.le_of_ble_eq_true rfl⟩) (Nat.le_of_ble_eq_true rfl) dX7_weighAll_35 h (fun q hq => ct_X7_power X.2.2.2.2.2.2.1 (((10 : Int32) - v1)) ((v2 - r1))  _ hq) (fun r3 Sr3 h => ?_)
    refine g_lmul X dX7_weighAll_38 ?_
    refine g_lstore X [(8, _), (7, _), (0, _), (1, _), (2, _), (3, _), (4, _), (6, _)] dX7_weighAll_39 (by decide) rfl ?_
    refine g_lload X dX7_weighAll_41 0 rfl ?_
    refine g_lconst X (v := 0) dX7_weighAll_43 (by decide) ?_
    refine g_lcmp X dX7_weighAll_44 ?_
    refine g_if_eq X 97 dX7_weighAll_45 (by decide) h (fun c_45 h => ?_) (fun c_45 h => ?_)
    · skip
      refine g_sub [2, 3, 4, 5, 6, 7] _ rfl ?_
      exact vj_X7_weighAll_97_in6 X v0 v1 v2 v3 v4 v6 hk_v0 _ h hc
    · skip
      refine g_aload_n X dX7_weighAll_48 2 rfl ?_
      refine g_iload X dX7_weighAll_49 7 rfl ?_
      refine g_iload_n X dX7_weighAll_51 4 rfl ?_
      refine g_callVv X g_cX7 hk_v0 [.int (v6), .int (v2)] rfl (cwV 2 X.2.2.2.2.1 gX7_weighAll_X7_runQuiet rfl rfl rfl hd_X7_runQuiet ⟨Nat.le_of_ble_eq_true rfl, Nat.le_of_ble_eq_true rfl⟩) (Nat.le_of_ble_eq_true rfl) dX7_weighAll_52 h (fun q hq => ct_X7_runQuiet X.2.2.2.2.2.2.1 v0 v6 v2 hk_v0 _ hq) (fun _ Sr4 h => ?_)
      refine g_aload_n X dX7_weighAll_55 2 rfl ?_
      refine g_getr X g_cX7 w_X7_weighAll_inX7 1 (by decide) w_X7_weighAll_16 hk_v0 rfl dX7_weighAll_56 h (fun a5 hk_a5 h => ?_)
      refine g_geti X g_cX2 w_X7_weighAll_inX2 6 (by decide) w_X7_weighAll_103 hk_a5 rfl dX7_weighAll_59 ?_
      refine g_if_ne X 69 dX7_weighAll_62 (by decide) h (fun c_62 h => ?_) (fun c_62 h => ?_)
      · skip
        refine g_iconst X (v := 0) dX7_weighAll_69 (by decide) ?_
        refine g_sub [2, 3, 4, 5, 6, 7, 0] _ rfl ?_
        exact vj_X7_weighAll_70_in6 X v0 v1 v2 v3 v4 v6 ((r2 * r3)) ((0 : Int32)) hk_v0 _ h hc
      · skip
        refine g_iconst X (v := 1) dX7_weighAll_65 (by decide) ?_
        refine g_goto X 70 dX7_weighAll_66 (by decide) ?_
        refine g_sub [2, 3, 4, 5, 6, 7, 0] _ rfl ?_
        exact vj_X7_weighAll_70_in6 X v0 v1 v2 v3 v4 v6 ((r2 * r3)) ((1 : Int32)) hk_v0 _ h hc
set_option maxRecDepth 100000 in
set_option maxHeartbeats 400000 in
theorem ct_X7_weighAll {l : Launch} {D : va_G} {ad : Nat → Nat} {cy : Nat → ClassId} {zz : (Nat → Nat) × (Nat → Nat)} (hinj : ∀ i j, i < 90 → j < 90 → ad i = ad j → i = j) {fu : Nat} (o : Nat) (p0 : Int32) (p1 : Int32) (p2 : Int32) (hk_o : o < 90 ∧ g_KC o = g_kX7) {S : g_St} (z : Int64 × g_St) (h : f_X7_weighAll fu o p0 p1 p2 S = some z) : g_Ml l g_KC 90 D ad cy zz yX7_weighAll wsX7_weighAll rm_X7_weighAll [.ref (ad o), .int (p0), .int (p1), .int (p2)] S z := by
  refine g_ofl hinj (cc := cX7_weighAll) (maxL := 11) (ret := (some .long)) (lv := [(0, .ref (ad o)), (1, .int (p0)), (2, .int (p1)), (3, .int (p2))]) (by decide) rfl (Nat.le_of_ble_eq_true rfl) rfl ?_
  intro x X hl hD ha hy hz
  subst hl hD ha hy hz
  unfold f_X7_weighAll at h
  refine g_lconst X (v := 0) dX7_weighAll_0 (by decide) ?_
  refine g_lstore X [(4, _), (0, _), (1, _), (2, _), (3, _)] dX7_weighAll_1 (by decide) rfl ?_
  refine g_iconst X (v := 0) dX7_weighAll_3 (by decide) ?_
  refine g_istore X [(6, _), (4, _), (0, _), (1, _), (2, _), (3, _)] dX7_weighAll_4 (by decide) rfl ?_
  obtain ⟨e, he, h⟩ := g_th_s h
  refine g_sub [2, 3, 4, 5, 1, 0] _ rfl ?_
  refine g_lp_w (body := (fun t => b_X7_weighAll_6 fu o p0 p1 p2 t.1 t.2.1 t.2.2)) (P := fun t : Int64 × Int32 × g_St => g_V g_KC 90 x 11 (g_ql g_KC 90 x z) t.2.2 6 [(0, .ref (g_ad x o)), (1, .int (p0)), (2, .int (p1)), (3, .int (p2)), (4, .long (t.1)), (6, .int (t.2.1))] []) (E := (fun e : Int64 × g_St => g_V g_KC 90 x 11 (g_ql g_KC 90 x z) e.2 103 [(4, .long (e.1))] [])) (fun t r hb hc => vb_X7_weighAll_6 X o p0 p1 p2 t.1 t.2.1 hk_o t.2.2 hb hc) fu ((0 : Int64), (0 : Int32), S) e he ?_
  obtain ⟨w4_1, S1⟩ := e
  show g_V g_KC 90 x 11 (g_ql g_KC 90 x z) S1 103 [(4, .long (w4_1))] []
  refine g_lload X dX7_weighAll_103 0 rfl ?_
  exact g_lret X h dX7_weighAll_105
abbrev rm_X7_commonDivisor : Room := { frames := 0, cells := 0, slots := 0, locals := 0 }
theorem hd_X7_commonDivisor : yX7_commonDivisor.cls ≠ "java/lang/invoke/MethodHandle" ∧ yX7_commonDivisor.cls ≠ "java/lang/invoke/VarHandle" ∧ (parseMethodDescriptor yX7_commonDivisor.desc).map (fun d => d.parameters.length) = some 2 := by decide +kernel
def b_X7_commonDivisor_9 (fu : Nat) (v4 : Int64) (v6 : Int64) (v8 : Int32) (S : g_St) : Option ((Int64 × Int64 × Int32 × g_St) ⊕ (Int64 × g_St)) :=
  if (200 : Int32) ≤ v8 then (some (.inr (v4, S))) else (if (lg_cmp v6 (0 : Int64)) = 0 then (some (.inr (v4, S))) else (g_nl v6 (some (.inl (v6, (v4 - v4 / v6 * v6), (v8 + 1), S)))))
def f_X7_commonDivisor (fu : Nat) (p0 : Int64) (p1 : Int64) (S : g_St) : Option (Int64 × g_St) :=
  g_th (g_lp (fun t => b_X7_commonDivisor_9 fu  t.1 t.2.1 t.2.2.1 t.2.2.2) fu (p0, p1, (0 : Int32), S)) fun e => match e with | (w4_1, S1) => some (w4_1, S1)
set_option maxRecDepth 100000 in
set_option maxHeartbeats 400000 in
theorem vb_X7_commonDivisor_9 {x : g_CX} {z : Int64 × g_St} {fu : Nat} (X : g_X 90 x cX7_commonDivisor RX7 11 wsX7_commonDivisor rm_X7_commonDivisor (some .long)) (v4 : Int64) (v6 : Int64) (v8 : Int32)  (S : g_St) {r : (Int64 × Int64 × Int32 × g_St) ⊕ (Int64 × g_St)} (h : b_X7_commonDivisor_9 fu v4 v6 v8 S = some r) (hc : Sum.elim (fun t : Int64 × Int64 × Int32 × g_St => g_V g_KC 90 x 11 (g_ql g_KC 90 x z) t.2.2.2 9 [(4, .long (t.1)), (6, .long (t.2.1)), (8, .int (t.2.2.1))] []) (fun e : Int64 × g_St => g_V g_KC 90 x 11 (g_ql g_KC 90 x z) e.2 45 [(4, .long (e.1))] []) r) : g_V g_KC 90 x 11 (g_ql g_KC 90 x z) S 9 [(4, .long (v4)), (6, .long (v6)), (8, .int (v8))] [] := by
  unfold b_X7_commonDivisor_9 at h
  refine g_iload X dX7_commonDivisor_9 2 rfl ?_
  refine g_sipush X (v := (200)) dX7_commonDivisor_11 (by decide) ?_
  refine g_icmp_ge X 45 dX7_commonDivisor_14 (by decide) h (fun c_14 h => ?_) (fun c_14 h => ?_)
  · skip
    cases h
    exact g_sub [0] _ rfl hc
  · skip
    refine g_lload X dX7_commonDivisor_17 1 rfl ?_
    refine g_lconst X (v := 0) dX7_commonDivisor_19 (by decide) ?_
    refine g_lcmp X dX7_commonDivisor_20 ?_
    refine g_if_eq X 45 dX7_commonDivisor_21 (by decide) h (fun c_21 h => ?_) (fun c_21 h => ?_)
    · skip
      cases h
      exact g_sub [0] _ rfl hc
    · skip
      refine g_lload X dX7_commonDivisor_24 0 rfl ?_
      refine g_lload X dX7_commonDivisor_26 1 rfl ?_
      refine g_lrem X dX7_commonDivisor_28 h (fun h => ?_)
      refine g_lstore X [(9, _), (4, _), (6, _), (8, _)] dX7_commonDivisor_29 (by decide) rfl ?_
      refine g_lload X dX7_commonDivisor_31 2 rfl ?_
      refine g_lstore X [(4, _), (9, _), (6, _), (8, _)] dX7_commonDivisor_33 (by decide) rfl ?_
      refine g_lload X dX7_commonDivisor_35 1 rfl ?_
      refine g_lstore X [(6, _), (4, _), (9, _), (8, _)] dX7_commonDivisor_37 (by decide) rfl ?_
      refine g_iinc X [(8, _), (6, _), (4, _), (9, _)] dX7_commonDivisor_39 3 rfl rfl (by decide) rfl ?_
      refine g_goto X 9 dX7_commonDivisor_42 (by decide) ?_
      cases h
      exact g_sub [2, 1, 0] _ rfl hc
set_option maxRecDepth 100000 in
set_option maxHeartbeats 400000 in
theorem ct_X7_commonDivisor {l : Launch} {D : va_G} {ad : Nat → Nat} {cy : Nat → ClassId} {zz : (Nat → Nat) × (Nat → Nat)} (hinj : ∀ i j, i < 90 → j < 90 → ad i = ad j → i = j) {fu : Nat} (p0 : Int64) (p1 : Int64)  {S : g_St} (z : Int64 × g_St) (h : f_X7_commonDivisor fu p0 p1 S = some z) : g_Ml l g_KC 90 D ad cy zz yX7_commonDivisor wsX7_commonDivisor rm_X7_commonDivisor [.long (p0), .long (p1)] S z := by
  refine g_ofl hinj (cc := cX7_commonDivisor) (maxL := 11) (ret := (some .long)) (lv := [(0, .long (p0)), (2, .long (p1))]) (by decide) rfl (Nat.le_of_ble_eq_true rfl) rfl ?_
  intro x X hl hD ha hy hz
  subst hl hD ha hy hz
  unfold f_X7_commonDivisor at h
  refine g_lload_n X dX7_commonDivisor_0 0 rfl ?_
  refine g_lstore X [(4, _), (0, _), (2, _)] dX7_commonDivisor_1 (by decide) rfl ?_
  refine g_lload_n X dX7_commonDivisor_3 2 rfl ?_
  refine g_lstore X [(6, _), (4, _), (0, _), (2, _)] dX7_commonDivisor_4 (by decide) rfl ?_
  refine g_iconst X (v := 0) dX7_commonDivisor_6 (by decide) ?_
  refine g_istore X [(8, _), (6, _), (4, _), (0, _), (2, _)] dX7_commonDivisor_7 (by decide) rfl ?_
  obtain ⟨e, he, h⟩ := g_th_s h
  refine g_sub [2, 1, 0] _ rfl ?_
  refine g_lp_w (body := (fun t => b_X7_commonDivisor_9 fu  t.1 t.2.1 t.2.2.1 t.2.2.2)) (P := fun t : Int64 × Int64 × Int32 × g_St => g_V g_KC 90 x 11 (g_ql g_KC 90 x z) t.2.2.2 9 [(4, .long (t.1)), (6, .long (t.2.1)), (8, .int (t.2.2.1))] []) (E := (fun e : Int64 × g_St => g_V g_KC 90 x 11 (g_ql g_KC 90 x z) e.2 45 [(4, .long (e.1))] [])) (fun t r hb hc => vb_X7_commonDivisor_9 X  t.1 t.2.1 t.2.2.1 t.2.2.2 hb hc) fu (p0, p1, (0 : Int32), S) e he ?_
  obtain ⟨w4_1, S1⟩ := e
  show g_V g_KC 90 x 11 (g_ql g_KC 90 x z) S1 45 [(4, .long (w4_1))] []
  refine g_lload X dX7_commonDivisor_45 0 rfl ?_
  exact g_lret X h dX7_commonDivisor_47
abbrev rm_X7_part : Room := { frames := 1, cells := 0, slots := 0, locals := 30 }
theorem hd_X7_part : yX7_part.cls ≠ "java/lang/invoke/MethodHandle" ∧ yX7_part.cls ≠ "java/lang/invoke/VarHandle" ∧ (parseMethodDescriptor yX7_part.desc).map (fun d => d.parameters.length) = some 3 := by decide +kernel
theorem w_X7_part_319 : Cond.methodLink RX7 319 Lib.MathLoose.max_long.x ∈ wsX7_part := by decide +kernel
theorem w_X7_part_stmmaxl : Cond.static Lib.MathLoose.max_long.x ∈ wsX7_part := by decide +kernel
theorem w_X7_part_inMath : Cond.initialized "java/lang/Math" ∈ wsX7_part := by decide +kernel
theorem w_X7_part_commaxl : Cond.code Lib.MathLoose.max_long.x Lib.MathLoose.max_long.code 4 (some .long) ∈ wsX7_part := by decide +kernel
def j_X7_part_21 (fu : Nat) (v5 : Int64) (s0 : Int64) (S : g_St) : Option (Int64 × g_St) :=
  g_nl v5 (some ((s0 / v5), S))
def f_X7_part (fu : Nat) (p0 : Int64) (p1 : Int64) (p2 : Int32) (S : g_St) : Option (Int64 × g_St) :=
  g_bd (f_X7_commonDivisor fu p0 p1 S) fun r1 Sr1 => if p2 = 0 then (j_X7_part_21 fu ((if r1 < (1 : Int64) then (1 : Int64) else r1)) p0 Sr1) else (j_X7_part_21 fu ((if r1 < (1 : Int64) then (1 : Int64) else r1)) p1 Sr1)
set_option maxRecDepth 100000 in
set_option maxHeartbeats 400000 in
theorem vj_X7_part_21 {x : g_CX} {z : Int64 × g_St} {fu : Nat} (X : g_X 90 x cX7_part RX7 7 wsX7_part rm_X7_part (some .long)) (v5 : Int64) (s0 : Int64)  (S : g_St) (h : j_X7_part_21 fu v5 s0 S = some z) : g_V g_KC 90 x 7 (g_ql g_KC 90 x z) S 21 [(5, .long (v5))] [.long (s0)] := by
  unfold j_X7_part_21 at h
  refine g_lload X dX7_part_21 0 rfl ?_
  refine g_ldiv X dX7_part_23 h (fun h => ?_)
  exact g_lret X h dX7_part_24
set_option maxRecDepth 100000 in
set_option maxHeartbeats 400000 in
theorem ct_X7_part {l : Launch} {D : va_G} {ad : Nat → Nat} {cy : Nat → ClassId} {zz : (Nat → Nat) × (Nat → Nat)} (hinj : ∀ i j, i < 90 → j < 90 → ad i = ad j → i = j) {fu : Nat} (p0 : Int64) (p1 : Int64) (p2 : Int32)  {S : g_St} (z : Int64 × g_St) (h : f_X7_part fu p0 p1 p2 S = some z) : g_Ml l g_KC 90 D ad cy zz yX7_part wsX7_part rm_X7_part [.long (p0), .long (p1), .int (p2)] S z := by
  refine g_ofl hinj (cc := cX7_part) (maxL := 7) (ret := (some .long)) (lv := [(0, .long (p0)), (2, .long (p1)), (4, .int (p2))]) (by decide) rfl (Nat.le_of_ble_eq_true rfl) rfl ?_
  intro x X hl hD ha hy hz
  subst hl hD ha hy hz
  unfold f_X7_part at h
  refine g_lconst X (v := 1) dX7_part_0 (by decide) ?_
  refine g_lload_n X dX7_part_1 0 rfl ?_
  refine g_lload_n X dX7_part_2 1 rfl ?_
  refine g_callSl X [.long (p0), .long (p1)] rfl (va_cwS 2 X.2.2.2.2.1 gX7_part_X7_commonDivisor rfl rfl rfl hd_X7_commonDivisor ⟨Nat.le_of_ble_eq_true rfl, Nat.le_of_ble_eq_true rfl⟩) (Nat.le_of_ble_eq_true rfl) dX7_part_3 h (fun q hq => ct_X7_commonDivisor X.2.2.2.2.2.2.1 p0 p1  _ hq) (fun r1 Sr1 h => ?_)
  refine g_mmaxl X w_X7_part_319 w_X7_part_stmmaxl w_X7_part_inMath w_X7_part_commaxl (by decide) (Nat.le_of_ble_eq_true rfl) dX7_part_6 ?_
  refine g_lstore X [(5, _), (0, _), (2, _), (4, _)] dX7_part_9 (by decide) rfl ?_
  refine g_iload X dX7_part_11 3 rfl ?_
  refine g_if_ne X 20 dX7_part_13 (by decide) h (fun c_13 h => ?_) (fun c_13 h => ?_)
  · skip
    refine g_lload_n X dX7_part_20 2 rfl ?_
    refine g_sub [0] _ rfl ?_
    exact vj_X7_part_21 X ((if r1 < (1 : Int64) then (1 : Int64) else r1)) p1  _ h
  · skip
    refine g_lload_n X dX7_part_16 1 rfl ?_
    refine g_goto X 21 dX7_part_17 (by decide) ?_
    refine g_sub [0] _ rfl ?_
    exact vj_X7_part_21 X ((if r1 < (1 : Int64) then (1 : Int64) else r1)) p0  _ h
abbrev rm_X7_luck : Room := { frames := 6, cells := 0, slots := 0, locals := 144 }
theorem hd_X7_luck : yX7_luck.cls = RX7 ∧ yX7_luck.cls ≠ "java/lang/invoke/MethodHandle" ∧ yX7_luck.cls ≠ "java/lang/invoke/VarHandle" ∧ (parseMethodDescriptor yX7_luck.desc).map (fun d => d.parameters.length) = some 3 := by decide +kernel
theorem w_X7_luck_219 : Cond.constantLong RX7 219 (-1) ∈ wsX7_luck := by decide +kernel
def f_X7_luck (fu : Nat) (o : Nat) (p0 : Int32) (p1 : Int32) (p2 : Int32) (S : g_St) : Option (Int64 × g_St) :=
  g_bd (f_X7_isOdds fu p0 p1 S) fun r1 Sr1 => if r1 = 0 then (some ((-1 : Int64), Sr1)) else (g_bd (f_X7_isChoice fu p2 Sr1) fun r2 Sr2 => if r2 = 0 then (some ((-1 : Int64), Sr2)) else (g_bd (f_X7_weighAll fu o p0 p1 ((0 : Int32)) Sr2) fun r3 Sr3 => g_bd (f_X7_power fu ((10 : Int32)) p1 Sr3) fun r4 Sr4 => g_bd (f_X7_part fu r3 r4 p2 Sr4) fun r5 Sr5 => some (r5, Sr5)))
set_option maxRecDepth 100000 in
set_option maxHeartbeats 400000 in
theorem ct_X7_luck {l : Launch} {D : va_G} {ad : Nat → Nat} {cy : Nat → ClassId} {zz : (Nat → Nat) × (Nat → Nat)} (hinj : ∀ i j, i < 90 → j < 90 → ad i = ad j → i = j) {fu : Nat} (o : Nat) (p0 : Int32) (p1 : Int32) (p2 : Int32) (hk_o : o < 90 ∧ g_KC o = g_kX7) {S : g_St} (z : Int64 × g_St) (h : f_X7_luck fu o p0 p1 p2 S = some z) : g_Ml l g_KC 90 D ad cy zz yX7_luck wsX7_luck rm_X7_luck [.ref (ad o), .int (p0), .int (p1), .int (p2)] S z := by
  refine g_ofl hinj (cc := cX7_luck) (maxL := 4) (ret := (some .long)) (lv := [(0, .ref (ad o)), (1, .int (p0)), (2, .int (p1)), (3, .int (p2))]) (by decide) rfl (Nat.le_of_ble_eq_true rfl) rfl ?_
  intro x X hl hD ha hy hz
  subst hl hD ha hy hz
  unfold f_X7_luck at h
  refine g_iload_n X dX7_luck_0 1 rfl ?_
  refine g_iload_n X dX7_luck_1 2 rfl ?_
  refine g_callSi X [.int (p0), .int (p1)] rfl (va_cwS 2 X.2.2.2.2.1 gX7_luck_X7_isOdds rfl rfl rfl hd_X7_isOdds ⟨Nat.le_of_ble_eq_true rfl, Nat.le_of_ble_eq_true rfl⟩) (Nat.le_of_ble_eq_true rfl) dX7_luck_2 h (fun q hq => ct_X7_isOdds X.2.2.2.2.2.2.1 p0 p1  _ hq) (fun r1 Sr1 h => ?_)
  refine g_if_eq X 15 dX7_luck_5 (by decide) h (fun c_5 h => ?_) (fun c_5 h => ?_)
  · skip
    refine g_ldc2 X w_X7_luck_219 dX7_luck_15 ?_
    exact g_lret X h dX7_luck_18
  · skip
    refine g_iload_n X dX7_luck_8 3 rfl ?_
    refine g_callSi X [.int (p2)] rfl (va_cwS 1 X.2.2.2.2.1 gX7_luck_X7_isChoice rfl rfl rfl hd_X7_isChoice ⟨Nat.le_of_ble_eq_true rfl, Nat.le_of_ble_eq_true rfl⟩) (Nat.le_of_ble_eq_true rfl) dX7_luck_9 h (fun q hq => ct_X7_isChoice X.2.2.2.2.2.2.1 p2  _ hq) (fun r2 Sr2 h => ?_)
    refine g_if_ne X 19 dX7_luck_12 (by decide) h (fun c_12 h => ?_) (fun c_12 h => ?_)
    · skip
      refine g_aload_n X dX7_luck_19 0 rfl ?_
      refine g_iload_n X dX7_luck_20 1 rfl ?_
      refine g_iload_n X dX7_luck_21 2 rfl ?_
      refine g_iconst X (v := 0) dX7_luck_22 (by decide) ?_
      refine g_callVl X g_cX7 hk_o [.int (p0), .int (p1), .int ((0 : Int32))] rfl (cwV 3 X.2.2.2.2.1 gX7_luck_X7_weighAll rfl rfl rfl hd_X7_weighAll ⟨Nat.le_of_ble_eq_true rfl, Nat.le_of_ble_eq_true rfl⟩) (Nat.le_of_ble_eq_true rfl) dX7_luck_23 h (fun q hq => ct_X7_weighAll X.2.2.2.2.2.2.1 o p0 p1 ((0 : Int32)) hk_o _ hq) (fun r3 Sr3 h => ?_)
      refine g_bipush X (v := (10)) dX7_luck_26 (by decide) ?_
      refine g_iload_n X dX7_luck_28 2 rfl ?_
      refine g_callSl X [.int ((10 : Int32)), .int (p1)] rfl (va_cwS 2 X.2.2.2.2.1 gX7_luck_X7_power rfl rfl rfl hd_X7_power ⟨Nat.le_of_ble_eq_true rfl, Nat.le_of_ble_eq_true rfl⟩) (Nat.le_of_ble_eq_true rfl) dX7_luck_29 h (fun q hq => ct_X7_power X.2.2.2.2.2.2.1 ((10 : Int32)) p1  _ hq) (fun r4 Sr4 h => ?_)
      refine g_iload_n X dX7_luck_32 3 rfl ?_
      refine g_callSl X [.long (r3), .long (r4), .int (p2)] rfl (va_cwS 3 X.2.2.2.2.1 gX7_luck_X7_part rfl rfl rfl hd_X7_part ⟨Nat.le_of_ble_eq_true rfl, Nat.le_of_ble_eq_true rfl⟩) (Nat.le_of_ble_eq_true rfl) dX7_luck_33 h (fun q hq => ct_X7_part X.2.2.2.2.2.2.1 r3 r4 p2  _ hq) (fun r5 Sr5 h => ?_)
      exact g_lret X h dX7_luck_36
    · skip
      refine g_ldc2 X w_X7_luck_219 dX7_luck_15 ?_
      exact g_lret X h dX7_luck_18
abbrev rm_X7_mean : Room := { frames := 6, cells := 0, slots := 0, locals := 144 }
theorem hd_X7_mean : yX7_mean.cls = RX7 ∧ yX7_mean.cls ≠ "java/lang/invoke/MethodHandle" ∧ yX7_mean.cls ≠ "java/lang/invoke/VarHandle" ∧ (parseMethodDescriptor yX7_mean.desc).map (fun d => d.parameters.length) = some 3 := by decide +kernel
theorem w_X7_mean_219 : Cond.constantLong RX7 219 (-1) ∈ wsX7_mean := by decide +kernel
def f_X7_mean (fu : Nat) (o : Nat) (p0 : Int32) (p1 : Int32) (p2 : Int32) (S : g_St) : Option (Int64 × g_St) :=
  g_bd (f_X7_isOdds fu p0 p1 S) fun r1 Sr1 => if r1 = 0 then (some ((-1 : Int64), Sr1)) else (g_bd (f_X7_isChoice fu p2 Sr1) fun r2 Sr2 => if r2 = 0 then (some ((-1 : Int64), Sr2)) else (g_bd (f_X7_weighAll fu o p0 p1 ((1 : Int32)) Sr2) fun r3 Sr3 => g_bd (f_X7_power fu ((10 : Int32)) p1 Sr3) fun r4 Sr4 => g_bd (f_X7_part fu r3 r4 p2 Sr4) fun r5 Sr5 => some (r5, Sr5)))
set_option maxRecDepth 100000 in
set_option maxHeartbeats 400000 in
theorem ct_X7_mean {l : Launch} {D : va_G} {ad : Nat → Nat} {cy : Nat → ClassId} {zz : (Nat → Nat) × (Nat → Nat)} (hinj : ∀ i j, i < 90 → j < 90 → ad i = ad j → i = j) {fu : Nat} (o : Nat) (p0 : Int32) (p1 : Int32) (p2 : Int32) (hk_o : o < 90 ∧ g_KC o = g_kX7) {S : g_St} (z : Int64 × g_St) (h : f_X7_mean fu o p0 p1 p2 S = some z) : g_Ml l g_KC 90 D ad cy zz yX7_mean wsX7_mean rm_X7_mean [.ref (ad o), .int (p0), .int (p1), .int (p2)] S z := by
  refine g_ofl hinj (cc := cX7_mean) (maxL := 4) (ret := (some .long)) (lv := [(0, .ref (ad o)), (1, .int (p0)), (2, .int (p1)), (3, .int (p2))]) (by decide) rfl (Nat.le_of_ble_eq_true rfl) rfl ?_
  intro x X hl hD ha hy hz
  subst hl hD ha hy hz
  unfold f_X7_mean at h
  refine g_iload_n X dX7_mean_0 1 rfl ?_
  refine g_iload_n X dX7_mean_1 2 rfl ?_
  refine g_callSi X [.int (p0), .int (p1)] rfl (va_cwS 2 X.2.2.2.2.1 gX7_mean_X7_isOdds rfl rfl rfl hd_X7_isOdds ⟨Nat.le_of_ble_eq_true rfl, Nat.le_of_ble_eq_true rfl⟩) (Nat.le_of_ble_eq_true rfl) dX7_mean_2 h (fun q hq => ct_X7_isOdds X.2.2.2.2.2.2.1 p0 p1  _ hq) (fun r1 Sr1 h => ?_)
  refine g_if_eq X 15 dX7_mean_5 (by decide) h (fun c_5 h => ?_) (fun c_5 h => ?_)
  · skip
    refine g_ldc2 X w_X7_mean_219 dX7_mean_15 ?_
    exact g_lret X h dX7_mean_18
  · skip
    refine g_iload_n X dX7_mean_8 3 rfl ?_
    refine g_callSi X [.int (p2)] rfl (va_cwS 1 X.2.2.2.2.1 gX7_mean_X7_isChoice rfl rfl rfl hd_X7_isChoice ⟨Nat.le_of_ble_eq_true rfl, Nat.le_of_ble_eq_true rfl⟩) (Nat.le_of_ble_eq_true rfl) dX7_mean_9 h (fun q hq => ct_X7_isChoice X.2.2.2.2.2.2.1 p2  _ hq) (fun r2 Sr2 h => ?_)
    refine g_if_ne X 19 dX7_mean_12 (by decide) h (fun c_12 h => ?_) (fun c_12 h => ?_)
    · skip
      refine g_aload_n X dX7_mean_19 0 rfl ?_
      refine g_iload_n X dX7_mean_20 1 rfl ?_
      refine g_iload_n X dX7_mean_21 2 rfl ?_
      refine g_iconst X (v := 1) dX7_mean_22 (by decide) ?_
      refine g_callVl X g_cX7 hk_o [.int (p0), .int (p1), .int ((1 : Int32))] rfl (cwV 3 X.2.2.2.2.1 gX7_mean_X7_weighAll rfl rfl rfl hd_X7_weighAll ⟨Nat.le_of_ble_eq_true rfl, Nat.le_of_ble_eq_true rfl⟩) (Nat.le_of_ble_eq_true rfl) dX7_mean_23 h (fun q hq => ct_X7_weighAll X.2.2.2.2.2.2.1 o p0 p1 ((1 : Int32)) hk_o _ hq) (fun r3 Sr3 h => ?_)
      refine g_bipush X (v := (10)) dX7_mean_26 (by decide) ?_
      refine g_iload_n X dX7_mean_28 2 rfl ?_
      refine g_callSl X [.int ((10 : Int32)), .int (p1)] rfl (va_cwS 2 X.2.2.2.2.1 gX7_mean_X7_power rfl rfl rfl hd_X7_power ⟨Nat.le_of_ble_eq_true rfl, Nat.le_of_ble_eq_true rfl⟩) (Nat.le_of_ble_eq_true rfl) dX7_mean_29 h (fun q hq => ct_X7_power X.2.2.2.2.2.2.1 ((10 : Int32)) p1  _ hq) (fun r4 Sr4 h => ?_)
      refine g_iload_n X dX7_mean_32 3 rfl ?_
      refine g_callSl X [.long (r3), .long (r4), .int (p2)] rfl (va_cwS 3 X.2.2.2.2.1 gX7_mean_X7_part rfl rfl rfl hd_X7_part ⟨Nat.le_of_ble_eq_true rfl, Nat.le_of_ble_eq_true rfl⟩) (Nat.le_of_ble_eq_true rfl) dX7_mean_33 h (fun q hq => ct_X7_part X.2.2.2.2.2.2.1 r3 r4 p2  _ hq) (fun r5 Sr5 h => ?_)
      exact g_lret X h dX7_mean_36
    · skip
      refine g_ldc2 X w_X7_mean_219 dX7_mean_15 ?_
      exact g_lret X h dX7_mean_18
abbrev rm_X7_see : Room := { frames := 1, cells := 0, slots := 0, locals := 22 }
theorem hd_X7_see : yX7_see.cls = RX7 ∧ yX7_see.cls ≠ "java/lang/invoke/MethodHandle" ∧ yX7_see.cls ≠ "java/lang/invoke/VarHandle" ∧ (parseMethodDescriptor yX7_see.desc).map (fun d => d.parameters.length) = some 2 := by decide +kernel
theorem w_X7_see_46 : Cond.fieldLink RX7 46 "TokenDoors" "seen" "LTokenDoors$Seen;" ∈ wsX7_see := by decide +kernel
theorem w_X7_see_inX7 : ∀ w ∈ wsX70, w ∈ wsX7_see := by decide +kernel
theorem w_X7_see_88 : Cond.fieldLink RX7 88 "TokenDoors$Seen" "size" "I" ∈ wsX7_see := by decide +kernel
theorem w_X7_see_inX3 : ∀ w ∈ wsX30, w ∈ wsX7_see := by decide +kernel
def f_X7_see (fu : Nat) (o : Nat) (p0 : Int32) (p1 : Int32) (S : g_St) : Option (Int32 × g_St) :=
  if p0 < 0 then (some ((-1 : Int32), S)) else (if (40 : Int32) < p0 then (some ((-1 : Int32), S)) else (if p1 < 0 then (some ((-1 : Int32), S)) else (if p1 ≤ (72 : Int32) then (g_ld g_KC 90 g_kX3 (S.2 o 6) fun a1 => g_bd (f_X3_add fu a1 p0 p1 S) fun r2 Sr2 => if r2 = 0 then (some ((-3 : Int32), Sr2)) else (g_ld g_KC 90 g_kX3 (Sr2.2 o 6) fun a3 => some ((Sr2.1 a3 2), Sr2))) else (some ((-1 : Int32), S)))))
set_option maxRecDepth 100000 in
set_option maxHeartbeats 400000 in
theorem ct_X7_see {l : Launch} {D : va_G} {ad : Nat → Nat} {cy : Nat → ClassId} {zz : (Nat → Nat) × (Nat → Nat)} (hinj : ∀ i j, i < 90 → j < 90 → ad i = ad j → i = j) {fu : Nat} (o : Nat) (p0 : Int32) (p1 : Int32) (hk_o : o < 90 ∧ g_KC o = g_kX7) {S : g_St} (z : Int32 × g_St) (h : f_X7_see fu o p0 p1 S = some z) : g_Mi l g_KC 90 D ad cy zz yX7_see wsX7_see rm_X7_see [.ref (ad o), .int (p0), .int (p1)] S z := by
  refine g_ofi hinj (cc := cX7_see) (maxL := 3) (ret := (some .int)) (lv := [(0, .ref (ad o)), (1, .int (p0)), (2, .int (p1))]) (by decide) rfl (Nat.le_of_ble_eq_true rfl) rfl ?_
  intro x X hl hD ha hy hz
  subst hl hD ha hy hz
  unfold f_X7_see at h
  refine g_iload_n X dX7_see_0 1 rfl ?_
  refine g_if_lt X 20 dX7_see_1 (by decide) h (fun c_1 h => ?_) (fun c_1 h => ?_)
  · skip
    refine g_iconst X (v := (-1)) dX7_see_20 (by decide) ?_
    exact g_iret X h dX7_see_21
  · skip
    refine g_iload_n X dX7_see_4 1 rfl ?_
    refine g_bipush X (v := (40)) dX7_see_5 (by decide) ?_
    refine g_icmp_gt X 20 dX7_see_7 (by decide) h (fun c_7 h => ?_) (fun c_7 h => ?_)
    · skip
      refine g_iconst X (v := (-1)) dX7_see_20 (by decide) ?_
      exact g_iret X h dX7_see_21
    · skip
      refine g_iload_n X dX7_see_10 2 rfl ?_
      refine g_if_lt X 20 dX7_see_11 (by decide) h (fun c_11 h => ?_) (fun c_11 h => ?_)
      · skip
        refine g_iconst X (v := (-1)) dX7_see_20 (by decide) ?_
        exact g_iret X h dX7_see_21
      · skip
        refine g_iload_n X dX7_see_14 2 rfl ?_
        refine g_bipush X (v := (72)) dX7_see_15 (by decide) ?_
        refine g_icmp_le X 22 dX7_see_17 (by decide) h (fun c_17 h => ?_) (fun c_17 h => ?_)
        · skip
          refine g_aload_n X dX7_see_22 0 rfl ?_
          refine g_getr X g_cX7 w_X7_see_inX7 6 (by decide) w_X7_see_46 hk_o rfl dX7_see_23 h (fun a1 hk_a1 h => ?_)
          refine g_iload_n X dX7_see_26 1 rfl ?_
          refine g_iload_n X dX7_see_27 2 rfl ?_
          refine g_callVi X g_cX3 hk_a1 [.int (p0), .int (p1)] rfl (cwV 2 X.2.2.2.2.1 gX7_see_X3_add rfl rfl rfl hd_X3_add ⟨Nat.le_of_ble_eq_true rfl, Nat.le_of_ble_eq_true rfl⟩) (Nat.le_of_ble_eq_true rfl) dX7_see_28 h (fun q hq => ct_X3_add X.2.2.2.2.2.2.1 a1 p0 p1 hk_a1 _ hq) (fun r2 Sr2 h => ?_)
          refine g_if_eq X 44 dX7_see_31 (by decide) h (fun c_31 h => ?_) (fun c_31 h => ?_)
          · skip
            refine g_bipush X (v := (-3)) dX7_see_44 (by decide) ?_
            exact g_iret X h dX7_see_46
          · skip
            refine g_aload_n X dX7_see_34 0 rfl ?_
            refine g_getr X g_cX7 w_X7_see_inX7 6 (by decide) w_X7_see_46 hk_o rfl dX7_see_35 h (fun a3 hk_a3 h => ?_)
            refine g_geti X g_cX3 w_X7_see_inX3 2 (by decide) w_X7_see_88 hk_a3 rfl dX7_see_38 ?_
            refine g_goto X 46 dX7_see_41 (by decide) ?_
            exact g_iret X h dX7_see_46
        · skip
          refine g_iconst X (v := (-1)) dX7_see_20 (by decide) ?_
          exact g_iret X h dX7_see_21
abbrev rm_X7_forget : Room := { frames := 0, cells := 0, slots := 0, locals := 0 }
theorem hd_X7_forget : yX7_forget.cls = RX7 ∧ yX7_forget.cls ≠ "java/lang/invoke/MethodHandle" ∧ yX7_forget.cls ≠ "java/lang/invoke/VarHandle" ∧ (parseMethodDescriptor yX7_forget.desc).map (fun d => d.parameters.length) = some 1 := by decide +kernel
theorem w_X7_forget_46 : Cond.fieldLink RX7 46 "TokenDoors" "seen" "LTokenDoors$Seen;" ∈ wsX7_forget := by decide +kernel
theorem w_X7_forget_inX7 : ∀ w ∈ wsX70, w ∈ wsX7_forget := by decide +kernel
theorem w_X7_forget_88 : Cond.fieldLink RX7 88 "TokenDoors$Seen" "size" "I" ∈ wsX7_forget := by decide +kernel
theorem w_X7_forget_inX3 : ∀ w ∈ wsX30, w ∈ wsX7_forget := by decide +kernel
def f_X7_forget (fu : Nat) (o : Nat) (p0 : Int32) (S : g_St) : Option (Int32 × g_St) :=
  if p0 < 0 then (some ((-1 : Int32), S)) else (g_ld g_KC 90 g_kX3 (S.2 o 6) fun a1 => if p0 ≤ (S.1 a1 2) then (g_ld g_KC 90 g_kX3 (S.2 o 6) fun a2 => g_ld g_KC 90 g_kX3 (S.2 o 6) fun a3 => some ((S.1 a2 2), (g_u S.1 a3 2 p0, S.2))) else (some ((-1 : Int32), S)))
set_option maxRecDepth 100000 in
set_option maxHeartbeats 400000 in
theorem ct_X7_forget {l : Launch} {D : va_G} {ad : Nat → Nat} {cy : Nat → ClassId} {zz : (Nat → Nat) × (Nat → Nat)} (hinj : ∀ i j, i < 90 → j < 90 → ad i = ad j → i = j) {fu : Nat} (o : Nat) (p0 : Int32) (hk_o : o < 90 ∧ g_KC o = g_kX7) {S : g_St} (z : Int32 × g_St) (h : f_X7_forget fu o p0 S = some z) : g_Mi l g_KC 90 D ad cy zz yX7_forget wsX7_forget rm_X7_forget [.ref (ad o), .int (p0)] S z := by
  refine g_ofi hinj (cc := cX7_forget) (maxL := 3) (ret := (some .int)) (lv := [(0, .ref (ad o)), (1, .int (p0))]) (by decide) rfl (Nat.le_of_ble_eq_true rfl) rfl ?_
  intro x X hl hD ha hy hz
  subst hl hD ha hy hz
  unfold f_X7_forget at h
  refine g_iload_n X dX7_forget_0 1 rfl ?_
  refine g_if_lt X 15 dX7_forget_1 (by decide) h (fun c_1 h => ?_) (fun c_1 h => ?_)
  · skip
    refine g_iconst X (v := (-1)) dX7_forget_15 (by decide) ?_
    exact g_iret X h dX7_forget_16
  · skip
    refine g_iload_n X dX7_forget_4 1 rfl ?_
    refine g_aload_n X dX7_forget_5 0 rfl ?_
    refine g_getr X g_cX7 w_X7_forget_inX7 6 (by decide) w_X7_forget_46 hk_o rfl dX7_forget_6 h (fun a1 hk_a1 h => ?_)
    refine g_geti X g_cX3 w_X7_forget_inX3 2 (by decide) w_X7_forget_88 hk_a1 rfl dX7_forget_9 ?_
    refine g_icmp_le X 17 dX7_forget_12 (by decide) h (fun c_12 h => ?_) (fun c_12 h => ?_)
    · skip
      refine g_aload_n X dX7_forget_17 0 rfl ?_
      refine g_getr X g_cX7 w_X7_forget_inX7 6 (by decide) w_X7_forget_46 hk_o rfl dX7_forget_18 h (fun a2 hk_a2 h => ?_)
      refine g_geti X g_cX3 w_X7_forget_inX3 2 (by decide) w_X7_forget_88 hk_a2 rfl dX7_forget_21 ?_
      refine g_istore_n X [(2, _), (0, _), (1, _)] dX7_forget_24 (by decide) rfl ?_
      refine g_aload_n X dX7_forget_25 1 rfl ?_
      refine g_getr X g_cX7 w_X7_forget_inX7 6 (by decide) w_X7_forget_46 hk_o rfl dX7_forget_26 h (fun a3 hk_a3 h => ?_)
      refine g_iload_n X dX7_forget_29 2 rfl ?_
      refine g_puti X g_cX3 w_X7_forget_inX3 2 (by decide) w_X7_forget_88 hk_a3 rfl rfl (t := .int) (by decide +kernel) rfl rfl dX7_forget_30 ?_
      refine g_iload_n X dX7_forget_33 0 rfl ?_
      exact g_iret X h dX7_forget_34
    · skip
      refine g_iconst X (v := (-1)) dX7_forget_15 (by decide) ?_
      exact g_iret X h dX7_forget_16
abbrev rm_X7_countLetByTick : Room := { frames := 5, cells := 0, slots := 0, locals := 111 }
theorem hd_X7_countLetByTick : yX7_countLetByTick.cls = RX7 ∧ yX7_countLetByTick.cls ≠ "java/lang/invoke/MethodHandle" ∧ yX7_countLetByTick.cls ≠ "java/lang/invoke/VarHandle" ∧ (parseMethodDescriptor yX7_countLetByTick.desc).map (fun d => d.parameters.length) = some 1 := by decide +kernel
theorem w_X7_countLetByTick_16 : Cond.fieldLink RX7 16 "TokenDoors" "trial" "LTokenDoors$Hall;" ∈ wsX7_countLetByTick := by decide +kernel
theorem w_X7_countLetByTick_inX7 : ∀ w ∈ wsX70, w ∈ wsX7_countLetByTick := by decide +kernel
def b_X7_countLetByTick_2 (fu : Nat) (v0 : Nat) (v1 : Nat) (v2 : Int32) (S : g_St) : Option ((Int32 × g_St) ⊕ (g_St)) :=
  if (41 : Int32) ≤ v2 then (some (.inr S)) else (g_ld g_KC 90 g_kX2 (S.2 v0 1) fun a1 => g_bd (f_X2_tickOn fu a1 S) fun r2 Sr2 => g_ix v2 41 fun i3 => some (.inl ((v2 + 1), (g_u Sr2.1 v1 i3 r2, Sr2.2))))
def f_X7_countLetByTick (fu : Nat) (o : Nat) (p0 : Nat) (S : g_St) : Option (Unit × g_St) :=
  g_th (g_lp (fun t => b_X7_countLetByTick_2 fu o p0 t.1 t.2) fu ((0 : Int32), S)) fun e => match e with | S1 => some ((), S1)
set_option maxRecDepth 100000 in
set_option maxHeartbeats 400000 in
theorem vb_X7_countLetByTick_2 {x : g_CX} {z : Unit × g_St} {fu : Nat} (X : g_X 90 x cX7_countLetByTick RX7 3 wsX7_countLetByTick rm_X7_countLetByTick none) (v0 : Nat) (v1 : Nat) (v2 : Int32) (hk_v0 : v0 < 90 ∧ g_KC v0 = g_kX7) (hk_v1 : v1 < 90 ∧ g_KC v1 = (.inr (0, 41, false))) (S : g_St) {r : (Int32 × g_St) ⊕ (g_St)} (h : b_X7_countLetByTick_2 fu v0 v1 v2 S = some r) (hc : Sum.elim (fun t : Int32 × g_St => g_V g_KC 90 x 3 (g_qv g_KC 90 x z) t.2 2 [(0, .ref (g_ad x v0)), (1, .ref (g_ad x v1)), (2, .int (t.1))] []) (fun e : g_St => g_V g_KC 90 x 3 (g_qv g_KC 90 x z) e 24 [] []) r) : g_V g_KC 90 x 3 (g_qv g_KC 90 x z) S 2 [(0, .ref (g_ad x v0)), (1, .ref (g_ad x v1)), (2, .int (v2))] [] := by
  unfold b_X7_countLetByTick_2 at h
  refine g_iload_n X dX7_countLetByTick_2 2 rfl ?_
  refine g_aload_n X dX7_countLetByTick_3 1 rfl ?_
  refine g_alen X rfl hk_v1 (v := 41) (by decide) dX7_countLetByTick_4 ?_
  refine g_icmp_ge X 24 dX7_countLetByTick_5 (by decide) h (fun c_5 h => ?_) (fun c_5 h => ?_)
  · skip
    cases h
    exact g_sub [] _ rfl hc
  · skip
    refine g_aload_n X dX7_countLetByTick_8 1 rfl ?_
    refine g_iload_n X dX7_countLetByTick_9 2 rfl ?_
    refine g_aload_n X dX7_countLetByTick_10 0 rfl ?_
    refine g_getr X g_cX7 w_X7_countLetByTick_inX7 1 (by decide) w_X7_countLetByTick_16 hk_v0 rfl dX7_countLetByTick_11 h (fun a1 hk_a1 h => ?_)
    refine g_callVi X g_cX2 hk_a1 [] rfl (cwV 0 X.2.2.2.2.1 gX7_countLetByTick_X2_tickOn rfl rfl rfl hd_X2_tickOn ⟨Nat.le_of_ble_eq_true rfl, Nat.le_of_ble_eq_true rfl⟩) (Nat.le_of_ble_eq_true rfl) dX7_countLetByTick_14 h (fun q hq => ct_X2_tickOn X.2.2.2.2.2.2.1 a1 hk_a1 _ hq) (fun r2 Sr2 h => ?_)
    refine g_iast X hk_v1 dX7_countLetByTick_17 h (fun i3 _ h => ?_)
    refine g_iinc X [(2, _), (0, _), (1, _)] dX7_countLetByTick_18 2 rfl rfl (by decide) rfl ?_
    refine g_goto X 2 dX7_countLetByTick_21 (by decide) ?_
    cases h
    exact g_sub [1, 2, 0] _ rfl hc
set_option maxRecDepth 100000 in
set_option maxHeartbeats 400000 in
theorem ct_X7_countLetByTick {l : Launch} {D : va_G} {ad : Nat → Nat} {cy : Nat → ClassId} {zz : (Nat → Nat) × (Nat → Nat)} (hinj : ∀ i j, i < 90 → j < 90 → ad i = ad j → i = j) {fu : Nat} (o : Nat) (p0 : Nat) (hk_o : o < 90 ∧ g_KC o = g_kX7) (hk_p0 : p0 < 90 ∧ g_KC p0 = (.inr (0, 41, false))) {S : g_St} (z : Unit × g_St) (h : f_X7_countLetByTick fu o p0 S = some z) : g_Mv l g_KC 90 D ad cy zz yX7_countLetByTick wsX7_countLetByTick rm_X7_countLetByTick [.ref (ad o), .ref (ad p0)] S z := by
  refine g_ofv hinj (cc := cX7_countLetByTick) (maxL := 3) (ret := none) (lv := [(0, .ref (ad o)), (1, .ref (ad p0))]) (by decide) rfl (Nat.le_of_ble_eq_true rfl) rfl ?_
  intro x X hl hD ha hy hz
  subst hl hD ha hy hz
  unfold f_X7_countLetByTick at h
  refine g_iconst X (v := 0) dX7_countLetByTick_0 (by decide) ?_
  refine g_istore_n X [(2, _), (0, _), (1, _)] dX7_countLetByTick_1 (by decide) rfl ?_
  obtain ⟨e, he, h⟩ := g_th_s h
  refine g_sub [1, 2, 0] _ rfl ?_
  refine g_lp_w (body := (fun t => b_X7_countLetByTick_2 fu o p0 t.1 t.2)) (P := fun t : Int32 × g_St => g_V g_KC 90 x 3 (g_qv g_KC 90 x z) t.2 2 [(0, .ref (g_ad x o)), (1, .ref (g_ad x p0)), (2, .int (t.1))] []) (E := (fun e : g_St => g_V g_KC 90 x 3 (g_qv g_KC 90 x z) e 24 [] [])) (fun t r hb hc => vb_X7_countLetByTick_2 X o p0 t.1 hk_o hk_p0 t.2 hb hc) fu ((0 : Int32), S) e he ?_
  obtain ⟨S1, rfl⟩ : ∃ q, q = e := ⟨_, rfl⟩
  show g_V g_KC 90 x 3 (g_qv g_KC 90 x z) S1 24 [] []
  exact g_vret X h dX7_countLetByTick_24
abbrev rm_X7_fitting : Room := { frames := 6, cells := 0, slots := 0, locals := 133 }
theorem hd_X7_fitting : yX7_fitting.cls = RX7 ∧ yX7_fitting.cls ≠ "java/lang/invoke/MethodHandle" ∧ yX7_fitting.cls ≠ "java/lang/invoke/VarHandle" ∧ (parseMethodDescriptor yX7_fitting.desc).map (fun d => d.parameters.length) = some 2 := by decide +kernel
theorem w_X7_fitting_16 : Cond.fieldLink RX7 16 "TokenDoors" "trial" "LTokenDoors$Hall;" ∈ wsX7_fitting := by decide +kernel
theorem w_X7_fitting_inX7 : ∀ w ∈ wsX70, w ∈ wsX7_fitting := by decide +kernel
theorem w_X7_fitting_115 : Cond.fieldLink RX7 115 "TokenDoors$Hall" "doors" "[LTokenDoors$Door;" ∈ wsX7_fitting := by decide +kernel
theorem w_X7_fitting_inX2 : ∀ w ∈ wsX20, w ∈ wsX7_fitting := by decide +kernel
theorem w_X7_fitting_61 : Cond.fieldLink RX7 61 "TokenDoors" "letByTick" "[I" ∈ wsX7_fitting := by decide +kernel
theorem w_X7_fitting_46 : Cond.fieldLink RX7 46 "TokenDoors" "seen" "LTokenDoors$Seen;" ∈ wsX7_fitting := by decide +kernel
def j_X7_fitting_65_in8 (fu : Nat) (v0 : Nat) (v1 : Int32) (v2 : Int32) (v3 : Int32) (v4 : Int32) (S : g_St) : Option ((Int32 × Int32 × g_St) ⊕ (Int32 × g_St)) :=
  some (.inl (v3, (v4 + 1), S))
def b_X7_fitting_8 (fu : Nat) (v0 : Nat) (v1 : Int32) (v2 : Int32) (v3 : Int32) (v4 : Int32) (S : g_St) : Option ((Int32 × Int32 × g_St) ⊕ (Int32 × g_St)) :=
  g_bd (f_X7_highest fu v2 S) fun r2 Sr2 => if r2 < v4 then (some (.inr (v3, Sr2))) else (g_bd (f_X7_startTrial fu v0 Sr2) fun _ Sr3 => g_ld g_KC 90 g_kX2 (Sr3.2 v0 1) fun a4 => g_ld g_KC 90 (.inr (3, 4, true)) (Sr3.2 a4 0) fun a5 => g_ix v1 4 fun i6 => g_ld g_KC 90 g_kX1 (Sr3.2 a5 i6) fun a6 => g_bd (f_X1_change fu a6 v2 v4 Sr3) fun _ Sr7 => g_ld g_KC 90 (.inr (0, 41, false)) (Sr7.2 v0 9) fun a8 => g_bd (f_X7_countLetByTick fu v0 a8 Sr7) fun _ Sr9 => g_ld g_KC 90 g_kX3 (Sr9.2 v0 6) fun a10 => g_ld g_KC 90 (.inr (0, 41, false)) (Sr9.2 v0 9) fun a11 => g_bd (f_X3_agreesWith fu a10 a11 Sr9) fun r12 Sr12 => if r12 = 0 then (j_X7_fitting_65_in8 fu v0 v1 v2 v3 v4 Sr12) else (j_X7_fitting_65_in8 fu v0 v1 v2 ((v3 ||| ((1 : Int32) <<< (v4 &&& 31)))) v4 Sr12))
def f_X7_fitting (fu : Nat) (o : Nat) (p0 : Int32) (p1 : Int32) (S : g_St) : Option (Int32 × g_St) :=
  g_bd (f_X7_lowest fu p1 S) fun r1 Sr1 => g_th (g_lp (fun t => b_X7_fitting_8 fu o p0 p1 t.1 t.2.1 t.2.2) fu ((0 : Int32), r1, Sr1)) fun e => match e with | (w3_1, S1) => some (w3_1, S1)
set_option maxRecDepth 100000 in
set_option maxHeartbeats 400000 in
theorem vj_X7_fitting_65_in8 {x : g_CX} {z : Int32 × g_St} {fu : Nat} (X : g_X 90 x cX7_fitting RX7 5 wsX7_fitting rm_X7_fitting (some .int)) (v0 : Nat) (v1 : Int32) (v2 : Int32) (v3 : Int32) (v4 : Int32) (hk_v0 : v0 < 90 ∧ g_KC v0 = g_kX7) (S : g_St) {r : (Int32 × Int32 × g_St) ⊕ (Int32 × g_St)} (h : j_X7_fitting_65_in8 fu v0 v1 v2 v3 v4 S = some r) (hc : Sum.elim (fun t : Int32 × Int32 × g_St => g_V g_KC 90 x 5 (g_qi g_KC 90 x z) t.2.2 8 [(0, .ref (g_ad x v0)), (1, .int (v1)), (2, .int (v2)), (3, .int (t.1)), (4, .int (t.2.1))] []) (fun e : Int32 × g_St => g_V g_KC 90 x 5 (g_qi g_KC 90 x z) e.2 71 [(3, .int (e.1))] []) r) : g_V g_KC 90 x 5 (g_qi g_KC 90 x z) S 65 [(0, .ref (g_ad x v0)), (1, .int (v1)), (2, .int (v2)), (3, .int (v3)), (4, .int (v4))] [] := by
  unfold j_X7_fitting_65_in8 at h
  refine g_iinc X [(4, _), (0, _), (1, _), (2, _), (3, _)] dX7_fitting_65 4 rfl rfl (by decide) rfl ?_
  refine g_goto X 8 dX7_fitting_68 (by decide) ?_
  cases h
  exact g_sub [1, 2, 3, 4, 0] _ rfl hc
set_option maxRecDepth 100000 in
set_option maxHeartbeats 400000 in
theorem vb_X7_fitting_8 {x : g_CX} {z : Int32 × g_St} {fu : Nat} (X : g_X 90 x cX7_fitting RX7 5 wsX7_fitting rm_X7_fitting (some .int)) (v0 : Nat) (v1 : Int32) (v2 : Int32) (v3 : Int32) (v4 : Int32) (hk_v0 : v0 < 90 ∧ g_KC v0 = g_kX7) (S : g_St) {r : (Int32 × Int32 × g_St) ⊕ (Int32 × g_St)} (h : b_X7_fitting_8 fu v0 v1 v2 v3 v4 S = some r) (hc : Sum.elim (fun t : Int32 × Int32 × g_St => g_V g_KC 90 x 5 (g_qi g_KC 90 x z) t.2.2 8 [(0, .ref (g_ad x v0)), (1, .int (v1)), (2, .int (v2)), (3, .int (t.1)), (4, .int (t.2.1))] []) (fun e : Int32 × g_St => g_V g_KC 90 x 5 (g_qi g_KC 90 x z) e.2 71 [(3, .int (e.1))] []) r) : g_V g_KC 90 x 5 (g_qi g_KC 90 x z) S 8 [(0, .ref (g_ad x v0)), (1, .int (v1)), (2, .int (v2)), (3, .int (v3)), (4, .int (v4))] [] := by
  unfold b_X7_fitting_8 at h
  refine g_iload X dX7_fitting_8 4 rfl ?_
  refine g_iload_n X dX7_fitting_10 2 rfl ?_
  refine g_callSi X [.int (v2)] rfl (va_cwS 1 X.2.2.2.2.1 gX7_fitting_X7_highest rfl rfl rfl hd_X7_highest ⟨Nat.le_of_ble_eq_true rfl, Nat.le_of_ble_eq_true rfl⟩) (Nat.le_of_ble_eq_true rfl) dX7_fitting_11 h (fun q hq => ct_X7_highest X.2.2.2.2.2.2.1 v2  _ hq) (fun r2 Sr2 h => ?_)
  refine g_icmp_gt X 71 dX7_fitting_14 (by decide) h (fun c_14 h => ?_) (fun c_14 h => ?_)
  · skip
    cases h
    exact g_sub [3] _ rfl hc
  · skip
    refine g_aload_n X dX7_fitting_17 0 rfl ?_
    refine g_callVv X g_cX7 hk_v0 [] rfl (cwV 0 X.2.2.2.2.1 gX7_fitting_X7_startTrial rfl rfl rfl hd_X7_startTrial ⟨Nat.le_of_ble_eq_true rfl, Nat.le_of_ble_eq_true rfl⟩) (Nat.le_of_ble_eq_true rfl) dX7_fitting_18 h (fun q hq => ct_X7_startTrial X.2.2.2.2.2.2.1 v0 hk_v0 _ hq) (fun _ Sr3 h => ?_)
    refine g_aload_n X dX7_fitting_21 0 rfl ?_
    refine g_getr X g_cX7 w_X7_fitting_inX7 1 (by decide) w_X7_fitting_16 hk_v0 rfl dX7_fitting_22 h (fun a4 hk_a4 h => ?_)
    refine g_getr X g_cX2 w_X7_fitting_inX2 0 (by decide) w_X7_fitting_115 hk_a4 rfl dX7_fitting_25 h (fun a5 hk_a5 h => ?_)
    refine g_iload_n X dX7_fitting_28 1 rfl ?_
    refine g_aald X 3 RX1 rfl hk_a5 dX7_fitting_29 h (fun a6 hk_a6 h => ?_)
    refine g_iload_n X dX7_fitting_30 2 rfl ?_
    refine g_iload X dX7_fitting_31 4 rfl ?_
    refine g_callVv X g_cX1 hk_a6 [.int (v2), .int (v4)] rfl (cwV 2 X.2.2.2.2.1 gX7_fitting_X1_change rfl rfl rfl hd_X1_change ⟨Nat.le_of_ble_eq_true rfl, Nat.le_of_ble_eq_true rfl⟩) (Nat.le_of_ble_eq_true rfl) dX7_fitting_33 h (fun q hq => ct_X1_change X.2.2.2.2.2.2.1 a6 v2 v4 hk_a6 _ hq) (fun _ Sr7 h => ?_)
    refine g_aload_n X dX7_fitting_36 0 rfl ?_
    refine g_aload_n X dX7_fitting_37 0 rfl ?_
    refine g_getr X g_cX7 w_X7_fitting_inX7 9 (by decide) w_X7_fitting_61 hk_v0 rfl dX7_fitting_38 h (fun a8 hk_a8 h => ?_)
    refine g_callVv X g_cX7 hk_v0 [.ref (g_ad x a8)] rfl (cwV 1 X.2.2.2.2.1 gX7_fitting_X7_countLetByTick rfl rfl rfl hd_X7_countLetByTick ⟨Nat.le_of_ble_eq_true rfl, Nat.le_of_ble_eq_true rfl⟩) (Nat.le_of_ble_eq_true rfl) dX7_fitting_41 h (fun q hq => ct_X7_countLetByTick X.2.2.2.2.2.2.1 v0 a8 hk_v0 hk_a8 _ hq) (fun _ Sr9 h => ?_)
    refine g_aload_n X dX7_fitting_44 0 rfl ?_
    refine g_getr X g_cX7 w_X7_fitting_inX7 6 (by decide) w_X7_fitting_46 hk_v0 rfl dX7_fitting_45 h (fun a10 hk_a10 h => ?_)
    refine g_aload_n X dX7_fitting_48 0 rfl ?_
    refine g_getr X g_cX7 w_X7_fitting_inX7 9 (by decide) w_X7_fitting_61 hk_v0 rfl dX7_fitting_49 h (fun a11 hk_a11 h => ?_)
    refine g_callVi X g_cX3 hk_a10 [.ref (g_ad x a11)] rfl (cwV 1 X.2.2.2.2.1 gX7_fitting_X3_agreesWith rfl rfl rfl hd_X3_agreesWith ⟨Nat.le_of_ble_eq_true rfl, Nat.le_of_ble_eq_true rfl⟩) (Nat.le_of_ble_eq_true rfl) dX7_fitting_52 h (fun q hq => ct_X3_agreesWith X.2.2.2.2.2.2.1 a10 a11 hk_a10 hk_a11 _ hq) (fun r12 Sr12 h => ?_)
    refine g_if_eq X 65 dX7_fitting_55 (by decide) h (fun c_55 h => ?_) (fun c_55 h => ?_)
    · skip
      refine g_sub [0, 1, 2, 3, 4] _ rfl ?_
      exact vj_X7_fitting_65_in8 X v0 v1 v2 v3 v4 hk_v0 _ h hc
    · skip
      refine g_iload_n X dX7_fitting_58 3 rfl ?_
      refine g_iconst X (v := 1) dX7_fitting_59 (by decide) ?_
      refine g_iload X dX7_fitting_60 4 rfl ?_
      refine g_ishl X dX7_fitting_62 ?_
      refine g_ior X dX7_fitting_63 ?_
      refine g_istore_n X [(3, _), (0, _), (1, _), (2, _), (4, _)] dX7_fitting_64 (by decide) rfl ?_
      refine g_sub [1, 2, 3, 0, 4] _ rfl ?_
      exact vj_X7_fitting_65_in8 X v0 v1 v2 ((v3 ||| ((1 : Int32) <<< (v4 &&& 31)))) v4 hk_v0 _ h hc
set_option maxRecDepth 100000 in
set_option maxHeartbeats 400000 in
theorem ct_X7_fitting {l : Launch} {D : va_G} {ad : Nat → Nat} {cy : Nat → ClassId} {zz : (Nat → Nat) × (Nat → Nat)} (hinj : ∀ i j, i < 90 → j < 90 → ad i = ad j → i = j) {fu : Nat} (o : Nat) (p0 : Int32) (p1 : Int32) (hk_o : o < 90 ∧ g_KC o = g_kX7) {S : g_St} (z : Int32 × g_St) (h : f_X7_fitting fu o p0 p1 S = some z) : g_Mi l g_KC 90 D ad cy zz yX7_fitting wsX7_fitting rm_X7_fitting [.ref (ad o), .int (p0), .int (p1)] S z := by
  refine g_ofi hinj (cc := cX7_fitting) (maxL := 5) (ret := (some .int)) (lv := [(0, .ref (ad o)), (1, .int (p0)), (2, .int (p1))]) (by decide) rfl (Nat.le_of_ble_eq_true rfl) rfl ?_
  intro x X hl hD ha hy hz
  subst hl hD ha hy hz
  unfold f_X7_fitting at h
  refine g_iconst X (v := 0) dX7_fitting_0 (by decide) ?_
  refine g_istore_n X [(3, _), (0, _), (1, _), (2, _)] dX7_fitting_1 (by decide) rfl ?_
  refine g_iload_n X dX7_fitting_2 3 rfl ?_
  refine g_callSi X [.int (p1)] rfl (va_cwS 1 X.2.2.2.2.1 gX7_fitting_X7_lowest rfl rfl rfl hd_X7_lowest ⟨Nat.le_of_ble_eq_true rfl, Nat.le_of_ble_eq_true rfl⟩) (Nat.le_of_ble_eq_true rfl) dX7_fitting_3 h (fun q hq => ct_X7_lowest X.2.2.2.2.2.2.1 p1  _ hq) (fun r1 Sr1 h => ?_)
  refine g_istore X [(4, _), (3, _), (0, _), (1, _), (2, _)] dX7_fitting_6 (by decide) rfl ?_
  obtain ⟨e, he, h⟩ := g_th_s h
  refine g_sub [2, 3, 4, 1, 0] _ rfl ?_
  refine g_lp_w (body := (fun t => b_X7_fitting_8 fu o p0 p1 t.1 t.2.1 t.2.2)) (P := fun t : Int32 × Int32 × g_St => g_V g_KC 90 x 5 (g_qi g_KC 90 x z) t.2.2 8 [(0, .ref (g_ad x o)), (1, .int (p0)), (2, .int (p1)), (3, .int (t.1)), (4, .int (t.2.1))] []) (E := (fun e : Int32 × g_St => g_V g_KC 90 x 5 (g_qi g_KC 90 x z) e.2 71 [(3, .int (e.1))] [])) (fun t r hb hc => vb_X7_fitting_8 X o p0 p1 t.1 t.2.1 hk_o t.2.2 hb hc) fu ((0 : Int32), r1, Sr1) e he ?_
  obtain ⟨w3_1, S1⟩ := e
  show g_V g_KC 90 x 5 (g_qi g_KC 90 x z) S1 71 [(3, .int (w3_1))] []
  refine g_iload_n X dX7_fitting_71 0 rfl ?_
  exact g_iret X h dX7_fitting_72
abbrev rm_X7_kinds : Room := { frames := 7, cells := 0, slots := 0, locals := 157 }
theorem hd_X7_kinds : yX7_kinds.cls = RX7 ∧ yX7_kinds.cls ≠ "java/lang/invoke/MethodHandle" ∧ yX7_kinds.cls ≠ "java/lang/invoke/VarHandle" ∧ (parseMethodDescriptor yX7_kinds.desc).map (fun d => d.parameters.length) = some 1 := by decide +kernel
def f_X7_kinds (fu : Nat) (o : Nat) (p0 : Int32) (S : g_St) : Option (Int32 × g_St) :=
  g_bd (f_X7_isDoor fu o p0 S) fun r1 Sr1 => if r1 = 0 then (some ((-1 : Int32), Sr1)) else (g_bd (f_X7_fitting fu o p0 ((0 : Int32)) Sr1) fun r2 Sr2 => some (r2, Sr2))
set_option maxRecDepth 100000 in
set_option maxHeartbeats 400000 in
theorem ct_X7_kinds {l : Launch} {D : va_G} {ad : Nat → Nat} {cy : Nat → ClassId} {zz : (Nat → Nat) × (Nat → Nat)} (hinj : ∀ i j, i < 90 → j < 90 → ad i = ad j → i = j) {fu : Nat} (o : Nat) (p0 : Int32) (hk_o : o < 90 ∧ g_KC o = g_kX7) {S : g_St} (z : Int32 × g_St) (h : f_X7_kinds fu o p0 S = some z) : g_Mi l g_KC 90 D ad cy zz yX7_kinds wsX7_kinds rm_X7_kinds [.ref (ad o), .int (p0)] S z := by
  refine g_ofi hinj (cc := cX7_kinds) (maxL := 2) (ret := (some .int)) (lv := [(0, .ref (ad o)), (1, .int (p0))]) (by decide) rfl (Nat.le_of_ble_eq_true rfl) rfl ?_
  intro x X hl hD ha hy hz
  subst hl hD ha hy hz
  unfold f_X7_kinds at h
  refine g_aload_n X dX7_kinds_0 0 rfl ?_
  refine g_iload_n X dX7_kinds_1 1 rfl ?_
  refine g_callVi X g_cX7 hk_o [.int (p0)] rfl (cwV 1 X.2.2.2.2.1 gX7_kinds_X7_isDoor rfl rfl rfl hd_X7_isDoor ⟨Nat.le_of_ble_eq_true rfl, Nat.le_of_ble_eq_true rfl⟩) (Nat.le_of_ble_eq_true rfl) dX7_kinds_2 h (fun q hq => ct_X7_isDoor X.2.2.2.2.2.2.1 o p0 hk_o _ hq) (fun r1 Sr1 h => ?_)
  refine g_if_eq X 17 dX7_kinds_5 (by decide) h (fun c_5 h => ?_) (fun c_5 h => ?_)
  · skip
    refine g_iconst X (v := (-1)) dX7_kinds_17 (by decide) ?_
    exact g_iret X h dX7_kinds_18
  · skip
    refine g_aload_n X dX7_kinds_8 0 rfl ?_
    refine g_iload_n X dX7_kinds_9 1 rfl ?_
    refine g_iconst X (v := 0) dX7_kinds_10 (by decide) ?_
    refine g_callVi X g_cX7 hk_o [.int (p0), .int ((0 : Int32))] rfl (cwV 2 X.2.2.2.2.1 gX7_kinds_X7_fitting rfl rfl rfl hd_X7_fitting ⟨Nat.le_of_ble_eq_true rfl, Nat.le_of_ble_eq_true rfl⟩) (Nat.le_of_ble_eq_true rfl) dX7_kinds_11 h (fun q hq => ct_X7_fitting X.2.2.2.2.2.2.1 o p0 ((0 : Int32)) hk_o _ hq) (fun r2 Sr2 h => ?_)
    refine g_goto X 18 dX7_kinds_14 (by decide) ?_
    exact g_iret X h dX7_kinds_18
abbrev rm_X7_depths : Room := { frames := 7, cells := 0, slots := 0, locals := 157 }
theorem hd_X7_depths : yX7_depths.cls = RX7 ∧ yX7_depths.cls ≠ "java/lang/invoke/MethodHandle" ∧ yX7_depths.cls ≠ "java/lang/invoke/VarHandle" ∧ (parseMethodDescriptor yX7_depths.desc).map (fun d => d.parameters.length) = some 1 := by decide +kernel
def f_X7_depths (fu : Nat) (o : Nat) (p0 : Int32) (S : g_St) : Option (Int32 × g_St) :=
  g_bd (f_X7_isDoor fu o p0 S) fun r1 Sr1 => if r1 = 0 then (some ((-1 : Int32), Sr1)) else (g_bd (f_X7_fitting fu o p0 ((1 : Int32)) Sr1) fun r2 Sr2 => some (r2, Sr2))
set_option maxRecDepth 100000 in
set_option maxHeartbeats 400000 in
theorem ct_X7_depths {l : Launch} {D : va_G} {ad : Nat → Nat} {cy : Nat → ClassId} {zz : (Nat → Nat) × (Nat → Nat)} (hinj : ∀ i j, i < 90 → j < 90 → ad i = ad j → i = j) {fu : Nat} (o : Nat) (p0 : Int32) (hk_o : o < 90 ∧ g_KC o = g_kX7) {S : g_St} (z : Int32 × g_St) (h : f_X7_depths fu o p0 S = some z) : g_Mi l g_KC 90 D ad cy zz yX7_depths wsX7_depths rm_X7_depths [.ref (ad o), .int (p0)] S z := by
  refine g_ofi hinj (cc := cX7_depths) (maxL := 2) (ret := (some .int)) (lv := [(0, .ref (ad o)), (1, .int (p0))]) (by decide) rfl (Nat.le_of_ble_eq_true rfl) rfl ?_
  intro x X hl hD ha hy hz
  subst hl hD ha hy hz
  unfold f_X7_depths at h
  refine g_aload_n X dX7_depths_0 0 rfl ?_
  refine g_iload_n X dX7_depths_1 1 rfl ?_
  refine g_callVi X g_cX7 hk_o [.int (p0)] rfl (cwV 1 X.2.2.2.2.1 gX7_depths_X7_isDoor rfl rfl rfl hd_X7_isDoor ⟨Nat.le_of_ble_eq_true rfl, Nat.le_of_ble_eq_true rfl⟩) (Nat.le_of_ble_eq_true rfl) dX7_depths_2 h (fun q hq => ct_X7_isDoor X.2.2.2.2.2.2.1 o p0 hk_o _ hq) (fun r1 Sr1 h => ?_)
  refine g_if_eq X 17 dX7_depths_5 (by decide) h (fun c_5 h => ?_) (fun c_5 h => ?_)
  · skip
    refine g_iconst X (v := (-1)) dX7_depths_17 (by decide) ?_
    exact g_iret X h dX7_depths_18
  · skip
    refine g_aload_n X dX7_depths_8 0 rfl ?_
    refine g_iload_n X dX7_depths_9 1 rfl ?_
    refine g_iconst X (v := 1) dX7_depths_10 (by decide) ?_
    refine g_callVi X g_cX7 hk_o [.int (p0), .int ((1 : Int32))] rfl (cwV 2 X.2.2.2.2.1 gX7_depths_X7_fitting rfl rfl rfl hd_X7_fitting ⟨Nat.le_of_ble_eq_true rfl, Nat.le_of_ble_eq_true rfl⟩) (Nat.le_of_ble_eq_true rfl) dX7_depths_11 h (fun q hq => ct_X7_fitting X.2.2.2.2.2.2.1 o p0 ((1 : Int32)) hk_o _ hq) (fun r2 Sr2 h => ?_)
    refine g_goto X 18 dX7_depths_14 (by decide) ?_
    exact g_iret X h dX7_depths_18
abbrev rm_X7_rates : Room := { frames := 7, cells := 0, slots := 0, locals := 157 }
theorem hd_X7_rates : yX7_rates.cls = RX7 ∧ yX7_rates.cls ≠ "java/lang/invoke/MethodHandle" ∧ yX7_rates.cls ≠ "java/lang/invoke/VarHandle" ∧ (parseMethodDescriptor yX7_rates.desc).map (fun d => d.parameters.length) = some 1 := by decide +kernel
def f_X7_rates (fu : Nat) (o : Nat) (p0 : Int32) (S : g_St) : Option (Int32 × g_St) :=
  g_bd (f_X7_isDoor fu o p0 S) fun r1 Sr1 => if r1 = 0 then (some ((-1 : Int32), Sr1)) else (g_bd (f_X7_fitting fu o p0 ((2 : Int32)) Sr1) fun r2 Sr2 => some (r2, Sr2))
set_option maxRecDepth 100000 in
set_option maxHeartbeats 400000 in
theorem ct_X7_rates {l : Launch} {D : va_G} {ad : Nat → Nat} {cy : Nat → ClassId} {zz : (Nat → Nat) × (Nat → Nat)} (hinj : ∀ i j, i < 90 → j < 90 → ad i = ad j → i = j) {fu : Nat} (o : Nat) (p0 : Int32) (hk_o : o < 90 ∧ g_KC o = g_kX7) {S : g_St} (z : Int32 × g_St) (h : f_X7_rates fu o p0 S = some z) : g_Mi l g_KC 90 D ad cy zz yX7_rates wsX7_rates rm_X7_rates [.ref (ad o), .int (p0)] S z := by
  refine g_ofi hinj (cc := cX7_rates) (maxL := 2) (ret := (some .int)) (lv := [(0, .ref (ad o)), (1, .int (p0))]) (by decide) rfl (Nat.le_of_ble_eq_true rfl) rfl ?_
  intro x X hl hD ha hy hz
  subst hl hD ha hy hz
  unfold f_X7_rates at h
  refine g_aload_n X dX7_rates_0 0 rfl ?_
  refine g_iload_n X dX7_rates_1 1 rfl ?_
  refine g_callVi X g_cX7 hk_o [.int (p0)] rfl (cwV 1 X.2.2.2.2.1 gX7_rates_X7_isDoor rfl rfl rfl hd_X7_isDoor ⟨Nat.le_of_ble_eq_true rfl, Nat.le_of_ble_eq_true rfl⟩) (Nat.le_of_ble_eq_true rfl) dX7_rates_2 h (fun q hq => ct_X7_isDoor X.2.2.2.2.2.2.1 o p0 hk_o _ hq) (fun r1 Sr1 h => ?_)
  refine g_if_eq X 17 dX7_rates_5 (by decide) h (fun c_5 h => ?_) (fun c_5 h => ?_)
  · skip
    refine g_iconst X (v := (-1)) dX7_rates_17 (by decide) ?_
    exact g_iret X h dX7_rates_18
  · skip
    refine g_aload_n X dX7_rates_8 0 rfl ?_
    refine g_iload_n X dX7_rates_9 1 rfl ?_
    refine g_iconst X (v := 2) dX7_rates_10 (by decide) ?_
    refine g_callVi X g_cX7 hk_o [.int (p0), .int ((2 : Int32))] rfl (cwV 2 X.2.2.2.2.1 gX7_rates_X7_fitting rfl rfl rfl hd_X7_fitting ⟨Nat.le_of_ble_eq_true rfl, Nat.le_of_ble_eq_true rfl⟩) (Nat.le_of_ble_eq_true rfl) dX7_rates_11 h (fun q hq => ct_X7_fitting X.2.2.2.2.2.2.1 o p0 ((2 : Int32)) hk_o _ hq) (fun r2 Sr2 h => ?_)
    refine g_goto X 18 dX7_rates_14 (by decide) ?_
    exact g_iret X h dX7_rates_18
abbrev rm_X7_sharing : Room := { frames := 0, cells := 0, slots := 0, locals := 0 }
theorem hd_X7_sharing : yX7_sharing.cls = RX7 ∧ yX7_sharing.cls ≠ "java/lang/invoke/MethodHandle" ∧ yX7_sharing.cls ≠ "java/lang/invoke/VarHandle" ∧ (parseMethodDescriptor yX7_sharing.desc).map (fun d => d.parameters.length) = some 3 := by decide +kernel
theorem w_X7_sharing_58 : Cond.fieldLink RX7 58 "TokenDoors" "letByRate" "[[I" ∈ wsX7_sharing := by decide +kernel
theorem w_X7_sharing_inX7 : ∀ w ∈ wsX70, w ∈ wsX7_sharing := by decide +kernel
def j_X7_sharing_39_in6 (fu : Nat) (v0 : Nat) (v1 : Int32) (v2 : Int32) (v3 : Int32) (v4 : Int32) (v5 : Int32) (S : g_St) : Option ((Int32 × Int32 × g_St) ⊕ (Int32 × g_St)) :=
  some (.inl (v4, (v5 + 1), S))
def b_X7_sharing_6 (fu : Nat) (v0 : Nat) (v1 : Int32) (v2 : Int32) (v3 : Int32) (v4 : Int32) (v5 : Int32) (S : g_St) : Option ((Int32 × Int32 × g_St) ⊕ (Int32 × g_St)) :=
  if (9 : Int32) < v5 then (some (.inr (v4, S))) else (if ((v1 >>> (v5 &&& 31)) &&& (1 : Int32)) = (1 : Int32) then (g_ld g_KC 90 (.inr (7, 10, true)) (S.2 v0 8) fun a1 => g_ix v5 10 fun i2 => g_ld g_KC 90 (.inr (0, 41, false)) (S.2 a1 i2) fun a2 => g_ix v2 41 fun i3 => if (S.1 a2 i3) = v3 then (j_X7_sharing_39_in6 fu v0 v1 v2 v3 ((v4 + 1)) v5 S) else (j_X7_sharing_39_in6 fu v0 v1 v2 v3 v4 v5 S)) else (j_X7_sharing_39_in6 fu v0 v1 v2 v3 v4 v5 S))
def f_X7_sharing (fu : Nat) (o : Nat) (p0 : Int32) (p1 : Int32) (p2 : Int32) (S : g_St) : Option (Int32 × g_St) :=
  g_th (g_lp (fun t => b_X7_sharing_6 fu o p0 p1 p2 t.1 t.2.1 t.2.2) fu ((0 : Int32), (0 : Int32), S)) fun e => match e with | (w4_1, S1) => some (w4_1, S1)
set_option maxRecDepth 100000 in
set_option maxHeartbeats 400000 in
theorem vj_X7_sharing_39_in6 {x : g_CX} {z : Int32 × g_St} {fu : Nat} (X : g_X 90 x cX7_sharing RX7 6 wsX7_sharing rm_X7_sharing (some .int)) (v0 : Nat) (v1 : Int32) (v2 : Int32) (v3 : Int32) (v4 : Int32) (v5 : Int32) (hk_v0 : v0 < 90 ∧ g_KC v0 = g_kX7) (S : g_St) {r : (Int32 × Int32 × g_St) ⊕ (Int32 × g_St)} (h : j_X7_sharing_39_in6 fu v0 v1 v2 v3 v4 v5 S = some r) (hc : Sum.elim (fun t : Int32 × Int32 × g_St => g_V g_KC 90 x 6 (g_qi g_KC 90 x z) t.2.2 6 [(0, .ref (g_ad x v0)), (1, .int (v1)), (2, .int (v2)), (3, .int (v3)), (4, .int (t.1)), (5, .int (t.2.1))] []) (fun e : Int32 × g_St => g_V g_KC 90 x 6 (g_qi g_KC 90 x z) e.2 45 [(4, .int (e.1))] []) r) : g_V g_KC 90 x 6 (g_qi g_KC 90 x z) S 39 [(0, .ref (g_ad x v0)), (1, .int (v1)), (2, .int (v2)), (3, .int (v3)), (4, .int (v4)), (5, .int (v5))] [] := by
  unfold j_X7_sharing_39_in6 at h
  refine g_iinc X [(5, _), (0, _), (1, _), (2, _), (3, _), (4, _)] dX7_sharing_39 5 rfl rfl (by decide) rfl ?_
  refine g_goto X 6 dX7_sharing_42 (by decide) ?_
  cases h
  exact g_sub [1, 2, 3, 4, 5, 0] _ rfl hc
set_option maxRecDepth 100000 in
set_option maxHeartbeats 400000 in
theorem vb_X7_sharing_6 {x : g_CX} {z : Int32 × g_St} {fu : Nat} (X : g_X 90 x cX7_sharing RX7 6 wsX7_sharing rm_X7_sharing (some .int)) (v0 : Nat) (v1 : Int32) (v2 : Int32) (v3 : Int32) (v4 : Int32) (v5 : Int32) (hk_v0 : v0 < 90 ∧ g_KC v0 = g_kX7) (S : g_St) {r : (Int32 × Int32 × g_St) ⊕ (Int32 × g_St)} (h : b_X7_sharing_6 fu v0 v1 v2 v3 v4 v5 S = some r) (hc : Sum.elim (fun t : Int32 × Int32 × g_St => g_V g_KC 90 x 6 (g_qi g_KC 90 x z) t.2.2 6 [(0, .ref (g_ad x v0)), (1, .int (v1)), (2, .int (v2)), (3, .int (v3)), (4, .int (t.1)), (5, .int (t.2.1))] []) (fun e : Int32 × g_St => g_V g_KC 90 x 6 (g_qi g_KC 90 x z) e.2 45 [(4, .int (e.1))] []) r) : g_V g_KC 90 x 6 (g_qi g_KC 90 x z) S 6 [(0, .ref (g_ad x v0)), (1, .int (v1)), (2, .int (v2)), (3, .int (v3)), (4, .int (v4)), (5, .int (v5))] [] := by
  unfold b_X7_sharing_6 at h
  refine g_iload X dX7_sharing_6 5 rfl ?_
  refine g_bipush X (v := (9)) dX7_sharing_8 (by decide) ?_
  refine g_icmp_gt X 45 dX7_sharing_10 (by decide) h (fun c_10 h => ?_) (fun c_10 h => ?_)
  · skip
    cases h
    exact g_sub [4] _ rfl hc
  · skip
    refine g_iload_n X dX7_sharing_13 1 rfl ?_
    refine g_iload X dX7_sharing_14 5 rfl ?_
    refine g_ishr X dX7_sharing_16 ?_
    refine g_iconst X (v := 1) dX7_sharing_17 (by decide) ?_
    refine g_iand X dX7_sharing_18 ?_
    refine g_iconst X (v := 1) dX7_sharing_19 (by decide) ?_
    refine g_icmp_ne X 39 dX7_sharing_20 (by decide) h (fun c_20 h => ?_) (fun c_20 h => ?_)
    · skip
      refine g_sub [0, 1, 2, 3, 4, 5] _ rfl ?_
      exact vj_X7_sharing_39_in6 X v0 v1 v2 v3 v4 v5 hk_v0 _ h hc
    · skip
      refine g_aload_n X dX7_sharing_23 0 rfl ?_
      refine g_getr X g_cX7 w_X7_sharing_inX7 8 (by decide) w_X7_sharing_58 hk_v0 rfl dX7_sharing_24 h (fun a1 hk_a1 h => ?_)
      refine g_iload X dX7_sharing_27 5 rfl ?_
      refine g_aaldA X hk_a1 dX7_sharing_29 h (fun a2 hk_a2 h => ?_)
      refine g_iload_n X dX7_sharing_30 2 rfl ?_
      refine g_iald X hk_a2 dX7_sharing_31 h (fun i3 _ h => ?_)
      refine g_iload_n X dX7_sharing_32 3 rfl ?_
      refine g_icmp_ne X 39 dX7_sharing_33 (by decide) h (fun c_33 h => ?_) (fun c_33 h => ?_)
      · skip
        refine g_sub [0, 1, 2, 3, 4, 5] _ rfl ?_
        exact vj_X7_sharing_39_in6 X v0 v1 v2 v3 v4 v5 hk_v0 _ h hc
      · skip
        refine g_iinc X [(4, _), (0, _), (1, _), (2, _), (3, _), (5, _)] dX7_sharing_36 4 rfl rfl (by decide) rfl ?_
        refine g_sub [1, 2, 3, 4, 0, 5] _ rfl ?_
        exact vj_X7_sharing_39_in6 X v0 v1 v2 v3 ((v4 + 1)) v5 hk_v0 _ h hc
set_option maxRecDepth 100000 in
set_option maxHeartbeats 400000 in
theorem ct_X7_sharing {l : Launch} {D : va_G} {ad : Nat → Nat} {cy : Nat → ClassId} {zz : (Nat → Nat) × (Nat → Nat)} (hinj : ∀ i j, i < 90 → j < 90 → ad i = ad j → i = j) {fu : Nat} (o : Nat) (p0 : Int32) (p1 : Int32) (p2 : Int32) (hk_o : o < 90 ∧ g_KC o = g_kX7) {S : g_St} (z : Int32 × g_St) (h : f_X7_sharing fu o p0 p1 p2 S = some z) : g_Mi l g_KC 90 D ad cy zz yX7_sharing wsX7_sharing rm_X7_sharing [.ref (ad o), .int (p0), .int (p1), .int (p2)] S z := by
  refine g_ofi hinj (cc := cX7_sharing) (maxL := 6) (ret := (some .int)) (lv := [(0, .ref (ad o)), (1, .int (p0)), (2, .int (p1)), (3, .int (p2))]) (by decide) rfl (Nat.le_of_ble_eq_true rfl) rfl ?_
  intro x X hl hD ha hy hz
  subst hl hD ha hy hz
  unfold f_X7_sharing at h
  refine g_iconst X (v := 0) dX7_sharing_0 (by decide) ?_
  refine g_istore X [(4, _), (0, _), (1, _), (2, _), (3, _)] dX7_sharing_1 (by decide) rfl ?_
  refine g_iconst X (v := 0) dX7_sharing_3 (by decide) ?_
  refine g_istore X [(5, _), (4, _), (0, _), (1, _), (2, _), (3, _)] dX7_sharing_4 (by decide) rfl ?_
  obtain ⟨e, he, h⟩ := g_th_s h
  refine g_sub [2, 3, 4, 5, 1, 0] _ rfl ?_
  refine g_lp_w (body := (fun t => b_X7_sharing_6 fu o p0 p1 p2 t.1 t.2.1 t.2.2)) (P := fun t : Int32 × Int32 × g_St => g_V g_KC 90 x 6 (g_qi g_KC 90 x z) t.2.2 6 [(0, .ref (g_ad x o)), (1, .int (p0)), (2, .int (p1)), (3, .int (p2)), (4, .int (t.1)), (5, .int (t.2.1))] []) (E := (fun e : Int32 × g_St => g_V g_KC 90 x 6 (g_qi g_KC 90 x z) e.2 45 [(4, .int (e.1))] [])) (fun t r hb hc => vb_X7_sharing_6 X o p0 p1 p2 t.1 t.2.1 hk_o t.2.2 hb hc) fu ((0 : Int32), (0 : Int32), S) e he ?_
  obtain ⟨w4_1, S1⟩ := e
  show g_V g_KC 90 x 6 (g_qi g_KC 90 x z) S1 45 [(4, .int (w4_1))] []
  refine g_iload X dX7_sharing_45 0 rfl ?_
  exact g_iret X h dX7_sharing_47
abbrev rm_X7_leftAtWorst : Room := { frames := 1, cells := 0, slots := 0, locals := 25 }
theorem hd_X7_leftAtWorst : yX7_leftAtWorst.cls = RX7 ∧ yX7_leftAtWorst.cls ≠ "java/lang/invoke/MethodHandle" ∧ yX7_leftAtWorst.cls ≠ "java/lang/invoke/VarHandle" ∧ (parseMethodDescriptor yX7_leftAtWorst.desc).map (fun d => d.parameters.length) = some 2 := by decide +kernel
theorem w_X7_leftAtWorst_58 : Cond.fieldLink RX7 58 "TokenDoors" "letByRate" "[[I" ∈ wsX7_leftAtWorst := by decide +kernel
theorem w_X7_leftAtWorst_inX7 : ∀ w ∈ wsX70, w ∈ wsX7_leftAtWorst := by decide +kernel
theorem w_X7_leftAtWorst_180 : Cond.methodLink RX7 180 Lib.Math.max.name ∈ wsX7_leftAtWorst := by decide +kernel
theorem w_X7_leftAtWorst_stmmax : Cond.static Lib.Math.max.name ∈ wsX7_leftAtWorst := by decide +kernel
theorem w_X7_leftAtWorst_inMath : Cond.initialized "java/lang/Math" ∈ wsX7_leftAtWorst := by decide +kernel
theorem w_X7_leftAtWorst_commax : Cond.code Lib.Math.max.name Lib.Math.max.code 2 (some .int) ∈ wsX7_leftAtWorst := by decide +kernel
def j_X7_leftAtWorst_42_in5 (fu : Nat) (v0 : Nat) (v1 : Int32) (v2 : Int32) (v3 : Int32) (v4 : Int32) (S : g_St) : Option ((Int32 × Int32 × g_St) ⊕ (Int32 × g_St)) :=
  some (.inl (v3, (v4 + 1), S))
def b_X7_leftAtWorst_5 (fu : Nat) (v0 : Nat) (v1 : Int32) (v2 : Int32) (v3 : Int32) (v4 : Int32) (S : g_St) : Option ((Int32 × Int32 × g_St) ⊕ (Int32 × g_St)) :=
  if (9 : Int32) < v4 then (some (.inr (v3, S))) else (if ((v1 >>> (v4 &&& 31)) &&& (1 : Int32)) = (1 : Int32) then (g_ld g_KC 90 (.inr (7, 10, true)) (S.2 v0 8) fun a1 => g_ix v4 10 fun i2 => g_ld g_KC 90 (.inr (0, 41, false)) (S.2 a1 i2) fun a2 => g_ix v2 41 fun i3 => g_bd (f_X7_sharing fu v0 v1 v2 ((S.1 a2 i3)) S) fun r4 Sr4 => j_X7_leftAtWorst_42_in5 fu v0 v1 v2 ((if v3 < r4 then r4 else v3)) v4 Sr4) else (j_X7_leftAtWorst_42_in5 fu v0 v1 v2 v3 v4 S))
def f_X7_leftAtWorst (fu : Nat) (o : Nat) (p0 : Int32) (p1 : Int32) (S : g_St) : Option (Int32 × g_St) :=
  g_th (g_lp (fun t => b_X7_leftAtWorst_5 fu o p0 p1 t.1 t.2.1 t.2.2) fu ((0 : Int32), (0 : Int32), S)) fun e => match e with | (w3_1, S1) => some (w3_1, S1)
set_option maxRecDepth 100000 in
set_option maxHeartbeats 400000 in
theorem vj_X7_leftAtWorst_42_in5 {x : g_CX} {z : Int32 × g_St} {fu : Nat} (X : g_X 90 x cX7_leftAtWorst RX7 5 wsX7_leftAtWorst rm_X7_leftAtWorst (some .int)) (v0 : Nat) (v1 : Int32) (v2 : Int32) (v3 : Int32) (v4 : Int32) (hk_v0 : v0 < 90 ∧ g_KC v0 = g_kX7) (S : g_St) {r : (Int32 × Int32 × g_St) ⊕ (Int32 × g_St)} (h : j_X7_leftAtWorst_42_in5 fu v0 v1 v2 v3 v4 S = some r) (hc : Sum.elim (fun t : Int32 × Int32 × g_St => g_V g_KC 90 x 5 (g_qi g_KC 90 x z) t.2.2 5 [(0, .ref (g_ad x v0)), (1, .int (v1)), (2, .int (v2)), (3, .int (t.1)), (4, .int (t.2.1))] []) (fun e : Int32 × g_St => g_V g_KC 90 x 5 (g_qi g_KC 90 x z) e.2 48 [(3, .int (e.1))] []) r) : g_V g_KC 90 x 5 (g_qi g_KC 90 x z) S 42 [(0, .ref (g_ad x v0)), (1, .int (v1)), (2, .int (v2)), (3, .int (v3)), (4, .int (v4))] [] := by
  unfold j_X7_leftAtWorst_42_in5 at h
  refine g_iinc X [(4, _), (0, _), (1, _), (2, _), (3, _)] dX7_leftAtWorst_42 4 rfl rfl (by decide) rfl ?_
  refine g_goto X 5 dX7_leftAtWorst_45 (by decide) ?_
  cases h
  exact g_sub [1, 2, 3, 4, 0] _ rfl hc
set_option maxRecDepth 100000 in
set_option maxHeartbeats 400000 in
theorem vb_X7_leftAtWorst_5 {x : g_CX} {z : Int32 × g_St} {fu : Nat} (X : g_X 90 x cX7_leftAtWorst RX7 5 wsX7_leftAtWorst rm_X7_leftAtWorst (some .int)) (v0 : Nat) (v1 : Int32) (v2 : Int32) (v3 : Int32) (v4 : Int32) (hk_v0 : v0 < 90 ∧ g_KC v0 = g_kX7) (S : g_St) {r : (Int32 × Int32 × g_St) ⊕ (Int32 × g_St)} (h : b_X7_leftAtWorst_5 fu v0 v1 v2 v3 v4 S = some r) (hc : Sum.elim (fun t : Int32 × Int32 × g_St => g_V g_KC 90 x 5 (g_qi g_KC 90 x z) t.2.2 5 [(0, .ref (g_ad x v0)), (1, .int (v1)), (2, .int (v2)), (3, .int (t.1)), (4, .int (t.2.1))] []) (fun e : Int32 × g_St => g_V g_KC 90 x 5 (g_qi g_KC 90 x z) e.2 48 [(3, .int (e.1))] []) r) : g_V g_KC 90 x 5 (g_qi g_KC 90 x z) S 5 [(0, .ref (g_ad x v0)), (1, .int (v1)), (2, .int (v2)), (3, .int (v3)), (4, .int (v4))] [] := by
  unfold b_X7_leftAtWorst_5 at h
  refine g_iload X dX7_leftAtWorst_5 4 rfl ?_
  refine g_bipush X (v := (9)) dX7_leftAtWorst_7 (by decide) ?_
  refine g_icmp_gt X 48 dX7_leftAtWorst_9 (by decide) h (fun c_9 h => ?_) (fun c_9 h => ?_)
  · skip
    cases h
    exact g_sub [3] _ rfl hc
  · skip
    refine g_iload_n X dX7_leftAtWorst_12 1 rfl ?_
    refine g_iload X dX7_leftAtWorst_13 4 rfl ?_
    refine g_ishr X dX7_leftAtWorst_15 ?_
    refine g_iconst X (v := 1) dX7_leftAtWorst_16 (by decide) ?_
    refine g_iand X dX7_leftAtWorst_17 ?_
    refine g_iconst X (v := 1) dX7_leftAtWorst_18 (by decide) ?_
    refine g_icmp_ne X 42 dX7_leftAtWorst_19 (by decide) h (fun c_19 h => ?_) (fun c_19 h => ?_)
    · skip
      refine g_sub [0, 1, 2, 3, 4] _ rfl ?_
      exact vj_X7_leftAtWorst_42_in5 X v0 v1 v2 v3 v4 hk_v0 _ h hc
    · skip
      refine g_iload_n X dX7_leftAtWorst_22 3 rfl ?_
      refine g_aload_n X dX7_leftAtWorst_23 0 rfl ?_
      refine g_iload_n X dX7_leftAtWorst_24 1 rfl ?_
      refine g_iload_n X dX7_leftAtWorst_25 2 rfl ?_
      refine g_aload_n X dX7_leftAtWorst_26 0 rfl ?_
      refine g_getr X g_cX7 w_X7_leftAtWorst_inX7 8 (by decide) w_X7_leftAtWorst_58 hk_v0 rfl dX7_leftAtWorst_27 h (fun a1 hk_a1 h => ?_)
      refine g_iload X dX7_leftAtWorst_30 4 rfl ?_
      refine g_aaldA X hk_a1 dX7_leftAtWorst_32 h (fun a2 hk_a2 h => ?_)
      refine g_iload_n X dX7_leftAtWorst_33 2 rfl ?_
      refine g_iald X hk_a2 dX7_leftAtWorst_34 h (fun i3 _ h => ?_)
      refine g_callVi X g_cX7 hk_v0 [.int (v1), .int (v2), .int ((S.1 a2 i3))] rfl (cwV 3 X.2.2.2.2.1 gX7_leftAtWorst_X7_sharing rfl rfl rfl hd_X7_sharing ⟨Nat.le_of_ble_eq_true rfl, Nat.le_of_ble_eq_true rfl⟩) (Nat.le_of_ble_eq_true rfl) dX7_leftAtWorst_35 h (fun q hq => ct_X7_sharing X.2.2.2.2.2.2.1 v0 v1 v2 ((S.1 a2 i3)) hk_v0 _ hq) (fun r4 Sr4 h => ?_)
      refine g_mmax X w_X7_leftAtWorst_180 w_X7_leftAtWorst_stmmax w_X7_leftAtWorst_inMath w_X7_leftAtWorst_commax (by decide) (Nat.le_of_ble_eq_true rfl) dX7_leftAtWorst_38 ?_
      refine g_istore_n X [(3, _), (0, _), (1, _), (2, _), (4, _)] dX7_leftAtWorst_41 (by decide) rfl ?_
      refine g_sub [1, 2, 3, 0, 4] _ rfl ?_
      exact vj_X7_leftAtWorst_42_in5 X v0 v1 v2 ((if v3 < r4 then r4 else v3)) v4 hk_v0 _ h hc
set_option maxRecDepth 100000 in
set_option maxHeartbeats 400000 in
theorem ct_X7_leftAtWorst {l : Launch} {D : va_G} {ad : Nat → Nat} {cy : Nat → ClassId} {zz : (Nat → Nat) × (Nat → Nat)} (hinj : ∀ i j, i < 90 → j < 90 → ad i = ad j → i = j) {fu : Nat} (o : Nat) (p0 : Int32) (p1 : Int32) (hk_o : o < 90 ∧ g_KC o = g_kX7) {S : g_St} (z : Int32 × g_St) (h : f_X7_leftAtWorst fu o p0 p1 S = some z) : g_Mi l g_KC 90 D ad cy zz yX7_leftAtWorst wsX7_leftAtWorst rm_X7_leftAtWorst [.ref (ad o), .int (p0), .int (p1)] S z := by
  refine g_ofi hinj (cc := cX7_leftAtWorst) (maxL := 5) (ret := (some .int)) (lv := [(0, .ref (ad o)), (1, .int (p0)), (2, .int (p1))]) (by decide) rfl (Nat.le_of_ble_eq_true rfl) rfl ?_
  intro x X hl hD ha hy hz
  subst hl hD ha hy hz
  unfold f_X7_leftAtWorst at h
  refine g_iconst X (v := 0) dX7_leftAtWorst_0 (by decide) ?_
  refine g_istore_n X [(3, _), (0, _), (1, _), (2, _)] dX7_leftAtWorst_1 (by decide) rfl ?_
  refine g_iconst X (v := 0) dX7_leftAtWorst_2 (by decide) ?_
  refine g_istore X [(4, _), (3, _), (0, _), (1, _), (2, _)] dX7_leftAtWorst_3 (by decide) rfl ?_
  obtain ⟨e, he, h⟩ := g_th_s h
  refine g_sub [2, 3, 4, 1, 0] _ rfl ?_
  refine g_lp_w (body := (fun t => b_X7_leftAtWorst_5 fu o p0 p1 t.1 t.2.1 t.2.2)) (P := fun t : Int32 × Int32 × g_St => g_V g_KC 90 x 5 (g_qi g_KC 90 x z) t.2.2 5 [(0, .ref (g_ad x o)), (1, .int (p0)), (2, .int (p1)), (3, .int (t.1)), (4, .int (t.2.1))] []) (E := (fun e : Int32 × g_St => g_V g_KC 90 x 5 (g_qi g_KC 90 x z) e.2 48 [(3, .int (e.1))] [])) (fun t r hb hc => vb_X7_leftAtWorst_5 X o p0 p1 t.1 t.2.1 hk_o t.2.2 hb hc) fu ((0 : Int32), (0 : Int32), S) e he ?_
  obtain ⟨w3_1, S1⟩ := e
  show g_V g_KC 90 x 5 (g_qi g_KC 90 x z) S1 48 [(3, .int (w3_1))] []
  refine g_iload_n X dX7_leftAtWorst_48 0 rfl ?_
  exact g_iret X h dX7_leftAtWorst_49
abbrev rm_X7_ask : Room := { frames := 7, cells := 0, slots := 0, locals := 157 }
theorem hd_X7_ask : yX7_ask.cls = RX7 ∧ yX7_ask.cls ≠ "java/lang/invoke/MethodHandle" ∧ yX7_ask.cls ≠ "java/lang/invoke/VarHandle" ∧ (parseMethodDescriptor yX7_ask.desc).map (fun d => d.parameters.length) = some 2 := by decide +kernel
theorem w_X7_ask_16 : Cond.fieldLink RX7 16 "TokenDoors" "trial" "LTokenDoors$Hall;" ∈ wsX7_ask := by decide +kernel
theorem w_X7_ask_inX7 : ∀ w ∈ wsX70, w ∈ wsX7_ask := by decide +kernel
theorem w_X7_ask_115 : Cond.fieldLink RX7 115 "TokenDoors$Hall" "doors" "[LTokenDoors$Door;" ∈ wsX7_ask := by decide +kernel
theorem w_X7_ask_inX2 : ∀ w ∈ wsX20, w ∈ wsX7_ask := by decide +kernel
theorem w_X7_ask_58 : Cond.fieldLink RX7 58 "TokenDoors" "letByRate" "[[I" ∈ wsX7_ask := by decide +kernel
def b_X7_ask_27 (fu : Nat) (v0 : Nat) (v1 : Int32) (v2 : Int32) (v3 : Int32) (v4 : Int32) (S : g_St) : Option ((Int32 × g_St) ⊕ (g_St)) :=
  if (9 : Int32) < v4 then (some (.inr S)) else (g_bd (f_X7_startTrial fu v0 S) fun _ Sr4 => g_ld g_KC 90 g_kX2 (Sr4.2 v0 1) fun a5 => g_ld g_KC 90 (.inr (3, 4, true)) (Sr4.2 a5 0) fun a6 => g_ix v1 4 fun i7 => g_ld g_KC 90 g_kX1 (Sr4.2 a6 i7) fun a7 => g_bd (f_X1_change fu a7 ((2 : Int32)) v4 Sr4) fun _ Sr8 => g_ld g_KC 90 (.inr (7, 10, true)) (Sr8.2 v0 8) fun a9 => g_ix v4 10 fun i10 => g_ld g_KC 90 (.inr (0, 41, false)) (Sr8.2 a9 i10) fun a10 => g_bd (f_X7_countLetByTick fu v0 a10 Sr8) fun _ Sr11 => some (.inl ((v4 + 1), Sr11)))
def j_X7_ask_114_in83 (fu : Nat) (v0 : Nat) (v2 : Int32) (v3 : Int32) (v4 : Int32) (v5 : Int32) (v6 : Int32) (S : g_St) : Option ((Int32 × Int32 × Int32 × g_St) ⊕ (Int32 × Int32 × g_St)) :=
  some (.inl (v4, v5, (v6 + 1), S))
def b_X7_ask_83 (fu : Nat) (v0 : Nat) (v2 : Int32) (v3 : Int32) (v4 : Int32) (v5 : Int32) (v6 : Int32) (S : g_St) : Option ((Int32 × Int32 × Int32 × g_St) ⊕ (Int32 × Int32 × g_St)) :=
  if (40 : Int32) < v6 then (some (.inr (v4, v5, S))) else (g_bd (f_X7_leftAtWorst fu v0 v3 v6 S) fun r13 Sr13 => if v4 ≤ r13 then (j_X7_ask_114_in83 fu v0 v2 v3 v4 v5 v6 Sr13) else (j_X7_ask_114_in83 fu v0 v2 v3 r13 v6 v6 Sr13))
def j_X7_ask_131 (fu : Nat) (v5 : Int32) (S : g_St) : Option (Int32 × g_St) :=
  some (v5, S)
def f_X7_ask (fu : Nat) (o : Nat) (p0 : Int32) (p1 : Int32) (S : g_St) : Option (Int32 × g_St) :=
  g_bd (f_X7_isDoor fu o p0 S) fun r1 Sr1 => if r1 = 0 then (some ((-1 : Int32), Sr1)) else (g_bd (f_X7_isChoice fu p1 Sr1) fun r2 Sr2 => if r2 = 0 then (some ((-1 : Int32), Sr2)) else (g_bd (f_X7_fitting fu o p0 ((2 : Int32)) Sr2) fun r3 Sr3 => g_th (g_lp (fun t => b_X7_ask_27 fu o p0 p1 r3 t.1 t.2) fu ((0 : Int32), Sr3)) fun e => match e with | S1 => g_bd (f_J6_bitCount_0f7a4 fu r3 S1) fun r12 Sr12 => g_th (g_lp (fun t => b_X7_ask_83 fu o p1 r3 t.1 t.2.1 t.2.2.1 t.2.2.2) fu (r12, (-4 : Int32), (0 : Int32), Sr12)) fun e => match e with | (w4_2, w5_2, S2) => if w5_2 = (-4 : Int32) then (j_X7_ask_131 fu w5_2 S2) else (if p1 = 0 then (j_X7_ask_131 fu w5_2 S2) else (some (w4_2, S2)))))
set_option maxRecDepth 100000 in
set_option maxHeartbeats 400000 in
theorem vb_X7_ask_27 {x : g_CX} {z : Int32 × g_St} {fu : Nat} (X : g_X 90 x cX7_ask RX7 8 wsX7_ask rm_X7_ask (some .int)) (v0 : Nat) (v1 : Int32) (v2 : Int32) (v3 : Int32) (v4 : Int32) (hk_v0 : v0 < 90 ∧ g_KC v0 = g_kX7) (S : g_St) {r : (Int32 × g_St) ⊕ (g_St)} (h : b_X7_ask_27 fu v0 v1 v2 v3 v4 S = some r) (hc : Sum.elim (fun t : Int32 × g_St => g_V g_KC 90 x 8 (g_qi g_KC 90 x z) t.2 27 [(0, .ref (g_ad x v0)), (1, .int (v1)), (2, .int (v2)), (3, .int (v3)), (4, .int (t.1))] []) (fun e : g_St => g_V g_KC 90 x 8 (g_qi g_KC 90 x z) e 70 [(0, .ref (g_ad x v0)), (2, .int (v2)), (3, .int (v3))] []) r) : g_V g_KC 90 x 8 (g_qi g_KC 90 x z) S 27 [(0, .ref (g_ad x v0)), (1, .int (v1)), (2, .int (v2)), (3, .int (v3)), (4, .int (v4))] [] := by
  unfold b_X7_ask_27 at h
  refine g_iload X dX7_ask_27 4 rfl ?_
  refine g_bipush X (v := (9)) dX7_ask_29 (by decide) ?_
  refine g_icmp_gt X 70 dX7_ask_31 (by decide) h (fun c_31 h => ?_) (fun c_31 h => ?_)
  · skip
    cases h
    exact g_sub [0, 2, 3] _ rfl hc
  · skip
    refine g_aload_n X dX7_ask_34 0 rfl ?_
    refine g_callVv X g_cX7 hk_v0 [] rfl (cwV 0 X.2.2.2.2.1 gX7_ask_X7_startTrial rfl rfl rfl hd_X7_startTrial ⟨Nat.le_of_ble_eq_true rfl, Nat.le_of_ble_eq_true rfl⟩) (Nat.le_of_ble_eq_true rfl) dX7_ask_35 h (fun q hq => ct_X7_startTrial X.2.2.2.2.2.2.1 v0 hk_v0 _ hq) (fun _ Sr4 h => ?_)
    refine g_aload_n X dX7_ask_38 0 rfl ?_
    refine g_getr X g_cX7 w_X7_ask_inX7 1 (by decide) w_X7_ask_16 hk_v0 rfl dX7_ask_39 h (fun a5 hk_a5 h => ?_)
    refine g_getr X g_cX2 w_X7_ask_inX2 0 (by decide) w_X7_ask_115 hk_a5 rfl dX7_ask_42 h (fun a6 hk_a6 h => ?_)
    refine g_iload_n X dX7_ask_45 1 rfl ?_
    refine g_aald X 3 RX1 rfl hk_a6 dX7_ask_46 h (fun a7 hk_a7 h => ?_)
    refine g_iconst X (v := 2) dX7_ask_47 (by decide) ?_
    refine g_iload X dX7_ask_48 4 rfl ?_
    refine g_callVv X g_cX1 hk_a7 [.int ((2 : Int32)), .int (v4)] rfl (cwV 2 X.2.2.2.2.1 gX7_ask_X1_change rfl rfl rfl hd_X1_change ⟨Nat.le_of_ble_eq_true rfl, Nat.le_of_ble_eq_true rfl⟩) (Nat.le_of_ble_eq_true rfl) dX7_ask_50 h (fun q hq => ct_X1_change X.2.2.2.2.2.2.1 a7 ((2 : Int32)) v4 hk_a7 _ hq) (fun _ Sr8 h => ?_)
    refine g_aload_n X dX7_ask_53 0 rfl ?_
    refine g_aload_n X dX7_ask_54 0 rfl ?_
    refine g_getr X g_cX7 w_X7_ask_inX7 8 (by decide) w_X7_ask_58 hk_v0 rfl dX7_ask_55 h (fun a9 hk_a9 h => ?_)
    refine g_iload X dX7_ask_58 4 rfl ?_
    refine g_aaldA X hk_a9 dX7_ask_60 h (fun a10 hk_a10 h => ?_)
    refine g_callVv X g_cX7 hk_v0 [.ref (g_ad x a10)] rfl (cwV 1 X.2.2.2.2.1 gX7_ask_X7_countLetByTick rfl rfl rfl hd_X7_countLetByTick ⟨Nat.le_of_ble_eq_true rfl, Nat.le_of_ble_eq_true rfl⟩) (Nat.le_of_ble_eq_true rfl) dX7_ask_61 h (fun q hq => ct_X7_countLetByTick X.2.2.2.2.2.2.1 v0 a10 hk_v0 hk_a10 _ hq) (fun _ Sr11 h => ?_)
    refine g_iinc X [(4, _), (0, _), (1, _), (2, _), (3, _)] dX7_ask_64 4 rfl rfl (by decide) rfl ?_
    refine g_goto X 27 dX7_ask_67 (by decide) ?_
    cases h
    exact g_sub [1, 2, 3, 4, 0] _ rfl hc
set_option maxRecDepth 100000 in
set_option maxHeartbeats 400000 in
theorem vj_X7_ask_114_in83 {x : g_CX} {z : Int32 × g_St} {fu : Nat} (X : g_X 90 x cX7_ask RX7 8 wsX7_ask rm_X7_ask (some .int)) (v0 : Nat) (v2 : Int32) (v3 : Int32) (v4 : Int32) (v5 : Int32) (v6 : Int32) (hk_v0 : v0 < 90 ∧ g_KC v0 = g_kX7) (S : g_St) {r : (Int32 × Int32 × Int32 × g_St) ⊕ (Int32 × Int32 × g_St)} (h : j_X7_ask_114_in83 fu v0 v2 v3 v4 v5 v6 S = some r) (hc : Sum.elim (fun t : Int32 × Int32 × Int32 × g_St => g_V g_KC 90 x 8 (g_qi g_KC 90 x z) t.2.2.2 83 [(0, .ref (g_ad x v0)), (2, .int (v2)), (3, .int (v3)), (4, .int (t.1)), (5, .int (t.2.1)), (6, .int (t.2.2.1))] []) (fun e : Int32 × Int32 × g_St => g_V g_KC 90 x 8 (g_qi g_KC 90 x z) e.2.2 120 [(2, .int (v2)), (4, .int (e.1)), (5, .int (e.2.1))] []) r) : g_V g_KC 90 x 8 (g_qi g_KC 90 x z) S 114 [(0, .ref (g_ad x v0)), (2, .int (v2)), (3, .int (v3)), (4, .int (v4)), (5, .int (v5)), (6, .int (v6))] [] := by
  unfold j_X7_ask_114_in83 at h
  refine g_iinc X [(6, _), (0, _), (2, _), (3, _), (4, _), (5, _)] dX7_ask_114 5 rfl rfl (by decide) rfl ?_
  refine g_goto X 83 dX7_ask_117 (by decide) ?_
  cases h
  exact g_sub [1, 2, 3, 4, 5, 0] _ rfl hc
set_option maxRecDepth 100000 in
set_option maxHeartbeats 400000 in
theorem vb_X7_ask_83 {x : g_CX} {z : Int32 × g_St} {fu : Nat} (X : g_X 90 x cX7_ask RX7 8 wsX7_ask rm_X7_ask (some .int)) (v0 : Nat) (v2 : Int32) (v3 : Int32) (v4 : Int32) (v5 : Int32) (v6 : Int32) (hk_v0 : v0 < 90 ∧ g_KC v0 = g_kX7) (S : g_St) {r : (Int32 × Int32 × Int32 × g_St) ⊕ (Int32 × Int32 × g_St)} (h : b_X7_ask_83 fu v0 v2 v3 v4 v5 v6 S = some r) (hc : Sum.elim (fun t : Int32 × Int32 × Int32 × g_St => g_V g_KC 90 x 8 (g_qi g_KC 90 x z) t.2.2.2 83 [(0, .ref (g_ad x v0)), (2, .int (v2)), (3, .int (v3)), (4, .int (t.1)), (5, .int (t.2.1)), (6, .int (t.2.2.1))] []) (fun e : Int32 × Int32 × g_St => g_V g_KC 90 x 8 (g_qi g_KC 90 x z) e.2.2 120 [(2, .int (v2)), (4, .int (e.1)), (5, .int (e.2.1))] []) r) : g_V g_KC 90 x 8 (g_qi g_KC 90 x z) S 83 [(0, .ref (g_ad x v0)), (2, .int (v2)), (3, .int (v3)), (4, .int (v4)), (5, .int (v5)), (6, .int (v6))] [] := by
  unfold b_X7_ask_83 at h
  refine g_iload X dX7_ask_83 5 rfl ?_
  refine g_bipush X (v := (40)) dX7_ask_85 (by decide) ?_
  refine g_icmp_gt X 120 dX7_ask_87 (by decide) h (fun c_87 h => ?_) (fun c_87 h => ?_)
  · skip
    cases h
    exact g_sub [1, 3, 4] _ rfl hc
  · skip
    refine g_aload_n X dX7_ask_90 0 rfl ?_
    refine g_iload_n X dX7_ask_91 2 rfl ?_
    refine g_iload X dX7_ask_92 5 rfl ?_
    refine g_callVi X g_cX7 hk_v0 [.int (v3), .int (v6)] rfl (cwV 2 X.2.2.2.2.1 gX7_ask_X7_leftAtWorst rfl rfl rfl hd_X7_leftAtWorst ⟨Nat.le_of_ble_eq_true rfl, Nat.le_of_ble_eq_true rfl⟩) (Nat.le_of_ble_eq_true rfl) dX7_ask_94 h (fun q hq => ct_X7_leftAtWorst X.2.2.2.2.2.2.1 v0 v3 v6 hk_v0 _ hq) (fun r13 Sr13 h => ?_)
    refine g_istore X [(7, _), (0, _), (2, _), (3, _), (4, _), (5, _), (6, _)] dX7_ask_97 (by decide) rfl ?_
    refine g_iload X dX7_ask_99 0 rfl ?_
    refine g_iload X dX7_ask_101 4 rfl ?_
    refine g_icmp_ge X 114 dX7_ask_103 (by decide) h (fun c_103 h => ?_) (fun c_103 h => ?_)
    · skip
      refine g_sub [1, 2, 3, 4, 5, 6] _ rfl ?_
      exact vj_X7_ask_114_in83 X v0 v2 v3 v4 v5 v6 hk_v0 _ h hc
    · skip
      refine g_iload X dX7_ask_106 0 rfl ?_
      refine g_istore X [(4, _), (7, _), (0, _), (2, _), (3, _), (5, _), (6, _)] dX7_ask_108 (by decide) rfl ?_
      refine g_iload X dX7_ask_110 6 rfl ?_
      refine g_istore X [(5, _), (4, _), (7, _), (0, _), (2, _), (3, _), (6, _)] dX7_ask_112 (by decide) rfl ?_
      refine g_sub [3, 4, 5, 1, 0, 6] _ rfl ?_
      exact vj_X7_ask_114_in83 X v0 v2 v3 r13 v6 v6 hk_v0 _ h hc
set_option maxRecDepth 100000 in
set_option maxHeartbeats 400000 in
theorem vj_X7_ask_131 {x : g_CX} {z : Int32 × g_St} {fu : Nat} (X : g_X 90 x cX7_ask RX7 8 wsX7_ask rm_X7_ask (some .int)) (v5 : Int32)  (S : g_St) (h : j_X7_ask_131 fu v5 S = some z) : g_V g_KC 90 x 8 (g_qi g_KC 90 x z) S 131 [(5, .int (v5))] [] := by
  unfold j_X7_ask_131 at h
  refine g_iload X dX7_ask_131 0 rfl ?_
  refine g_goto X 138 dX7_ask_133 (by decide) ?_
  exact g_iret X h dX7_ask_138
set_option maxRecDepth 100000 in
set_option maxHeartbeats 400000 in
theorem ct_X7_ask {l : Launch} {D : va_G} {ad : Nat → Nat} {cy : Nat → ClassId} {zz : (Nat → Nat) × (Nat → Nat)} (hinj : ∀ i j, i < 90 → j < 90 → ad i = ad j → i = j) {fu : Nat} (o : Nat) (p0 : Int32) (p1 : Int32) (hk_o : o < 90 ∧ g_KC o = g_kX7) {S : g_St} (z : Int32 × g_St) (h : f_X7_ask fu o p0 p1 S = some z) : g_Mi l g_KC 90 D ad cy zz yX7_ask wsX7_ask rm_X7_ask [.ref (ad o), .int (p0), .int (p1)] S z := by
  refine g_ofi hinj (cc := cX7_ask) (maxL := 8) (ret := (some .int)) (lv := [(0, .ref (ad o)), (1, .int (p0)), (2, .int (p1))]) (by decide) rfl (Nat.le_of_ble_eq_true rfl) rfl ?_
  intro x X hl hD ha hy hz
  subst hl hD ha hy hz
  unfold f_X7_ask at h
  refine g_aload_n X dX7_ask_0 0 rfl ?_
  refine g_iload_n X dX7_ask_1 1 rfl ?_
  refine g_callVi X g_cX7 hk_o [.int (p0)] rfl (cwV 1 X.2.2.2.2.1 gX7_ask_X7_isDoor rfl rfl rfl hd_X7_isDoor ⟨Nat.le_of_ble_eq_true rfl, Nat.le_of_ble_eq_true rfl⟩) (Nat.le_of_ble_eq_true rfl) dX7_ask_2 h (fun q hq => ct_X7_isDoor X.2.2.2.2.2.2.1 o p0 hk_o _ hq) (fun r1 Sr1 h => ?_)
  refine g_if_eq X 15 dX7_ask_5 (by decide) h (fun c_5 h => ?_) (fun c_5 h => ?_)
  · skip
    refine g_iconst X (v := (-1)) dX7_ask_15 (by decide) ?_
    exact g_iret X h dX7_ask_16
  · skip
    refine g_iload_n X dX7_ask_8 2 rfl ?_
    refine g_callSi X [.int (p1)] rfl (va_cwS 1 X.2.2.2.2.1 gX7_ask_X7_isChoice rfl rfl rfl hd_X7_isChoice ⟨Nat.le_of_ble_eq_true rfl, Nat.le_of_ble_eq_true rfl⟩) (Nat.le_of_ble_eq_true rfl) dX7_ask_9 h (fun q hq => ct_X7_isChoice X.2.2.2.2.2.2.1 p1  _ hq) (fun r2 Sr2 h => ?_)
    refine g_if_ne X 17 dX7_ask_12 (by decide) h (fun c_12 h => ?_) (fun c_12 h => ?_)
    · skip
      refine g_aload_n X dX7_ask_17 0 rfl ?_
      refine g_iload_n X dX7_ask_18 1 rfl ?_
      refine g_iconst X (v := 2) dX7_ask_19 (by decide) ?_
      refine g_callVi X g_cX7 hk_o [.int (p0), .int ((2 : Int32))] rfl (cwV 2 X.2.2.2.2.1 gX7_ask_X7_fitting rfl rfl rfl hd_X7_fitting ⟨Nat.le_of_ble_eq_true rfl, Nat.le_of_ble_eq_true rfl⟩) (Nat.le_of_ble_eq_true rfl) dX7_ask_20 h (fun q hq => ct_X7_fitting X.2.2.2.2.2.2.1 o p0 ((2 : Int32)) hk_o _ hq) (fun r3 Sr3 h => ?_)
      refine g_istore_n X [(3, _), (0, _), (1, _), (2, _)] dX7_ask_23 (by decide) rfl ?_
      refine g_iconst X (v := 0) dX7_ask_24 (by decide) ?_
      refine g_istore X [(4, _), (3, _), (0, _), (1, _), (2, _)] dX7_ask_25 (by decide) rfl ?_
      obtain ⟨e, he, h⟩ := g_th_s h
      refine g_sub [2, 3, 4, 1, 0] _ rfl ?_
      refine g_lp_w (body := (fun t => b_X7_ask_27 fu o p0 p1 r3 t.1 t.2)) (P := fun t : Int32 × g_St => g_V g_KC 90 x 8 (g_qi g_KC 90 x z) t.2 27 [(0, .ref (g_ad x o)), (1, .int (p0)), (2, .int (p1)), (3, .int (r3)), (4, .int (t.1))] []) (E := (fun e : g_St => g_V g_KC 90 x 8 (g_qi g_KC 90 x z) e 70 [(0, .ref (g_ad x o)), (2, .int (p1)), (3, .int (r3))] [])) (fun t r hb hc => vb_X7_ask_27 X o p0 p1 r3 t.1 hk_o t.2 hb hc) fu ((0 : Int32), Sr3) e he ?_
      obtain ⟨S1, rfl⟩ : ∃ q, q = e := ⟨_, rfl⟩
      show g_V g_KC 90 x 8 (g_qi g_KC 90 x z) S1 70 [(0, .ref (g_ad x o)), (2, .int (p1)), (3, .int (r3))] []
      refine g_iload_n X dX7_ask_70 2 rfl ?_
      refine g_callSi X [.int (r3)] rfl (va_cwS 1 X.2.2.2.2.1 gX7_ask_J6_bitCount_0f7a4 rfl rfl rfl hd_J6_bitCount_0f7a4 ⟨Nat.le_of_ble_eq_true rfl, Nat.le_of_ble_eq_true rfl⟩) (Nat.le_of_ble_eq_true rfl) dX7_ask_71 h (fun q hq => ct_J6_bitCount_0f7a4 X.2.2.2.2.2.2.1 r3  _ hq) (fun r12 Sr12 h => ?_)
      refine g_istore X [(4, _), (0, _), (2, _), (3, _)] dX7_ask_74 (by decide) rfl ?_
      refine g_bipush X (v := (-4)) dX7_ask_76 (by decide) ?_
      refine g_istore X [(5, _), (4, _), (0, _), (2, _), (3, _)] dX7_ask_78 (by decide) rfl ?_
      refine g_iconst X (v := 0) dX7_ask_80 (by decide) ?_
      refine g_istore X [(6, _), (5, _), (4, _), (0, _), (2, _), (3, _)] dX7_ask_81 (by decide) rfl ?_
      obtain ⟨e, he, h⟩ := g_th_s h
      refine g_sub [3, 4, 5, 2, 1, 0] _ rfl ?_
      refine g_lp_w (body := (fun t => b_X7_ask_83 fu o p1 r3 t.1 t.2.1 t.2.2.1 t.2.2.2)) (P := fun t : Int32 × Int32 × Int32 × g_St => g_V g_KC 90 x 8 (g_qi g_KC 90 x z) t.2.2.2 83 [(0, .ref (g_ad x o)), (2, .int (p1)), (3, .int (r3)), (4, .int (t.1)), (5, .int (t.2.1)), (6, .int (t.2.2.1))] []) (E := (fun e : Int32 × Int32 × g_St => g_V g_KC 90 x 8 (g_qi g_KC 90 x z) e.2.2 120 [(2, .int (p1)), (4, .int (e.1)), (5, .int (e.2.1))] [])) (fun t r hb hc => vb_X7_ask_83 X o p1 r3 t.1 t.2.1 t.2.2.1 hk_o t.2.2.2 hb hc) fu (r12, (-4 : Int32), (0 : Int32), Sr12) e he ?_
      obtain ⟨w4_2, w5_2, S2⟩ := e
      show g_V g_KC 90 x 8 (g_qi g_KC 90 x z) S2 120 [(2, .int (p1)), (4, .int (w4_2)), (5, .int (w5_2))] []
      refine g_iload X dX7_ask_120 2 rfl ?_
      refine g_bipush X (v := (-4)) dX7_ask_122 (by decide) ?_
      refine g_icmp_eq X 131 dX7_ask_124 (by decide) h (fun c_124 h => ?_) (fun c_124 h => ?_)
      · skip
        refine g_sub [2] _ rfl ?_
        exact vj_X7_ask_131 X w5_2  _ h
      · skip
        refine g_iload_n X dX7_ask_127 0 rfl ?_
        refine g_if_ne X 136 dX7_ask_128 (by decide) h (fun c_128 h => ?_) (fun c_128 h => ?_)
        · skip
          refine g_iload X dX7_ask_136 1 rfl ?_
          exact g_iret X h dX7_ask_138
        · skip
          refine g_sub [2] _ rfl ?_
          exact vj_X7_ask_131 X w5_2  _ h
    · skip
      refine g_iconst X (v := (-1)) dX7_ask_15 (by decide) ?_
      exact g_iret X h dX7_ask_16
abbrev rm_X7_drift : Room := { frames := 4, cells := 0, slots := 0, locals := 91 }
theorem hd_X7_drift : yX7_drift.cls = RX7 ∧ yX7_drift.cls ≠ "java/lang/invoke/MethodHandle" ∧ yX7_drift.cls ≠ "java/lang/invoke/VarHandle" ∧ (parseMethodDescriptor yX7_drift.desc).map (fun d => d.parameters.length) = some 3 := by decide +kernel
theorem w_X7_drift_10 : Cond.fieldLink RX7 10 "TokenDoors" "now" "LTokenDoors$Hall;" ∈ wsX7_drift := by decide +kernel
theorem w_X7_drift_inX7 : ∀ w ∈ wsX70, w ∈ wsX7_drift := by decide +kernel
theorem w_X7_drift_91 : Cond.fieldLink RX7 91 "TokenDoors$Hall" "doorCount" "I" ∈ wsX7_drift := by decide +kernel
theorem w_X7_drift_inX2 : ∀ w ∈ wsX20, w ∈ wsX7_drift := by decide +kernel
theorem w_X7_drift_251 : Cond.constant RX7 251 (1103515245) ∈ wsX7_drift := by decide +kernel
theorem w_X7_drift_16 : Cond.fieldLink RX7 16 "TokenDoors" "trial" "LTokenDoors$Hall;" ∈ wsX7_drift := by decide +kernel
theorem w_X7_drift_103 : Cond.fieldLink RX7 103 "TokenDoors$Hall" "turned" "I" ∈ wsX7_drift := by decide +kernel
theorem w_X7_drift_100 : Cond.fieldLink RX7 100 "TokenDoors$Hall" "let" "I" ∈ wsX7_drift := by decide +kernel
def b_X7_drift_44 (fu : Nat) (v0 : Nat) (v2 : Int32) (v3 : Int32) (v4 : Int32) (v5 : Int32) (S : g_St) : Option ((Int32 × Int32 × g_St) ⊕ (g_St)) :=
  if v2 ≤ v5 then (some (.inr S)) else (g_ld g_KC 90 g_kX2 (S.2 v0 1) fun a5 => g_nz (10 : Int32) (g_bd (f_X2_tickWith fu a5 ((((Int32.toUInt32 ((v4 * (1103515245 : Int32)) + (12345 : Int32)) >>> (Int32.toUInt32 (16 : Int32) &&& Int32.toUInt32 31)).toInt32 &&& (32767 : Int32)) - ((Int32.toUInt32 ((v4 * (1103515245 : Int32)) + (12345 : Int32)) >>> (Int32.toUInt32 (16 : Int32) &&& Int32.toUInt32 31)).toInt32 &&& (32767 : Int32)) / (10 : Int32) * (10 : Int32))) S) fun r6 Sr6 => some (.inl (((v4 * (1103515245 : Int32)) + (12345 : Int32)), (v5 + 1), Sr6))))
def f_X7_drift (fu : Nat) (o : Nat) (p0 : Int32) (p1 : Int32) (p2 : Int32) (S : g_St) : Option (Int32 × g_St) :=
  if p1 < (1 : Int32) then (some ((-1 : Int32), S)) else (g_bd (f_X7_isRun fu p1 S) fun r1 Sr1 => if r1 = 0 then (some ((-1 : Int32), Sr1)) else (g_bd (f_X7_isChoice fu p2 Sr1) fun r2 Sr2 => if r2 = 0 then (some ((-1 : Int32), Sr2)) else (g_ld g_KC 90 g_kX2 (Sr2.2 o 0) fun a3 => if (Sr2.1 a3 2) = 0 then (some ((-2 : Int32), Sr2)) else (g_bd (f_X7_startTrial fu o Sr2) fun _ Sr4 => g_th (g_lp (fun t => b_X7_drift_44 fu o p1 p2 t.1 t.2.1 t.2.2) fu (p0, (0 : Int32), Sr4)) fun e => match e with | S1 => if p2 = 0 then (g_ld g_KC 90 g_kX2 (S1.2 o 1) fun a8 => some ((S1.1 a8 5), S1)) else (g_ld g_KC 90 g_kX2 (S1.2 o 1) fun a7 => some ((S1.1 a7 6), S1))))))
set_option maxRecDepth 100000 in
set_option maxHeartbeats 400000 in
theorem vb_X7_drift_44 {x : g_CX} {z : Int32 × g_St} {fu : Nat} (X : g_X 90 x cX7_drift RX7 7 wsX7_drift rm_X7_drift (some .int)) (v0 : Nat) (v2 : Int32) (v3 : Int32) (v4 : Int32) (v5 : Int32) (hk_v0 : v0 < 90 ∧ g_KC v0 = g_kX7) (S : g_St) {r : (Int32 × Int32 × g_St) ⊕ (g_St)} (h : b_X7_drift_44 fu v0 v2 v3 v4 v5 S = some r) (hc : Sum.elim (fun t : Int32 × Int32 × g_St => g_V g_KC 90 x 7 (g_qi g_KC 90 x z) t.2.2 44 [(0, .ref (g_ad x v0)), (2, .int (v2)), (3, .int (v3)), (4, .int (t.1)), (5, .int (t.2.1))] []) (fun e : g_St => g_V g_KC 90 x 7 (g_qi g_KC 90 x z) e 91 [(0, .ref (g_ad x v0)), (3, .int (v3))] []) r) : g_V g_KC 90 x 7 (g_qi g_KC 90 x z) S 44 [(0, .ref (g_ad x v0)), (2, .int (v2)), (3, .int (v3)), (4, .int (v4)), (5, .int (v5))] [] := by
  unfold b_X7_drift_44 at h
  refine g_iload X dX7_drift_44 4 rfl ?_
  refine g_iload_n X dX7_drift_46 1 rfl ?_
  refine g_icmp_ge X 91 dX7_drift_47 (by decide) h (fun c_47 h => ?_) (fun c_47 h => ?_)
  · skip
    cases h
    exact g_sub [0, 2] _ rfl hc
  · skip
    refine g_iload X dX7_drift_50 3 rfl ?_
    refine g_ldc X w_X7_drift_251 dX7_drift_52 ?_
    refine g_imul X dX7_drift_54 ?_
    refine g_sipush X (v := (12345)) dX7_drift_55 (by decide) ?_
    refine g_iadd X dX7_drift_58 ?_
    refine g_istore X [(4, _), (0, _), (2, _), (3, _), (5, _)] dX7_drift_59 (by decide) rfl ?_
    refine g_iload X dX7_drift_61 0 rfl ?_
    refine g_bipush X (v := (16)) dX7_drift_63 (by decide) ?_
    refine g_iushr X dX7_drift_65 ?_
    refine g_sipush X (v := (32767)) dX7_drift_66 (by decide) ?_
    refine g_iand X dX7_drift_69 ?_
    refine g_istore X [(6, _), (4, _), (0, _), (2, _), (3, _), (5, _)] dX7_drift_70 (by decide) rfl ?_
    refine g_aload_n X dX7_drift_72 2 rfl ?_
    refine g_getr X g_cX7 w_X7_drift_inX7 1 (by decide) w_X7_drift_16 hk_v0 rfl dX7_drift_73 h (fun a5 hk_a5 h => ?_)
    refine g_iload X dX7_drift_76 0 rfl ?_
    refine g_bipush X (v := (10)) dX7_drift_78 (by decide) ?_
    refine g_irem X dX7_drift_80 h (fun h => ?_)
    refine g_callVi X g_cX2 hk_a5 [.int ((((Int32.toUInt32 ((v4 * (1103515245 : Int32)) + (12345 : Int32)) >>> (Int32.toUInt32 (16 : Int32) &&& Int32.toUInt32 31)).toInt32 &&& (32767 : Int32)) - ((Int32.toUInt32 ((v4 * (1103515245 : Int32)) + (12345 : Int32)) >>> (Int32.toUInt32 (16 : Int32) &&& Int32.toUInt32 31)).toInt32 &&& (32767 : Int32)) / (10 : Int32) * (10 : Int32)))] rfl (cwV 1 X.2.2.2.2.1 gX7_drift_X2_tickWith rfl rfl rfl hd_X2_tickWith ⟨Nat.le_of_ble_eq_true rfl, Nat.le_of_ble_eq_true rfl⟩) (Nat.le_of_ble_eq_true rfl) dX7_drift_81 h (fun q hq => ct_X2_tickWith X.2.2.2.2.2.2.1 a5 ((((Int32.toUInt32 ((v4 * (1103515245 : Int32)) + (12345 : Int32)) >>> (Int32.toUInt32 (16 : Int32) &&& Int32.toUInt32 31)).toInt32 &&& (32767 : Int32)) - ((Int32.toUInt32 ((v4 * (1103515245 : Int32)) + (12345 : Int32)) >>> (Int32.toUInt32 (16 : Int32) &&& Int32.toUInt32 31)).toInt32 &&& (32767 : Int32)) / (10 : Int32) * (10 : Int32))) hk_a5 _ hq) (fun r6 Sr6 h => ?_)
    refine g_pop X dX7_drift_84 rfl ?_
    refine g_iinc X [(5, _), (6, _), (4, _), (0, _), (2, _), (3, _)] dX7_drift_85 5 rfl rfl (by decide) rfl ?_
    refine g_goto X 44 dX7_drift_88 (by decide) ?_
    cases h
    exact g_sub [3, 4, 5, 2, 0] _ rfl hc
set_option maxRecDepth 100000 in
set_option maxHeartbeats 400000 in
theorem ct_X7_drift {l : Launch} {D : va_G} {ad : Nat → Nat} {cy : Nat → ClassId} {zz : (Nat → Nat) × (Nat → Nat)} (hinj : ∀ i j, i < 90 → j < 90 → ad i = ad j → i = j) {fu : Nat} (o : Nat) (p0 : Int32) (p1 : Int32) (p2 : Int32) (hk_o : o < 90 ∧ g_KC o = g_kX7) {S : g_St} (z : Int32 × g_St) (h : f_X7_drift fu o p0 p1 p2 S = some z) : g_Mi l g_KC 90 D ad cy zz yX7_drift wsX7_drift rm_X7_drift [.ref (ad o), .int (p0), .int (p1), .int (p2)] S z := by
  refine g_ofi hinj (cc := cX7_drift) (maxL := 7) (ret := (some .int)) (lv := [(0, .ref (ad o)), (1, .int (p0)), (2, .int (p1)), (3, .int (p2))]) (by decide) rfl (Nat.le_of_ble_eq_true rfl) rfl ?_
  intro x X hl hD ha hy hz
  subst hl hD ha hy hz
  unfold f_X7_drift at h
  refine g_iload_n X dX7_drift_0 2 rfl ?_
  refine g_iconst X (v := 1) dX7_drift_1 (by decide) ?_
  refine g_icmp_lt X 19 dX7_drift_2 (by decide) h (fun c_2 h => ?_) (fun c_2 h => ?_)
  · skip
    refine g_iconst X (v := (-1)) dX7_drift_19 (by decide) ?_
    exact g_iret X h dX7_drift_20
  · skip
    refine g_iload_n X dX7_drift_5 2 rfl ?_
    refine g_callSi X [.int (p1)] rfl (va_cwS 1 X.2.2.2.2.1 gX7_drift_X7_isRun rfl rfl rfl hd_X7_isRun ⟨Nat.le_of_ble_eq_true rfl, Nat.le_of_ble_eq_true rfl⟩) (Nat.le_of_ble_eq_true rfl) dX7_drift_6 h (fun q hq => ct_X7_isRun X.2.2.2.2.2.2.1 p1  _ hq) (fun r1 Sr1 h => ?_)
    refine g_if_eq X 19 dX7_drift_9 (by decide) h (fun c_9 h => ?_) (fun c_9 h => ?_)
    · skip
      refine g_iconst X (v := (-1)) dX7_drift_19 (by decide) ?_
      exact g_iret X h dX7_drift_20
    · skip
      refine g_iload_n X dX7_drift_12 3 rfl ?_
      refine g_callSi X [.int (p2)] rfl (va_cwS 1 X.2.2.2.2.1 gX7_drift_X7_isChoice rfl rfl rfl hd_X7_isChoice ⟨Nat.le_of_ble_eq_true rfl, Nat.le_of_ble_eq_true rfl⟩) (Nat.le_of_ble_eq_true rfl) dX7_drift_13 h (fun q hq => ct_X7_isChoice X.2.2.2.2.2.2.1 p2  _ hq) (fun r2 Sr2 h => ?_)
      refine g_if_ne X 21 dX7_drift_16 (by decide) h (fun c_16 h => ?_) (fun c_16 h => ?_)
      · skip
        refine g_aload_n X dX7_drift_21 0 rfl ?_
        refine g_getr X g_cX7 w_X7_drift_inX7 0 (by decide) w_X7_drift_10 hk_o rfl dX7_drift_22 h (fun a3 hk_a3 h => ?_)
        refine g_geti X g_cX2 w_X7_drift_inX2 2 (by decide) w_X7_drift_91 hk_a3 rfl dX7_drift_25 ?_
        refine g_if_ne X 34 dX7_drift_28 (by decide) h (fun c_28 h => ?_) (fun c_28 h => ?_)
        · skip
          refine g_aload_n X dX7_drift_34 0 rfl ?_
          refine g_callVv X g_cX7 hk_o [] rfl (cwV 0 X.2.2.2.2.1 gX7_drift_X7_startTrial rfl rfl rfl hd_X7_startTrial ⟨Nat.le_of_ble_eq_true rfl, Nat.le_of_ble_eq_true rfl⟩) (Nat.le_of_ble_eq_true rfl) dX7_drift_35 h (fun q hq => ct_X7_startTrial X.2.2.2.2.2.2.1 o hk_o _ hq) (fun _ Sr4 h => ?_)
          refine g_iload_n X dX7_drift_38 1 rfl ?_
          refine g_istore X [(4, _), (0, _), (1, _), (2, _), (3, _)] dX7_drift_39 (by decide) rfl ?_
          refine g_iconst X (v := 0) dX7_drift_41 (by decide) ?_
          refine g_istore X [(5, _), (4, _), (0, _), (1, _), (2, _), (3, _)] dX7_drift_42 (by decide) rfl ?_
          obtain ⟨e, he, h⟩ := g_th_s h
          refine g_sub [2, 4, 5, 1, 0] _ rfl ?_
          refine g_lp_w (body := (fun t => b_X7_drift_44 fu o p1 p2 t.1 t.2.1 t.2.2)) (P := fun t : Int32 × Int32 × g_St => g_V g_KC 90 x 7 (g_qi g_KC 90 x z) t.2.2 44 [(0, .ref (g_ad x o)), (2, .int (p1)), (3, .int (p2)), (4, .int (t.1)), (5, .int (t.2.1))] []) (E := (fun e : g_St => g_V g_KC 90 x 7 (g_qi g_KC 90 x z) e 91 [(0, .ref (g_ad x o)), (3, .int (p2))] [])) (fun t r hb hc => vb_X7_drift_44 X o p1 p2 t.1 t.2.1 hk_o t.2.2 hb hc) fu (p0, (0 : Int32), Sr4) e he ?_
          obtain ⟨S1, rfl⟩ : ∃ q, q = e := ⟨_, rfl⟩
          show g_V g_KC 90 x 7 (g_qi g_KC 90 x z) S1 91 [(0, .ref (g_ad x o)), (3, .int (p2))] []
          refine g_iload_n X dX7_drift_91 1 rfl ?_
          refine g_if_ne X 105 dX7_drift_92 (by decide) h (fun c_92 h => ?_) (fun c_92 h => ?_)
          · skip
            refine g_aload_n X dX7_drift_105 0 rfl ?_
            refine g_getr X g_cX7 w_X7_drift_inX7 1 (by decide) w_X7_drift_16 hk_o rfl dX7_drift_106 h (fun a7 hk_a7 h => ?_)
            refine g_geti X g_cX2 w_X7_drift_inX2 6 (by decide) w_X7_drift_103 hk_a7 rfl dX7_drift_109 ?_
            exact g_iret X h dX7_drift_112
          · skip
            refine g_aload_n X dX7_drift_95 0 rfl ?_
            refine g_getr X g_cX7 w_X7_drift_inX7 1 (by decide) w_X7_drift_16 hk_o rfl dX7_drift_96 h (fun a8 hk_a8 h => ?_)
            refine g_geti X g_cX2 w_X7_drift_inX2 5 (by decide) w_X7_drift_100 hk_a8 rfl dX7_drift_99 ?_
            refine g_goto X 112 dX7_drift_102 (by decide) ?_
            exact g_iret X h dX7_drift_112
        · skip
          refine g_bipush X (v := (-2)) dX7_drift_31 (by decide) ?_
          exact g_iret X h dX7_drift_33
      · skip
        refine g_iconst X (v := (-1)) dX7_drift_19 (by decide) ?_
        exact g_iret X h dX7_drift_20
abbrev rm_X7_keep : Room := { frames := 2, cells := 0, slots := 0, locals := 46 }
theorem hd_X7_keep : yX7_keep.cls = RX7 ∧ yX7_keep.cls ≠ "java/lang/invoke/MethodHandle" ∧ yX7_keep.cls ≠ "java/lang/invoke/VarHandle" ∧ (parseMethodDescriptor yX7_keep.desc).map (fun d => d.parameters.length) = some 1 := by decide +kernel
theorem w_X7_keep_23 : Cond.fieldLink RX7 23 "TokenDoors" "kept" "[Z" ∈ wsX7_keep := by decide +kernel
theorem w_X7_keep_inX7 : ∀ w ∈ wsX70, w ∈ wsX7_keep := by decide +kernel
theorem w_X7_keep_19 : Cond.fieldLink RX7 19 "TokenDoors" "images" "[LTokenDoors$Hall;" ∈ wsX7_keep := by decide +kernel
theorem w_X7_keep_10 : Cond.fieldLink RX7 10 "TokenDoors" "now" "LTokenDoors$Hall;" ∈ wsX7_keep := by decide +kernel
def j_X7_keep_25 (fu : Nat) (v0 : Nat) (v1 : Int32) (s0 : Int32) (S : g_St) : Option (Int32 × g_St) :=
  g_ld g_KC 90 (.inr (5, 2, true)) (S.2 v0 2) fun a3 => g_ix v1 2 fun i4 => g_ld g_KC 90 g_kX2 (S.2 a3 i4) fun a4 => g_ld g_KC 90 g_kX2 (S.2 v0 0) fun a5 => g_bd (f_X2_become fu a4 a5 S) fun _ Sr6 => g_ld g_KC 90 (.inr (2, 2, false)) (Sr6.2 v0 3) fun a7 => g_ix v1 2 fun i8 => some (s0, (g_u Sr6.1 a7 i8 (vp_nar .boolean (1 : Int32)), Sr6.2))
def f_X7_keep (fu : Nat) (o : Nat) (p0 : Int32) (S : g_St) : Option (Int32 × g_St) :=
  if p0 < 0 then (some ((-1 : Int32), S)) else (if p0 < (2 : Int32) then (g_ld g_KC 90 (.inr (2, 2, false)) (S.2 o 3) fun a1 => g_ix p0 2 fun i2 => if (S.1 a1 i2) = 0 then (j_X7_keep_25 fu o p0 ((0 : Int32)) S) else (j_X7_keep_25 fu o p0 ((1 : Int32)) S)) else (some ((-1 : Int32), S)))
set_option maxRecDepth 100000 in
set_option maxHeartbeats 400000 in
theorem vj_X7_keep_25 {x : g_CX} {z : Int32 × g_St} {fu : Nat} (X : g_X 90 x cX7_keep RX7 3 wsX7_keep rm_X7_keep (some .int)) (v0 : Nat) (v1 : Int32) (s0 : Int32) (hk_v0 : v0 < 90 ∧ g_KC v0 = g_kX7) (S : g_St) (h : j_X7_keep_25 fu v0 v1 s0 S = some z) : g_V g_KC 90 x 3 (g_qi g_KC 90 x z) S 25 [(0, .ref (g_ad x v0)), (1, .int (v1))] [.int (s0)] := by
  unfold j_X7_keep_25 at h
  refine g_istore_n X [(2, _), (0, _), (1, _)] dX7_keep_25 (by decide) rfl ?_
  refine g_aload_n X dX7_keep_26 1 rfl ?_
  refine g_getr X g_cX7 w_X7_keep_inX7 2 (by decide) w_X7_keep_19 hk_v0 rfl dX7_keep_27 h (fun a3 hk_a3 h => ?_)
  refine g_iload_n X dX7_keep_30 2 rfl ?_
  refine g_aald X 5 RX2 rfl hk_a3 dX7_keep_31 h (fun a4 hk_a4 h => ?_)
  refine g_aload_n X dX7_keep_32 1 rfl ?_
  refine g_getr X g_cX7 w_X7_keep_inX7 0 (by decide) w_X7_keep_10 hk_v0 rfl dX7_keep_33 h (fun a5 hk_a5 h => ?_)
  refine g_callVv X g_cX2 hk_a4 [.ref (g_ad x a5)] rfl (cwV 1 X.2.2.2.2.1 gX7_keep_X2_become rfl rfl rfl hd_X2_become ⟨Nat.le_of_ble_eq_true rfl, Nat.le_of_ble_eq_true rfl⟩) (Nat.le_of_ble_eq_true rfl) dX7_keep_36 h (fun q hq => ct_X2_become X.2.2.2.2.2.2.1 a4 a5 hk_a4 hk_a5 _ hq) (fun _ Sr6 h => ?_)
  refine g_aload_n X dX7_keep_39 1 rfl ?_
  refine g_getr X g_cX7 w_X7_keep_inX7 3 (by decide) w_X7_keep_23 hk_v0 rfl dX7_keep_40 h (fun a7 hk_a7 h => ?_)
  refine g_iload_n X dX7_keep_43 2 rfl ?_
  refine g_iconst X (v := 1) dX7_keep_44 (by decide) ?_
  refine g_zast X hk_a7 dX7_keep_45 h (fun i8 _ h => ?_)
  refine g_iload_n X dX7_keep_46 0 rfl ?_
  exact g_iret X h dX7_keep_47
set_option maxRecDepth 100000 in
set_option maxHeartbeats 400000 in
theorem ct_X7_keep {l : Launch} {D : va_G} {ad : Nat → Nat} {cy : Nat → ClassId} {zz : (Nat → Nat) × (Nat → Nat)} (hinj : ∀ i j, i < 90 → j < 90 → ad i = ad j → i = j) {fu : Nat} (o : Nat) (p0 : Int32) (hk_o : o < 90 ∧ g_KC o = g_kX7) {S : g_St} (z : Int32 × g_St) (h : f_X7_keep fu o p0 S = some z) : g_Mi l g_KC 90 D ad cy zz yX7_keep wsX7_keep rm_X7_keep [.ref (ad o), .int (p0)] S z := by
  refine g_ofi hinj (cc := cX7_keep) (maxL := 3) (ret := (some .int)) (lv := [(0, .ref (ad o)), (1, .int (p0))]) (by decide) rfl (Nat.le_of_ble_eq_true rfl) rfl ?_
  intro x X hl hD ha hy hz
  subst hl hD ha hy hz
  unfold f_X7_keep at h
  refine g_iload_n X dX7_keep_0 1 rfl ?_
  refine g_if_lt X 9 dX7_keep_1 (by decide) h (fun c_1 h => ?_) (fun c_1 h => ?_)
  · skip
    refine g_iconst X (v := (-1)) dX7_keep_9 (by decide) ?_
    exact g_iret X h dX7_keep_10
  · skip
    refine g_iload_n X dX7_keep_4 1 rfl ?_
    refine g_iconst X (v := 2) dX7_keep_5 (by decide) ?_
    refine g_icmp_lt X 11 dX7_keep_6 (by decide) h (fun c_6 h => ?_) (fun c_6 h => ?_)
    · skip
      refine g_aload_n X dX7_keep_11 0 rfl ?_
      refine g_getr X g_cX7 w_X7_keep_inX7 3 (by decide) w_X7_keep_23 hk_o rfl dX7_keep_12 h (fun a1 hk_a1 h => ?_)
      refine g_iload_n X dX7_keep_15 1 rfl ?_
      refine g_zald X hk_a1 dX7_keep_16 h (fun i2 _ h => ?_)
      refine g_if_eq X 24 dX7_keep_17 (by decide) h (fun c_17 h => ?_) (fun c_17 h => ?_)
      · skip
        refine g_iconst X (v := 0) dX7_keep_24 (by decide) ?_
        refine g_sub [0, 1] _ rfl ?_
        exact vj_X7_keep_25 X o p0 ((0 : Int32)) hk_o _ h
      · skip
        refine g_iconst X (v := 1) dX7_keep_20 (by decide) ?_
        refine g_goto X 25 dX7_keep_21 (by decide) ?_
        refine g_sub [0, 1] _ rfl ?_
        exact vj_X7_keep_25 X o p0 ((1 : Int32)) hk_o _ h
    · skip
      refine g_iconst X (v := (-1)) dX7_keep_9 (by decide) ?_
      exact g_iret X h dX7_keep_10
abbrev rm_X7_back : Room := { frames := 2, cells := 0, slots := 0, locals := 46 }
theorem hd_X7_back : yX7_back.cls = RX7 ∧ yX7_back.cls ≠ "java/lang/invoke/MethodHandle" ∧ yX7_back.cls ≠ "java/lang/invoke/VarHandle" ∧ (parseMethodDescriptor yX7_back.desc).map (fun d => d.parameters.length) = some 1 := by decide +kernel
theorem w_X7_back_23 : Cond.fieldLink RX7 23 "TokenDoors" "kept" "[Z" ∈ wsX7_back := by decide +kernel
theorem w_X7_back_inX7 : ∀ w ∈ wsX70, w ∈ wsX7_back := by decide +kernel
theorem w_X7_back_10 : Cond.fieldLink RX7 10 "TokenDoors" "now" "LTokenDoors$Hall;" ∈ wsX7_back := by decide +kernel
theorem w_X7_back_19 : Cond.fieldLink RX7 19 "TokenDoors" "images" "[LTokenDoors$Hall;" ∈ wsX7_back := by decide +kernel
theorem w_X7_back_97 : Cond.fieldLink RX7 97 "TokenDoors$Hall" "tick" "I" ∈ wsX7_back := by decide +kernel
theorem w_X7_back_inX2 : ∀ w ∈ wsX20, w ∈ wsX7_back := by decide +kernel
def f_X7_back (fu : Nat) (o : Nat) (p0 : Int32) (S : g_St) : Option (Int32 × g_St) :=
  if p0 < 0 then (some ((-1 : Int32), S)) else (if p0 < (2 : Int32) then (g_ld g_KC 90 (.inr (2, 2, false)) (S.2 o 3) fun a1 => g_ix p0 2 fun i2 => if (S.1 a1 i2) = 0 then (some ((-2 : Int32), S)) else (g_ld g_KC 90 g_kX2 (S.2 o 0) fun a3 => g_ld g_KC 90 (.inr (5, 2, true)) (S.2 o 2) fun a4 => g_ix p0 2 fun i5 => g_ld g_KC 90 g_kX2 (S.2 a4 i5) fun a5 => g_bd (f_X2_become fu a3 a5 S) fun _ Sr6 => g_ld g_KC 90 g_kX2 (Sr6.2 o 0) fun a7 => some ((Sr6.1 a7 4), Sr6))) else (some ((-1 : Int32), S)))
set_option maxRecDepth 100000 in
set_option maxHeartbeats 400000 in
theorem ct_X7_back {l : Launch} {D : va_G} {ad : Nat → Nat} {cy : Nat → ClassId} {zz : (Nat → Nat) × (Nat → Nat)} (hinj : ∀ i j, i < 90 → j < 90 → ad i = ad j → i = j) {fu : Nat} (o : Nat) (p0 : Int32) (hk_o : o < 90 ∧ g_KC o = g_kX7) {S : g_St} (z : Int32 × g_St) (h : f_X7_back fu o p0 S = some z) : g_Mi l g_KC 90 D ad cy zz yX7_back wsX7_back rm_X7_back [.ref (ad o), .int (p0)] S z := by
  refine g_ofi hinj (cc := cX7_back) (maxL := 2) (ret := (some .int)) (lv := [(0, .ref (ad o)), (1, .int (p0))]) (by decide) rfl (Nat.le_of_ble_eq_true rfl) rfl ?_
  intro x X hl hD ha hy hz
  subst hl hD ha hy hz
  unfold f_X7_back at h
  refine g_iload_n X dX7_back_0 1 rfl ?_
  refine g_if_lt X 9 dX7_back_1 (by decide) h (fun c_1 h => ?_) (fun c_1 h => ?_)
  · skip
    refine g_iconst X (v := (-1)) dX7_back_9 (by decide) ?_
    exact g_iret X h dX7_back_10
  · skip
    refine g_iload_n X dX7_back_4 1 rfl ?_
    refine g_iconst X (v := 2) dX7_back_5 (by decide) ?_
    refine g_icmp_lt X 11 dX7_back_6 (by decide) h (fun c_6 h => ?_) (fun c_6 h => ?_)
    · skip
      refine g_aload_n X dX7_back_11 0 rfl ?_
      refine g_getr X g_cX7 w_X7_back_inX7 3 (by decide) w_X7_back_23 hk_o rfl dX7_back_12 h (fun a1 hk_a1 h => ?_)
      refine g_iload_n X dX7_back_15 1 rfl ?_
      refine g_zald X hk_a1 dX7_back_16 h (fun i2 _ h => ?_)
      refine g_if_ne X 23 dX7_back_17 (by decide) h (fun c_17 h => ?_) (fun c_17 h => ?_)
      · skip
        refine g_aload_n X dX7_back_23 0 rfl ?_
        refine g_getr X g_cX7 w_X7_back_inX7 0 (by decide) w_X7_back_10 hk_o rfl dX7_back_24 h (fun a3 hk_a3 h => ?_)
        refine g_aload_n X dX7_back_27 0 rfl ?_
        refine g_getr X g_cX7 w_X7_back_inX7 2 (by decide) w_X7_back_19 hk_o rfl dX7_back_28 h (fun a4 hk_a4 h => ?_)
        refine g_iload_n X dX7_back_31 1 rfl ?_
        refine g_aald X 5 RX2 rfl hk_a4 dX7_back_32 h (fun a5 hk_a5 h => ?_)
        refine g_callVv X g_cX2 hk_a3 [.ref (g_ad x a5)] rfl (cwV 1 X.2.2.2.2.1 gX7_back_X2_become rfl rfl rfl hd_X2_become ⟨Nat.le_of_ble_eq_true rfl, Nat.le_of_ble_eq_true rfl⟩) (Nat.le_of_ble_eq_true rfl) dX7_back_33 h (fun q hq => ct_X2_become X.2.2.2.2.2.2.1 a3 a5 hk_a3 hk_a5 _ hq) (fun _ Sr6 h => ?_)
        refine g_aload_n X dX7_back_36 0 rfl ?_
        refine g_getr X g_cX7 w_X7_back_inX7 0 (by decide) w_X7_back_10 hk_o rfl dX7_back_37 h (fun a7 hk_a7 h => ?_)
        refine g_geti X g_cX2 w_X7_back_inX2 4 (by decide) w_X7_back_97 hk_a7 rfl dX7_back_40 ?_
        exact g_iret X h dX7_back_43
      · skip
        refine g_bipush X (v := (-2)) dX7_back_20 (by decide) ?_
        exact g_iret X h dX7_back_22
    · skip
      refine g_iconst X (v := (-1)) dX7_back_9 (by decide) ?_
      exact g_iret X h dX7_back_10
abbrev rm_X7_isSheet : Room := { frames := 0, cells := 0, slots := 0, locals := 0 }
theorem hd_X7_isSheet : yX7_isSheet.cls ≠ "java/lang/invoke/MethodHandle" ∧ yX7_isSheet.cls ≠ "java/lang/invoke/VarHandle" ∧ (parseMethodDescriptor yX7_isSheet.desc).map (fun d => d.parameters.length) = some 1 := by decide +kernel
def f_X7_isSheet (fu : Nat) (p0 : Int32) (S : g_St) : Option (Int32 × g_St) :=
  if p0 < 0 then (g_zb (0 : Int32) (some ((0 : Int32), S))) else (if (4 : Int32) ≤ p0 then (g_zb (0 : Int32) (some ((0 : Int32), S))) else (g_zb (1 : Int32) (some ((1 : Int32), S))))
set_option maxRecDepth 100000 in
set_option maxHeartbeats 400000 in
theorem ct_X7_isSheet {l : Launch} {D : va_G} {ad : Nat → Nat} {cy : Nat → ClassId} {zz : (Nat → Nat) × (Nat → Nat)} (hinj : ∀ i j, i < 90 → j < 90 → ad i = ad j → i = j) {fu : Nat} (p0 : Int32)  {S : g_St} (z : Int32 × g_St) (h : f_X7_isSheet fu p0 S = some z) : g_Mi l g_KC 90 D ad cy zz yX7_isSheet wsX7_isSheet rm_X7_isSheet [.int (p0)] S z := by
  refine g_ofi hinj (cc := cX7_isSheet) (maxL := 1) (ret := (some .boolean)) (lv := [(0, .int (p0))]) (by decide) rfl (Nat.le_of_ble_eq_true rfl) rfl ?_
  intro x X hl hD ha hy hz
  subst hl hD ha hy hz
  unfold f_X7_isSheet at h
  refine g_iload_n X dX7_isSheet_0 0 rfl ?_
  refine g_if_lt X 13 dX7_isSheet_1 (by decide) h (fun c_1 h => ?_) (fun c_1 h => ?_)
  · skip
    refine g_iconst X (v := 0) dX7_isSheet_13 (by decide) ?_
    exact g_zret X h dX7_isSheet_14
  · skip
    refine g_iload_n X dX7_isSheet_4 0 rfl ?_
    refine g_iconst X (v := 4) dX7_isSheet_5 (by decide) ?_
    refine g_icmp_ge X 13 dX7_isSheet_6 (by decide) h (fun c_6 h => ?_) (fun c_6 h => ?_)
    · skip
      refine g_iconst X (v := 0) dX7_isSheet_13 (by decide) ?_
      exact g_zret X h dX7_isSheet_14
    · skip
      refine g_iconst X (v := 1) dX7_isSheet_9 (by decide) ?_
      refine g_goto X 14 dX7_isSheet_10 (by decide) ?_
      exact g_zret X h dX7_isSheet_14
abbrev rm_X7_isLane : Room := { frames := 0, cells := 0, slots := 0, locals := 0 }
theorem hd_X7_isLane : yX7_isLane.cls ≠ "java/lang/invoke/MethodHandle" ∧ yX7_isLane.cls ≠ "java/lang/invoke/VarHandle" ∧ (parseMethodDescriptor yX7_isLane.desc).map (fun d => d.parameters.length) = some 1 := by decide +kernel
def f_X7_isLane (fu : Nat) (p0 : Int32) (S : g_St) : Option (Int32 × g_St) :=
  if p0 < 0 then (g_zb (0 : Int32) (some ((0 : Int32), S))) else (if (2 : Int32) < p0 then (g_zb (0 : Int32) (some ((0 : Int32), S))) else (g_zb (1 : Int32) (some ((1 : Int32), S))))
set_option maxRecDepth 100000 in
set_option maxHeartbeats 400000 in
theorem ct_X7_isLane {l : Launch} {D : va_G} {ad : Nat → Nat} {cy : Nat → ClassId} {zz : (Nat → Nat) × (Nat → Nat)} (hinj : ∀ i j, i < 90 → j < 90 → ad i = ad j → i = j) {fu : Nat} (p0 : Int32)  {S : g_St} (z : Int32 × g_St) (h : f_X7_isLane fu p0 S = some z) : g_Mi l g_KC 90 D ad cy zz yX7_isLane wsX7_isLane rm_X7_isLane [.int (p0)] S z := by
  refine g_ofi hinj (cc := cX7_isLane) (maxL := 1) (ret := (some .boolean)) (lv := [(0, .int (p0))]) (by decide) rfl (Nat.le_of_ble_eq_true rfl) rfl ?_
  intro x X hl hD ha hy hz
  subst hl hD ha hy hz
  unfold f_X7_isLane at h
  refine g_iload_n X dX7_isLane_0 0 rfl ?_
  refine g_if_lt X 13 dX7_isLane_1 (by decide) h (fun c_1 h => ?_) (fun c_1 h => ?_)
  · skip
    refine g_iconst X (v := 0) dX7_isLane_13 (by decide) ?_
    exact g_zret X h dX7_isLane_14
  · skip
    refine g_iload_n X dX7_isLane_4 0 rfl ?_
    refine g_iconst X (v := 2) dX7_isLane_5 (by decide) ?_
    refine g_icmp_gt X 13 dX7_isLane_6 (by decide) h (fun c_6 h => ?_) (fun c_6 h => ?_)
    · skip
      refine g_iconst X (v := 0) dX7_isLane_13 (by decide) ?_
      exact g_zret X h dX7_isLane_14
    · skip
      refine g_iconst X (v := 1) dX7_isLane_9 (by decide) ?_
      refine g_goto X 14 dX7_isLane_10 (by decide) ?_
      exact g_zret X h dX7_isLane_14
abbrev rm_X7_sheet : Room := { frames := 2, cells := 0, slots := 0, locals := 45 }
theorem hd_X7_sheet : yX7_sheet.cls = RX7 ∧ yX7_sheet.cls ≠ "java/lang/invoke/MethodHandle" ∧ yX7_sheet.cls ≠ "java/lang/invoke/VarHandle" ∧ (parseMethodDescriptor yX7_sheet.desc).map (fun d => d.parameters.length) = some 3 := by decide +kernel
theorem w_X7_sheet_52 : Cond.fieldLink RX7 52 "TokenDoors" "sheets" "[LTokenDoors$Sheet;" ∈ wsX7_sheet := by decide +kernel
theorem w_X7_sheet_inX7 : ∀ w ∈ wsX70, w ∈ wsX7_sheet := by decide +kernel
def f_X7_sheet (fu : Nat) (o : Nat) (p0 : Int32) (p1 : Int32) (p2 : Int32) (S : g_St) : Option (Int32 × g_St) :=
  g_bd (f_X7_isSheet fu p0 S) fun r1 Sr1 => if r1 = 0 then (some ((-1 : Int32), Sr1)) else (g_bd (f_X7_isLane fu p1 Sr1) fun r2 Sr2 => if r2 = 0 then (some ((-1 : Int32), Sr2)) else (if p2 ≤ (40 : Int32) then (if 0 ≤ p2 then (g_ld g_KC 90 (.inr (6, 4, true)) (Sr2.2 o 7) fun a3 => g_ix p0 4 fun i4 => g_ld g_KC 90 g_kX4 (Sr2.2 a3 i4) fun a4 => g_bd (f_X4_renew fu a4 p1 p2 Sr2) fun _ Sr5 => some ((1 : Int32), Sr5)) else (some ((-14 : Int32), Sr2))) else (some ((-1 : Int32), Sr2))))
set_option maxRecDepth 100000 in
set_option maxHeartbeats 400000 in
theorem ct_X7_sheet {l : Launch} {D : va_G} {ad : Nat → Nat} {cy : Nat → ClassId} {zz : (Nat → Nat) × (Nat → Nat)} (hinj : ∀ i j, i < 90 → j < 90 → ad i = ad j → i = j) {fu : Nat} (o : Nat) (p0 : Int32) (p1 : Int32) (p2 : Int32) (hk_o : o < 90 ∧ g_KC o = g_kX7) {S : g_St} (z : Int32 × g_St) (h : f_X7_sheet fu o p0 p1 p2 S = some z) : g_Mi l g_KC 90 D ad cy zz yX7_sheet wsX7_sheet rm_X7_sheet [.ref (ad o), .int (p0), .int (p1), .int (p2)] S z := by
  refine g_ofi hinj (cc := cX7_sheet) (maxL := 4) (ret := (some .int)) (lv := [(0, .ref (ad o)), (1, .int (p0)), (2, .int (p1)), (3, .int (p2))]) (by decide) rfl (Nat.le_of_ble_eq_true rfl) rfl ?_
  intro x X hl hD ha hy hz
  subst hl hD ha hy hz
  unfold f_X7_sheet at h
  refine g_iload_n X dX7_sheet_0 1 rfl ?_
  refine g_callSi X [.int (p0)] rfl (va_cwS 1 X.2.2.2.2.1 gX7_sheet_X7_isSheet rfl rfl rfl hd_X7_isSheet ⟨Nat.le_of_ble_eq_true rfl, Nat.le_of_ble_eq_true rfl⟩) (Nat.le_of_ble_eq_true rfl) dX7_sheet_1 h (fun q hq => ct_X7_isSheet X.2.2.2.2.2.2.1 p0  _ hq) (fun r1 Sr1 h => ?_)
  refine g_if_eq X 20 dX7_sheet_4 (by decide) h (fun c_4 h => ?_) (fun c_4 h => ?_)
  · skip
    refine g_iconst X (v := (-1)) dX7_sheet_20 (by decide) ?_
    exact g_iret X h dX7_sheet_21
  · skip
    refine g_iload_n X dX7_sheet_7 2 rfl ?_
    refine g_callSi X [.int (p1)] rfl (va_cwS 1 X.2.2.2.2.1 gX7_sheet_X7_isLane rfl rfl rfl hd_X7_isLane ⟨Nat.le_of_ble_eq_true rfl, Nat.le_of_ble_eq_true rfl⟩) (Nat.le_of_ble_eq_true rfl) dX7_sheet_8 h (fun q hq => ct_X7_isLane X.2.2.2.2.2.2.1 p1  _ hq) (fun r2 Sr2 h => ?_)
    refine g_if_eq X 20 dX7_sheet_11 (by decide) h (fun c_11 h => ?_) (fun c_11 h => ?_)
    · skip
      refine g_iconst X (v := (-1)) dX7_sheet_20 (by decide) ?_
      exact g_iret X h dX7_sheet_21
    · skip
      refine g_iload_n X dX7_sheet_14 3 rfl ?_
      refine g_bipush X (v := (40)) dX7_sheet_15 (by decide) ?_
      refine g_icmp_le X 22 dX7_sheet_17 (by decide) h (fun c_17 h => ?_) (fun c_17 h => ?_)
      · skip
        refine g_iload_n X dX7_sheet_22 3 rfl ?_
        refine g_if_ge X 29 dX7_sheet_23 (by decide) h (fun c_23 h => ?_) (fun c_23 h => ?_)
        · skip
          refine g_aload_n X dX7_sheet_29 0 rfl ?_
          refine g_getr X g_cX7 w_X7_sheet_inX7 7 (by decide) w_X7_sheet_52 hk_o rfl dX7_sheet_30 h (fun a3 hk_a3 h => ?_)
          refine g_iload_n X dX7_sheet_33 1 rfl ?_
          refine g_aald X 6 RX4 rfl hk_a3 dX7_sheet_34 h (fun a4 hk_a4 h => ?_)
          refine g_iload_n X dX7_sheet_35 2 rfl ?_
          refine g_iload_n X dX7_sheet_36 3 rfl ?_
          refine g_callVv X g_cX4 hk_a4 [.int (p1), .int (p2)] rfl (cwV 2 X.2.2.2.2.1 gX7_sheet_X4_renew rfl rfl rfl hd_X4_renew ⟨Nat.le_of_ble_eq_true rfl, Nat.le_of_ble_eq_true rfl⟩) (Nat.le_of_ble_eq_true rfl) dX7_sheet_37 h (fun q hq => ct_X4_renew X.2.2.2.2.2.2.1 a4 p1 p2 hk_a4 _ hq) (fun _ Sr5 h => ?_)
          refine g_iconst X (v := 1) dX7_sheet_40 (by decide) ?_
          exact g_iret X h dX7_sheet_41
        · skip
          refine g_bipush X (v := (-14)) dX7_sheet_26 (by decide) ?_
          exact g_iret X h dX7_sheet_28
      · skip
        refine g_iconst X (v := (-1)) dX7_sheet_20 (by decide) ?_
        exact g_iret X h dX7_sheet_21
abbrev rm_X7_lay : Room := { frames := 1, cells := 0, slots := 0, locals := 22 }
theorem hd_X7_lay : yX7_lay.cls = RX7 ∧ yX7_lay.cls ≠ "java/lang/invoke/MethodHandle" ∧ yX7_lay.cls ≠ "java/lang/invoke/VarHandle" ∧ (parseMethodDescriptor yX7_lay.desc).map (fun d => d.parameters.length) = some 3 := by decide +kernel
theorem w_X7_lay_52 : Cond.fieldLink RX7 52 "TokenDoors" "sheets" "[LTokenDoors$Sheet;" ∈ wsX7_lay := by decide +kernel
theorem w_X7_lay_inX7 : ∀ w ∈ wsX70, w ∈ wsX7_lay := by decide +kernel
def f_X7_lay (fu : Nat) (o : Nat) (p0 : Int32) (p1 : Int32) (p2 : Int32) (S : g_St) : Option (Int32 × g_St) :=
  g_bd (f_X7_isSheet fu p0 S) fun r1 Sr1 => if r1 = 0 then (some ((-1 : Int32), Sr1)) else (g_ld g_KC 90 (.inr (6, 4, true)) (Sr1.2 o 7) fun a2 => g_ix p0 4 fun i3 => g_ld g_KC 90 g_kX4 (Sr1.2 a2 i3) fun a3 => g_bd (f_X4_faultAt fu a3 p1 Sr1) fun r4 Sr4 => if r4 = 0 then (g_ld g_KC 90 (.inr (6, 4, true)) (Sr4.2 o 7) fun a5 => g_ix p0 4 fun i6 => g_ld g_KC 90 g_kX4 (Sr4.2 a5 i6) fun a6 => g_bd (f_X4_put fu a6 p1 p2 Sr4) fun _ Sr7 => some ((1 : Int32), Sr7)) else (some (((-10 : Int32) - r4), Sr4)))
set_option maxRecDepth 100000 in
set_option maxHeartbeats 400000 in
theorem ct_X7_lay {l : Launch} {D : va_G} {ad : Nat → Nat} {cy : Nat → ClassId} {zz : (Nat → Nat) × (Nat → Nat)} (hinj : ∀ i j, i < 90 → j < 90 → ad i = ad j → i = j) {fu : Nat} (o : Nat) (p0 : Int32) (p1 : Int32) (p2 : Int32) (hk_o : o < 90 ∧ g_KC o = g_kX7) {S : g_St} (z : Int32 × g_St) (h : f_X7_lay fu o p0 p1 p2 S = some z) : g_Mi l g_KC 90 D ad cy zz yX7_lay wsX7_lay rm_X7_lay [.ref (ad o), .int (p0), .int (p1), .int (p2)] S z := by
  refine g_ofi hinj (cc := cX7_lay) (maxL := 5) (ret := (some .int)) (lv := [(0, .ref (ad o)), (1, .int (p0)), (2, .int (p1)), (3, .int (p2))]) (by decide) rfl (Nat.le_of_ble_eq_true rfl) rfl ?_
  intro x X hl hD ha hy hz
  subst hl hD ha hy hz
  unfold f_X7_lay at h
  refine g_iload_n X dX7_lay_0 1 rfl ?_
  refine g_callSi X [.int (p0)] rfl (va_cwS 1 X.2.2.2.2.1 gX7_lay_X7_isSheet rfl rfl rfl hd_X7_isSheet ⟨Nat.le_of_ble_eq_true rfl, Nat.le_of_ble_eq_true rfl⟩) (Nat.le_of_ble_eq_true rfl) dX7_lay_1 h (fun q hq => ct_X7_isSheet X.2.2.2.2.2.2.1 p0  _ hq) (fun r1 Sr1 h => ?_)
  refine g_if_ne X 9 dX7_lay_4 (by decide) h (fun c_4 h => ?_) (fun c_4 h => ?_)
  · skip
    refine g_aload_n X dX7_lay_9 0 rfl ?_
    refine g_getr X g_cX7 w_X7_lay_inX7 7 (by decide) w_X7_lay_52 hk_o rfl dX7_lay_10 h (fun a2 hk_a2 h => ?_)
    refine g_iload_n X dX7_lay_13 1 rfl ?_
    refine g_aald X 6 RX4 rfl hk_a2 dX7_lay_14 h (fun a3 hk_a3 h => ?_)
    refine g_iload_n X dX7_lay_15 2 rfl ?_
    refine g_callVi X g_cX4 hk_a3 [.int (p1)] rfl (cwV 1 X.2.2.2.2.1 gX7_lay_X4_faultAt rfl rfl rfl hd_X4_faultAt ⟨Nat.le_of_ble_eq_true rfl, Nat.le_of_ble_eq_true rfl⟩) (Nat.le_of_ble_eq_true rfl) dX7_lay_16 h (fun q hq => ct_X4_faultAt X.2.2.2.2.2.2.1 a3 p1 hk_a3 _ hq) (fun r4 Sr4 h => ?_)
    refine g_istore X [(4, _), (0, _), (1, _), (2, _), (3, _)] dX7_lay_19 (by decide) rfl ?_
    refine g_iload X dX7_lay_21 0 rfl ?_
    refine g_if_eq X 32 dX7_lay_23 (by decide) h (fun c_23 h => ?_) (fun c_23 h => ?_)
    · skip
      refine g_aload_n X dX7_lay_32 1 rfl ?_
      refine g_getr X g_cX7 w_X7_lay_inX7 7 (by decide) w_X7_lay_52 hk_o rfl dX7_lay_33 h (fun a5 hk_a5 h => ?_)
      refine g_iload_n X dX7_lay_36 2 rfl ?_
      refine g_aald X 6 RX4 rfl hk_a5 dX7_lay_37 h (fun a6 hk_a6 h => ?_)
      refine g_iload_n X dX7_lay_38 3 rfl ?_
      refine g_iload_n X dX7_lay_39 4 rfl ?_
      refine g_callVv X g_cX4 hk_a6 [.int (p1), .int (p2)] rfl (cwV 2 X.2.2.2.2.1 gX7_lay_X4_put rfl rfl rfl hd_X4_put ⟨Nat.le_of_ble_eq_true rfl, Nat.le_of_ble_eq_true rfl⟩) (Nat.le_of_ble_eq_true rfl) dX7_lay_40 h (fun q hq => ct_X4_put X.2.2.2.2.2.2.1 a6 p1 p2 hk_a6 _ hq) (fun _ Sr7 h => ?_)
      refine g_iconst X (v := 1) dX7_lay_43 (by decide) ?_
      exact g_iret X h dX7_lay_44
    · skip
      refine g_bipush X (v := (-10)) dX7_lay_26 (by decide) ?_
      refine g_iload X dX7_lay_28 0 rfl ?_
      refine g_isub X dX7_lay_30 ?_
      exact g_iret X h dX7_lay_31
  · skip
    refine g_iconst X (v := (-1)) dX7_lay_7 (by decide) ?_
    exact g_iret X h dX7_lay_8
abbrev rm_X7_comesFrom : Room := { frames := 2, cells := 0, slots := 0, locals := 46 }
theorem hd_X7_comesFrom : yX7_comesFrom.cls = RX7 ∧ yX7_comesFrom.cls ≠ "java/lang/invoke/MethodHandle" ∧ yX7_comesFrom.cls ≠ "java/lang/invoke/VarHandle" ∧ (parseMethodDescriptor yX7_comesFrom.desc).map (fun d => d.parameters.length) = some 2 := by decide +kernel
theorem w_X7_comesFrom_309 : Cond.fieldLink RX7 309 "TokenDoors$Sheet" "cells" "[I" ∈ wsX7_comesFrom := by decide +kernel
theorem w_X7_comesFrom_inX4 : ∀ w ∈ wsX40, w ∈ wsX7_comesFrom := by decide +kernel
theorem w_X7_comesFrom_10 : Cond.fieldLink RX7 10 "TokenDoors" "now" "LTokenDoors$Hall;" ∈ wsX7_comesFrom := by decide +kernel
theorem w_X7_comesFrom_inX7 : ∀ w ∈ wsX70, w ∈ wsX7_comesFrom := by decide +kernel
def f_X7_comesFrom (fu : Nat) (o : Nat) (p0 : Nat) (p1 : Int32) (S : g_St) : Option (Int32 × g_St) :=
  g_ld g_KC 90 (.inr (0, 40, false)) (S.2 p0 0) fun a1 => g_ix p1 40 fun i2 => g_ld g_KC 90 (.inr (0, 40, false)) (S.2 p0 0) fun a3 => g_ix (p1 + (1 : Int32)) 40 fun i4 => g_ld g_KC 90 (.inr (0, 40, false)) (S.2 p0 0) fun a5 => g_ix (p1 + (2 : Int32)) 40 fun i6 => g_bd (f_X7_isCrowd fu ((S.1 a1 i2)) ((S.1 a3 i4)) ((S.1 a5 i6)) S) fun r7 Sr7 => if r7 = 0 then (g_zb (0 : Int32) (some ((0 : Int32), Sr7))) else (g_ld g_KC 90 g_kX2 (Sr7.2 o 0) fun a8 => g_bd (f_X2_addCrowd fu a8 ((S.1 a1 i2)) ((S.1 a3 i4)) ((S.1 a5 i6)) Sr7) fun r9 Sr9 => if r9 = 0 then (g_zb (0 : Int32) (some ((0 : Int32), Sr9))) else (g_zb (1 : Int32) (some ((1 : Int32), Sr9))))
set_option maxRecDepth 100000 in
set_option maxHeartbeats 400000 in
theorem ct_X7_comesFrom {l : Launch} {D : va_G} {ad : Nat → Nat} {cy : Nat → ClassId} {zz : (Nat → Nat) × (Nat → Nat)} (hinj : ∀ i j, i < 90 → j < 90 → ad i = ad j → i = j) {fu : Nat} (o : Nat) (p0 : Nat) (p1 : Int32) (hk_o : o < 90 ∧ g_KC o = g_kX7) (hk_p0 : p0 < 90 ∧ g_KC p0 = g_kX4) {S : g_St} (z : Int32 × g_St) (h : f_X7_comesFrom fu o p0 p1 S = some z) : g_Mi l g_KC 90 D ad cy zz yX7_comesFrom wsX7_comesFrom rm_X7_comesFrom [.ref (ad o), .ref (ad p0), .int (p1)] S z := by
  refine g_ofi hinj (cc := cX7_comesFrom) (maxL := 6) (ret := (some .boolean)) (lv := [(0, .ref (ad o)), (1, .ref (ad p0)), (2, .int (p1))]) (by decide) rfl (Nat.le_of_ble_eq_true rfl) rfl ?_
  intro x X hl hD ha hy hz
  subst hl hD ha hy hz
  unfold f_X7_comesFrom at h
  refine g_aload_n X dX7_comesFrom_0 1 rfl ?_
  refine g_getr X g_cX4 w_X7_comesFrom_inX4 0 (by decide) w_X7_comesFrom_309 hk_p0 rfl dX7_comesFrom_1 h (fun a1 hk_a1 h => ?_)
  refine g_iload_n X dX7_comesFrom_4 2 rfl ?_
  refine g_iald X hk_a1 dX7_comesFrom_5 h (fun i2 _ h => ?_)
  refine g_istore_n X [(3, _), (0, _), (1, _), (2, _)] dX7_comesFrom_6 (by decide) rfl ?_
  refine g_aload_n X dX7_comesFrom_7 2 rfl ?_
  refine g_getr X g_cX4 w_X7_comesFrom_inX4 0 (by decide) w_X7_comesFrom_309 hk_p0 rfl dX7_comesFrom_8 h (fun a3 hk_a3 h => ?_)
  refine g_iload_n X dX7_comesFrom_11 3 rfl ?_
  refine g_iconst X (v := 1) dX7_comesFrom_12 (by decide) ?_
  refine g_iadd X dX7_comesFrom_13 ?_
  refine g_iald X hk_a3 dX7_comesFrom_14 h (fun i4 _ h => ?_)
  refine g_istore X [(4, _), (3, _), (0, _), (1, _), (2, _)] dX7_comesFrom_15 (by decide) rfl ?_
  refine g_aload_n X dX7_comesFrom_17 3 rfl ?_
  refine g_getr X g_cX4 w_X7_comesFrom_inX4 0 (by decide) w_X7_comesFrom_309 hk_p0 rfl dX7_comesFrom_18 h (fun a5 hk_a5 h => ?_)
  refine g_iload_n X dX7_comesFrom_21 4 rfl ?_
  refine g_iconst X (v := 2) dX7_comesFrom_22 (by decide) ?_
  refine g_iadd X dX7_comesFrom_23 ?_
  refine g_iald X hk_a5 dX7_comesFrom_24 h (fun i6 _ h => ?_)
  refine g_istore X [(5, _), (4, _), (3, _), (0, _), (1, _), (2, _)] dX7_comesFrom_25 (by decide) rfl ?_
  refine g_iload_n X dX7_comesFrom_27 2 rfl ?_
  refine g_iload X dX7_comesFrom_28 1 rfl ?_
  refine g_iload X dX7_comesFrom_30 0 rfl ?_
  refine g_callSi X [.int ((S.1 a1 i2)), .int ((S.1 a3 i4)), .int ((S.1 a5 i6))] rfl (va_cwS 3 X.2.2.2.2.1 gX7_comesFrom_X7_isCrowd rfl rfl rfl hd_X7_isCrowd ⟨Nat.le_of_ble_eq_true rfl, Nat.le_of_ble_eq_true rfl⟩) (Nat.le_of_ble_eq_true rfl) dX7_comesFrom_32 h (fun q hq => ct_X7_isCrowd X.2.2.2.2.2.2.1 ((S.1 a1 i2)) ((S.1 a3 i4)) ((S.1 a5 i6))  _ hq) (fun r7 Sr7 h => ?_)
  refine g_if_eq X 57 dX7_comesFrom_35 (by decide) h (fun c_35 h => ?_) (fun c_35 h => ?_)
  · skip
    refine g_iconst X (v := 0) dX7_comesFrom_57 (by decide) ?_
    exact g_zret X h dX7_comesFrom_58
  · skip
    refine g_aload_n X dX7_comesFrom_38 3 rfl ?_
    refine g_getr X g_cX7 w_X7_comesFrom_inX7 0 (by decide) w_X7_comesFrom_10 hk_o rfl dX7_comesFrom_39 h (fun a8 hk_a8 h => ?_)
    refine g_iload_n X dX7_comesFrom_42 2 rfl ?_
    refine g_iload X dX7_comesFrom_43 1 rfl ?_
    refine g_iload X dX7_comesFrom_45 0 rfl ?_
    refine g_callVi X g_cX2 hk_a8 [.int ((S.1 a1 i2)), .int ((S.1 a3 i4)), .int ((S.1 a5 i6))] rfl (cwV 3 X.2.2.2.2.1 gX7_comesFrom_X2_addCrowd rfl rfl rfl hd_X2_addCrowd ⟨Nat.le_of_ble_eq_true rfl, Nat.le_of_ble_eq_true rfl⟩) (Nat.le_of_ble_eq_true rfl) dX7_comesFrom_47 h (fun q hq => ct_X2_addCrowd X.2.2.2.2.2.2.1 a8 ((S.1 a1 i2)) ((S.1 a3 i4)) ((S.1 a5 i6)) hk_a8 _ hq) (fun r9 Sr9 h => ?_)
    refine g_if_eq X 57 dX7_comesFrom_50 (by decide) h (fun c_50 h => ?_) (fun c_50 h => ?_)
    · skip
      refine g_iconst X (v := 0) dX7_comesFrom_57 (by decide) ?_
      exact g_zret X h dX7_comesFrom_58
    · skip
      refine g_iconst X (v := 1) dX7_comesFrom_53 (by decide) ?_
      refine g_goto X 58 dX7_comesFrom_54 (by decide) ?_
      exact g_zret X h dX7_comesFrom_58
abbrev rm_X7_read : Room := { frames := 3, cells := 0, slots := 0, locals := 71 }
theorem hd_X7_read : yX7_read.cls = RX7 ∧ yX7_read.cls ≠ "java/lang/invoke/MethodHandle" ∧ yX7_read.cls ≠ "java/lang/invoke/VarHandle" ∧ (parseMethodDescriptor yX7_read.desc).map (fun d => d.parameters.length) = some 4 := by decide +kernel
theorem w_X7_read_52 : Cond.fieldLink RX7 52 "TokenDoors" "sheets" "[LTokenDoors$Sheet;" ∈ wsX7_read := by decide +kernel
theorem w_X7_read_inX7 : ∀ w ∈ wsX70, w ∈ wsX7_read := by decide +kernel
theorem w_X7_read_10 : Cond.fieldLink RX7 10 "TokenDoors" "now" "LTokenDoors$Hall;" ∈ wsX7_read := by decide +kernel
theorem w_X7_read_94 : Cond.fieldLink RX7 94 "TokenDoors$Hall" "crowdCount" "I" ∈ wsX7_read := by decide +kernel
theorem w_X7_read_inX2 : ∀ w ∈ wsX20, w ∈ wsX7_read := by decide +kernel
theorem w_X7_read_277 : Cond.fieldLink RX7 277 "TokenDoors" "readFault" "I" ∈ wsX7_read := by decide +kernel
def j_X7_read_112_in51 (fu : Nat) (v0 : Nat) (v2 : Int32) (v3 : Int32) (v4 : Int32) (v5 : Nat) (v6 : Int32) (v7 : Int32) (v8 : Int32) (S : g_St) : Option ((Int32 × Int32 × g_St) ⊕ ((Int32 × g_St) ⊕ (Int32 × g_St))) :=
  some (.inl (v7, (v8 + 1), S))
def b_X7_read_51 (fu : Nat) (v0 : Nat) (v2 : Int32) (v3 : Int32) (v4 : Int32) (v5 : Nat) (v6 : Int32) (v7 : Int32) (v8 : Int32) (S : g_St) : Option ((Int32 × Int32 × g_St) ⊕ ((Int32 × g_St) ⊕ (Int32 × g_St))) :=
  if v4 ≤ v8 then (some (.inr (.inl (v7, S)))) else (if v7 = 0 then (g_bd (f_X4_faultInThree fu v5 v2 ((v3 + ((3 : Int32) * v8))) S) fun r6 Sr6 => if r6 = 0 then (g_bd (f_X7_comesFrom fu v0 v5 ((v3 + ((3 : Int32) * v8))) Sr6) fun r7 Sr7 => if r7 = 0 then (g_ld g_KC 90 g_kX2 (Sr7.2 v0 0) fun a8 => some (.inr (.inr (((-20 : Int32) - v8), (g_u Sr7.1 a8 3 v6, Sr7.2))))) else (j_X7_read_112_in51 fu v0 v2 v3 v4 v5 v6 r6 v8 Sr7)) else (j_X7_read_112_in51 fu v0 v2 v3 v4 v5 v6 r6 v8 Sr6)) else (some (.inr (.inl (v7, S)))))
def f_X7_read (fu : Nat) (o : Nat) (p0 : Int32) (p1 : Int32) (p2 : Int32) (p3 : Int32) (S : g_St) : Option (Int32 × g_St) :=
  g_bd (f_X7_isSheet fu p0 S) fun r1 Sr1 => if r1 = 0 then (some ((-1 : Int32), Sr1)) else (g_bd (f_X7_isLane fu p1 Sr1) fun r2 Sr2 => if r2 = 0 then (some ((-1 : Int32), Sr2)) else (if p3 < 0 then (some ((-1 : Int32), Sr2)) else (if p3 ≤ (13 : Int32) then (g_ld g_KC 90 (.inr (6, 4, true)) (Sr2.2 o 7) fun a3 => g_ix p0 4 fun i4 => g_ld g_KC 90 g_kX4 (Sr2.2 a3 i4) fun a4 => g_ld g_KC 90 g_kX2 (Sr2.2 o 0) fun a5 => g_th (g_lp (fun t => b_X7_read_51 fu o p1 p2 p3 a4 ((Sr2.1 a5 3)) t.1 t.2.1 t.2.2) fu ((0 : Int32), (0 : Int32), Sr2)) fun e => match e with | .inl (w7_1, S1) => (g_ld g_KC 90 g_kX2 (S1.2 o 0) fun a9 => some ((((g_u S1.1 o 10 w7_1) a9 3) - (Sr2.1 a5 3)), (g_u S1.1 o 10 w7_1, S1.2))) | .inr q => some q) else (some ((-1 : Int32), Sr2)))))
set_option maxRecDepth 100000 in
set_option maxHeartbeats 400000 in
theorem vj_X7_read_112_in51 {x : g_CX} {z : Int32 × g_St} {fu : Nat} (X : g_X 90 x cX7_read RX7 10 wsX7_read rm_X7_read (some .int)) (v0 : Nat) (v2 : Int32) (v3 : Int32) (v4 : Int32) (v5 : Nat) (v6 : Int32) (v7 : Int32) (v8 : Int32) (hk_v0 : v0 < 90 ∧ g_KC v0 = g_kX7) (hk_v5 : v5 < 90 ∧ g_KC v5 = g_kX4) (S : g_St) {r : (Int32 × Int32 × g_St) ⊕ ((Int32 × g_St) ⊕ (Int32 × g_St))} (h : j_X7_read_112_in51 fu v0 v2 v3 v4 v5 v6 v7 v8 S = some r) (hc : Sum.elim (fun t : Int32 × Int32 × g_St => g_V g_KC 90 x 10 (g_qi g_KC 90 x z) t.2.2 51 [(0, .ref (g_ad x v0)), (2, .int (v2)), (3, .int (v3)), (4, .int (v4)), (5, .ref (g_ad x v5)), (6, .int (v6)), (7, .int (t.1)), (8, .int (t.2.1))] []) (fun b : (Int32 × g_St) ⊕ (Int32 × g_St) => Sum.elim (fun e : Int32 × g_St => g_V g_KC 90 x 10 (g_qi g_KC 90 x z) e.2 118 [(0, .ref (g_ad x v0)), (6, .int (v6)), (7, .int (e.1))] []) (fun q : Int32 × g_St => q = z) b) r) : g_V g_KC 90 x 10 (g_qi g_KC 90 x z) S 112 [(0, .ref (g_ad x v0)), (2, .int (v2)), (3, .int (v3)), (4, .int (v4)), (5, .ref (g_ad x v5)), (6, .int (v6)), (7, .int (v7)), (8, .int (v8))] [] := by
  unfold j_X7_read_112_in51 at h
  refine g_iinc X [(8, _), (0, _), (2, _), (3, _), (4, _), (5, _), (6, _), (7, _)] dX7_read_112 7 rfl rfl (by decide) rfl ?_
  refine g_goto X 51 dX7_read_115 (by decide) ?_
  cases h
  exact g_sub [1, 2, 3, 4, 5, 6, 7, 0] _ rfl hc
set_option maxRecDepth 100000 in
set_option maxHeartbeats 400000 in
theorem vb_X7_read_51 {x : g_CX} {z : Int32 × g_St} {fu : Nat} (X : g_X 90 x cX7_read RX7 10 wsX7_read rm_X7_read (some .int)) (v0 : Nat) (v2 : Int32) (v3 : Int32) (v4 : Int32) (v5 : Nat) (v6 : Int32) (v7 : Int32) (v8 : Int32) (hk_v0 : v0 < 90 ∧ g_KC v0 = g_kX7) (hk_v5 : v5 < 90 ∧ g_KC v5 = g_kX4) (S : g_St) {r : (Int32 × Int32 × g_St) ⊕ ((Int32 × g_St) ⊕ (Int32 × g_St))} (h : b_X7_read_51 fu v0 v2 v3 v4 v5 v6 v7 v8 S = some r) (hc : Sum.elim (fun t : Int32 × Int32 × g_St => g_V g_KC 90 x 10 (g_qi g_KC 90 x z) t.2.2 51 [(0, .ref (g_ad x v0)), (2, .int (v2)), (3, .int (v3)), (4, .int (v4)), (5, .ref (g_ad x v5)), (6, .int (v6)), (7, .int (t.1)), (8, .int (t.2.1))] []) (fun b : (Int32 × g_St) ⊕ (Int32 × g_St) => Sum.elim (fun e : Int32 × g_St => g_V g_KC 90 x 10 (g_qi g_KC 90 x z) e.2 118 [(0, .ref (g_ad x v0)), (6, .int (v6)), (7, .int (e.1))] []) (fun q : Int32 × g_St => q = z) b) r) : g_V g_KC 90 x 10 (g_qi g_KC 90 x z) S 51 [(0, .ref (g_ad x v0)), (2, .int (v2)), (3, .int (v3)), (4, .int (v4)), (5, .ref (g_ad x v5)), (6, .int (v6)), (7, .int (v7)), (8, .int (v8))] [] := by
  unfold b_X7_read_51 at h
  refine g_iload X dX7_read_51 7 rfl ?_
  refine g_iload X dX7_read_53 3 rfl ?_
  refine g_icmp_ge X 118 dX7_read_55 (by decide) h (fun c_55 h => ?_) (fun c_55 h => ?_)
  · skip
    cases h
    exact g_sub [0, 5, 6] _ rfl hc
  · skip
    refine g_iload X dX7_read_58 6 rfl ?_
    refine g_if_ne X 118 dX7_read_60 (by decide) h (fun c_60 h => ?_) (fun c_60 h => ?_)
    · skip
      cases h
      exact g_sub [0, 5, 6] _ rfl hc
    · skip
      refine g_iload_n X dX7_read_63 2 rfl ?_
      refine g_iconst X (v := 3) dX7_read_64 (by decide) ?_
      refine g_iload X dX7_read_65 7 rfl ?_
      refine g_imul X dX7_read_67 ?_
      refine g_iadd X dX7_read_68 ?_
      refine g_istore X [(9, _), (0, _), (2, _), (3, _), (4, _), (5, _), (6, _), (7, _), (8, _)] dX7_read_69 (by decide) rfl ?_
      refine g_aload X dX7_read_71 5 rfl ?_
      refine g_iload_n X dX7_read_73 2 rfl ?_
      refine g_iload X dX7_read_74 0 rfl ?_
      refine g_callVi X g_cX4 hk_v5 [.int (v2), .int ((v3 + ((3 : Int32) * v8)))] rfl (cwV 2 X.2.2.2.2.1 gX7_read_X4_faultInThree rfl rfl rfl hd_X4_faultInThree ⟨Nat.le_of_ble_eq_true rfl, Nat.le_of_ble_eq_true rfl⟩) (Nat.le_of_ble_eq_true rfl) dX7_read_76 h (fun q hq => ct_X4_faultInThree X.2.2.2.2.2.2.1 v5 v2 ((v3 + ((3 : Int32) * v8))) hk_v5 _ hq) (fun r6 Sr6 h => ?_)
      refine g_istore X [(7, _), (9, _), (0, _), (2, _), (3, _), (4, _), (5, _), (6, _), (8, _)] dX7_read_79 (by decide) rfl ?_
      refine g_iload X dX7_read_81 0 rfl ?_
      refine g_if_ne X 112 dX7_read_83 (by decide) h (fun c_83 h => ?_) (fun c_83 h => ?_)
      · skip
        refine g_sub [2, 3, 4, 5, 6, 7, 0, 8] _ rfl ?_
        exact vj_X7_read_112_in51 X v0 v2 v3 v4 v5 v6 r6 v8 hk_v0 hk_v5 _ h hc
      · skip
        refine g_aload_n X dX7_read_86 2 rfl ?_
        refine g_aload X dX7_read_87 6 rfl ?_
        refine g_iload X dX7_read_89 1 rfl ?_
        refine g_callVi X g_cX7 hk_v0 [.ref (g_ad x v5), .int ((v3 + ((3 : Int32) * v8)))] rfl (cwV 2 X.2.2.2.2.1 gX7_read_X7_comesFrom rfl rfl rfl hd_X7_comesFrom ⟨Nat.le_of_ble_eq_true rfl, Nat.le_of_ble_eq_true rfl⟩) (Nat.le_of_ble_eq_true rfl) dX7_read_91 h (fun q hq => ct_X7_comesFrom X.2.2.2.2.2.2.1 v0 v5 ((v3 + ((3 : Int32) * v8))) hk_v0 hk_v5 _ hq) (fun r7 Sr7 h => ?_)
        refine g_if_ne X 112 dX7_read_94 (by decide) h (fun c_94 h => ?_) (fun c_94 h => ?_)
        · skip
          refine g_sub [2, 3, 4, 5, 6, 7, 0, 8] _ rfl ?_
          exact vj_X7_read_112_in51 X v0 v2 v3 v4 v5 v6 r6 v8 hk_v0 hk_v5 _ h hc
        · skip
          refine g_aload_n X dX7_read_97 2 rfl ?_
          refine g_getr X g_cX7 w_X7_read_inX7 0 (by decide) w_X7_read_10 hk_v0 rfl dX7_read_98 h (fun a8 hk_a8 h => ?_)
          refine g_iload X dX7_read_101 7 rfl ?_
          refine g_puti X g_cX2 w_X7_read_inX2 3 (by decide) w_X7_read_94 hk_a8 rfl rfl (t := .int) (by decide +kernel) rfl rfl dX7_read_103 ?_
          refine g_bipush X (v := (-20)) dX7_read_106 (by decide) ?_
          refine g_iload X dX7_read_108 8 rfl ?_
          refine g_isub X dX7_read_110 ?_
          cases h
          exact g_iret X (congrArg some hc) dX7_read_111
set_option maxRecDepth 100000 in
set_option maxHeartbeats 400000 in
theorem ct_X7_read {l : Launch} {D : va_G} {ad : Nat → Nat} {cy : Nat → ClassId} {zz : (Nat → Nat) × (Nat → Nat)} (hinj : ∀ i j, i < 90 → j < 90 → ad i = ad j → i = j) {fu : Nat} (o : Nat) (p0 : Int32) (p1 : Int32) (p2 : Int32) (p3 : Int32) (hk_o : o < 90 ∧ g_KC o = g_kX7) {S : g_St} (z : Int32 × g_St) (h : f_X7_read fu o p0 p1 p2 p3 S = some z) : g_Mi l g_KC 90 D ad cy zz yX7_read wsX7_read rm_X7_read [.ref (ad o), .int (p0), .int (p1), .int (p2), .int (p3)] S z := by
  refine g_ofi hinj (cc := cX7_read) (maxL := 10) (ret := (some .int)) (lv := [(0, .ref (ad o)), (1, .int (p0)), (2, .int (p1)), (3, .int (p2)), (4, .int (p3))]) (by decide) rfl (Nat.le_of_ble_eq_true rfl) rfl ?_
  intro x X hl hD ha hy hz
  subst hl hD ha hy hz
  unfold f_X7_read at h
  refine g_iload_n X dX7_read_0 1 rfl ?_
  refine g_callSi X [.int (p0)] rfl (va_cwS 1 X.2.2.2.2.1 gX7_read_X7_isSheet rfl rfl rfl hd_X7_isSheet ⟨Nat.le_of_ble_eq_true rfl, Nat.le_of_ble_eq_true rfl⟩) (Nat.le_of_ble_eq_true rfl) dX7_read_1 h (fun q hq => ct_X7_isSheet X.2.2.2.2.2.2.1 p0  _ hq) (fun r1 Sr1 h => ?_)
  refine g_if_eq X 26 dX7_read_4 (by decide) h (fun c_4 h => ?_) (fun c_4 h => ?_)
  · skip
    refine g_iconst X (v := (-1)) dX7_read_26 (by decide) ?_
    exact g_iret X h dX7_read_27
  · skip
    refine g_iload_n X dX7_read_7 2 rfl ?_
    refine g_callSi X [.int (p1)] rfl (va_cwS 1 X.2.2.2.2.1 gX7_read_X7_isLane rfl rfl rfl hd_X7_isLane ⟨Nat.le_of_ble_eq_true rfl, Nat.le_of_ble_eq_true rfl⟩) (Nat.le_of_ble_eq_true rfl) dX7_read_8 h (fun q hq => ct_X7_isLane X.2.2.2.2.2.2.1 p1  _ hq) (fun r2 Sr2 h => ?_)
    refine g_if_eq X 26 dX7_read_11 (by decide) h (fun c_11 h => ?_) (fun c_11 h => ?_)
    · skip
      refine g_iconst X (v := (-1)) dX7_read_26 (by decide) ?_
      exact g_iret X h dX7_read_27
    · skip
      refine g_iload X dX7_read_14 4 rfl ?_
      refine g_if_lt X 26 dX7_read_16 (by decide) h (fun c_16 h => ?_) (fun c_16 h => ?_)
      · skip
        refine g_iconst X (v := (-1)) dX7_read_26 (by decide) ?_
        exact g_iret X h dX7_read_27
      · skip
        refine g_iload X dX7_read_19 4 rfl ?_
        refine g_bipush X (v := (13)) dX7_read_21 (by decide) ?_
        refine g_icmp_le X 28 dX7_read_23 (by decide) h (fun c_23 h => ?_) (fun c_23 h => ?_)
        · skip
          refine g_aload_n X dX7_read_28 0 rfl ?_
          refine g_getr X g_cX7 w_X7_read_inX7 7 (by decide) w_X7_read_52 hk_o rfl dX7_read_29 h (fun a3 hk_a3 h => ?_)
          refine g_iload_n X dX7_read_32 1 rfl ?_
          refine g_aald X 6 RX4 rfl hk_a3 dX7_read_33 h (fun a4 hk_a4 h => ?_)
          refine g_astore X [(5, _), (0, _), (1, _), (2, _), (3, _), (4, _)] dX7_read_34 (by decide) rfl ?_
          refine g_aload_n X dX7_read_36 1 rfl ?_
          refine g_getr X g_cX7 w_X7_read_inX7 0 (by decide) w_X7_read_10 hk_o rfl dX7_read_37 h (fun a5 hk_a5 h => ?_)
          refine g_geti X g_cX2 w_X7_read_inX2 3 (by decide) w_X7_read_94 hk_a5 rfl dX7_read_40 ?_
          refine g_istore X [(6, _), (5, _), (0, _), (1, _), (2, _), (3, _), (4, _)] dX7_read_43 (by decide) rfl ?_
          refine g_iconst X (v := 0) dX7_read_45 (by decide) ?_
          refine g_istore X [(7, _), (6, _), (5, _), (0, _), (1, _), (2, _), (3, _), (4, _)] dX7_read_46 (by decide) rfl ?_
          refine g_iconst X (v := 0) dX7_read_48 (by decide) ?_
          refine g_istore X [(8, _), (7, _), (6, _), (5, _), (0, _), (1, _), (2, _), (3, _), (4, _)] dX7_read_49 (by decide) rfl ?_
          obtain ⟨e, he, h⟩ := g_th_s h
          refine g_sub [4, 6, 7, 8, 3, 2, 1, 0] _ rfl ?_
          refine g_lp_w (body := (fun t => b_X7_read_51 fu o p1 p2 p3 a4 ((Sr2.1 a5 3)) t.1 t.2.1 t.2.2)) (P := fun t : Int32 × Int32 × g_St => g_V g_KC 90 x 10 (g_qi g_KC 90 x z) t.2.2 51 [(0, .ref (g_ad x o)), (2, .int (p1)), (3, .int (p2)), (4, .int (p3)), (5, .ref (g_ad x a4)), (6, .int ((Sr2.1 a5 3))), (7, .int (t.1)), (8, .int (t.2.1))] []) (E := (fun b : (Int32 × g_St) ⊕ (Int32 × g_St) => Sum.elim (fun e : Int32 × g_St => g_V g_KC 90 x 10 (g_qi g_KC 90 x z) e.2 118 [(0, .ref (g_ad x o)), (6, .int ((Sr2.1 a5 3))), (7, .int (e.1))] []) (fun q : Int32 × g_St => q = z) b)) (fun t r hb hc => vb_X7_read_51 X o p1 p2 p3 a4 ((Sr2.1 a5 3)) t.1 t.2.1 hk_o hk_a4 t.2.2 hb hc) fu ((0 : Int32), (0 : Int32), Sr2) e he ?_
          rcases e with ⟨w7_1, S1⟩ | q
          · show g_V g_KC 90 x 10 (g_qi g_KC 90 x z) S1 118 [(0, .ref (g_ad x o)), (6, .int ((Sr2.1 a5 3))), (7, .int (w7_1))] []
            refine g_aload_n X dX7_read_118 0 rfl ?_
            refine g_iload X dX7_read_119 2 rfl ?_
            refine g_puti X g_cX7 w_X7_read_inX7 10 (by decide) w_X7_read_277 hk_o rfl rfl (t := .int) (by decide +kernel) rfl rfl dX7_read_121 ?_
            refine g_aload_n X dX7_read_124 0 rfl ?_
            refine g_getr X g_cX7 w_X7_read_inX7 0 (by decide) w_X7_read_10 hk_o rfl dX7_read_125 h (fun a9 hk_a9 h => ?_)
            refine g_geti X g_cX2 w_X7_read_inX2 3 (by decide) w_X7_read_94 hk_a9 rfl dX7_read_128 ?_
            refine g_iload X dX7_read_131 1 rfl ?_
            refine g_isub X dX7_read_133 ?_
            exact g_iret X h dX7_read_134
          · cases h; rfl
        · skip
          refine g_iconst X (v := (-1)) dX7_read_26 (by decide) ?_
          exact g_iret X h dX7_read_27
abbrev rm_X7_torn : Room := { frames := 0, cells := 0, slots := 0, locals := 0 }
theorem hd_X7_torn : yX7_torn.cls = RX7 ∧ yX7_torn.cls ≠ "java/lang/invoke/MethodHandle" ∧ yX7_torn.cls ≠ "java/lang/invoke/VarHandle" ∧ (parseMethodDescriptor yX7_torn.desc).map (fun d => d.parameters.length) = some 0 := by decide +kernel
theorem w_X7_torn_277 : Cond.fieldLink RX7 277 "TokenDoors" "readFault" "I" ∈ wsX7_torn := by decide +kernel
theorem w_X7_torn_inX7 : ∀ w ∈ wsX70, w ∈ wsX7_torn := by decide +kernel
def f_X7_torn (fu : Nat) (o : Nat) (S : g_St) : Option (Int32 × g_St) :=
  some ((S.1 o 10), S)
set_option maxRecDepth 100000 in
set_option maxHeartbeats 400000 in
theorem ct_X7_torn {l : Launch} {D : va_G} {ad : Nat → Nat} {cy : Nat → ClassId} {zz : (Nat → Nat) × (Nat → Nat)} (hinj : ∀ i j, i < 90 → j < 90 → ad i = ad j → i = j) {fu : Nat} (o : Nat) (hk_o : o < 90 ∧ g_KC o = g_kX7) {S : g_St} (z : Int32 × g_St) (h : f_X7_torn fu o S = some z) : g_Mi l g_KC 90 D ad cy zz yX7_torn wsX7_torn rm_X7_torn [.ref (ad o)] S z := by
  refine g_ofi hinj (cc := cX7_torn) (maxL := 1) (ret := (some .int)) (lv := [(0, .ref (ad o))]) (by decide) rfl (Nat.le_of_ble_eq_true rfl) rfl ?_
  intro x X hl hD ha hy hz
  subst hl hD ha hy hz
  unfold f_X7_torn at h
  refine g_aload_n X dX7_torn_0 0 rfl ?_
  refine g_geti X g_cX7 w_X7_torn_inX7 10 (by decide) w_X7_torn_277 hk_o rfl dX7_torn_1 ?_
  exact g_iret X h dX7_torn_4
abbrev rm_X7_imagesKept : Room := { frames := 0, cells := 0, slots := 0, locals := 0 }
theorem hd_X7_imagesKept : yX7_imagesKept.cls = RX7 ∧ yX7_imagesKept.cls ≠ "java/lang/invoke/MethodHandle" ∧ yX7_imagesKept.cls ≠ "java/lang/invoke/VarHandle" ∧ (parseMethodDescriptor yX7_imagesKept.desc).map (fun d => d.parameters.length) = some 0 := by decide +kernel
theorem w_X7_imagesKept_23 : Cond.fieldLink RX7 23 "TokenDoors" "kept" "[Z" ∈ wsX7_imagesKept := by decide +kernel
theorem w_X7_imagesKept_inX7 : ∀ w ∈ wsX70, w ∈ wsX7_imagesKept := by decide +kernel
def j_X7_imagesKept_24_in4 (fu : Nat) (v0 : Nat) (v2 : Int32) (s0 : Int32) (s1 : Int32) (S : g_St) : Option ((Int32 × Int32 × g_St) ⊕ (Int32 × g_St)) :=
  some (.inl ((s0 + s1), (v2 + 1), S))
def b_X7_imagesKept_4 (fu : Nat) (v0 : Nat) (v1 : Int32) (v2 : Int32) (S : g_St) : Option ((Int32 × Int32 × g_St) ⊕ (Int32 × g_St)) :=
  if (2 : Int32) ≤ v2 then (some (.inr (v1, S))) else (g_ld g_KC 90 (.inr (2, 2, false)) (S.2 v0 3) fun a1 => g_ix v2 2 fun i2 => if (S.1 a1 i2) = 0 then (j_X7_imagesKept_24_in4 fu v0 v2 v1 ((0 : Int32)) S) else (j_X7_imagesKept_24_in4 fu v0 v2 v1 ((1 : Int32)) S))
def f_X7_imagesKept (fu : Nat) (o : Nat) (S : g_St) : Option (Int32 × g_St) :=
  g_th (g_lp (fun t => b_X7_imagesKept_4 fu o t.1 t.2.1 t.2.2) fu ((0 : Int32), (0 : Int32), S)) fun e => match e with | (w1_1, S1) => some (w1_1, S1)
set_option maxRecDepth 100000 in
set_option maxHeartbeats 400000 in
theorem vj_X7_imagesKept_24_in4 {x : g_CX} {z : Int32 × g_St} {fu : Nat} (X : g_X 90 x cX7_imagesKept RX7 3 wsX7_imagesKept rm_X7_imagesKept (some .int)) (v0 : Nat) (v2 : Int32) (s0 : Int32) (s1 : Int32) (hk_v0 : v0 < 90 ∧ g_KC v0 = g_kX7) (S : g_St) {r : (Int32 × Int32 × g_St) ⊕ (Int32 × g_St)} (h : j_X7_imagesKept_24_in4 fu v0 v2 s0 s1 S = some r) (hc : Sum.elim (fun t : Int32 × Int32 × g_St => g_V g_KC 90 x 3 (g_qi g_KC 90 x z) t.2.2 4 [(0, .ref (g_ad x v0)), (1, .int (t.1)), (2, .int (t.2.1))] []) (fun e : Int32 × g_St => g_V g_KC 90 x 3 (g_qi g_KC 90 x z) e.2 32 [(1, .int (e.1))] []) r) : g_V g_KC 90 x 3 (g_qi g_KC 90 x z) S 24 [(0, .ref (g_ad x v0)), (2, .int (v2))] [.int (s1), .int (s0)] := by
  unfold j_X7_imagesKept_24_in4 at h
  refine g_iadd X dX7_imagesKept_24 ?_
  refine g_istore_n X [(1, _), (0, _), (2, _)] dX7_imagesKept_25 (by decide) rfl ?_
  refine g_iinc X [(2, _), (1, _), (0, _)] dX7_imagesKept_26 2 rfl rfl (by decide) rfl ?_
  refine g_goto X 4 dX7_imagesKept_29 (by decide) ?_
  cases h
  exact g_sub [2, 1, 0] _ rfl hc
set_option maxRecDepth 100000 in
set_option maxHeartbeats 400000 in
theorem vb_X7_imagesKept_4 {x : g_CX} {z : Int32 × g_St} {fu : Nat} (X : g_X 90 x cX7_imagesKept RX7 3 wsX7_imagesKept rm_X7_imagesKept (some .int)) (v0 : Nat) (v1 : Int32) (v2 : Int32) (hk_v0 : v0 < 90 ∧ g_KC v0 = g_kX7) (S : g_St) {r : (Int32 × Int32 × g_St) ⊕ (Int32 × g_St)} (h : b_X7_imagesKept_4 fu v0 v1 v2 S = some r) (hc : Sum.elim (fun t : Int32 × Int32 × g_St => g_V g_KC 90 x 3 (g_qi g_KC 90 x z) t.2.2 4 [(0, .ref (g_ad x v0)), (1, .int (t.1)), (2, .int (t.2.1))] []) (fun e : Int32 × g_St => g_V g_KC 90 x 3 (g_qi g_KC 90 x z) e.2 32 [(1, .int (e.1))] []) r) : g_V g_KC 90 x 3 (g_qi g_KC 90 x z) S 4 [(0, .ref (g_ad x v0)), (1, .int (v1)), (2, .int (v2))] [] := by
  unfold b_X7_imagesKept_4 at h
  refine g_iload_n X dX7_imagesKept_4 2 rfl ?_
  refine g_iconst X (v := 2) dX7_imagesKept_5 (by decide) ?_
  refine g_icmp_ge X 32 dX7_imagesKept_6 (by decide) h (fun c_6 h => ?_) (fun c_6 h => ?_)
  · skip
    cases h
    exact g_sub [1] _ rfl hc
  · skip
    refine g_iload_n X dX7_imagesKept_9 1 rfl ?_
    refine g_aload_n X dX7_imagesKept_10 0 rfl ?_
    refine g_getr X g_cX7 w_X7_imagesKept_inX7 3 (by decide) w_X7_imagesKept_23 hk_v0 rfl dX7_imagesKept_11 h (fun a1 hk_a1 h => ?_)
    refine g_iload_n X dX7_imagesKept_14 2 rfl ?_
    refine g_zald X hk_a1 dX7_imagesKept_15 h (fun i2 _ h => ?_)
    refine g_if_eq X 23 dX7_imagesKept_16 (by decide) h (fun c_16 h => ?_) (fun c_16 h => ?_)
    · skip
      refine g_iconst X (v := 0) dX7_imagesKept_23 (by decide) ?_
      refine g_sub [0, 2] _ rfl ?_
      exact vj_X7_imagesKept_24_in4 X v0 v2 v1 ((0 : Int32)) hk_v0 _ h hc
    · skip
      refine g_iconst X (v := 1) dX7_imagesKept_19 (by decide) ?_
      refine g_goto X 24 dX7_imagesKept_20 (by decide) ?_
      refine g_sub [0, 2] _ rfl ?_
      exact vj_X7_imagesKept_24_in4 X v0 v2 v1 ((1 : Int32)) hk_v0 _ h hc
set_option maxRecDepth 100000 in
set_option maxHeartbeats 400000 in
theorem ct_X7_imagesKept {l : Launch} {D : va_G} {ad : Nat → Nat} {cy : Nat → ClassId} {zz : (Nat → Nat) × (Nat → Nat)} (hinj : ∀ i j, i < 90 → j < 90 → ad i = ad j → i = j) {fu : Nat} (o : Nat) (hk_o : o < 90 ∧ g_KC o = g_kX7) {S : g_St} (z : Int32 × g_St) (h : f_X7_imagesKept fu o S = some z) : g_Mi l g_KC 90 D ad cy zz yX7_imagesKept wsX7_imagesKept rm_X7_imagesKept [.ref (ad o)] S z := by
  refine g_ofi hinj (cc := cX7_imagesKept) (maxL := 3) (ret := (some .int)) (lv := [(0, .ref (ad o))]) (by decide) rfl (Nat.le_of_ble_eq_true rfl) rfl ?_
  intro x X hl hD ha hy hz
  subst hl hD ha hy hz
  unfold f_X7_imagesKept at h
  refine g_iconst X (v := 0) dX7_imagesKept_0 (by decide) ?_
  refine g_istore_n X [(1, _), (0, _)] dX7_imagesKept_1 (by decide) rfl ?_
  refine g_iconst X (v := 0) dX7_imagesKept_2 (by decide) ?_
  refine g_istore_n X [(2, _), (1, _), (0, _)] dX7_imagesKept_3 (by decide) rfl ?_
  obtain ⟨e, he, h⟩ := g_th_s h
  refine g_sub [2, 1, 0] _ rfl ?_
  refine g_lp_w (body := (fun t => b_X7_imagesKept_4 fu o t.1 t.2.1 t.2.2)) (P := fun t : Int32 × Int32 × g_St => g_V g_KC 90 x 3 (g_qi g_KC 90 x z) t.2.2 4 [(0, .ref (g_ad x o)), (1, .int (t.1)), (2, .int (t.2.1))] []) (E := (fun e : Int32 × g_St => g_V g_KC 90 x 3 (g_qi g_KC 90 x z) e.2 32 [(1, .int (e.1))] [])) (fun t r hb hc => vb_X7_imagesKept_4 X o t.1 t.2.1 hk_o t.2.2 hb hc) fu ((0 : Int32), (0 : Int32), S) e he ?_
  obtain ⟨w1_1, S1⟩ := e
  show g_V g_KC 90 x 3 (g_qi g_KC 90 x z) S1 32 [(1, .int (w1_1))] []
  refine g_iload_n X dX7_imagesKept_32 0 rfl ?_
  exact g_iret X h dX7_imagesKept_33
abbrev rm_X7_count : Room := { frames := 1, cells := 0, slots := 0, locals := 22 }
theorem hd_X7_count : yX7_count.cls = RX7 ∧ yX7_count.cls ≠ "java/lang/invoke/MethodHandle" ∧ yX7_count.cls ≠ "java/lang/invoke/VarHandle" ∧ (parseMethodDescriptor yX7_count.desc).map (fun d => d.parameters.length) = some 1 := by decide +kernel
theorem w_X7_count_46 : Cond.fieldLink RX7 46 "TokenDoors" "seen" "LTokenDoors$Seen;" ∈ wsX7_count := by decide +kernel
theorem w_X7_count_inX7 : ∀ w ∈ wsX70, w ∈ wsX7_count := by decide +kernel
theorem w_X7_count_88 : Cond.fieldLink RX7 88 "TokenDoors$Seen" "size" "I" ∈ wsX7_count := by decide +kernel
theorem w_X7_count_inX3 : ∀ w ∈ wsX30, w ∈ wsX7_count := by decide +kernel
theorem w_X7_count_30 : Cond.fieldLink RX7 30 "TokenDoors" "tape" "LTokenDoors$Tape;" ∈ wsX7_count := by decide +kernel
theorem w_X7_count_70 : Cond.fieldLink RX7 70 "TokenDoors$Tape" "length" "I" ∈ wsX7_count := by decide +kernel
theorem w_X7_count_inX5 : ∀ w ∈ wsX50, w ∈ wsX7_count := by decide +kernel
theorem w_X7_count_52 : Cond.fieldLink RX7 52 "TokenDoors" "sheets" "[LTokenDoors$Sheet;" ∈ wsX7_count := by decide +kernel
theorem w_X7_count_283 : Cond.fieldLink RX7 283 "TokenDoors$Sheet" "laid" "Z" ∈ wsX7_count := by decide +kernel
theorem w_X7_count_inX4 : ∀ w ∈ wsX40, w ∈ wsX7_count := by decide +kernel
theorem w_X7_count_286 : Cond.fieldLink RX7 286 "TokenDoors$Sheet" "size" "I" ∈ wsX7_count := by decide +kernel
theorem w_X7_count_10 : Cond.fieldLink RX7 10 "TokenDoors" "now" "LTokenDoors$Hall;" ∈ wsX7_count := by decide +kernel
def f_X7_count (fu : Nat) (o : Nat) (p0 : Int32) (S : g_St) : Option (Int32 × g_St) :=
  if p0 = 0 then (g_ld g_KC 90 g_kX3 (S.2 o 6) fun a1 => some ((S.1 a1 2), S)) else (if p0 = 1 then (g_bd (f_X7_imagesKept fu o S) fun r2 Sr2 => some (r2, Sr2)) else (if p0 = 2 then (g_ld g_KC 90 g_kX5 (S.2 o 4) fun a3 => some ((S.1 a3 1), S)) else (if p0 = 3 then (g_ld g_KC 90 (.inr (6, 4, true)) (S.2 o 7) fun a4 => g_ix (0 : Int32) 4 fun i5 => g_ld g_KC 90 g_kX4 (S.2 a4 i5) fun a5 => if (S.1 a5 1) = 0 then (some ((-4 : Int32), S)) else (g_ld g_KC 90 (.inr (6, 4, true)) (S.2 o 7) fun a6 => g_ix (0 : Int32) 4 fun i7 => g_ld g_KC 90 g_kX4 (S.2 a6 i7) fun a7 => some ((S.1 a7 3), S))) else (if p0 = 4 then (g_ld g_KC 90 g_kX2 (S.2 o 0) fun a8 => g_bd (f_X2_depthOfAll fu a8 S) fun r9 Sr9 => some (r9, Sr9)) else (if p0 = 5 then (g_ld g_KC 90 g_kX2 (S.2 o 0) fun a10 => g_bd (f_X2_manyOfAll fu a10 S) fun r11 Sr11 => some (r11, Sr11)) else (some ((-1 : Int32), S)))))))
set_option maxRecDepth 100000 in
set_option maxHeartbeats 400000 in
theorem ct_X7_count {l : Launch} {D : va_G} {ad : Nat → Nat} {cy : Nat → ClassId} {zz : (Nat → Nat) × (Nat → Nat)} (hinj : ∀ i j, i < 90 → j < 90 → ad i = ad j → i = j) {fu : Nat} (o : Nat) (p0 : Int32) (hk_o : o < 90 ∧ g_KC o = g_kX7) {S : g_St} (z : Int32 × g_St) (h : f_X7_count fu o p0 S = some z) : g_Mi l g_KC 90 D ad cy zz yX7_count wsX7_count rm_X7_count [.ref (ad o), .int (p0)] S z := by
  refine g_ofi hinj (cc := cX7_count) (maxL := 2) (ret := (some .int)) (lv := [(0, .ref (ad o)), (1, .int (p0))]) (by decide) rfl (Nat.le_of_ble_eq_true rfl) rfl ?_
  intro x X hl hD ha hy hz
  subst hl hD ha hy hz
  unfold f_X7_count at h
  refine g_iload_n X dX7_count_0 1 rfl ?_
  refine g_ifs h (fun c_1_0 h => ?_) (fun c_1_0 h => ?_)
  · refine g_tableIn X 40 (off := 39) dX7_count_1 (by rw [c_1_0]; decide) (by rw [c_1_0]; decide) (by rw [c_1_0]; rfl) (by decide) ?_
    refine g_aload_n X dX7_count_40 0 rfl ?_
    refine g_getr X g_cX7 w_X7_count_inX7 6 (by decide) w_X7_count_46 hk_o rfl dX7_count_41 h (fun a1 hk_a1 h => ?_)
    refine g_geti X g_cX3 w_X7_count_inX3 2 (by decide) w_X7_count_88 hk_a1 rfl dX7_count_44 ?_
    exact g_iret X h dX7_count_47
  refine g_ifs h (fun c_1_1 h => ?_) (fun c_1_1 h => ?_)
  · refine g_tableIn X 48 (off := 47) dX7_count_1 (by rw [c_1_1]; decide) (by rw [c_1_1]; decide) (by rw [c_1_1]; rfl) (by decide) ?_
    refine g_aload_n X dX7_count_48 0 rfl ?_
    refine g_callVi X g_cX7 hk_o [] rfl (cwV 0 X.2.2.2.2.1 gX7_count_X7_imagesKept rfl rfl rfl hd_X7_imagesKept ⟨Nat.le_of_ble_eq_true rfl, Nat.le_of_ble_eq_true rfl⟩) (Nat.le_of_ble_eq_true rfl) dX7_count_49 h (fun q hq => ct_X7_imagesKept X.2.2.2.2.2.2.1 o hk_o _ hq) (fun r2 Sr2 h => ?_)
    exact g_iret X h dX7_count_52
  refine g_ifs h (fun c_1_2 h => ?_) (fun c_1_2 h => ?_)
  · refine g_tableIn X 53 (off := 52) dX7_count_1 (by rw [c_1_2]; decide) (by rw [c_1_2]; decide) (by rw [c_1_2]; rfl) (by decide) ?_
    refine g_aload_n X dX7_count_53 0 rfl ?_
    refine g_getr X g_cX7 w_X7_count_inX7 4 (by decide) w_X7_count_30 hk_o rfl dX7_count_54 h (fun a3 hk_a3 h => ?_)
    refine g_geti X g_cX5 w_X7_count_inX5 1 (by decide) w_X7_count_70 hk_a3 rfl dX7_count_57 ?_
    exact g_iret X h dX7_count_60
  refine g_ifs h (fun c_1_3 h => ?_) (fun c_1_3 h => ?_)
  · refine g_tableIn X 61 (off := 60) dX7_count_1 (by rw [c_1_3]; decide) (by rw [c_1_3]; decide) (by rw [c_1_3]; rfl) (by decide) ?_
    refine g_aload_n X dX7_count_61 0 rfl ?_
    refine g_getr X g_cX7 w_X7_count_inX7 7 (by decide) w_X7_count_52 hk_o rfl dX7_count_62 h (fun a4 hk_a4 h => ?_)
    refine g_iconst X (v := 0) dX7_count_65 (by decide) ?_
    refine g_aald X 6 RX4 rfl hk_a4 dX7_count_66 h (fun a5 hk_a5 h => ?_)
    refine g_geti X g_cX4 w_X7_count_inX4 1 (by decide) w_X7_count_283 hk_a5 rfl dX7_count_67 ?_
    refine g_if_eq X 85 dX7_count_70 (by decide) h (fun c_70 h => ?_) (fun c_70 h => ?_)
    · skip
      refine g_bipush X (v := (-4)) dX7_count_85 (by decide) ?_
      exact g_iret X h dX7_count_87
    · skip
      refine g_aload_n X dX7_count_73 0 rfl ?_
      refine g_getr X g_cX7 w_X7_count_inX7 7 (by decide) w_X7_count_52 hk_o rfl dX7_count_74 h (fun a6 hk_a6 h => ?_)
      refine g_iconst X (v := 0) dX7_count_77 (by decide) ?_
      refine g_aald X 6 RX4 rfl hk_a6 dX7_count_78 h (fun a7 hk_a7 h => ?_)
      refine g_geti X g_cX4 w_X7_count_inX4 3 (by decide) w_X7_count_286 hk_a7 rfl dX7_count_79 ?_
      refine g_goto X 87 dX7_count_82 (by decide) ?_
      exact g_iret X h dX7_count_87
  refine g_ifs h (fun c_1_4 h => ?_) (fun c_1_4 h => ?_)
  · refine g_tableIn X 88 (off := 87) dX7_count_1 (by rw [c_1_4]; decide) (by rw [c_1_4]; decide) (by rw [c_1_4]; rfl) (by decide) ?_
    refine g_aload_n X dX7_count_88 0 rfl ?_
    refine g_getr X g_cX7 w_X7_count_inX7 0 (by decide) w_X7_count_10 hk_o rfl dX7_count_89 h (fun a8 hk_a8 h => ?_)
    refine g_callVi X g_cX2 hk_a8 [] rfl (cwV 0 X.2.2.2.2.1 gX7_count_X2_depthOfAll rfl rfl rfl hd_X2_depthOfAll ⟨Nat.le_of_ble_eq_true rfl, Nat.le_of_ble_eq_true rfl⟩) (Nat.le_of_ble_eq_true rfl) dX7_count_92 h (fun q hq => ct_X2_depthOfAll X.2.2.2.2.2.2.1 a8 hk_a8 _ hq) (fun r9 Sr9 h => ?_)
    exact g_iret X h dX7_count_95
  refine g_ifs h (fun c_1_5 h => ?_) (fun c_1_5 h => ?_)
  · refine g_tableIn X 96 (off := 95) dX7_count_1 (by rw [c_1_5]; decide) (by rw [c_1_5]; decide) (by rw [c_1_5]; rfl) (by decide) ?_
    refine g_aload_n X dX7_count_96 0 rfl ?_
    refine g_getr X g_cX7 w_X7_count_inX7 0 (by decide) w_X7_count_10 hk_o rfl dX7_count_97 h (fun a10 hk_a10 h => ?_)
    refine g_callVi X g_cX2 hk_a10 [] rfl (cwV 0 X.2.2.2.2.1 gX7_count_X2_manyOfAll rfl rfl rfl hd_X2_manyOfAll ⟨Nat.le_of_ble_eq_true rfl, Nat.le_of_ble_eq_true rfl⟩) (Nat.le_of_ble_eq_true rfl) dX7_count_100 h (fun q hq => ct_X2_manyOfAll X.2.2.2.2.2.2.1 a10 hk_a10 _ hq) (fun r11 Sr11 h => ?_)
    exact g_iret X h dX7_count_103
  refine g_tableOut X 104 dX7_count_1 (g_sw_out (n := 5) (by decide) rfl (fun k hk => by rcases (show k = 0 ∨ k = 1 ∨ k = 2 ∨ k = 3 ∨ k = 4 ∨ k = 5 by omega) with rfl | rfl | rfl | rfl | rfl | rfl <;> first | exact c_1_0 | exact c_1_1 | exact c_1_2 | exact c_1_3 | exact c_1_4 | exact c_1_5)) (by decide) ?_
  refine g_iconst X (v := (-1)) dX7_count_104 (by decide) ?_
  exact g_iret X h dX7_count_105
