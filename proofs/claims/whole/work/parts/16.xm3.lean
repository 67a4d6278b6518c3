abbrev rm_X8_mostAt : Room := { frames := 5, cells := 0, slots := 0, locals := 114 }
theorem hd_X8_mostAt : yX8_mostAt.cls = RX8 ∧ yX8_mostAt.cls ≠ "java/lang/invoke/MethodHandle" ∧ yX8_mostAt.cls ≠ "java/lang/invoke/VarHandle" ∧ (parseMethodDescriptor yX8_mostAt.desc).map (fun d => d.parameters.length) = some 4 := by decide +kernel
theorem w_X8_mostAt_7 : Cond.fieldLink RX8 7 "TokenDoorsModel" "state" "[I" ∈ wsX8_mostAt := by decide +kernel
theorem w_X8_mostAt_inX8 : ∀ w ∈ wsX80, w ∈ wsX8_mostAt := by decide +kernel
def j_X8_mostAt_75_in17 (fu : Nat) (v0 : Nat) (v1 : Int32) (v2 : Int32) (v3 : Int32) (v4 : Int32) (v6 : Int32) (v7 : Int32) (s0 : Int32) (S : g_St) : Option ((Int32 × Int32 × Int32 × g_St) ⊕ (Int32 × Int32 × g_St)) :=
  some (.inl (s0, v6, (v7 + 1), S))
def j_X8_mostAt_59_in17 (fu : Nat) (v0 : Nat) (v1 : Int32) (v2 : Int32) (v3 : Int32) (v4 : Int32) (v5 : Int32) (v7 : Int32) (v8 : Int32) (s0 : Int32) (S : g_St) : Option ((Int32 × Int32 × Int32 × g_St) ⊕ (Int32 × Int32 × g_St)) :=
  if v8 ≤ v5 then (j_X8_mostAt_75_in17 fu v0 v1 v2 v3 v4 s0 v7 v5 S) else (j_X8_mostAt_75_in17 fu v0 v1 v2 v3 v4 s0 v7 v8 S)
def b_X8_mostAt_17 (fu : Nat) (v0 : Nat) (v1 : Int32) (v2 : Int32) (v3 : Int32) (v4 : Int32) (v5 : Int32) (v6 : Int32) (v7 : Int32) (S : g_St) : Option ((Int32 × Int32 × Int32 × g_St) ⊕ (Int32 × Int32 × g_St)) :=
  if v2 ≤ v7 then (some (.inr (v5, v6, S))) else (g_ld g_KM 13 (.inr (0, 270, false)) (S.2 v0 0) fun a2 => g_ix ((225 : Int32) + v1) 270 fun i3 => g_bd (f_X8_ticksGo fu v0 ((225 : Int32)) v3 (g_u S.1 a2 i3 v7, S.2)) fun r4 Sr4 => if r4 ≤ v5 then (j_X8_mostAt_59_in17 fu v0 v1 v2 v3 v4 v5 v7 r4 v6 Sr4) else (j_X8_mostAt_59_in17 fu v0 v1 v2 v3 v4 v5 v7 r4 v7 Sr4))
def f_X8_mostAt (fu : Nat) (o : Nat) (p0 : Int32) (p1 : Int32) (p2 : Int32) (p3 : Int32) (S : g_St) : Option (Int32 × g_St) :=
  g_bd (f_X8_copies fu o ((0 : Int32)) ((225 : Int32)) S) fun _ Sr1 => g_th (g_lp (fun t => b_X8_mostAt_17 fu o p0 p1 p2 p3 t.1 t.2.1 t.2.2.1 t.2.2.2) fu ((-1 : Int32), (0 : Int32), (0 : Int32), Sr1)) fun e => match e with | (w5_1, w6_1, S1) => if p3 = 0 then (some (w6_1, S1)) else (some (w5_1, S1))
set_option maxRecDepth 100000 in
set_option maxHeartbeats 400000 in
theorem vj_X8_mostAt_75_in17 {x : g_CX} {z : Int32 × g_St} {fu : Nat} (X : g_X 13 x cX8_mostAt RX8 9 wsX8_mostAt rm_X8_mostAt (some .int)) (v0 : Nat) (v1 : Int32) (v2 : Int32) (v3 : Int32) (v4 : Int32) (v6 : Int32) (v7 : Int32) (s0 : Int32) (hk_v0 : v0 < 13 ∧ g_KM v0 = g_kX8) (S : g_St) {r : (Int32 × Int32 × Int32 × g_St) ⊕ (Int32 × Int32 × g_St)} (h : j_X8_mostAt_75_in17 fu v0 v1 v2 v3 v4 v6 v7 s0 S = some r) (hc : Sum.elim (fun t : Int32 × Int32 × Int32 × g_St => g_V g_KM 13 x 9 (g_qi g_KM 13 x z) t.2.2.2 17 [(0, .ref (g_ad x v0)), (1, .int (v1)), (2, .int (v2)), (3, .int (v3)), (4, .int (v4)), (5, .int (t.1)), (6, .int (t.2.1)), (7, .int (t.2.2.1))] []) (fun e : Int32 × Int32 × g_St => g_V g_KM 13 x 9 (g_qi g_KM 13 x z) e.2.2 83 [(4, .int (v4)), (5, .int (e.1)), (6, .int (e.2.1))] []) r) : g_V g_KM 13 x 9 (g_qi g_KM 13 x z) S 75 [(0, .ref (g_ad x v0)), (1, .int (v1)), (2, .int (v2)), (3, .int (v3)), (4, .int (v4)), (6, .int (v6)), (7, .int (v7))] [.int (s0)] := by
  unfold j_X8_mostAt_75_in17 at h
  refine g_istore X [(5, _), (0, _), (1, _), (2, _), (3, _), (4, _), (6, _), (7, _)] dX8_mostAt_75 (by decide) rfl ?_
  refine g_iinc X [(7, _), (5, _), (0, _), (1, _), (2, _), (3, _), (4, _), (6, _)] dX8_mostAt_77 7 rfl rfl (by decide) rfl ?_
  refine g_goto X 17 dX8_mostAt_80 (by decide) ?_
  cases h
  exact g_sub [2, 3, 4, 5, 6, 1, 7, 0] _ rfl hc
set_option maxRecDepth 100000 in
set_option maxHeartbeats 400000 in
theorem vj_X8_mostAt_59_in17 {x : g_CX} {z : Int32 × g_St} {fu : Nat} (X : g_X 13 x cX8_mostAt RX8 9 wsX8_mostAt rm_X8_mostAt (some .int)) (v0 : Nat) (v1 : Int32) (v2 : Int32) (v3 : Int32) (v4 : Int32) (v5 : Int32) (v7 : Int32) (v8 : Int32) (s0 : Int32) (hk_v0 : v0 < 13 ∧ g_KM v0 = g_kX8) (S : g_St) {r : (Int32 × Int32 × Int32 × g_St) ⊕ (Int32 × Int32 × g_St)} (h : j_X8_mostAt_59_in17 fu v0 v1 v2 v3 v4 v5 v7 v8 s0 S = some r) (hc : Sum.elim (fun t : Int32 × Int32 × Int32 × g_St => g_V g_KM 13 x 9 (g_qi g_KM 13 x z) t.2.2.2 17 [(0, .ref (g_ad x v0)), (1, .int (v1)), (2, .int (v2)), (3, .int (v3)), (4, .int (v4)), (5, .int (t.1)), (6, .int (t.2.1)), (7, .int (t.2.2.1))] []) (fun e : Int32 × Int32 × g_St => g_V g_KM 13 x 9 (g_qi g_KM 13 x z) e.2.2 83 [(4, .int (v4)), (5, .int (e.1)), (6, .int (e.2.1))] []) r) : g_V g_KM 13 x 9 (g_qi g_KM 13 x z) S 59 [(0, .ref (g_ad x v0)), (1, .int (v1)), (2, .int (v2)), (3, .int (v3)), (4, .int (v4)), (5, .int (v5)), (7, .int (v7)), (8, .int (v8))] [.int (s0)] := by
  unfold j_X8_mostAt_59_in17 at h
  refine g_istore X [(6, _), (0, _), (1, _), (2, _), (3, _), (4, _), (5, _), (7, _), (8, _)] dX8_mostAt_59 (by decide) rfl ?_
  refine g_iload X dX8_mostAt_61 8 rfl ?_
  refine g_iload X dX8_mostAt_63 6 rfl ?_
  refine g_icmp_le X 73 dX8_mostAt_65 (by decide) h (fun c_65 h => ?_) (fun c_65 h => ?_)
  · skip
    refine g_iload X dX8_mostAt_73 6 rfl ?_
    refine g_sub [1, 2, 3, 4, 5, 0, 7] _ rfl ?_
    exact vj_X8_mostAt_75_in17 X v0 v1 v2 v3 v4 s0 v7 v5 hk_v0 _ h hc
  · skip
    refine g_iload X dX8_mostAt_68 8 rfl ?_
    refine g_goto X 75 dX8_mostAt_70 (by decide) ?_
    refine g_sub [1, 2, 3, 4, 5, 0, 7] _ rfl ?_
    exact vj_X8_mostAt_75_in17 X v0 v1 v2 v3 v4 s0 v7 v8 hk_v0 _ h hc
set_option maxRecDepth 100000 in
set_option maxHeartbeats 400000 in
theorem vb_X8_mostAt_17 {x : g_CX} {z : Int32 × g_St} {fu : Nat} (X : g_X 13 x cX8_mostAt RX8 9 wsX8_mostAt rm_X8_mostAt (some .int)) (v0 : Nat) (v1 : Int32) (v2 : Int32) (v3 : Int32) (v4 : Int32) (v5 : Int32) (v6 : Int32) (v7 : Int32) (hk_v0 : v0 < 13 ∧ g_KM v0 = g_kX8) (S : g_St) {r : (Int32 × Int32 × Int32 × g_St) ⊕ (Int32 × Int32 × g_St)} (h : b_X8_mostAt_17 fu v0 v1 v2 v3 v4 v5 v6 v7 S = some r) (hc : Sum.elim (fun t : Int32 × Int32 × Int32 × g_St => g_V g_KM 13 x 9 (g_qi g_KM 13 x z) t.2.2.2 17 [(0, .ref (g_ad x v0)), (1, .int (v1)), (2, .int (v2)), (3, .int (v3)), (4, .int (v4)), (5, .int (t.1)), (6, .int (t.2.1)), (7, .int (t.2.2.1))] []) (fun e : Int32 × Int32 × g_St => g_V g_KM 13 x 9 (g_qi g_KM 13 x z) e.2.2 83 [(4, .int (v4)), (5, .int (e.1)), (6, .int (e.2.1))] []) r) : g_V g_KM 13 x 9 (g_qi g_KM 13 x z) S 17 [(0, .ref (g_ad x v0)), (1, .int (v1)), (2, .int (v2)), (3, .int (v3)), (4, .int (v4)), (5, .int (v5)), (6, .int (v6)), (7, .int (v7))] [] := by
  unfold b_X8_mostAt_17 at h
  refine g_iload X dX8_mostAt_17 7 rfl ?_
  refine g_iload_n X dX8_mostAt_19 2 rfl ?_
  refine g_icmp_ge X 83 dX8_mostAt_20 (by decide) h (fun c_20 h => ?_) (fun c_20 h => ?_)
  · skip
    cases h
    exact g_sub [4, 5, 6] _ rfl hc
  · skip
    refine g_aload_n X dX8_mostAt_23 0 rfl ?_
    refine g_getr X g_cX8 w_X8_mostAt_inX8 0 (by decide) w_X8_mostAt_7 hk_v0 rfl dX8_mostAt_24 h (fun a2 hk_a2 h => ?_)
    refine g_sipush X (v := (225)) dX8_mostAt_27 (by decide) ?_
    refine g_iload_n X dX8_mostAt_30 1 rfl ?_
    refine g_iadd X dX8_mostAt_31 ?_
    refine g_iload X dX8_mostAt_32 7 rfl ?_
    refine g_iast X hk_a2 dX8_mostAt_34 h (fun i3 _ h => ?_)
    refine g_aload_n X dX8_mostAt_35 0 rfl ?_
    refine g_sipush X (v := (225)) dX8_mostAt_36 (by decide) ?_
    refine g_iload_n X dX8_mostAt_39 3 rfl ?_
    refine g_callVi X g_cX8 hk_v0 [.int ((225 : Int32)), .int (v3)] rfl (cwV 2 X.2.2.2.2.1 gX8_mostAt_X8_ticksGo rfl rfl rfl hd_X8_ticksGo ⟨Nat.le_of_ble_eq_true rfl, Nat.le_of_ble_eq_true rfl⟩) (Nat.le_of_ble_eq_true rfl) dX8_mostAt_40 h (fun q hq => ct_X8_ticksGo X.2.2.2.2.2.2.1 v0 ((225 : Int32)) v3 hk_v0 _ hq) (fun r4 Sr4 h => ?_)
    refine g_istore X [(8, _), (0, _), (1, _), (2, _), (3, _), (4, _), (5, _), (6, _), (7, _)] dX8_mostAt_43 (by decide) rfl ?_
    refine g_iload X dX8_mostAt_45 0 rfl ?_
    refine g_iload X dX8_mostAt_47 6 rfl ?_
    refine g_icmp_le X 57 dX8_mostAt_49 (by decide) h (fun c_49 h => ?_) (fun c_49 h => ?_)
    · skip
      refine g_iload X dX8_mostAt_57 7 rfl ?_
      refine g_sub [1, 2, 3, 4, 5, 6, 8, 0] _ rfl ?_
      exact vj_X8_mostAt_59_in17 X v0 v1 v2 v3 v4 v5 v7 r4 v6 hk_v0 _ h hc
    · skip
      refine g_iload X dX8_mostAt_52 8 rfl ?_
      refine g_goto X 59 dX8_mostAt_54 (by decide) ?_
      refine g_sub [1, 2, 3, 4, 5, 6, 8, 0] _ rfl ?_
      exact vj_X8_mostAt_59_in17 X v0 v1 v2 v3 v4 v5 v7 r4 v7 hk_v0 _ h hc
set_option maxRecDepth 100000 in
set_option maxHeartbeats 400000 in
theorem ct_X8_mostAt {l : Launch} {D : va_G} {ad : Nat → Nat} {cy : Nat → ClassId} {zz : (Nat → Nat) × (Nat → Nat)} (hinj : ∀ i j, i < 13 → j < 13 → ad i = ad j → i = j) {fu : Nat} (o : Nat) (p0 : Int32) (p1 : Int32) (p2 : Int32) (p3 : Int32) (hk_o : o < 13 ∧ g_KM o = g_kX8) {S : g_St} (z : Int32 × g_St) (h : f_X8_mostAt fu o p0 p1 p2 p3 S = some z) : g_Mi l g_KM 13 D ad cy zz yX8_mostAt wsX8_mostAt rm_X8_mostAt [.ref (ad o), .int (p0), .int (p1), .int (p2), .int (p3)] S z := by
  refine g_ofi hinj (cc := cX8_mostAt) (maxL := 9) (ret := (some .int)) (lv := [(0, .ref (ad o)), (1, .int (p0)), (2, .int (p1)), (3, .int (p2)), (4, .int (p3))]) (by decide) rfl (Nat.le_of_ble_eq_true rfl) rfl ?_
  intro x X hl hD ha hy hz
  subst hl hD ha hy hz
  unfold f_X8_mostAt at h
  refine g_iconst X (v := (-1)) dX8_mostAt_0 (by decide) ?_
  refine g_istore X [(5, _), (0, _), (1, _), (2, _), (3, _), (4, _)] dX8_mostAt_1 (by decide) rfl ?_
  refine g_iconst X (v := 0) dX8_mostAt_3 (by decide) ?_
  refine g_istore X [(6, _), (5, _), (0, _), (1, _), (2, _), (3, _), (4, _)] dX8_mostAt_4 (by decide) rfl ?_
  refine g_aload_n X dX8_mostAt_6 2 rfl ?_
  refine g_iconst X (v := 0) dX8_mostAt_7 (by decide) ?_
  refine g_sipush X (v := (225)) dX8_mostAt_8 (by decide) ?_
  refine g_callVv X g_cX8 hk_o [.int ((0 : Int32)), .int ((225 : Int32))] rfl (cwV 2 X.2.2.2.2.1 gX8_mostAt_X8_copies rfl rfl rfl hd_X8_copies ⟨Nat.le_of_ble_eq_true rfl, Nat.le_of_ble_eq_true rfl⟩) (Nat.le_of_ble_eq_true rfl) dX8_mostAt_11 h (fun q hq => ct_X8_copies X.2.2.2.2.2.2.1 o ((0 : Int32)) ((225 : Int32)) hk_o _ hq) (fun _ Sr1 h => ?_)
  refine g_iconst X (v := 0) dX8_mostAt_14 (by decide) ?_
  refine g_istore X [(7, _), (6, _), (5, _), (0, _), (1, _), (2, _), (3, _), (4, _)] dX8_mostAt_15 (by decide) rfl ?_
  obtain ⟨e, he, h⟩ := g_th_s h
  refine g_sub [3, 4, 5, 6, 7, 2, 1, 0] _ rfl ?_
  refine g_lp_w (body := (fun t => b_X8_mostAt_17 fu o p0 p1 p2 p3 t.1 t.2.1 t.2.2.1 t.2.2.2)) (P := fun t : Int32 × Int32 × Int32 × g_St => g_V g_KM 13 x 9 (g_qi g_KM 13 x z) t.2.2.2 17 [(0, .ref (g_ad x o)), (1, .int (p0)), (2, .int (p1)), (3, .int (p2)), (4, .int (p3)), (5, .int (t.1)), (6, .int (t.2.1)), (7, .int (t.2.2.1))] []) (E := (fun e : Int32 × Int32 × g_St => g_V g_KM 13 x 9 (g_qi g_KM 13 x z) e.2.2 83 [(4, .int (p3)), (5, .int (e.1)), (6, .int (e.2.1))] [])) (fun t r hb hc => vb_X8_mostAt_17 X o p0 p1 p2 p3 t.1 t.2.1 t.2.2.1 hk_o t.2.2.2 hb hc) fu ((-1 : Int32), (0 : Int32), (0 : Int32), Sr1) e he ?_
  obtain ⟨w5_1, w6_1, S1⟩ := e
  show g_V g_KM 13 x 9 (g_qi g_KM 13 x z) S1 83 [(4, .int (p3)), (5, .int (w5_1)), (6, .int (w6_1))] []
  refine g_iload X dX8_mostAt_83 0 rfl ?_
  refine g_if_ne X 93 dX8_mostAt_85 (by decide) h (fun c_85 h => ?_) (fun c_85 h => ?_)
  · skip
    refine g_iload X dX8_mostAt_93 1 rfl ?_
    exact g_iret X h dX8_mostAt_95
  · skip
    refine g_iload X dX8_mostAt_88 2 rfl ?_
    refine g_goto X 95 dX8_mostAt_90 (by decide) ?_
    exact g_iret X h dX8_mostAt_95
abbrev rm_X8_kind : Room := { frames := 6, cells := 0, slots := 0, locals := 142 }
theorem hd_X8_kind : yX8_kind.cls = RX8 ∧ yX8_kind.cls ≠ "java/lang/invoke/MethodHandle" ∧ yX8_kind.cls ≠ "java/lang/invoke/VarHandle" ∧ (parseMethodDescriptor yX8_kind.desc).map (fun d => d.parameters.length) = some 3 := by decide +kernel
def f_X8_kind (fu : Nat) (o : Nat) (p0 : Int32) (p1 : Int32) (p2 : Int32) (S : g_St) : Option (Int32 × g_St) :=
  g_bd (f_X8_isDoor fu o p0 S) fun r1 Sr1 => if r1 = 0 then (some ((-1 : Int32), Sr1)) else (g_bd (f_X8_isLong fu p1 Sr1) fun r2 Sr2 => if r2 = 0 then (some ((-1 : Int32), Sr2)) else (g_bd (f_X8_in fu ((Int32.toInt64 p2)) ((0 : Int64)) ((1 : Int64)) Sr2) fun r3 Sr3 => if r3 = 0 then (some ((-1 : Int32), Sr3)) else (g_bd (f_X8_mostAt fu o p0 ((4 : Int32)) p1 p2 Sr3) fun r4 Sr4 => some (r4, Sr4))))
set_option maxRecDepth 100000 in
set_option maxHeartbeats 400000 in
theorem ct_X8_kind {l : Launch} {D : va_G} {ad : Nat → Nat} {cy : Nat → ClassId} {zz : (Nat → Nat) × (Nat → Nat)} (hinj : ∀ i j, i < 13 → j < 13 → ad i = ad j → i = j) {fu : Nat} (o : Nat) (p0 : Int32) (p1 : Int32) (p2 : Int32) (hk_o : o < 13 ∧ g_KM o = g_kX8) {S : g_St} (z : Int32 × g_St) (h : f_X8_kind fu o p0 p1 p2 S = some z) : g_Mi l g_KM 13 D ad cy zz yX8_kind wsX8_kind rm_X8_kind [.ref (ad o), .int (p0), .int (p1), .int (p2)] S z := by
  refine g_ofi hinj (cc := cX8_kind) (maxL := 4) (ret := (some .int)) (lv := [(0, .ref (ad o)), (1, .int (p0)), (2, .int (p1)), (3, .int (p2))]) (by decide) rfl (Nat.le_of_ble_eq_true rfl) rfl ?_
  intro x X hl hD ha hy hz
  subst hl hD ha hy hz
  unfold f_X8_kind at h
  refine g_aload_n X dX8_kind_0 0 rfl ?_
  refine g_iload_n X dX8_kind_1 1 rfl ?_
  refine g_callVi X g_cX8 hk_o [.int (p0)] rfl (cwV 1 X.2.2.2.2.1 gX8_kind_X8_isDoor rfl rfl rfl hd_X8_isDoor ⟨Nat.le_of_ble_eq_true rfl, Nat.le_of_ble_eq_true rfl⟩) (Nat.le_of_ble_eq_true rfl) dX8_kind_2 h (fun q hq => ct_X8_isDoor X.2.2.2.2.2.2.1 o p0 hk_o _ hq) (fun r1 Sr1 h => ?_)
  refine g_if_eq X 36 dX8_kind_5 (by decide) h (fun c_5 h => ?_) (fun c_5 h => ?_)
  · skip
    refine g_iconst X (v := (-1)) dX8_kind_36 (by decide) ?_
    exact g_iret X h dX8_kind_37
  · skip
    refine g_iload_n X dX8_kind_8 2 rfl ?_
    refine g_callSi X [.int (p1)] rfl (va_cwS 1 X.2.2.2.2.1 gX8_kind_X8_isLong rfl rfl rfl hd_X8_isLong ⟨Nat.le_of_ble_eq_true rfl, Nat.le_of_ble_eq_true rfl⟩) (Nat.le_of_ble_eq_true rfl) dX8_kind_9 h (fun q hq => ct_X8_isLong X.2.2.2.2.2.2.1 p1  _ hq) (fun r2 Sr2 h => ?_)
    refine g_if_eq X 36 dX8_kind_12 (by decide) h (fun c_12 h => ?_) (fun c_12 h => ?_)
    · skip
      refine g_iconst X (v := (-1)) dX8_kind_36 (by decide) ?_
      exact g_iret X h dX8_kind_37
    · skip
      refine g_iload_n X dX8_kind_15 3 rfl ?_
      refine g_i2l X dX8_kind_16 ?_
      refine g_lconst X (v := 0) dX8_kind_17 (by decide) ?_
      refine g_lconst X (v := 1) dX8_kind_18 (by decide) ?_
      refine g_callSi X [.long ((Int32.toInt64 p2)), .long ((0 : Int64)), .long ((1 : Int64))] rfl (va_cwS 3 X.2.2.2.2.1 gX8_kind_X8_in rfl rfl rfl hd_X8_in ⟨Nat.le_of_ble_eq_true rfl, Nat.le_of_ble_eq_true rfl⟩) (Nat.le_of_ble_eq_true rfl) dX8_kind_19 h (fun q hq => ct_X8_in X.2.2.2.2.2.2.1 ((Int32.toInt64 p2)) ((0 : Int64)) ((1 : Int64))  _ hq) (fun r3 Sr3 h => ?_)
      refine g_if_eq X 36 dX8_kind_22 (by decide) h (fun c_22 h => ?_) (fun c_22 h => ?_)
      · skip
        refine g_iconst X (v := (-1)) dX8_kind_36 (by decide) ?_
        exact g_iret X h dX8_kind_37
      · skip
        refine g_aload_n X dX8_kind_25 0 rfl ?_
        refine g_iload_n X dX8_kind_26 1 rfl ?_
        refine g_iconst X (v := 4) dX8_kind_27 (by decide) ?_
        refine g_iload_n X dX8_kind_28 2 rfl ?_
        refine g_iload_n X dX8_kind_29 3 rfl ?_
        refine g_callVi X g_cX8 hk_o [.int (p0), .int ((4 : Int32)), .int (p1), .int (p2)] rfl (cwV 4 X.2.2.2.2.1 gX8_kind_X8_mostAt rfl rfl rfl hd_X8_mostAt ⟨Nat.le_of_ble_eq_true rfl, Nat.le_of_ble_eq_true rfl⟩) (Nat.le_of_ble_eq_true rfl) dX8_kind_30 h (fun q hq => ct_X8_mostAt X.2.2.2.2.2.2.1 o p0 ((4 : Int32)) p1 p2 hk_o _ hq) (fun r4 Sr4 h => ?_)
        refine g_goto X 37 dX8_kind_33 (by decide) ?_
        exact g_iret X h dX8_kind_37
abbrev rm_X8_fill : Room := { frames := 6, cells := 0, slots := 0, locals := 142 }
theorem hd_X8_fill : yX8_fill.cls = RX8 ∧ yX8_fill.cls ≠ "java/lang/invoke/MethodHandle" ∧ yX8_fill.cls ≠ "java/lang/invoke/VarHandle" ∧ (parseMethodDescriptor yX8_fill.desc).map (fun d => d.parameters.length) = some 3 := by decide +kernel
theorem w_X8_fill_7 : Cond.fieldLink RX8 7 "TokenDoorsModel" "state" "[I" ∈ wsX8_fill := by decide +kernel
theorem w_X8_fill_inX8 : ∀ w ∈ wsX80, w ∈ wsX8_fill := by decide +kernel
def f_X8_fill (fu : Nat) (o : Nat) (p0 : Int32) (p1 : Int32) (p2 : Int32) (S : g_St) : Option (Int32 × g_St) :=
  g_bd (f_X8_isDoor fu o p0 S) fun r1 Sr1 => if r1 = 0 then (some ((-1 : Int32), Sr1)) else (g_bd (f_X8_isLong fu p1 Sr1) fun r2 Sr2 => if r2 = 0 then (some ((-1 : Int32), Sr2)) else (g_bd (f_X8_in fu ((Int32.toInt64 p2)) ((0 : Int64)) ((1 : Int64)) Sr2) fun r3 Sr3 => if r3 = 0 then (some ((-1 : Int32), Sr3)) else (g_ld g_KM 13 (.inr (0, 270, false)) (Sr3.2 o 0) fun a4 => g_ix ((4 : Int32) + p0) 270 fun i5 => g_bd (f_X8_mostAt fu o (((12 : Int32) + p0)) (((Sr3.1 a4 i5) + (1 : Int32))) p1 p2 Sr3) fun r6 Sr6 => some (r6, Sr6))))
set_option maxRecDepth 100000 in
set_option maxHeartbeats 400000 in
theorem ct_X8_fill {l : Launch} {D : va_G} {ad : Nat → Nat} {cy : Nat → ClassId} {zz : (Nat → Nat) × (Nat → Nat)} (hinj : ∀ i j, i < 13 → j < 13 → ad i = ad j → i = j) {fu : Nat} (o : Nat) (p0 : Int32) (p1 : Int32) (p2 : Int32) (hk_o : o < 13 ∧ g_KM o = g_kX8) {S : g_St} (z : Int32 × g_St) (h : f_X8_fill fu o p0 p1 p2 S = some z) : g_Mi l g_KM 13 D ad cy zz yX8_fill wsX8_fill rm_X8_fill [.ref (ad o), .int (p0), .int (p1), .int (p2)] S z := by
  refine g_ofi hinj (cc := cX8_fill) (maxL := 4) (ret := (some .int)) (lv := [(0, .ref (ad o)), (1, .int (p0)), (2, .int (p1)), (3, .int (p2))]) (by decide) rfl (Nat.le_of_ble_eq_true rfl) rfl ?_
  intro x X hl hD ha hy hz
  subst hl hD ha hy hz
  unfold f_X8_fill at h
  refine g_aload_n X dX8_fill_0 0 rfl ?_
  refine g_iload_n X dX8_fill_1 1 rfl ?_
  refine g_callVi X g_cX8 hk_o [.int (p0)] rfl (cwV 1 X.2.2.2.2.1 gX8_fill_X8_isDoor rfl rfl rfl hd_X8_isDoor ⟨Nat.le_of_ble_eq_true rfl, Nat.le_of_ble_eq_true rfl⟩) (Nat.le_of_ble_eq_true rfl) dX8_fill_2 h (fun q hq => ct_X8_isDoor X.2.2.2.2.2.2.1 o p0 hk_o _ hq) (fun r1 Sr1 h => ?_)
  refine g_if_eq X 48 dX8_fill_5 (by decide) h (fun c_5 h => ?_) (fun c_5 h => ?_)
  · skip
    refine g_iconst X (v := (-1)) dX8_fill_48 (by decide) ?_
    exact g_iret X h dX8_fill_49
  · skip
    refine g_iload_n X dX8_fill_8 2 rfl ?_
    refine g_callSi X [.int (p1)] rfl (va_cwS 1 X.2.2.2.2.1 gX8_fill_X8_isLong rfl rfl rfl hd_X8_isLong ⟨Nat.le_of_ble_eq_true rfl, Nat.le_of_ble_eq_true rfl⟩) (Nat.le_of_ble_eq_true rfl) dX8_fill_9 h (fun q hq => ct_X8_isLong X.2.2.2.2.2.2.1 p1  _ hq) (fun r2 Sr2 h => ?_)
    refine g_if_eq X 48 dX8_fill_12 (by decide) h (fun c_12 h => ?_) (fun c_12 h => ?_)
    · skip
      refine g_iconst X (v := (-1)) dX8_fill_48 (by decide) ?_
      exact g_iret X h dX8_fill_49
    · skip
      refine g_iload_n X dX8_fill_15 3 rfl ?_
      refine g_i2l X dX8_fill_16 ?_
      refine g_lconst X (v := 0) dX8_fill_17 (by decide) ?_
      refine g_lconst X (v := 1) dX8_fill_18 (by decide) ?_
      refine g_callSi X [.long ((Int32.toInt64 p2)), .long ((0 : Int64)), .long ((1 : Int64))] rfl (va_cwS 3 X.2.2.2.2.1 gX8_fill_X8_in rfl rfl rfl hd_X8_in ⟨Nat.le_of_ble_eq_true rfl, Nat.le_of_ble_eq_true rfl⟩) (Nat.le_of_ble_eq_true rfl) dX8_fill_19 h (fun q hq => ct_X8_in X.2.2.2.2.2.2.1 ((Int32.toInt64 p2)) ((0 : Int64)) ((1 : Int64))  _ hq) (fun r3 Sr3 h => ?_)
      refine g_if_eq X 48 dX8_fill_22 (by decide) h (fun c_22 h => ?_) (fun c_22 h => ?_)
      · skip
        refine g_iconst X (v := (-1)) dX8_fill_48 (by decide) ?_
        exact g_iret X h dX8_fill_49
      · skip
        refine g_aload_n X dX8_fill_25 0 rfl ?_
        refine g_bipush X (v := (12)) dX8_fill_26 (by decide) ?_
        refine g_iload_n X dX8_fill_28 1 rfl ?_
        refine g_iadd X dX8_fill_29 ?_
        refine g_aload_n X dX8_fill_30 0 rfl ?_
        refine g_getr X g_cX8 w_X8_fill_inX8 0 (by decide) w_X8_fill_7 hk_o rfl dX8_fill_31 h (fun a4 hk_a4 h => ?_)
        refine g_iconst X (v := 4) dX8_fill_34 (by decide) ?_
        refine g_iload_n X dX8_fill_35 1 rfl ?_
        refine g_iadd X dX8_fill_36 ?_
        refine g_iald X hk_a4 dX8_fill_37 h (fun i5 _ h => ?_)
        refine g_iconst X (v := 1) dX8_fill_38 (by decide) ?_
        refine g_iadd X dX8_fill_39 ?_
        refine g_iload_n X dX8_fill_40 2 rfl ?_
        refine g_iload_n X dX8_fill_41 3 rfl ?_
        refine g_callVi X g_cX8 hk_o [.int (((12 : Int32) + p0)), .int (((Sr3.1 a4 i5) + (1 : Int32))), .int (p1), .int (p2)] rfl (cwV 4 X.2.2.2.2.1 gX8_fill_X8_mostAt rfl rfl rfl hd_X8_mostAt ⟨Nat.le_of_ble_eq_true rfl, Nat.le_of_ble_eq_true rfl⟩) (Nat.le_of_ble_eq_true rfl) dX8_fill_42 h (fun q hq => ct_X8_mostAt X.2.2.2.2.2.2.1 o (((12 : Int32) + p0)) (((Sr3.1 a4 i5) + (1 : Int32))) p1 p2 hk_o _ hq) (fun r6 Sr6 h => ?_)
        refine g_goto X 49 dX8_fill_45 (by decide) ?_
        exact g_iret X h dX8_fill_49
abbrev rm_X8_lowest : Room := { frames := 0, cells := 0, slots := 0, locals := 0 }
theorem hd_X8_lowest : yX8_lowest.cls ≠ "java/lang/invoke/MethodHandle" ∧ yX8_lowest.cls ≠ "java/lang/invoke/VarHandle" ∧ (parseMethodDescriptor yX8_lowest.desc).map (fun d => d.parameters.length) = some 3 := by decide +kernel
def b_X8_lowest_6 (fu : Nat) (v0 : Int64) (v2 : Int64) (v4 : Int32) (v5 : Int64) (v7 : Int64) (S : g_St) : Option ((Int64 × Int64 × g_St) ⊕ (Int64 × g_St)) :=
  if (lg_cmp v7 (0 : Int64)) = 0 then (some (.inr (v5, S))) else (g_nl v7 (some (.inl (v7, (v5 - v5 / v7 * v7), S))))
def j_X8_lowest_41 (fu : Nat) (v5 : Int64) (s0 : Int64) (S : g_St) : Option (Int64 × g_St) :=
  g_nl v5 (some ((s0 / v5), S))
def f_X8_lowest (fu : Nat) (p0 : Int64) (p1 : Int64) (p2 : Int32) (S : g_St) : Option (Int64 × g_St) :=
  g_th (g_lp (fun t => b_X8_lowest_6 fu p0 p1 p2 t.1 t.2.1 t.2.2) fu (p0, p1, S)) fun e => match e with | (w5_1, S1) => if p2 = 0 then (j_X8_lowest_41 fu w5_1 p0 S1) else (j_X8_lowest_41 fu w5_1 p1 S1)
set_option maxRecDepth 100000 in
set_option maxHeartbeats 400000 in
theorem vb_X8_lowest_6 {x : g_CX} {z : Int64 × g_St} {fu : Nat} (X : g_X 13 x cX8_lowest RX8 11 wsX8_lowest rm_X8_lowest (some .long)) (v0 : Int64) (v2 : Int64) (v4 : Int32) (v5 : Int64) (v7 : Int64)  (S : g_St) {r : (Int64 × Int64 × g_St) ⊕ (Int64 × g_St)} (h : b_X8_lowest_6 fu v0 v2 v4 v5 v7 S = some r) (hc : Sum.elim (fun t : Int64 × Int64 × g_St => g_V g_KM 13 x 11 (g_ql g_KM 13 x z) t.2.2 6 [(0, .long (v0)), (2, .long (v2)), (4, .int (v4)), (5, .long (t.1)), (7, .long (t.2.1))] []) (fun e : Int64 × g_St => g_V g_KM 13 x 11 (g_ql g_KM 13 x z) e.2 31 [(0, .long (v0)), (2, .long (v2)), (4, .int (v4)), (5, .long (e.1))] []) r) : g_V g_KM 13 x 11 (g_ql g_KM 13 x z) S 6 [(0, .long (v0)), (2, .long (v2)), (4, .int (v4)), (5, .long (v5)), (7, .long (v7))] [] := by
  unfold b_X8_lowest_6 at h
  refine g_lload X dX8_lowest_6 4 rfl ?_
  refine g_lconst X (v := 0) dX8_lowest_8 (by decide) ?_
  refine g_lcmp X dX8_lowest_9 ?_
  refine g_if_eq X 31 dX8_lowest_10 (by decide) h (fun c_10 h => ?_) (fun c_10 h => ?_)
  · skip
    cases h
    exact g_sub [0, 1, 2, 3] _ rfl hc
  · skip
    refine g_lload X dX8_lowest_13 3 rfl ?_
    refine g_lload X dX8_lowest_15 4 rfl ?_
    refine g_lrem X dX8_lowest_17 h (fun h => ?_)
    refine g_lstore X [(9, _), (0, _), (2, _), (4, _), (5, _), (7, _)] dX8_lowest_18 (by decide) rfl ?_
    refine g_lload X dX8_lowest_20 5 rfl ?_
    refine g_lstore X [(5, _), (9, _), (0, _), (2, _), (4, _), (7, _)] dX8_lowest_22 (by decide) rfl ?_
    refine g_lload X dX8_lowest_24 1 rfl ?_
    refine g_lstore X [(7, _), (5, _), (9, _), (0, _), (2, _), (4, _)] dX8_lowest_26 (by decide) rfl ?_
    refine g_goto X 6 dX8_lowest_28 (by decide) ?_
    cases h
    exact g_sub [3, 4, 5, 1, 0] _ rfl hc
set_option maxRecDepth 100000 in
set_option maxHeartbeats 400000 in
theorem vj_X8_lowest_41 {x : g_CX} {z : Int64 × g_St} {fu : Nat} (X : g_X 13 x cX8_lowest RX8 11 wsX8_lowest rm_X8_lowest (some .long)) (v5 : Int64) (s0 : Int64)  (S : g_St) (h : j_X8_lowest_41 fu v5 s0 S = some z) : g_V g_KM 13 x 11 (g_ql g_KM 13 x z) S 41 [(5, .long (v5))] [.long (s0)] := by
  unfold j_X8_lowest_41 at h
  refine g_lload X dX8_lowest_41 0 rfl ?_
  refine g_ldiv X dX8_lowest_43 h (fun h => ?_)
  exact g_lret X h dX8_lowest_44
set_option maxRecDepth 100000 in
set_option maxHeartbeats 400000 in
theorem ct_X8_lowest {l : Launch} {D : va_G} {ad : Nat → Nat} {cy : Nat → ClassId} {zz : (Nat → Nat) × (Nat → Nat)} (hinj : ∀ i j, i < 13 → j < 13 → ad i = ad j → i = j) {fu : Nat} (p0 : Int64) (p1 : Int64) (p2 : Int32)  {S : g_St} (z : Int64 × g_St) (h : f_X8_lowest fu p0 p1 p2 S = some z) : g_Ml l g_KM 13 D ad cy zz yX8_lowest wsX8_lowest rm_X8_lowest [.long (p0), .long (p1), .int (p2)] S z := by
  refine g_ofl hinj (cc := cX8_lowest) (maxL := 11) (ret := (some .long)) (lv := [(0, .long (p0)), (2, .long (p1)), (4, .int (p2))]) (by decide) rfl (Nat.le_of_ble_eq_true rfl) rfl ?_
  intro x X hl hD ha hy hz
  subst hl hD ha hy hz
  unfold f_X8_lowest at h
  refine g_lload_n X dX8_lowest_0 0 rfl ?_
  refine g_lstore X [(5, _), (0, _), (2, _), (4, _)] dX8_lowest_1 (by decide) rfl ?_
  refine g_lload_n X dX8_lowest_3 2 rfl ?_
  refine g_lstore X [(7, _), (5, _), (0, _), (2, _), (4, _)] dX8_lowest_4 (by decide) rfl ?_
  obtain ⟨e, he, h⟩ := g_th_s h
  refine g_sub [2, 3, 4, 1, 0] _ rfl ?_
  refine g_lp_w (body := (fun t => b_X8_lowest_6 fu p0 p1 p2 t.1 t.2.1 t.2.2)) (P := fun t : Int64 × Int64 × g_St => g_V g_KM 13 x 11 (g_ql g_KM 13 x z) t.2.2 6 [(0, .long (p0)), (2, .long (p1)), (4, .int (p2)), (5, .long (t.1)), (7, .long (t.2.1))] []) (E := (fun e : Int64 × g_St => g_V g_KM 13 x 11 (g_ql g_KM 13 x z) e.2 31 [(0, .long (p0)), (2, .long (p1)), (4, .int (p2)), (5, .long (e.1))] [])) (fun t r hb hc => vb_X8_lowest_6 X p0 p1 p2 t.1 t.2.1 t.2.2 hb hc) fu (p0, p1, S) e he ?_
  obtain ⟨w5_1, S1⟩ := e
  show g_V g_KM 13 x 11 (g_ql g_KM 13 x z) S1 31 [(0, .long (p0)), (2, .long (p1)), (4, .int (p2)), (5, .long (w5_1))] []
  refine g_iload X dX8_lowest_31 2 rfl ?_
  refine g_if_ne X 40 dX8_lowest_33 (by decide) h (fun c_33 h => ?_) (fun c_33 h => ?_)
  · skip
    refine g_lload_n X dX8_lowest_40 1 rfl ?_
    refine g_sub [3] _ rfl ?_
    exact vj_X8_lowest_41 X w5_1 p1  _ h
  · skip
    refine g_lload_n X dX8_lowest_36 0 rfl ?_
    refine g_goto X 41 dX8_lowest_37 (by decide) ?_
    refine g_sub [3] _ rfl ?_
    exact vj_X8_lowest_41 X w5_1 p0  _ h
abbrev rm_X8_byNobody : Room := { frames := 3, cells := 0, slots := 0, locals := 70 }
theorem hd_X8_byNobody : yX8_byNobody.cls = RX8 ∧ yX8_byNobody.cls ≠ "java/lang/invoke/MethodHandle" ∧ yX8_byNobody.cls ≠ "java/lang/invoke/VarHandle" ∧ (parseMethodDescriptor yX8_byNobody.desc).map (fun d => d.parameters.length) = some 4 := by decide +kernel
theorem w_X8_byNobody_199 : Cond.constantLong RX8 199 (10) ∈ wsX8_byNobody := by decide +kernel
theorem w_X8_byNobody_124 : Cond.fieldLink RX8 124 "TokenDoorsModel" "turned" "I" ∈ wsX8_byNobody := by decide +kernel
theorem w_X8_byNobody_inX8 : ∀ w ∈ wsX80, w ∈ wsX8_byNobody := by decide +kernel
theorem w_X8_byNobody_121 : Cond.fieldLink RX8 121 "TokenDoorsModel" "let" "I" ∈ wsX8_byNobody := by decide +kernel
def b_X8_byNobody_9 (fu : Nat) (v0 : Nat) (v1 : Int32) (v2 : Int32) (v3 : Int32) (v4 : Int32) (v5 : Int64) (v7 : Int64) (v9 : Int32) (S : g_St) : Option ((Int64 × Int32 × g_St) ⊕ (Int64 × g_St)) :=
  if v2 ≤ v9 then (some (.inr (v7, S))) else (some (.inl ((v7 * (10 : Int64)), (v9 + 1), S)))
def j_X8_byNobody_122_in58 (fu : Nat) (v0 : Nat) (v1 : Int32) (v2 : Int32) (v3 : Int32) (v4 : Int32) (v5 : Int64) (v7 : Int64) (v9 : Int32) (v10 : Int64) (v12 : Int32) (s0 : Nat) (s1 : Int32) (s2 : Int32) (S : g_St) : Option ((Int64 × Int32 × g_St) ⊕ (Int64 × g_St)) :=
  g_bd (f_X8_tickOn fu s0 s1 s2 S) fun r4 Sr4 => some (.inl (v10, (v12 + 1), Sr4))
def j_X8_byNobody_99_in58 (fu : Nat) (v0 : Nat) (v1 : Int32) (v2 : Int32) (v3 : Int32) (v4 : Int32) (v5 : Int64) (v7 : Int64) (v9 : Int32) (v12 : Int32) (v13 : Int32) (s0 : Int64) (s1 : Int64) (S : g_St) : Option ((Int64 × Int32 × g_St) ⊕ (Int64 × g_St)) :=
  if v13 = 0 then (g_bd (f_X8_comeOn fu v0 ((180 : Int32)) S) fun r3 Sr3 => j_X8_byNobody_122_in58 fu v0 v1 v2 v3 v4 v5 v7 v9 ((s0 * s1)) v12 v0 ((180 : Int32)) r3 Sr3) else (j_X8_byNobody_122_in58 fu v0 v1 v2 v3 v4 v5 v7 v9 ((s0 * s1)) v12 v0 ((180 : Int32)) ((0 : Int32)) S)
def j_X8_byNobody_80_in58 (fu : Nat) (v0 : Nat) (v1 : Int32) (v2 : Int32) (v3 : Int32) (v4 : Int32) (v5 : Int64) (v7 : Int64) (v9 : Int32) (v10 : Int64) (v12 : Int32) (s0 : Int32) (S : g_St) : Option ((Int64 × Int32 × g_St) ⊕ (Int64 × g_St)) :=
  if s0 = 0 then (j_X8_byNobody_99_in58 fu v0 v1 v2 v3 v4 v5 v7 v9 v12 s0 v10 ((Int32.toInt64 ((10 : Int32) - v1))) S) else (j_X8_byNobody_99_in58 fu v0 v1 v2 v3 v4 v5 v7 v9 v12 s0 v10 ((Int32.toInt64 v1)) S)
def b_X8_byNobody_58 (fu : Nat) (v0 : Nat) (v1 : Int32) (v2 : Int32) (v3 : Int32) (v4 : Int32) (v5 : Int64) (v7 : Int64) (v9 : Int32) (v10 : Int64) (v12 : Int32) (S : g_St) : Option ((Int64 × Int32 × g_St) ⊕ (Int64 × g_St)) :=
  if v2 ≤ v12 then (some (.inr (v10, S))) else (if ((v9 >>> (v12 &&& 31)) &&& (1 : Int32)) = (1 : Int32) then (j_X8_byNobody_80_in58 fu v0 v1 v2 v3 v4 v5 v7 v9 v10 v12 ((1 : Int32)) S) else (j_X8_byNobody_80_in58 fu v0 v1 v2 v3 v4 v5 v7 v9 v10 v12 ((0 : Int32)) S))
def j_X8_byNobody_159_in32 (fu : Nat) (v0 : Nat) (v1 : Int32) (v2 : Int32) (v3 : Int32) (v4 : Int32) (v7 : Int64) (v9 : Int32) (s0 : Int64) (s1 : Int64) (s2 : Int32) (S : g_St) : Option ((Int64 × Int32 × g_St) ⊕ (Int64 × g_St)) :=
  some (.inl ((s0 + (s1 * (Int32.toInt64 s2))), (v9 + 1), S))
def b_X8_byNobody_32 (fu : Nat) (v0 : Nat) (v1 : Int32) (v2 : Int32) (v3 : Int32) (v4 : Int32) (v7 : Int64) (v5 : Int64) (v9 : Int32) (S : g_St) : Option ((Int64 × Int32 × g_St) ⊕ (Int64 × g_St)) :=
  if ((1 : Int32) <<< (v2 &&& 31)) ≤ v9 then (some (.inr (v5, S))) else (g_bd (f_X8_copies fu v0 ((0 : Int32)) ((180 : Int32)) S) fun _ Sr1 => g_bd (f_X8_starts fu v0 Sr1) fun _ Sr2 => g_th (g_lp (fun t => b_X8_byNobody_58 fu v0 v1 v2 v3 v4 v5 v7 v9 t.1 t.2.1 t.2.2) fu ((1 : Int64), (0 : Int32), Sr2)) fun e => match e with | (w10_2, S2) => if v3 = 0 then (if (S2.1 v0 15) = 0 then (j_X8_byNobody_159_in32 fu v0 v1 v2 v3 v4 v7 v9 v5 w10_2 ((1 : Int32)) S2) else (j_X8_byNobody_159_in32 fu v0 v1 v2 v3 v4 v7 v9 v5 w10_2 ((0 : Int32)) S2)) else (j_X8_byNobody_159_in32 fu v0 v1 v2 v3 v4 v7 v9 v5 w10_2 ((S2.1 v0 14)) S2))
def f_X8_byNobody (fu : Nat) (o : Nat) (p0 : Int32) (p1 : Int32) (p2 : Int32) (p3 : Int32) (S : g_St) : Option (Int64 × g_St) :=
  g_th (g_lp (fun t => b_X8_byNobody_9 fu o p0 p1 p2 p3 ((0 : Int64)) t.1 t.2.1 t.2.2) fu ((1 : Int64), (0 : Int32), S)) fun e => match e with | (w7_1, S1) => g_th (g_lp (fun t => b_X8_byNobody_32 fu o p0 p1 p2 p3 w7_1 t.1 t.2.1 t.2.2) fu ((0 : Int64), (0 : Int32), S1)) fun e => match e with | (w5_3, S3) => g_bd (f_X8_lowest fu w5_3 w7_1 p3 S3) fun r5 Sr5 => some (r5, Sr5)
set_option maxRecDepth 100000 in
set_option maxHeartbeats 400000 in
theorem vb_X8_byNobody_9 {x : g_CX} {z : Int64 × g_St} {fu : Nat} (X : g_X 13 x cX8_byNobody RX8 14 wsX8_byNobody rm_X8_byNobody (some .long)) (v0 : Nat) (v1 : Int32) (v2 : Int32) (v3 : Int32) (v4 : Int32) (v5 : Int64) (v7 : Int64) (v9 : Int32) (hk_v0 : v0 < 13 ∧ g_KM v0 = g_kX8) (S : g_St) {r : (Int64 × Int32 × g_St) ⊕ (Int64 × g_St)} (h : b_X8_byNobody_9 fu v0 v1 v2 v3 v4 v5 v7 v9 S = some r) (hc : Sum.elim (fun t : Int64 × Int32 × g_St => g_V g_KM 13 x 14 (g_ql g_KM 13 x z) t.2.2 9 [(0, .ref (g_ad x v0)), (1, .int (v1)), (2, .int (v2)), (3, .int (v3)), (4, .int (v4)), (5, .long (v5)), (7, .long (t.1)), (9, .int (t.2.1))] []) (fun e : Int64 × g_St => g_V g_KM 13 x 14 (g_ql g_KM 13 x z) e.2 29 [(0, .ref (g_ad x v0)), (1, .int (v1)), (2, .int (v2)), (3, .int (v3)), (4, .int (v4)), (5, .long (v5)), (7, .long (e.1))] []) r) : g_V g_KM 13 x 14 (g_ql g_KM 13 x z) S 9 [(0, .ref (g_ad x v0)), (1, .int (v1)), (2, .int (v2)), (3, .int (v3)), (4, .int (v4)), (5, .long (v5)), (7, .long (v7)), (9, .int (v9))] [] := by
  unfold b_X8_byNobody_9 at h
  refine g_iload X dX8_byNobody_9 7 rfl ?_
  refine g_iload_n X dX8_byNobody_11 2 rfl ?_
  refine g_icmp_ge X 29 dX8_byNobody_12 (by decide) h (fun c_12 h => ?_) (fun c_12 h => ?_)
  · skip
    cases h
    exact g_sub [0, 1, 2, 3, 4, 5, 6] _ rfl hc
  · skip
    refine g_lload X dX8_byNobody_15 6 rfl ?_
    refine g_ldc2 X w_X8_byNobody_199 dX8_byNobody_17 ?_
    refine g_lmul X dX8_byNobody_20 ?_
    refine g_lstore X [(7, _), (0, _), (1, _), (2, _), (3, _), (4, _), (5, _), (9, _)] dX8_byNobody_21 (by decide) rfl ?_
    refine g_iinc X [(9, _), (7, _), (0, _), (1, _), (2, _), (3, _), (4, _), (5, _)] dX8_byNobody_23 7 rfl rfl (by decide) rfl ?_
    refine g_goto X 9 dX8_byNobody_26 (by decide) ?_
    cases h
    exact g_sub [2, 3, 4, 5, 6, 7, 1, 0] _ rfl hc
set_option maxRecDepth 100000 in
set_option maxHeartbeats 400000 in
theorem vj_X8_byNobody_122_in58 {x : g_CX} {z : Int64 × g_St} {fu : Nat} (X : g_X 13 x cX8_byNobody RX8 14 wsX8_byNobody rm_X8_byNobody (some .long)) (v0 : Nat) (v1 : Int32) (v2 : Int32) (v3 : Int32) (v4 : Int32) (v5 : Int64) (v7 : Int64) (v9 : Int32) (v10 : Int64) (v12 : Int32) (s0 : Nat) (s1 : Int32) (s2 : Int32) (hk_v0 : v0 < 13 ∧ g_KM v0 = g_kX8) (hk_s0 : s0 < 13 ∧ g_KM s0 = g_kX8) (S : g_St) {r : (Int64 × Int32 × g_St) ⊕ (Int64 × g_St)} (h : j_X8_byNobody_122_in58 fu v0 v1 v2 v3 v4 v5 v7 v9 v10 v12 s0 s1 s2 S = some r) (hc : Sum.elim (fun t : Int64 × Int32 × g_St => g_V g_KM 13 x 14 (g_ql g_KM 13 x z) t.2.2 58 [(0, .ref (g_ad x v0)), (1, .int (v1)), (2, .int (v2)), (3, .int (v3)), (4, .int (v4)), (5, .long (v5)), (7, .long (v7)), (9, .int (v9)), (10, .long (t.1)), (12, .int (t.2.1))] []) (fun e : Int64 × g_St => g_V g_KM 13 x 14 (g_ql g_KM 13 x z) e.2 132 [(0, .ref (g_ad x v0)), (1, .int (v1)), (2, .int (v2)), (3, .int (v3)), (4, .int (v4)), (5, .long (v5)), (7, .long (v7)), (9, .int (v9)), (10, .long (e.1))] []) r) : g_V g_KM 13 x 14 (g_ql g_KM 13 x z) S 122 [(0, .ref (g_ad x v0)), (1, .int (v1)), (2, .int (v2)), (3, .int (v3)), (4, .int (v4)), (5, .long (v5)), (7, .long (v7)), (9, .int (v9)), (10, .long (v10)), (12, .int (v12))] [.int (s2), .int (s1), .ref (g_ad x s0)] := by
  unfold j_X8_byNobody_122_in58 at h
  refine g_callVi X g_cX8 hk_s0 [.int (s1), .int (s2)] rfl (cwV 2 X.2.2.2.2.1 gX8_byNobody_X8_tickOn rfl rfl rfl hd_X8_tickOn ⟨Nat.le_of_ble_eq_true rfl, Nat.le_of_ble_eq_true rfl⟩) (Nat.le_of_ble_eq_true rfl) dX8_byNobody_122 h (fun q hq => ct_X8_tickOn X.2.2.2.2.2.2.1 s0 s1 s2 hk_s0 _ hq) (fun r4 Sr4 h => ?_)
  refine g_pop X dX8_byNobody_125 rfl ?_
  refine g_iinc X [(12, _), (0, _), (1, _), (2, _), (3, _), (4, _), (5, _), (7, _), (9, _), (10, _)] dX8_byNobody_126 9 rfl rfl (by decide) rfl ?_
  refine g_goto X 58 dX8_byNobody_129 (by decide) ?_
  cases h
  exact g_sub [1, 2, 3, 4, 5, 6, 7, 8, 9, 0] _ rfl hc
set_option maxRecDepth 100000 in
set_option maxHeartbeats 400000 in
theorem vj_X8_byNobody_99_in58 {x : g_CX} {z : Int64 × g_St} {fu : Nat} (X : g_X 13 x cX8_byNobody RX8 14 wsX8_byNobody rm_X8_byNobody (some .long)) (v0 : Nat) (v1 : Int32) (v2 : Int32) (v3 : Int32) (v4 : Int32) (v5 : Int64) (v7 : Int64) (v9 : Int32) (v12 : Int32) (v13 : Int32) (s0 : Int64) (s1 : Int64) (hk_v0 : v0 < 13 ∧ g_KM v0 = g_kX8) (S : g_St) {r : (Int64 × Int32 × g_St) ⊕ (Int64 × g_St)} (h : j_X8_byNobody_99_in58 fu v0 v1 v2 v3 v4 v5 v7 v9 v12 v13 s0 s1 S = some r) (hc : Sum.elim (fun t : Int64 × Int32 × g_St => g_V g_KM 13 x 14 (g_ql g_KM 13 x z) t.2.2 58 [(0, .ref (g_ad x v0)), (1, .int (v1)), (2, .int (v2)), (3, .int (v3)), (4, .int (v4)), (5, .long (v5)), (7, .long (v7)), (9, .int (v9)), (10, .long (t.1)), (12, .int (t.2.1))] []) (fun e : Int64 × g_St => g_V g_KM 13 x 14 (g_ql g_KM 13 x z) e.2 132 [(0, .ref (g_ad x v0)), (1, .int (v1)), (2, .int (v2)), (3, .int (v3)), (4, .int (v4)), (5, .long (v5)), (7, .long (v7)), (9, .int (v9)), (10, .long (e.1))] []) r) : g_V g_KM 13 x 14 (g_ql g_KM 13 x z) S 99 [(0, .ref (g_ad x v0)), (1, .int (v1)), (2, .int (v2)), (3, .int (v3)), (4, .int (v4)), (5, .long (v5)), (7, .long (v7)), (9, .int (v9)), (12, .int (v12)), (13, .int (v13))] [.long (s1), .long (s0)] := by
  unfold j_X8_byNobody_99_in58 at h
  refine g_lmul X dX8_byNobody_99 ?_
  refine g_lstore X [(10, _), (0, _), (1, _), (2, _), (3, _), (4, _), (5, _), (7, _), (9, _), (12, _), (13, _)] dX8_byNobody_100 (by decide) rfl ?_
  refine g_aload_n X dX8_byNobody_102 1 rfl ?_
  refine g_sipush X (v := (180)) dX8_byNobody_103 (by decide) ?_
  refine g_iload X dX8_byNobody_106 10 rfl ?_
  refine g_if_eq X 115 dX8_byNobody_108 (by decide) h (fun c_108 h => ?_) (fun c_108 h => ?_)
  · skip
    refine g_aload_n X dX8_byNobody_115 1 rfl ?_
    refine g_sipush X (v := (180)) dX8_byNobody_116 (by decide) ?_
    refine g_callVi X g_cX8 hk_v0 [.int ((180 : Int32))] rfl (cwV 1 X.2.2.2.2.1 gX8_byNobody_X8_comeOn rfl rfl rfl hd_X8_comeOn ⟨Nat.le_of_ble_eq_true rfl, Nat.le_of_ble_eq_true rfl⟩) (Nat.le_of_ble_eq_true rfl) dX8_byNobody_119 h (fun q hq => ct_X8_comeOn X.2.2.2.2.2.2.1 v0 ((180 : Int32)) hk_v0 _ hq) (fun r3 Sr3 h => ?_)
    refine g_sub [1, 2, 3, 4, 5, 6, 7, 8, 0, 9] _ rfl ?_
    exact vj_X8_byNobody_122_in58 X v0 v1 v2 v3 v4 v5 v7 v9 ((s0 * s1)) v12 v0 ((180 : Int32)) r3 hk_v0 hk_v0 _ h hc
  · skip
    refine g_iconst X (v := 0) dX8_byNobody_111 (by decide) ?_
    refine g_goto X 122 dX8_byNobody_112 (by decide) ?_
    refine g_sub [1, 2, 3, 4, 5, 6, 7, 8, 0, 9] _ rfl ?_
    exact vj_X8_byNobody_122_in58 X v0 v1 v2 v3 v4 v5 v7 v9 ((s0 * s1)) v12 v0 ((180 : Int32)) ((0 : Int32)) hk_v0 hk_v0 _ h hc
set_option maxRecDepth 100000 in
set_option maxHeartbeats 400000 in
theorem vj_X8_byNobody_80_in58 {x : g_CX} {z : Int64 × g_St} {fu : Nat} (X : g_X 13 x cX8_byNobody RX8 14 wsX8_byNobody rm_X8_byNobody (some .long)) (v0 : Nat) (v1 : Int32) (v2 : Int32) (v3 : Int32) (v4 : Int32) (v5 : Int64) (v7 : Int64) (v9 : Int32) (v10 : Int64) (v12 : Int32) (s0 : Int32) (hk_v0 : v0 < 13 ∧ g_KM v0 = g_kX8) (S : g_St) {r : (Int64 × Int32 × g_St) ⊕ (Int64 × g_St)} (h : j_X8_byNobody_80_in58 fu v0 v1 v2 v3 v4 v5 v7 v9 v10 v12 s0 S = some r) (hc : Sum.elim (fun t : Int64 × Int32 × g_St => g_V g_KM 13 x 14 (g_ql g_KM 13 x z) t.2.2 58 [(0, .ref (g_ad x v0)), (1, .int (v1)), (2, .int (v2)), (3, .int (v3)), (4, .int (v4)), (5, .long (v5)), (7, .long (v7)), (9, .int (v9)), (10, .long (t.1)), (12, .int (t.2.1))] []) (fun e : Int64 × g_St => g_V g_KM 13 x 14 (g_ql g_KM 13 x z) e.2 132 [(0, .ref (g_ad x v0)), (1, .int (v1)), (2, .int (v2)), (3, .int (v3)), (4, .int (v4)), (5, .long (v5)), (7, .long (v7)), (9, .int (v9)), (10, .long (e.1))] []) r) : g_V g_KM 13 x 14 (g_ql g_KM 13 x z) S 80 [(0, .ref (g_ad x v0)), (1, .int (v1)), (2, .int (v2)), (3, .int (v3)), (4, .int (v4)), (5, .long (v5)), (7, .long (v7)), (9, .int (v9)), (10, .long (v10)), (12, .int (v12))] [.int (s0)] := by
  unfold j_X8_byNobody_80_in58 at h
  refine g_istore X [(13, _), (0, _), (1, _), (2, _), (3, _), (4, _), (5, _), (7, _), (9, _), (10, _), (12, _)] dX8_byNobody_80 (by decide) rfl ?_
  refine g_lload X dX8_byNobody_82 9 rfl ?_
  refine g_iload X dX8_byNobody_84 0 rfl ?_
  refine g_if_eq X 94 dX8_byNobody_86 (by decide) h (fun c_86 h => ?_) (fun c_86 h => ?_)
  · skip
    refine g_bipush X (v := (10)) dX8_byNobody_94 (by decide) ?_
    refine g_iload_n X dX8_byNobody_96 2 rfl ?_
    refine g_isub X dX8_byNobody_97 ?_
    refine g_i2l X dX8_byNobody_98 ?_
    refine g_sub [1, 2, 3, 4, 5, 6, 7, 8, 10, 0] _ rfl ?_
    exact vj_X8_byNobody_99_in58 X v0 v1 v2 v3 v4 v5 v7 v9 v12 s0 v10 ((Int32.toInt64 ((10 : Int32) - v1))) hk_v0 _ h hc
  · skip
    refine g_iload_n X dX8_byNobody_89 2 rfl ?_
    refine g_i2l X dX8_byNobody_90 ?_
    refine g_goto X 99 dX8_byNobody_91 (by decide) ?_
    refine g_sub [1, 2, 3, 4, 5, 6, 7, 8, 10, 0] _ rfl ?_
    exact vj_X8_byNobody_99_in58 X v0 v1 v2 v3 v4 v5 v7 v9 v12 s0 v10 ((Int32.toInt64 v1)) hk_v0 _ h hc
set_option maxRecDepth 100000 in
set_option maxHeartbeats 400000 in
theorem vb_X8_byNobody_58 {x : g_CX} {z : Int64 × g_St} {fu : Nat} (X : g_X 13 x cX8_byNobody RX8 14 wsX8_byNobody rm_X8_byNobody (some .long)) (v0 : Nat) (v1 : Int32) (v2 : Int32) (v3 : Int32) (v4 : Int32) (v5 : Int64) (v7 : Int64) (v9 : Int32) (v10 : Int64) (v12 : Int32) (hk_v0 : v0 < 13 ∧ g_KM v0 = g_kX8) (S : g_St) {r : (Int64 × Int32 × g_St) ⊕ (Int64 × g_St)} (h : b_X8_byNobody_58 fu v0 v1 v2 v3 v4 v5 v7 v9 v10 v12 S = some r) (hc : Sum.elim (fun t : Int64 × Int32 × g_St => g_V g_KM 13 x 14 (g_ql g_KM 13 x z) t.2.2 58 [(0, .ref (g_ad x v0)), (1, .int (v1)), (2, .int (v2)), (3, .int (v3)), (4, .int (v4)), (5, .long (v5)), (7, .long (v7)), (9, .int (v9)), (10, .long (t.1)), (12, .int (t.2.1))] []) (fun e : Int64 × g_St => g_V g_KM 13 x 14 (g_ql g_KM 13 x z) e.2 132 [(0, .ref (g_ad x v0)), (1, .int (v1)), (2, .int (v2)), (3, .int (v3)), (4, .int (v4)), (5, .long (v5)), (7, .long (v7)), (9, .int (v9)), (10, .long (e.1))] []) r) : g_V g_KM 13 x 14 (g_ql g_KM 13 x z) S 58 [(0, .ref (g_ad x v0)), (1, .int (v1)), (2, .int (v2)), (3, .int (v3)), (4, .int (v4)), (5, .long (v5)), (7, .long (v7)), (9, .int (v9)), (10, .long (v10)), (12, .int (v12))] [] := by
  unfold b_X8_byNobody_58 at h
  refine g_iload X dX8_byNobody_58 9 rfl ?_
  refine g_iload_n X dX8_byNobody_60 2 rfl ?_
  refine g_icmp_ge X 132 dX8_byNobody_61 (by decide) h (fun c_61 h => ?_) (fun c_61 h => ?_)
  · skip
    cases h
    exact g_sub [0, 1, 2, 3, 4, 5, 6, 7, 8] _ rfl hc
  · skip
    refine g_iload X dX8_byNobody_64 7 rfl ?_
    refine g_iload X dX8_byNobody_66 9 rfl ?_
    refine g_ishr X dX8_byNobody_68 ?_
    refine g_iconst X (v := 1) dX8_byNobody_69 (by decide) ?_
    refine g_iand X dX8_byNobody_70 ?_
    refine g_iconst X (v := 1) dX8_byNobody_71 (by decide) ?_
    refine g_icmp_ne X 79 dX8_byNobody_72 (by decide) h (fun c_72 h => ?_) (fun c_72 h => ?_)
    · skip
      refine g_iconst X (v := 0) dX8_byNobody_79 (by decide) ?_
      refine g_sub [0, 1, 2, 3, 4, 5, 6, 7, 8, 9] _ rfl ?_
      exact vj_X8_byNobody_80_in58 X v0 v1 v2 v3 v4 v5 v7 v9 v10 v12 ((0 : Int32)) hk_v0 _ h hc
    · skip
      refine g_iconst X (v := 1) dX8_byNobody_75 (by decide) ?_
      refine g_goto X 80 dX8_byNobody_76 (by decide) ?_
      refine g_sub [0, 1, 2, 3, 4, 5, 6, 7, 8, 9] _ rfl ?_
      exact vj_X8_byNobody_80_in58 X v0 v1 v2 v3 v4 v5 v7 v9 v10 v12 ((1 : Int32)) hk_v0 _ h hc
set_option maxRecDepth 100000 in
set_option maxHeartbeats 400000 in
theorem vj_X8_byNobody_159_in32 {x : g_CX} {z : Int64 × g_St} {fu : Nat} (X : g_X 13 x cX8_byNobody RX8 14 wsX8_byNobody rm_X8_byNobody (some .long)) (v0 : Nat) (v1 : Int32) (v2 : Int32) (v3 : Int32) (v4 : Int32) (v7 : Int64) (v9 : Int32) (s0 : Int64) (s1 : Int64) (s2 : Int32) (hk_v0 : v0 < 13 ∧ g_KM v0 = g_kX8) (S : g_St) {r : (Int64 × Int32 × g_St) ⊕ (Int64 × g_St)} (h : j_X8_byNobody_159_in32 fu v0 v1 v2 v3 v4 v7 v9 s0 s1 s2 S = some r) (hc : Sum.elim (fun t : Int64 × Int32 × g_St => g_V g_KM 13 x 14 (g_ql g_KM 13 x z) t.2.2 32 [(0, .ref (g_ad x v0)), (1, .int (v1)), (2, .int (v2)), (3, .int (v3)), (4, .int (v4)), (5, .long (t.1)), (7, .long (v7)), (9, .int (t.2.1))] []) (fun e : Int64 × g_St => g_V g_KM 13 x 14 (g_ql g_KM 13 x z) e.2 170 [(4, .int (v4)), (5, .long (e.1)), (7, .long (v7))] []) r) : g_V g_KM 13 x 14 (g_ql g_KM 13 x z) S 159 [(0, .ref (g_ad x v0)), (1, .int (v1)), (2, .int (v2)), (3, .int (v3)), (4, .int (v4)), (7, .long (v7)), (9, .int (v9))] [.int (s2), .long (s1), .long (s0)] := by
  unfold j_X8_byNobody_159_in32 at h
  refine g_i2l X dX8_byNobody_159 ?_
  refine g_lmul X dX8_byNobody_160 ?_
  refine g_ladd X dX8_byNobody_161 ?_
  refine g_lstore X [(5, _), (0, _), (1, _), (2, _), (3, _), (4, _), (7, _), (9, _)] dX8_byNobody_162 (by decide) rfl ?_
  refine g_iinc X [(9, _), (5, _), (0, _), (1, _), (2, _), (3, _), (4, _), (7, _)] dX8_byNobody_164 7 rfl rfl (by decide) rfl ?_
  refine g_goto X 32 dX8_byNobody_167 (by decide) ?_
  cases h
  exact g_sub [2, 3, 4, 5, 6, 1, 7, 0] _ rfl hc
set_option maxRecDepth 100000 in
set_option maxHeartbeats 400000 in
theorem vb_X8_byNobody_32 {x : g_CX} {z : Int64 × g_St} {fu : Nat} (X : g_X 13 x cX8_byNobody RX8 14 wsX8_byNobody rm_X8_byNobody (some .long)) (v0 : Nat) (v1 : Int32) (v2 : Int32) (v3 : Int32) (v4 : Int32) (v7 : Int64) (v5 : Int64) (v9 : Int32) (hk_v0 : v0 < 13 ∧ g_KM v0 = g_kX8) (S : g_St) {r : (Int64 × Int32 × g_St) ⊕ (Int64 × g_St)} (h : b_X8_byNobody_32 fu v0 v1 v2 v3 v4 v7 v5 v9 S = some r) (hc : Sum.elim (fun t : Int64 × Int32 × g_St => g_V g_KM 13 x 14 (g_ql g_KM 13 x z) t.2.2 32 [(0, .ref (g_ad x v0)), (1, .int (v1)), (2, .int (v2)), (3, .int (v3)), (4, .int (v4)), (5, .long (t.1)), (7, .long (v7)), (9, .int (t.2.1))] []) (fun e : Int64 × g_St => g_V g_KM 13 x 14 (g_ql g_KM 13 x z) e.2 170 [(4, .int (v4)), (5, .long (e.1)), (7, .long (v7))] []) r) : g_V g_KM 13 x 14 (g_ql g_KM 13 x z) S 32 [(0, .ref (g_ad x v0)), (1, .int (v1)), (2, .int (v2)), (3, .int (v3)), (4, .int (v4)), (5, .long (v5)), (7, .long (v7)), (9, .int (v9))] [] := by
  unfold b_X8_byNobody_32 at h
  refine g_iload X dX8_byNobody_32 7 rfl ?_
  refine g_iconst X (v := 1) dX8_byNobody_34 (by decide) ?_
  refine g_iload_n X dX8_byNobody_35 2 rfl ?_
  refine g_ishl X dX8_byNobody_36 ?_
  refine g_icmp_ge X 170 dX8_byNobody_37 (by decide) h (fun c_37 h => ?_) (fun c_37 h => ?_)
  · skip
    cases h
    exact g_sub [4, 5, 6] _ rfl hc
  · skip
    refine g_lconst X (v := 1) dX8_byNobody_40 (by decide) ?_
    refine g_lstore X [(10, _), (0, _), (1, _), (2, _), (3, _), (4, _), (5, _), (7, _), (9, _)] dX8_byNobody_41 (by decide) rfl ?_
    refine g_aload_n X dX8_byNobody_43 1 rfl ?_
    refine g_iconst X (v := 0) dX8_byNobody_44 (by decide) ?_
    refine g_sipush X (v := (180)) dX8_byNobody_45 (by decide) ?_
    refine g_callVv X g_cX8 hk_v0 [.int ((0 : Int32)), .int ((180 : Int32))] rfl (cwV 2 X.2.2.2.2.1 gX8_byNobody_X8_copies rfl rfl rfl hd_X8_copies ⟨Nat.le_of_ble_eq_true rfl, Nat.le_of_ble_eq_true rfl⟩) (Nat.le_of_ble_eq_true rfl) dX8_byNobody_48 h (fun q hq => ct_X8_copies X.2.2.2.2.2.2.1 v0 ((0 : Int32)) ((180 : Int32)) hk_v0 _ hq) (fun _ Sr1 h => ?_)
    refine g_aload_n X dX8_byNobody_51 1 rfl ?_
    refine g_callVv X g_cX8 hk_v0 [] rfl (cwV 0 X.2.2.2.2.1 gX8_byNobody_X8_starts rfl rfl rfl hd_X8_starts ⟨Nat.le_of_ble_eq_true rfl, Nat.le_of_ble_eq_true rfl⟩) (Nat.le_of_ble_eq_true rfl) dX8_byNobody_52 h (fun q hq => ct_X8_starts X.2.2.2.2.2.2.1 v0 hk_v0 _ hq) (fun _ Sr2 h => ?_)
    refine g_iconst X (v := 0) dX8_byNobody_55 (by decide) ?_
    refine g_istore X [(12, _), (10, _), (0, _), (1, _), (2, _), (3, _), (4, _), (5, _), (7, _), (9, _)] dX8_byNobody_56 (by decide) rfl ?_
    obtain ⟨e, he, h⟩ := g_th_s h
    refine g_sub [2, 3, 4, 5, 6, 7, 8, 9, 1, 0] _ rfl ?_
    refine g_lp_w (body := (fun t => b_X8_byNobody_58 fu v0 v1 v2 v3 v4 v5 v7 v9 t.1 t.2.1 t.2.2)) (P := fun t : Int64 × Int32 × g_St => g_V g_KM 13 x 14 (g_ql g_KM 13 x z) t.2.2 58 [(0, .ref (g_ad x v0)), (1, .int (v1)), (2, .int (v2)), (3, .int (v3)), (4, .int (v4)), (5, .long (v5)), (7, .long (v7)), (9, .int (v9)), (10, .long (t.1)), (12, .int (t.2.1))] []) (E := (fun e : Int64 × g_St => g_V g_KM 13 x 14 (g_ql g_KM 13 x z) e.2 132 [(0, .ref (g_ad x v0)), (1, .int (v1)), (2, .int (v2)), (3, .int (v3)), (4, .int (v4)), (5, .long (v5)), (7, .long (v7)), (9, .int (v9)), (10, .long (e.1))] [])) (fun t r hb hc => vb_X8_byNobody_58 X v0 v1 v2 v3 v4 v5 v7 v9 t.1 t.2.1 hk_v0 t.2.2 hb hc) fu ((1 : Int64), (0 : Int32), Sr2) e he ?_
    obtain ⟨w10_2, S2⟩ := e
    show g_V g_KM 13 x 14 (g_ql g_KM 13 x z) S2 132 [(0, .ref (g_ad x v0)), (1, .int (v1)), (2, .int (v2)), (3, .int (v3)), (4, .int (v4)), (5, .long (v5)), (7, .long (v7)), (9, .int (v9)), (10, .long (w10_2))] []
    refine g_lload X dX8_byNobody_132 5 rfl ?_
    refine g_lload X dX8_byNobody_134 8 rfl ?_
    refine g_iload_n X dX8_byNobody_136 3 rfl ?_
    refine g_if_eq X 147 dX8_byNobody_137 (by decide) h (fun c_137 h => ?_) (fun c_137 h => ?_)
    · skip
      refine g_aload_n X dX8_byNobody_147 0 rfl ?_
      refine g_geti X g_cX8 w_X8_byNobody_inX8 15 (by decide) w_X8_byNobody_124 hk_v0 rfl dX8_byNobody_148 ?_
      refine g_if_ne X 158 dX8_byNobody_151 (by decide) h (fun c_151 h => ?_) (fun c_151 h => ?_)
      · skip
        refine g_iconst X (v := 0) dX8_byNobody_158 (by decide) ?_
        refine g_sub [0, 1, 2, 3, 4, 6, 7] _ rfl ?_
        exact vj_X8_byNobody_159_in32 X v0 v1 v2 v3 v4 v7 v9 v5 w10_2 ((0 : Int32)) hk_v0 _ h hc
      · skip
        refine g_iconst X (v := 1) dX8_byNobody_154 (by decide) ?_
        refine g_goto X 159 dX8_byNobody_155 (by decide) ?_
        refine g_sub [0, 1, 2, 3, 4, 6, 7] _ rfl ?_
        exact vj_X8_byNobody_159_in32 X v0 v1 v2 v3 v4 v7 v9 v5 w10_2 ((1 : Int32)) hk_v0 _ h hc
    · skip
      refine g_aload_n X dX8_byNobody_140 0 rfl ?_
      refine g_geti X g_cX8 w_X8_byNobody_inX8 14 (by decide) w_X8_byNobody_121 hk_v0 rfl dX8_byNobody_141 ?_
      refine g_goto X 159 dX8_byNobody_144 (by decide) ?_
      refine g_sub [0, 1, 2, 3, 4, 6, 7] _ rfl ?_
      exact vj_X8_byNobody_159_in32 X v0 v1 v2 v3 v4 v7 v9 v5 w10_2 ((S2.1 v0 14)) hk_v0 _ h hc
set_option maxRecDepth 100000 in
set_option maxHeartbeats 400000 in
theorem ct_X8_byNobody {l : Launch} {D : va_G} {ad : Nat → Nat} {cy : Nat → ClassId} {zz : (Nat → Nat) × (Nat → Nat)} (hinj : ∀ i j, i < 13 → j < 13 → ad i = ad j → i = j) {fu : Nat} (o : Nat) (p0 : Int32) (p1 : Int32) (p2 : Int32) (p3 : Int32) (hk_o : o < 13 ∧ g_KM o = g_kX8) {S : g_St} (z : Int64 × g_St) (h : f_X8_byNobody fu o p0 p1 p2 p3 S = some z) : g_Ml l g_KM 13 D ad cy zz yX8_byNobody wsX8_byNobody rm_X8_byNobody [.ref (ad o), .int (p0), .int (p1), .int (p2), .int (p3)] S z := by
  refine g_ofl hinj (cc := cX8_byNobody) (maxL := 14) (ret := (some .long)) (lv := [(0, .ref (ad o)), (1, .int (p0)), (2, .int (p1)), (3, .int (p2)), (4, .int (p3))]) (by decide) rfl (Nat.le_of_ble_eq_true rfl) rfl ?_
  intro x X hl hD ha hy hz
  subst hl hD ha hy hz
  unfold f_X8_byNobody at h
  refine g_lconst X (v := 0) dX8_byNobody_0 (by decide) ?_
  refine g_lstore X [(5, _), (0, _), (1, _), (2, _), (3, _), (4, _)] dX8_byNobody_1 (by decide) rfl ?_
  refine g_lconst X (v := 1) dX8_byNobody_3 (by decide) ?_
  refine g_lstore X [(7, _), (5, _), (0, _), (1, _), (2, _), (3, _), (4, _)] dX8_byNobody_4 (by decide) rfl ?_
  refine g_iconst X (v := 0) dX8_byNobody_6 (by decide) ?_
  refine g_istore X [(9, _), (7, _), (5, _), (0, _), (1, _), (2, _), (3, _), (4, _)] dX8_byNobody_7 (by decide) rfl ?_
  obtain ⟨e, he, h⟩ := g_th_s h
  refine g_sub [3, 4, 5, 6, 7, 2, 1, 0] _ rfl ?_
  refine g_lp_w (body := (fun t => b_X8_byNobody_9 fu o p0 p1 p2 p3 ((0 : Int64)) t.1 t.2.1 t.2.2)) (P := fun t : Int64 × Int32 × g_St => g_V g_KM 13 x 14 (g_ql g_KM 13 x z) t.2.2 9 [(0, .ref (g_ad x o)), (1, .int (p0)), (2, .int (p1)), (3, .int (p2)), (4, .int (p3)), (5, .long ((0 : Int64))), (7, .long (t.1)), (9, .int (t.2.1))] []) (E := (fun e : Int64 × g_St => g_V g_KM 13 x 14 (g_ql g_KM 13 x z) e.2 29 [(0, .ref (g_ad x o)), (1, .int (p0)), (2, .int (p1)), (3, .int (p2)), (4, .int (p3)), (5, .long ((0 : Int64))), (7, .long (e.1))] [])) (fun t r hb hc => vb_X8_byNobody_9 X o p0 p1 p2 p3 ((0 : Int64)) t.1 t.2.1 hk_o t.2.2 hb hc) fu ((1 : Int64), (0 : Int32), S) e he ?_
  obtain ⟨w7_1, S1⟩ := e
  show g_V g_KM 13 x 14 (g_ql g_KM 13 x z) S1 29 [(0, .ref (g_ad x o)), (1, .int (p0)), (2, .int (p1)), (3, .int (p2)), (4, .int (p3)), (5, .long ((0 : Int64))), (7, .long (w7_1))] []
  refine g_iconst X (v := 0) dX8_byNobody_29 (by decide) ?_
  refine g_istore X [(9, _), (0, _), (1, _), (2, _), (3, _), (4, _), (5, _), (7, _)] dX8_byNobody_30 (by decide) rfl ?_
  obtain ⟨e, he, h⟩ := g_th_s h
  refine g_sub [1, 2, 3, 4, 5, 6, 7, 0] _ rfl ?_
  refine g_lp_w (body := (fun t => b_X8_byNobody_32 fu o p0 p1 p2 p3 w7_1 t.1 t.2.1 t.2.2)) (P := fun t : Int64 × Int32 × g_St => g_V g_KM 13 x 14 (g_ql g_KM 13 x z) t.2.2 32 [(0, .ref (g_ad x o)), (1, .int (p0)), (2, .int (p1)), (3, .int (p2)), (4, .int (p3)), (5, .long (t.1)), (7, .long (w7_1)), (9, .int (t.2.1))] []) (E := (fun e : Int64 × g_St => g_V g_KM 13 x 14 (g_ql g_KM 13 x z) e.2 170 [(4, .int (p3)), (5, .long (e.1)), (7, .long (w7_1))] [])) (fun t r hb hc => vb_X8_byNobody_32 X o p0 p1 p2 p3 w7_1 t.1 t.2.1 hk_o t.2.2 hb hc) fu ((0 : Int64), (0 : Int32), S1) e he ?_
  obtain ⟨w5_3, S3⟩ := e
  show g_V g_KM 13 x 14 (g_ql g_KM 13 x z) S3 170 [(4, .int (p3)), (5, .long (w5_3)), (7, .long (w7_1))] []
  refine g_lload X dX8_byNobody_170 1 rfl ?_
  refine g_lload X dX8_byNobody_172 2 rfl ?_
  refine g_iload X dX8_byNobody_174 0 rfl ?_
  refine g_callSl X [.long (w5_3), .long (w7_1), .int (p3)] rfl (va_cwS 3 X.2.2.2.2.1 gX8_byNobody_X8_lowest rfl rfl rfl hd_X8_lowest ⟨Nat.le_of_ble_eq_true rfl, Nat.le_of_ble_eq_true rfl⟩) (Nat.le_of_ble_eq_true rfl) dX8_byNobody_176 h (fun q hq => ct_X8_lowest X.2.2.2.2.2.2.1 w5_3 w7_1 p3  _ hq) (fun r5 Sr5 h => ?_)
  exact g_lret X h dX8_byNobody_179
abbrev rm_X8_luck : Room := { frames := 4, cells := 0, slots := 0, locals := 103 }
theorem hd_X8_luck : yX8_luck.cls = RX8 ∧ yX8_luck.cls ≠ "java/lang/invoke/MethodHandle" ∧ yX8_luck.cls ≠ "java/lang/invoke/VarHandle" ∧ (parseMethodDescriptor yX8_luck.desc).map (fun d => d.parameters.length) = some 3 := by decide +kernel
theorem w_X8_luck_199 : Cond.constantLong RX8 199 (10) ∈ wsX8_luck := by decide +kernel
theorem w_X8_luck_211 : Cond.constantLong RX8 211 (-1) ∈ wsX8_luck := by decide +kernel
theorem w_X8_luck_205 : Cond.constantLong RX8 205 (8) ∈ wsX8_luck := by decide +kernel
def f_X8_luck (fu : Nat) (o : Nat) (p0 : Int32) (p1 : Int32) (p2 : Int32) (S : g_St) : Option (Int64 × g_St) :=
  g_bd (f_X8_in fu ((Int32.toInt64 p0)) ((0 : Int64)) ((10 : Int64)) S) fun r1 Sr1 => if r1 = 0 then (some ((-1 : Int64), Sr1)) else (g_bd (f_X8_in fu ((Int32.toInt64 p1)) ((0 : Int64)) ((8 : Int64)) Sr1) fun r2 Sr2 => if r2 = 0 then (some ((-1 : Int64), Sr2)) else (g_bd (f_X8_in fu ((Int32.toInt64 p2)) ((0 : Int64)) ((1 : Int64)) Sr2) fun r3 Sr3 => if r3 = 0 then (some ((-1 : Int64), Sr3)) else (g_bd (f_X8_byNobody fu o p0 p1 ((0 : Int32)) p2 Sr3) fun r4 Sr4 => some (r4, Sr4))))
set_option maxRecDepth 100000 in
set_option maxHeartbeats 400000 in
theorem ct_X8_luck {l : Launch} {D : va_G} {ad : Nat → Nat} {cy : Nat → ClassId} {zz : (Nat → Nat) × (Nat → Nat)} (hinj : ∀ i j, i < 13 → j < 13 → ad i = ad j → i = j) {fu : Nat} (o : Nat) (p0 : Int32) (p1 : Int32) (p2 : Int32) (hk_o : o < 13 ∧ g_KM o = g_kX8) {S : g_St} (z : Int64 × g_St) (h : f_X8_luck fu o p0 p1 p2 S = some z) : g_Ml l g_KM 13 D ad cy zz yX8_luck wsX8_luck rm_X8_luck [.ref (ad o), .int (p0), .int (p1), .int (p2)] S z := by
  refine g_ofl hinj (cc := cX8_luck) (maxL := 4) (ret := (some .long)) (lv := [(0, .ref (ad o)), (1, .int (p0)), (2, .int (p1)), (3, .int (p2))]) (by decide) rfl (Nat.le_of_ble_eq_true rfl) rfl ?_
  intro x X hl hD ha hy hz
  subst hl hD ha hy hz
  unfold f_X8_luck at h
  refine g_iload_n X dX8_luck_0 1 rfl ?_
  refine g_i2l X dX8_luck_1 ?_
  refine g_lconst X (v := 0) dX8_luck_2 (by decide) ?_
  refine g_ldc2 X w_X8_luck_199 dX8_luck_3 ?_
  refine g_callSi X [.long ((Int32.toInt64 p0)), .long ((0 : Int64)), .long ((10 : Int64))] rfl (va_cwS 3 X.2.2.2.2.1 gX8_luck_X8_in rfl rfl rfl hd_X8_in ⟨Nat.le_of_ble_eq_true rfl, Nat.le_of_ble_eq_true rfl⟩) (Nat.le_of_ble_eq_true rfl) dX8_luck_6 h (fun q hq => ct_X8_in X.2.2.2.2.2.2.1 ((Int32.toInt64 p0)) ((0 : Int64)) ((10 : Int64))  _ hq) (fun r1 Sr1 h => ?_)
  refine g_if_eq X 45 dX8_luck_9 (by decide) h (fun c_9 h => ?_) (fun c_9 h => ?_)
  · skip
    refine g_ldc2 X w_X8_luck_211 dX8_luck_45 ?_
    exact g_lret X h dX8_luck_48
  · skip
    refine g_iload_n X dX8_luck_12 2 rfl ?_
    refine g_i2l X dX8_luck_13 ?_
    refine g_lconst X (v := 0) dX8_luck_14 (by decide) ?_
    refine g_ldc2 X w_X8_luck_205 dX8_luck_15 ?_
    refine g_callSi X [.long ((Int32.toInt64 p1)), .long ((0 : Int64)), .long ((8 : Int64))] rfl (va_cwS 3 X.2.2.2.2.1 gX8_luck_X8_in rfl rfl rfl hd_X8_in ⟨Nat.le_of_ble_eq_true rfl, Nat.le_of_ble_eq_true rfl⟩) (Nat.le_of_ble_eq_true rfl) dX8_luck_18 h (fun q hq => ct_X8_in X.2.2.2.2.2.2.1 ((Int32.toInt64 p1)) ((0 : Int64)) ((8 : Int64))  _ hq) (fun r2 Sr2 h => ?_)
    refine g_if_eq X 45 dX8_luck_21 (by decide) h (fun c_21 h => ?_) (fun c_21 h => ?_)
    · skip
      refine g_ldc2 X w_X8_luck_211 dX8_luck_45 ?_
      exact g_lret X h dX8_luck_48
    · skip
      refine g_iload_n X dX8_luck_24 3 rfl ?_
      refine g_i2l X dX8_luck_25 ?_
      refine g_lconst X (v := 0) dX8_luck_26 (by decide) ?_
      refine g_lconst X (v := 1) dX8_luck_27 (by decide) ?_
      refine g_callSi X [.long ((Int32.toInt64 p2)), .long ((0 : Int64)), .long ((1 : Int64))] rfl (va_cwS 3 X.2.2.2.2.1 gX8_luck_X8_in rfl rfl rfl hd_X8_in ⟨Nat.le_of_ble_eq_true rfl, Nat.le_of_ble_eq_true rfl⟩) (Nat.le_of_ble_eq_true rfl) dX8_luck_28 h (fun q hq => ct_X8_in X.2.2.2.2.2.2.1 ((Int32.toInt64 p2)) ((0 : Int64)) ((1 : Int64))  _ hq) (fun r3 Sr3 h => ?_)
      refine g_if_eq X 45 dX8_luck_31 (by decide) h (fun c_31 h => ?_) (fun c_31 h => ?_)
      · skip
        refine g_ldc2 X w_X8_luck_211 dX8_luck_45 ?_
        exact g_lret X h dX8_luck_48
      · skip
        refine g_aload_n X dX8_luck_34 0 rfl ?_
        refine g_iload_n X dX8_luck_35 1 rfl ?_
        refine g_iload_n X dX8_luck_36 2 rfl ?_
        refine g_iconst X (v := 0) dX8_luck_37 (by decide) ?_
        refine g_iload_n X dX8_luck_38 3 rfl ?_
        refine g_callVl X g_cX8 hk_o [.int (p0), .int (p1), .int ((0 : Int32)), .int (p2)] rfl (cwV 4 X.2.2.2.2.1 gX8_luck_X8_byNobody rfl rfl rfl hd_X8_byNobody ⟨Nat.le_of_ble_eq_true rfl, Nat.le_of_ble_eq_true rfl⟩) (Nat.le_of_ble_eq_true rfl) dX8_luck_39 h (fun q hq => ct_X8_byNobody X.2.2.2.2.2.2.1 o p0 p1 ((0 : Int32)) p2 hk_o _ hq) (fun r4 Sr4 h => ?_)
        refine g_goto X 48 dX8_luck_42 (by decide) ?_
        exact g_lret X h dX8_luck_48
abbrev rm_X8_mean : Room := { frames := 4, cells := 0, slots := 0, locals := 103 }
theorem hd_X8_mean : yX8_mean.cls = RX8 ∧ yX8_mean.cls ≠ "java/lang/invoke/MethodHandle" ∧ yX8_mean.cls ≠ "java/lang/invoke/VarHandle" ∧ (parseMethodDescriptor yX8_mean.desc).map (fun d => d.parameters.length) = some 3 := by decide +kernel
theorem w_X8_mean_199 : Cond.constantLong RX8 199 (10) ∈ wsX8_mean := by decide +kernel
theorem w_X8_mean_211 : Cond.constantLong RX8 211 (-1) ∈ wsX8_mean := by decide +kernel
theorem w_X8_mean_205 : Cond.constantLong RX8 205 (8) ∈ wsX8_mean := by decide +kernel
def f_X8_mean (fu : Nat) (o : Nat) (p0 : Int32) (p1 : Int32) (p2 : Int32) (S : g_St) : Option (Int64 × g_St) :=
  g_bd (f_X8_in fu ((Int32.toInt64 p0)) ((0 : Int64)) ((10 : Int64)) S) fun r1 Sr1 => if r1 = 0 then (some ((-1 : Int64), Sr1)) else (g_bd (f_X8_in fu ((Int32.toInt64 p1)) ((0 : Int64)) ((8 : Int64)) Sr1) fun r2 Sr2 => if r2 = 0 then (some ((-1 : Int64), Sr2)) else (g_bd (f_X8_in fu ((Int32.toInt64 p2)) ((0 : Int64)) ((1 : Int64)) Sr2) fun r3 Sr3 => if r3 = 0 then (some ((-1 : Int64), Sr3)) else (g_bd (f_X8_byNobody fu o p0 p1 ((1 : Int32)) p2 Sr3) fun r4 Sr4 => some (r4, Sr4))))
set_option maxRecDepth 100000 in
set_option maxHeartbeats 400000 in
theorem ct_X8_mean {l : Launch} {D : va_G} {ad : Nat → Nat} {cy : Nat → ClassId} {zz : (Nat → Nat) × (Nat → Nat)} (hinj : ∀ i j, i < 13 → j < 13 → ad i = ad j → i = j) {fu : Nat} (o : Nat) (p0 : Int32) (p1 : Int32) (p2 : Int32) (hk_o : o < 13 ∧ g_KM o = g_kX8) {S : g_St} (z : Int64 × g_St) (h : f_X8_mean fu o p0 p1 p2 S = some z) : g_Ml l g_KM 13 D ad cy zz yX8_mean wsX8_mean rm_X8_mean [.ref (ad o), .int (p0), .int (p1), .int (p2)] S z := by
  refine g_ofl hinj (cc := cX8_mean) (maxL := 4) (ret := (some .long)) (lv := [(0, .ref (ad o)), (1, .int (p0)), (2, .int (p1)), (3, .int (p2))]) (by decide) rfl (Nat.le_of_ble_eq_true rfl) rfl ?_
  intro x X hl hD ha hy hz
  subst hl hD ha hy hz
  unfold f_X8_mean at h
  refine g_iload_n X dX8_mean_0 1 rfl ?_
  refine g_i2l X dX8_mean_1 ?_
  refine g_lconst X (v := 0) dX8_mean_2 (by decide) ?_
  refine g_ldc2 X w_X8_mean_199 dX8_mean_3 ?_
  refine g_callSi X [.long ((Int32.toInt64 p0)), .long ((0 : Int64)), .long ((10 : Int64))] rfl (va_cwS 3 X.2.2.2.2.1 gX8_mean_X8_in rfl rfl rfl hd_X8_in ⟨Nat.le_of_ble_eq_true rfl, Nat.le_of_ble_eq_true rfl⟩) (Nat.le_of_ble_eq_true rfl) dX8_mean_6 h (fun q hq => ct_X8_in X.2.2.2.2.2.2.1 ((Int32.toInt64 p0)) ((0 : Int64)) ((10 : Int64))  _ hq) (fun r1 Sr1 h => ?_)
  refine g_if_eq X 45 dX8_mean_9 (by decide) h (fun c_9 h => ?_) (fun c_9 h => ?_)
  · skip
    refine g_ldc2 X w_X8_mean_211 dX8_mean_45 ?_
    exact g_lret X h dX8_mean_48
  · skip
    refine g_iload_n X dX8_mean_12 2 rfl ?_
    refine g_i2l X dX8_mean_13 ?_
    refine g_lconst X (v := 0) dX8_mean_14 (by decide) ?_
    refine g_ldc2 X w_X8_mean_205 dX8_mean_15 ?_
    refine g_callSi X [.long ((Int32.toInt64 p1)), .long ((0 : Int64)), .long ((8 : Int64))] rfl (va_cwS 3 X.2.2.2.2.1 gX8_mean_X8_in rfl rfl rfl hd_X8_in ⟨Nat.le_of_ble_eq_true rfl, Nat.le_of_ble_eq_true rfl⟩) (Nat.le_of_ble_eq_true rfl) dX8_mean_18 h (fun q hq => ct_X8_in X.2.2.2.2.2.2.1 ((Int32.toInt64 p1)) ((0 : Int64)) ((8 : Int64))  _ hq) (fun r2 Sr2 h => ?_)
    refine g_if_eq X 45 dX8_mean_21 (by decide) h (fun c_21 h => ?_) (fun c_21 h => ?_)
    · skip
      refine g_ldc2 X w_X8_mean_211 dX8_mean_45 ?_
      exact g_lret X h dX8_mean_48
    · skip
      refine g_iload_n X dX8_mean_24 3 rfl ?_
      refine g_i2l X dX8_mean_25 ?_
      refine g_lconst X (v := 0) dX8_mean_26 (by decide) ?_
      refine g_lconst X (v := 1) dX8_mean_27 (by decide) ?_
      refine g_callSi X [.long ((Int32.toInt64 p2)), .long ((0 : Int64)), .long ((1 : Int64))] rfl (va_cwS 3 X.2.2.2.2.1 gX8_mean_X8_in rfl rfl rfl hd_X8_in ⟨Nat.le_of_ble_eq_true rfl, Nat.le_of_ble_eq_true rfl⟩) (Nat.le_of_ble_eq_true rfl) dX8_mean_28 h (fun q hq => ct_X8_in X.2.2.2.2.2.2.1 ((Int32.toInt64 p2)) ((0 : Int64)) ((1 : Int64))  _ hq) (fun r3 Sr3 h => ?_)
      refine g_if_eq X 45 dX8_mean_31 (by decide) h (fun c_31 h => ?_) (fun c_31 h => ?_)
      · skip
        refine g_ldc2 X w_X8_mean_211 dX8_mean_45 ?_
        exact g_lret X h dX8_mean_48
      · skip
        refine g_aload_n X dX8_mean_34 0 rfl ?_
        refine g_iload_n X dX8_mean_35 1 rfl ?_
        refine g_iload_n X dX8_mean_36 2 rfl ?_
        refine g_iconst X (v := 1) dX8_mean_37 (by decide) ?_
        refine g_iload_n X dX8_mean_38 3 rfl ?_
        refine g_callVl X g_cX8 hk_o [.int (p0), .int (p1), .int ((1 : Int32)), .int (p2)] rfl (cwV 4 X.2.2.2.2.1 gX8_mean_X8_byNobody rfl rfl rfl hd_X8_byNobody ⟨Nat.le_of_ble_eq_true rfl, Nat.le_of_ble_eq_true rfl⟩) (Nat.le_of_ble_eq_true rfl) dX8_mean_39 h (fun q hq => ct_X8_byNobody X.2.2.2.2.2.2.1 o p0 p1 ((1 : Int32)) p2 hk_o _ hq) (fun r4 Sr4 h => ?_)
        refine g_goto X 48 dX8_mean_42 (by decide) ?_
        exact g_lret X h dX8_mean_48
abbrev rm_X8_see : Room := { frames := 1, cells := 0, slots := 0, locals := 25 }
theorem hd_X8_see : yX8_see.cls = RX8 ∧ yX8_see.cls ≠ "java/lang/invoke/MethodHandle" ∧ yX8_see.cls ≠ "java/lang/invoke/VarHandle" ∧ (parseMethodDescriptor yX8_see.desc).map (fun d => d.parameters.length) = some 2 := by decide +kernel
theorem w_X8_see_213 : Cond.constantLong RX8 213 (40) ∈ wsX8_see := by decide +kernel
theorem w_X8_see_215 : Cond.constantLong RX8 215 (72) ∈ wsX8_see := by decide +kernel
theorem w_X8_see_116 : Cond.fieldLink RX8 116 "TokenDoorsModel" "seenMany" "I" ∈ wsX8_see := by decide +kernel
theorem w_X8_see_inX8 : ∀ w ∈ wsX80, w ∈ wsX8_see := by decide +kernel
theorem w_X8_see_32 : Cond.fieldLink RX8 32 "TokenDoorsModel" "seen" "[I" ∈ wsX8_see := by decide +kernel
def f_X8_see (fu : Nat) (o : Nat) (p0 : Int32) (p1 : Int32) (S : g_St) : Option (Int32 × g_St) :=
  g_bd (f_X8_in fu ((Int32.toInt64 p0)) ((0 : Int64)) ((40 : Int64)) S) fun r1 Sr1 => if r1 = 0 then (some ((-1 : Int32), Sr1)) else (g_bd (f_X8_in fu ((Int32.toInt64 p1)) ((0 : Int64)) ((72 : Int64)) Sr1) fun r2 Sr2 => if r2 = 0 then (some ((-1 : Int32), Sr2)) else (if (Sr2.1 o 20) = (6 : Int32) then (some ((-3 : Int32), Sr2)) else (g_ld g_KM 13 (.inr (0, 12, false)) (Sr2.2 o 19) fun a3 => g_ix ((2 : Int32) * (Sr2.1 o 20)) 12 fun i4 => g_ld g_KM 13 (.inr (0, 12, false)) (Sr2.2 o 19) fun a5 => g_ix (((2 : Int32) * ((g_u Sr2.1 a3 i4 p0) o 20)) + (1 : Int32)) 12 fun i6 => some (((g_u (g_u (g_u Sr2.1 a3 i4 p0) a5 i6 p1) o 20 (((g_u (g_u Sr2.1 a3 i4 p0) a5 i6 p1) o 20) + (1 : Int32))) o 20), (g_u (g_u (g_u Sr2.1 a3 i4 p0) a5 i6 p1) o 20 (((g_u (g_u Sr2.1 a3 i4 p0) a5 i6 p1) o 20) + (1 : Int32)), Sr2.2)))))
set_option maxRecDepth 100000 in
set_option maxHeartbeats 400000 in
theorem ct_X8_see {l : Launch} {D : va_G} {ad : Nat → Nat} {cy : Nat → ClassId} {zz : (Nat → Nat) × (Nat → Nat)} (hinj : ∀ i j, i < 13 → j < 13 → ad i = ad j → i = j) {fu : Nat} (o : Nat) (p0 : Int32) (p1 : Int32) (hk_o : o < 13 ∧ g_KM o = g_kX8) {S : g_St} (z : Int32 × g_St) (h : f_X8_see fu o p0 p1 S = some z) : g_Mi l g_KM 13 D ad cy zz yX8_see wsX8_see rm_X8_see [.ref (ad o), .int (p0), .int (p1)] S z := by
  refine g_ofi hinj (cc := cX8_see) (maxL := 3) (ret := (some .int)) (lv := [(0, .ref (ad o)), (1, .int (p0)), (2, .int (p1))]) (by decide) rfl (Nat.le_of_ble_eq_true rfl) rfl ?_
  intro x X hl hD ha hy hz
  subst hl hD ha hy hz
  unfold f_X8_see at h
  refine g_iload_n X dX8_see_0 1 rfl ?_
  refine g_i2l X dX8_see_1 ?_
  refine g_lconst X (v := 0) dX8_see_2 (by decide) ?_
  refine g_ldc2 X w_X8_see_213 dX8_see_3 ?_
  refine g_callSi X [.long ((Int32.toInt64 p0)), .long ((0 : Int64)), .long ((40 : Int64))] rfl (va_cwS 3 X.2.2.2.2.1 gX8_see_X8_in rfl rfl rfl hd_X8_in ⟨Nat.le_of_ble_eq_true rfl, Nat.le_of_ble_eq_true rfl⟩) (Nat.le_of_ble_eq_true rfl) dX8_see_6 h (fun q hq => ct_X8_in X.2.2.2.2.2.2.1 ((Int32.toInt64 p0)) ((0 : Int64)) ((40 : Int64))  _ hq) (fun r1 Sr1 h => ?_)
  refine g_if_eq X 24 dX8_see_9 (by decide) h (fun c_9 h => ?_) (fun c_9 h => ?_)
  · skip
    refine g_iconst X (v := (-1)) dX8_see_24 (by decide) ?_
    exact g_iret X h dX8_see_25
  · skip
    refine g_iload_n X dX8_see_12 2 rfl ?_
    refine g_i2l X dX8_see_13 ?_
    refine g_lconst X (v := 0) dX8_see_14 (by decide) ?_
    refine g_ldc2 X w_X8_see_215 dX8_see_15 ?_
    refine g_callSi X [.long ((Int32.toInt64 p1)), .long ((0 : Int64)), .long ((72 : Int64))] rfl (va_cwS 3 X.2.2.2.2.1 gX8_see_X8_in rfl rfl rfl hd_X8_in ⟨Nat.le_of_ble_eq_true rfl, Nat.le_of_ble_eq_true rfl⟩) (Nat.le_of_ble_eq_true rfl) dX8_see_18 h (fun q hq => ct_X8_in X.2.2.2.2.2.2.1 ((Int32.toInt64 p1)) ((0 : Int64)) ((72 : Int64))  _ hq) (fun r2 Sr2 h => ?_)
    refine g_if_ne X 26 dX8_see_21 (by decide) h (fun c_21 h => ?_) (fun c_21 h => ?_)
    · skip
      refine g_aload_n X dX8_see_26 0 rfl ?_
      refine g_geti X g_cX8 w_X8_see_inX8 20 (by decide) w_X8_see_116 hk_o rfl dX8_see_27 ?_
      refine g_bipush X (v := (6)) dX8_see_30 (by decide) ?_
      refine g_icmp_ne X 38 dX8_see_32 (by decide) h (fun c_32 h => ?_) (fun c_32 h => ?_)
      · skip
        refine g_aload_n X dX8_see_38 0 rfl ?_
        refine g_getr X g_cX8 w_X8_see_inX8 19 (by decide) w_X8_see_32 hk_o rfl dX8_see_39 h (fun a3 hk_a3 h => ?_)
        refine g_iconst X (v := 2) dX8_see_42 (by decide) ?_
        refine g_aload_n X dX8_see_43 0 rfl ?_
        refine g_geti X g_cX8 w_X8_see_inX8 20 (by decide) w_X8_see_116 hk_o rfl dX8_see_44 ?_
        refine g_imul X dX8_see_47 ?_
        refine g_iload_n X dX8_see_48 1 rfl ?_
        refine g_iast X hk_a3 dX8_see_49 h (fun i4 _ h => ?_)
        refine g_aload_n X dX8_see_50 0 rfl ?_
        refine g_getr X g_cX8 w_X8_see_inX8 19 (by decide) w_X8_see_32 hk_o rfl dX8_see_51 h (fun a5 hk_a5 h => ?_)
        refine g_iconst X (v := 2) dX8_see_54 (by decide) ?_
        refine g_aload_n X dX8_see_55 0 rfl ?_
        refine g_geti X g_cX8 w_X8_see_inX8 20 (by decide) w_X8_see_116 hk_o rfl dX8_see_56 ?_
        refine g_imul X dX8_see_59 ?_
        refine g_iconst X (v := 1) dX8_see_60 (by decide) ?_
        refine g_iadd X dX8_see_61 ?_
        refine g_iload_n X dX8_see_62 2 rfl ?_
        refine g_iast X hk_a5 dX8_see_63 h (fun i6 _ h => ?_)
        refine g_aload_n X dX8_see_64 0 rfl ?_
        refine g_dup X dX8_see_65 rfl ?_
        refine g_geti X g_cX8 w_X8_see_inX8 20 (by decide) w_X8_see_116 hk_o rfl dX8_see_66 ?_
        refine g_iconst X (v := 1) dX8_see_69 (by decide) ?_
        refine g_iadd X dX8_see_70 ?_
        refine g_puti X g_cX8 w_X8_see_inX8 20 (by decide) w_X8_see_116 hk_o rfl rfl (t := .int) (by decide +kernel) rfl rfl dX8_see_71 ?_
        refine g_aload_n X dX8_see_74 0 rfl ?_
        refine g_geti X g_cX8 w_X8_see_inX8 20 (by decide) w_X8_see_116 hk_o rfl dX8_see_75 ?_
        exact g_iret X h dX8_see_78
      · skip
        refine g_bipush X (v := (-3)) dX8_see_35 (by decide) ?_
        exact g_iret X h dX8_see_37
    · skip
      refine g_iconst X (v := (-1)) dX8_see_24 (by decide) ?_
      exact g_iret X h dX8_see_25
abbrev rm_X8_forget : Room := { frames := 1, cells := 0, slots := 0, locals := 25 }
theorem hd_X8_forget : yX8_forget.cls = RX8 ∧ yX8_forget.cls ≠ "java/lang/invoke/MethodHandle" ∧ yX8_forget.cls ≠ "java/lang/invoke/VarHandle" ∧ (parseMethodDescriptor yX8_forget.desc).map (fun d => d.parameters.length) = some 1 := by decide +kernel
theorem w_X8_forget_116 : Cond.fieldLink RX8 116 "TokenDoorsModel" "seenMany" "I" ∈ wsX8_forget := by decide +kernel
theorem w_X8_forget_inX8 : ∀ w ∈ wsX80, w ∈ wsX8_forget := by decide +kernel
def f_X8_forget (fu : Nat) (o : Nat) (p0 : Int32) (S : g_St) : Option (Int32 × g_St) :=
  g_bd (f_X8_in fu ((Int32.toInt64 p0)) ((0 : Int64)) ((Int32.toInt64 (S.1 o 20))) S) fun r1 Sr1 => if r1 = 0 then (some ((-1 : Int32), Sr1)) else (some ((Sr1.1 o 20), (g_u Sr1.1 o 20 p0, Sr1.2)))
set_option maxRecDepth 100000 in
set_option maxHeartbeats 400000 in
theorem ct_X8_forget {l : Launch} {D : va_G} {ad : Nat → Nat} {cy : Nat → ClassId} {zz : (Nat → Nat) × (Nat → Nat)} (hinj : ∀ i j, i < 13 → j < 13 → ad i = ad j → i = j) {fu : Nat} (o : Nat) (p0 : Int32) (hk_o : o < 13 ∧ g_KM o = g_kX8) {S : g_St} (z : Int32 × g_St) (h : f_X8_forget fu o p0 S = some z) : g_Mi l g_KM 13 D ad cy zz yX8_forget wsX8_forget rm_X8_forget [.ref (ad o), .int (p0)] S z := by
  refine g_ofi hinj (cc := cX8_forget) (maxL := 3) (ret := (some .int)) (lv := [(0, .ref (ad o)), (1, .int (p0))]) (by decide) rfl (Nat.le_of_ble_eq_true rfl) rfl ?_
  intro x X hl hD ha hy hz
  subst hl hD ha hy hz
  unfold f_X8_forget at h
  refine g_iload_n X dX8_forget_0 1 rfl ?_
  refine g_i2l X dX8_forget_1 ?_
  refine g_lconst X (v := 0) dX8_forget_2 (by decide) ?_
  refine g_aload_n X dX8_forget_3 0 rfl ?_
  refine g_geti X g_cX8 w_X8_forget_inX8 20 (by decide) w_X8_forget_116 hk_o rfl dX8_forget_4 ?_
  refine g_i2l X dX8_forget_7 ?_
  refine g_callSi X [.long ((Int32.toInt64 p0)), .long ((0 : Int64)), .long ((Int32.toInt64 (S.1 o 20)))] rfl (va_cwS 3 X.2.2.2.2.1 gX8_forget_X8_in rfl rfl rfl hd_X8_in ⟨Nat.le_of_ble_eq_true rfl, Nat.le_of_ble_eq_true rfl⟩) (Nat.le_of_ble_eq_true rfl) dX8_forget_8 h (fun q hq => ct_X8_in X.2.2.2.2.2.2.1 ((Int32.toInt64 p0)) ((0 : Int64)) ((Int32.toInt64 (S.1 o 20)))  _ hq) (fun r1 Sr1 h => ?_)
  refine g_if_ne X 16 dX8_forget_11 (by decide) h (fun c_11 h => ?_) (fun c_11 h => ?_)
  · skip
    refine g_aload_n X dX8_forget_16 0 rfl ?_
    refine g_geti X g_cX8 w_X8_forget_inX8 20 (by decide) w_X8_forget_116 hk_o rfl dX8_forget_17 ?_
    refine g_istore_n X [(2, _), (0, _), (1, _)] dX8_forget_20 (by decide) rfl ?_
    refine g_aload_n X dX8_forget_21 1 rfl ?_
    refine g_iload_n X dX8_forget_22 2 rfl ?_
    refine g_puti X g_cX8 w_X8_forget_inX8 20 (by decide) w_X8_forget_116 hk_o rfl rfl (t := .int) (by decide +kernel) rfl rfl dX8_forget_23 ?_
    refine g_iload_n X dX8_forget_26 0 rfl ?_
    exact g_iret X h dX8_forget_27
  · skip
    refine g_iconst X (v := (-1)) dX8_forget_14 (by decide) ?_
    exact g_iret X h dX8_forget_15
abbrev rm_X8_isAsSeen : Room := { frames := 4, cells := 0, slots := 0, locals := 91 }
theorem hd_X8_isAsSeen : yX8_isAsSeen.cls = RX8 ∧ yX8_isAsSeen.cls ≠ "java/lang/invoke/MethodHandle" ∧ yX8_isAsSeen.cls ≠ "java/lang/invoke/VarHandle" ∧ (parseMethodDescriptor yX8_isAsSeen.desc).map (fun d => d.parameters.length) = some 2 := by decide +kernel
theorem w_X8_isAsSeen_35 : Cond.fieldLink RX8 35 "TokenDoorsModel" "letBy" "[I" ∈ wsX8_isAsSeen := by decide +kernel
theorem w_X8_isAsSeen_inX8 : ∀ w ∈ wsX80, w ∈ wsX8_isAsSeen := by decide +kernel
theorem w_X8_isAsSeen_116 : Cond.fieldLink RX8 116 "TokenDoorsModel" "seenMany" "I" ∈ wsX8_isAsSeen := by decide +kernel
theorem w_X8_isAsSeen_32 : Cond.fieldLink RX8 32 "TokenDoorsModel" "seen" "[I" ∈ wsX8_isAsSeen := by decide +kernel
def j_X8_isAsSeen_98_in50 (fu : Nat) (v0 : Nat) (v2 : Int32) (v4 : Int32) (v5 : Int32) (v6 : Int32) (s0 : Int32) (S : g_St) : Option ((Int32 × Int32 × g_St) ⊕ (Int32 × g_St)) :=
  some (.inl (s0, (v6 + 1), S))
def j_X8_isAsSeen_97_in50 (fu : Nat) (v0 : Nat) (v2 : Int32) (v4 : Int32) (v5 : Int32) (v6 : Int32) (S : g_St) : Option ((Int32 × Int32 × g_St) ⊕ (Int32 × g_St)) :=
  j_X8_isAsSeen_98_in50 fu v0 v2 v4 v5 v6 ((0 : Int32)) S
def j_X8_isAsSeen_93_in50 (fu : Nat) (v0 : Nat) (v2 : Int32) (v4 : Int32) (v5 : Int32) (v6 : Int32) (S : g_St) : Option ((Int32 × Int32 × g_St) ⊕ (Int32 × g_St)) :=
  j_X8_isAsSeen_98_in50 fu v0 v2 v4 v5 v6 ((1 : Int32)) S
def b_X8_isAsSeen_50 (fu : Nat) (v0 : Nat) (v2 : Int32) (v4 : Int32) (v5 : Int32) (v3 : Int32) (v6 : Int32) (S : g_St) : Option ((Int32 × Int32 × g_St) ⊕ (Int32 × g_St)) :=
  if (S.1 v0 20) ≤ v6 then (some (.inr (v3, S))) else (if v3 = 0 then (j_X8_isAsSeen_97_in50 fu v0 v2 v4 v5 v6 S) else (g_ld g_KM 13 (.inr (0, 12, false)) (S.2 v0 19) fun a6 => g_ix ((2 : Int32) * v6) 12 fun i7 => if (S.1 a6 i7) = v4 then (g_ld g_KM 13 (.inr (0, 12, false)) (S.2 v0 19) fun a8 => g_ix (((2 : Int32) * v6) + (1 : Int32)) 12 fun i9 => if v5 = (S.1 a8 i9) then (j_X8_isAsSeen_93_in50 fu v0 v2 v4 v5 v6 S) else (j_X8_isAsSeen_97_in50 fu v0 v2 v4 v5 v6 S)) else (j_X8_isAsSeen_93_in50 fu v0 v2 v4 v5 v6 S)))
def b_X8_isAsSeen_17 (fu : Nat) (v0 : Nat) (v2 : Int32) (v3 : Int32) (v4 : Int32) (S : g_St) : Option ((Int32 × Int32 × g_St) ⊕ (Int32 × g_St)) :=
  if (40 : Int32) < v4 then (some (.inr (v3, S))) else (g_bd (f_X8_goesOn fu v0 ((180 : Int32)) S) fun r3 Sr3 => g_ld g_KM 13 (.inr (0, 410, false)) (Sr3.2 v0 21) fun a4 => g_ix (((41 : Int32) * v2) + v4) 410 fun i5 => g_th (g_lp (fun t => b_X8_isAsSeen_50 fu v0 v2 v4 r3 t.1 t.2.1 t.2.2) fu (v3, (0 : Int32), (g_u Sr3.1 a4 i5 r3, Sr3.2))) fun e => match e with | (w3_1, S1) => some (.inl (w3_1, (v4 + 1), S1)))
def f_X8_isAsSeen (fu : Nat) (o : Nat) (p0 : Int32) (p1 : Int32) (S : g_St) : Option (Int32 × g_St) :=
  g_bd (f_X8_copies fu o p0 ((180 : Int32)) S) fun _ Sr1 => g_bd (f_X8_starts fu o Sr1) fun _ Sr2 => g_th (g_lp (fun t => b_X8_isAsSeen_17 fu o p1 t.1 t.2.1 t.2.2) fu ((1 : Int32), (0 : Int32), Sr2)) fun e => match e with | (w3_2, S2) => g_zb w3_2 (some (w3_2, S2))
set_option maxRecDepth 100000 in
set_option maxHeartbeats 400000 in
theorem vj_X8_isAsSeen_98_in50 {x : g_CX} {z : Int32 × g_St} {fu : Nat} (X : g_X 13 x cX8_isAsSeen RX8 7 wsX8_isAsSeen rm_X8_isAsSeen (some .boolean)) (v0 : Nat) (v2 : Int32) (v4 : Int32) (v5 : Int32) (v6 : Int32) (s0 : Int32) (hk_v0 : v0 < 13 ∧ g_KM v0 = g_kX8) (S : g_St) {r : (Int32 × Int32 × g_St) ⊕ (Int32 × g_St)} (h : j_X8_isAsSeen_98_in50 fu v0 v2 v4 v5 v6 s0 S = some r) (hc : Sum.elim (fun t : Int32 × Int32 × g_St => g_V g_KM 13 x 7 (g_qi g_KM 13 x z) t.2.2 50 [(0, .ref (g_ad x v0)), (2, .int (v2)), (3, .int (t.1)), (4, .int (v4)), (5, .int (v5)), (6, .int (t.2.1))] []) (fun e : Int32 × g_St => g_V g_KM 13 x 7 (g_qi g_KM 13 x z) e.2 105 [(0, .ref (g_ad x v0)), (2, .int (v2)), (3, .int (e.1)), (4, .int (v4))] []) r) : g_V g_KM 13 x 7 (g_qi g_KM 13 x z) S 98 [(0, .ref (g_ad x v0)), (2, .int (v2)), (4, .int (v4)), (5, .int (v5)), (6, .int (v6))] [.int (s0)] := by
  unfold j_X8_isAsSeen_98_in50 at h
  refine g_istore_n X [(3, _), (0, _), (2, _), (4, _), (5, _), (6, _)] dX8_isAsSeen_98 (by decide) rfl ?_
  refine g_iinc X [(6, _), (3, _), (0, _), (2, _), (4, _), (5, _)] dX8_isAsSeen_99 5 rfl rfl (by decide) rfl ?_
  refine g_goto X 50 dX8_isAsSeen_102 (by decide) ?_
  cases h
  exact g_sub [2, 3, 1, 4, 5, 0] _ rfl hc
set_option maxRecDepth 100000 in
set_option maxHeartbeats 400000 in
theorem vj_X8_isAsSeen_97_in50 {x : g_CX} {z : Int32 × g_St} {fu : Nat} (X : g_X 13 x cX8_isAsSeen RX8 7 wsX8_isAsSeen rm_X8_isAsSeen (some .boolean)) (v0 : Nat) (v2 : Int32) (v4 : Int32) (v5 : Int32) (v6 : Int32) (hk_v0 : v0 < 13 ∧ g_KM v0 = g_kX8) (S : g_St) {r : (Int32 × Int32 × g_St) ⊕ (Int32 × g_St)} (h : j_X8_isAsSeen_97_in50 fu v0 v2 v4 v5 v6 S = some r) (hc : Sum.elim (fun t : Int32 × Int32 × g_St => g_V g_KM 13 x 7 (g_qi g_KM 13 x z) t.2.2 50 [(0, .ref (g_ad x v0)), (2, .int (v2)), (3, .int (t.1)), (4, .int (v4)), (5, .int (v5)), (6, .int (t.2.1))] []) (fun e : Int32 × g_St => g_V g_KM 13 x 7 (g_qi g_KM 13 x z) e.2 105 [(0, .ref (g_ad x v0)), (2, .int (v2)), (3, .int (e.1)), (4, .int (v4))] []) r) : g_V g_KM 13 x 7 (g_qi g_KM 13 x z) S 97 [(0, .ref (g_ad x v0)), (2, .int (v2)), (4, .int (v4)), (5, .int (v5)), (6, .int (v6))] [] := by
  unfold j_X8_isAsSeen_97_in50 at h
  refine g_iconst X (v := 0) dX8_isAsSeen_97 (by decide) ?_
  refine g_sub [0, 1, 2, 3, 4] _ rfl ?_
  exact vj_X8_isAsSeen_98_in50 X v0 v2 v4 v5 v6 ((0 : Int32)) hk_v0 _ h hc
set_option maxRecDepth 100000 in
set_option maxHeartbeats 400000 in
theorem vj_X8_isAsSeen_93_in50 {x : g_CX} {z : Int32 × g_St} {fu : Nat} (X : g_X 13 x cX8_isAsSeen RX8 7 wsX8_isAsSeen rm_X8_isAsSeen (some .boolean)) (v0 : Nat) (v2 : Int32) (v4 : Int32) (v5 : Int32) (v6 : Int32) (hk_v0 : v0 < 13 ∧ g_KM v0 = g_kX8) (S : g_St) {r : (Int32 × Int32 × g_St) ⊕ (Int32 × g_St)} (h : j_X8_isAsSeen_93_in50 fu v0 v2 v4 v5 v6 S = some r) (hc : Sum.elim (fun t : Int32 × Int32 × g_St => g_V g_KM 13 x 7 (g_qi g_KM 13 x z) t.2.2 50 [(0, .ref (g_ad x v0)), (2, .int (v2)), (3, .int (t.1)), (4, .int (v4)), (5, .int (v5)), (6, .int (t.2.1))] []) (fun e : Int32 × g_St => g_V g_KM 13 x 7 (g_qi g_KM 13 x z) e.2 105 [(0, .ref (g_ad x v0)), (2, .int (v2)), (3, .int (e.1)), (4, .int (v4))] []) r) : g_V g_KM 13 x 7 (g_qi g_KM 13 x z) S 93 [(0, .ref (g_ad x v0)), (2, .int (v2)), (4, .int (v4)), (5, .int (v5)), (6, .int (v6))] [] := by
  unfold j_X8_isAsSeen_93_in50 at h
  refine g_iconst X (v := 1) dX8_isAsSeen_93 (by decide) ?_
  refine g_goto X 98 dX8_isAsSeen_94 (by decide) ?_
  refine g_sub [0, 1, 2, 3, 4] _ rfl ?_
  exact vj_X8_isAsSeen_98_in50 X v0 v2 v4 v5 v6 ((1 : Int32)) hk_v0 _ h hc
set_option maxRecDepth 100000 in
set_option maxHeartbeats 400000 in
theorem vb_X8_isAsSeen_50 {x : g_CX} {z : Int32 × g_St} {fu : Nat} (X : g_X 13 x cX8_isAsSeen RX8 7 wsX8_isAsSeen rm_X8_isAsSeen (some .boolean)) (v0 : Nat) (v2 : Int32) (v4 : Int32) (v5 : Int32) (v3 : Int32) (v6 : Int32) (hk_v0 : v0 < 13 ∧ g_KM v0 = g_kX8) (S : g_St) {r : (Int32 × Int32 × g_St) ⊕ (Int32 × g_St)} (h : b_X8_isAsSeen_50 fu v0 v2 v4 v5 v3 v6 S = some r) (hc : Sum.elim (fun t : Int32 × Int32 × g_St => g_V g_KM 13 x 7 (g_qi g_KM 13 x z) t.2.2 50 [(0, .ref (g_ad x v0)), (2, .int (v2)), (3, .int (t.1)), (4, .int (v4)), (5, .int (v5)), (6, .int (t.2.1))] []) (fun e : Int32 × g_St => g_V g_KM 13 x 7 (g_qi g_KM 13 x z) e.2 105 [(0, .ref (g_ad x v0)), (2, .int (v2)), (3, .int (e.1)), (4, .int (v4))] []) r) : g_V g_KM 13 x 7 (g_qi g_KM 13 x z) S 50 [(0, .ref (g_ad x v0)), (2, .int (v2)), (3, .int (v3)), (4, .int (v4)), (5, .int (v5)), (6, .int (v6))] [] := by
  unfold b_X8_isAsSeen_50 at h
  refine g_iload X dX8_isAsSeen_50 5 rfl ?_
  refine g_aload_n X dX8_isAsSeen_52 0 rfl ?_
  refine g_geti X g_cX8 w_X8_isAsSeen_inX8 20 (by decide) w_X8_isAsSeen_116 hk_v0 rfl dX8_isAsSeen_53 ?_
  refine g_icmp_ge X 105 dX8_isAsSeen_56 (by decide) h (fun c_56 h => ?_) (fun c_56 h => ?_)
  · skip
    cases h
    exact g_sub [0, 1, 2, 3] _ rfl hc
  · skip
    refine g_iload_n X dX8_isAsSeen_59 2 rfl ?_
    refine g_if_eq X 97 dX8_isAsSeen_60 (by decide) h (fun c_60 h => ?_) (fun c_60 h => ?_)
    · skip
      refine g_sub [0, 1, 3, 4, 5] _ rfl ?_
      exact vj_X8_isAsSeen_97_in50 X v0 v2 v4 v5 v6 hk_v0 _ h hc
    · skip
      refine g_aload_n X dX8_isAsSeen_63 0 rfl ?_
      refine g_getr X g_cX8 w_X8_isAsSeen_inX8 19 (by decide) w_X8_isAsSeen_32 hk_v0 rfl dX8_isAsSeen_64 h (fun a6 hk_a6 h => ?_)
      refine g_iconst X (v := 2) dX8_isAsSeen_67 (by decide) ?_
      refine g_iload X dX8_isAsSeen_68 5 rfl ?_
      refine g_imul X dX8_isAsSeen_70 ?_
      refine g_iald X hk_a6 dX8_isAsSeen_71 h (fun i7 _ h => ?_)
      refine g_iload X dX8_isAsSeen_72 3 rfl ?_
      refine g_icmp_ne X 93 dX8_isAsSeen_74 (by decide) h (fun c_74 h => ?_) (fun c_74 h => ?_)
      · skip
        refine g_sub [0, 1, 3, 4, 5] _ rfl ?_
        exact vj_X8_isAsSeen_93_in50 X v0 v2 v4 v5 v6 hk_v0 _ h hc
      · skip
        refine g_iload X dX8_isAsSeen_77 4 rfl ?_
        refine g_aload_n X dX8_isAsSeen_79 0 rfl ?_
        refine g_getr X g_cX8 w_X8_isAsSeen_inX8 19 (by decide) w_X8_isAsSeen_32 hk_v0 rfl dX8_isAsSeen_80 h (fun a8 hk_a8 h => ?_)
        refine g_iconst X (v := 2) dX8_isAsSeen_83 (by decide) ?_
        refine g_iload X dX8_isAsSeen_84 5 rfl ?_
        refine g_imul X dX8_isAsSeen_86 ?_
        refine g_iconst X (v := 1) dX8_isAsSeen_87 (by decide) ?_
        refine g_iadd X dX8_isAsSeen_88 ?_
        refine g_iald X hk_a8 dX8_isAsSeen_89 h (fun i9 _ h => ?_)
        refine g_icmp_ne X 97 dX8_isAsSeen_90 (by decide) h (fun c_90 h => ?_) (fun c_90 h => ?_)
        · skip
          refine g_sub [0, 1, 3, 4, 5] _ rfl ?_
          exact vj_X8_isAsSeen_97_in50 X v0 v2 v4 v5 v6 hk_v0 _ h hc
        · skip
          refine g_sub [0, 1, 3, 4, 5] _ rfl ?_
          exact vj_X8_isAsSeen_93_in50 X v0 v2 v4 v5 v6 hk_v0 _ h hc
set_option maxRecDepth 100000 in
set_option maxHeartbeats 400000 in
theorem vb_X8_isAsSeen_17 {x : g_CX} {z : Int32 × g_St} {fu : Nat} (X : g_X 13 x cX8_isAsSeen RX8 7 wsX8_isAsSeen rm_X8_isAsSeen (some .boolean)) (v0 : Nat) (v2 : Int32) (v3 : Int32) (v4 : Int32) (hk_v0 : v0 < 13 ∧ g_KM v0 = g_kX8) (S : g_St) {r : (Int32 × Int32 × g_St) ⊕ (Int32 × g_St)} (h : b_X8_isAsSeen_17 fu v0 v2 v3 v4 S = some r) (hc : Sum.elim (fun t : Int32 × Int32 × g_St => g_V g_KM 13 x 7 (g_qi g_KM 13 x z) t.2.2 17 [(0, .ref (g_ad x v0)), (2, .int (v2)), (3, .int (t.1)), (4, .int (t.2.1))] []) (fun e : Int32 × g_St => g_V g_KM 13 x 7 (g_qi g_KM 13 x z) e.2 111 [(3, .int (e.1))] []) r) : g_V g_KM 13 x 7 (g_qi g_KM 13 x z) S 17 [(0, .ref (g_ad x v0)), (2, .int (v2)), (3, .int (v3)), (4, .int (v4))] [] := by
  unfold b_X8_isAsSeen_17 at h
  refine g_iload X dX8_isAsSeen_17 3 rfl ?_
  refine g_bipush X (v := (40)) dX8_isAsSeen_19 (by decide) ?_
  refine g_icmp_gt X 111 dX8_isAsSeen_21 (by decide) h (fun c_21 h => ?_) (fun c_21 h => ?_)
  · skip
    cases h
    exact g_sub [2] _ rfl hc
  · skip
    refine g_aload_n X dX8_isAsSeen_24 0 rfl ?_
    refine g_sipush X (v := (180)) dX8_isAsSeen_25 (by decide) ?_
    refine g_callVi X g_cX8 hk_v0 [.int ((180 : Int32))] rfl (cwV 1 X.2.2.2.2.1 gX8_isAsSeen_X8_goesOn rfl rfl rfl hd_X8_goesOn ⟨Nat.le_of_ble_eq_true rfl, Nat.le_of_ble_eq_true rfl⟩) (Nat.le_of_ble_eq_true rfl) dX8_isAsSeen_28 h (fun q hq => ct_X8_goesOn X.2.2.2.2.2.2.1 v0 ((180 : Int32)) hk_v0 _ hq) (fun r3 Sr3 h => ?_)
    refine g_istore X [(5, _), (0, _), (2, _), (3, _), (4, _)] dX8_isAsSeen_31 (by decide) rfl ?_
    refine g_aload_n X dX8_isAsSeen_33 1 rfl ?_
    refine g_getr X g_cX8 w_X8_isAsSeen_inX8 21 (by decide) w_X8_isAsSeen_35 hk_v0 rfl dX8_isAsSeen_34 h (fun a4 hk_a4 h => ?_)
    refine g_bipush X (v := (41)) dX8_isAsSeen_37 (by decide) ?_
    refine g_iload_n X dX8_isAsSeen_39 2 rfl ?_
    refine g_imul X dX8_isAsSeen_40 ?_
    refine g_iload X dX8_isAsSeen_41 4 rfl ?_
    refine g_iadd X dX8_isAsSeen_43 ?_
    refine g_iload X dX8_isAsSeen_44 0 rfl ?_
    refine g_iast X hk_a4 dX8_isAsSeen_46 h (fun i5 _ h => ?_)
    refine g_iconst X (v := 0) dX8_isAsSeen_47 (by decide) ?_
    refine g_istore X [(6, _), (5, _), (0, _), (2, _), (3, _), (4, _)] dX8_isAsSeen_48 (by decide) rfl ?_
    obtain ⟨e, he, h⟩ := g_th_s h
    refine g_sub [2, 3, 4, 5, 1, 0] _ rfl ?_
    refine g_lp_w (body := (fun t => b_X8_isAsSeen_50 fu v0 v2 v4 r3 t.1 t.2.1 t.2.2)) (P := fun t : Int32 × Int32 × g_St => g_V g_KM 13 x 7 (g_qi g_KM 13 x z) t.2.2 50 [(0, .ref (g_ad x v0)), (2, .int (v2)), (3, .int (t.1)), (4, .int (v4)), (5, .int (r3)), (6, .int (t.2.1))] []) (E := (fun e : Int32 × g_St => g_V g_KM 13 x 7 (g_qi g_KM 13 x z) e.2 105 [(0, .ref (g_ad x v0)), (2, .int (v2)), (3, .int (e.1)), (4, .int (v4))] [])) (fun t r hb hc => vb_X8_isAsSeen_50 X v0 v2 v4 r3 t.1 t.2.1 hk_v0 t.2.2 hb hc) fu (v3, (0 : Int32), (g_u Sr3.1 a4 i5 r3, Sr3.2)) e he ?_
    obtain ⟨w3_1, S1⟩ := e
    show g_V g_KM 13 x 7 (g_qi g_KM 13 x z) S1 105 [(0, .ref (g_ad x v0)), (2, .int (v2)), (3, .int (w3_1)), (4, .int (v4))] []
    refine g_iinc X [(4, _), (0, _), (2, _), (3, _)] dX8_isAsSeen_105 3 rfl rfl (by decide) rfl ?_
    refine g_goto X 17 dX8_isAsSeen_108 (by decide) ?_
    cases h
    exact g_sub [1, 2, 3, 0] _ rfl hc
set_option maxRecDepth 100000 in
set_option maxHeartbeats 400000 in
theorem ct_X8_isAsSeen {l : Launch} {D : va_G} {ad : Nat → Nat} {cy : Nat → ClassId} {zz : (Nat → Nat) × (Nat → Nat)} (hinj : ∀ i j, i < 13 → j < 13 → ad i = ad j → i = j) {fu : Nat} (o : Nat) (p0 : Int32) (p1 : Int32) (hk_o : o < 13 ∧ g_KM o = g_kX8) {S : g_St} (z : Int32 × g_St) (h : f_X8_isAsSeen fu o p0 p1 S = some z) : g_Mi l g_KM 13 D ad cy zz yX8_isAsSeen wsX8_isAsSeen rm_X8_isAsSeen [.ref (ad o), .int (p0), .int (p1)] S z := by
  refine g_ofi hinj (cc := cX8_isAsSeen) (maxL := 7) (ret := (some .boolean)) (lv := [(0, .ref (ad o)), (1, .int (p0)), (2, .int (p1))]) (by decide) rfl (Nat.le_of_ble_eq_true rfl) rfl ?_
  intro x X hl hD ha hy hz
  subst hl hD ha hy hz
  unfold f_X8_isAsSeen at h
  refine g_aload_n X dX8_isAsSeen_0 0 rfl ?_
  refine g_iload_n X dX8_isAsSeen_1 1 rfl ?_
  refine g_sipush X (v := (180)) dX8_isAsSeen_2 (by decide) ?_
  refine g_callVv X g_cX8 hk_o [.int (p0), .int ((180 : Int32))] rfl (cwV 2 X.2.2.2.2.1 gX8_isAsSeen_X8_copies rfl rfl rfl hd_X8_copies ⟨Nat.le_of_ble_eq_true rfl, Nat.le_of_ble_eq_true rfl⟩) (Nat.le_of_ble_eq_true rfl) dX8_isAsSeen_5 h (fun q hq => ct_X8_copies X.2.2.2.2.2.2.1 o p0 ((180 : Int32)) hk_o _ hq) (fun _ Sr1 h => ?_)
  refine g_aload_n X dX8_isAsSeen_8 0 rfl ?_
  refine g_callVv X g_cX8 hk_o [] rfl (cwV 0 X.2.2.2.2.1 gX8_isAsSeen_X8_starts rfl rfl rfl hd_X8_starts ⟨Nat.le_of_ble_eq_true rfl, Nat.le_of_ble_eq_true rfl⟩) (Nat.le_of_ble_eq_true rfl) dX8_isAsSeen_9 h (fun q hq => ct_X8_starts X.2.2.2.2.2.2.1 o hk_o _ hq) (fun _ Sr2 h => ?_)
  refine g_iconst X (v := 1) dX8_isAsSeen_12 (by decide) ?_
  refine g_istore_n X [(3, _), (0, _), (1, _), (2, _)] dX8_isAsSeen_13 (by decide) rfl ?_
  refine g_iconst X (v := 0) dX8_isAsSeen_14 (by decide) ?_
  refine g_istore X [(4, _), (3, _), (0, _), (1, _), (2, _)] dX8_isAsSeen_15 (by decide) rfl ?_
  obtain ⟨e, he, h⟩ := g_th_s h
  refine g_sub [2, 4, 1, 0] _ rfl ?_
  refine g_lp_w (body := (fun t => b_X8_isAsSeen_17 fu o p1 t.1 t.2.1 t.2.2)) (P := fun t : Int32 × Int32 × g_St => g_V g_KM 13 x 7 (g_qi g_KM 13 x z) t.2.2 17 [(0, .ref (g_ad x o)), (2, .int (p1)), (3, .int (t.1)), (4, .int (t.2.1))] []) (E := (fun e : Int32 × g_St => g_V g_KM 13 x 7 (g_qi g_KM 13 x z) e.2 111 [(3, .int (e.1))] [])) (fun t r hb hc => vb_X8_isAsSeen_17 X o p1 t.1 t.2.1 hk_o t.2.2 hb hc) fu ((1 : Int32), (0 : Int32), Sr2) e he ?_
  obtain ⟨w3_2, S2⟩ := e
  show g_V g_KM 13 x 7 (g_qi g_KM 13 x z) S2 111 [(3, .int (w3_2))] []
  refine g_iload_n X dX8_isAsSeen_111 0 rfl ?_
  exact g_zret X h dX8_isAsSeen_112
abbrev rm_X8_kinds : Room := { frames := 5, cells := 0, slots := 0, locals := 117 }
theorem hd_X8_kinds : yX8_kinds.cls = RX8 ∧ yX8_kinds.cls ≠ "java/lang/invoke/MethodHandle" ∧ yX8_kinds.cls ≠ "java/lang/invoke/VarHandle" ∧ (parseMethodDescriptor yX8_kinds.desc).map (fun d => d.parameters.length) = some 1 := by decide +kernel
theorem w_X8_kinds_7 : Cond.fieldLink RX8 7 "TokenDoorsModel" "state" "[I" ∈ wsX8_kinds := by decide +kernel
theorem w_X8_kinds_inX8 : ∀ w ∈ wsX80, w ∈ wsX8_kinds := by decide +kernel
def j_X8_kinds_57_in22 (fu : Nat) (v0 : Nat) (v1 : Int32) (v3 : Int32) (s0 : Int32) (s1 : Int32) (S : g_St) : Option ((Int32 × Int32 × g_St) ⊕ (Int32 × g_St)) :=
  some (.inl ((s0 ||| s1), (v3 + 1), S))
def b_X8_kinds_22 (fu : Nat) (v0 : Nat) (v1 : Int32) (v2 : Int32) (v3 : Int32) (S : g_St) : Option ((Int32 × Int32 × g_St) ⊕ (Int32 × g_St)) :=
  if (4 : Int32) ≤ v3 then (some (.inr (v2, S))) else (g_ld g_KM 13 (.inr (0, 270, false)) (S.2 v0 0) fun a3 => g_ix ((225 : Int32) + v1) 270 fun i4 => g_bd (f_X8_isAsSeen fu v0 ((225 : Int32)) ((0 : Int32)) (g_u S.1 a3 i4 v3, S.2)) fun r5 Sr5 => if r5 = 0 then (j_X8_kinds_57_in22 fu v0 v1 v3 v2 ((0 : Int32)) Sr5) else (j_X8_kinds_57_in22 fu v0 v1 v3 v2 (((1 : Int32) <<< (v3 &&& 31))) Sr5))
def f_X8_kinds (fu : Nat) (o : Nat) (p0 : Int32) (S : g_St) : Option (Int32 × g_St) :=
  g_bd (f_X8_isDoor fu o p0 S) fun r1 Sr1 => if r1 = 0 then (some ((-1 : Int32), Sr1)) else (g_bd (f_X8_copies fu o ((0 : Int32)) ((225 : Int32)) Sr1) fun _ Sr2 => g_th (g_lp (fun t => b_X8_kinds_22 fu o p0 t.1 t.2.1 t.2.2) fu ((0 : Int32), (0 : Int32), Sr2)) fun e => match e with | (w2_1, S1) => some (w2_1, S1))
set_option maxRecDepth 100000 in
set_option maxHeartbeats 400000 in
theorem vj_X8_kinds_57_in22 {x : g_CX} {z : Int32 × g_St} {fu : Nat} (X : g_X 13 x cX8_kinds RX8 4 wsX8_kinds rm_X8_kinds (some .int)) (v0 : Nat) (v1 : Int32) (v3 : Int32) (s0 : Int32) (s1 : Int32) (hk_v0 : v0 < 13 ∧ g_KM v0 = g_kX8) (S : g_St) {r : (Int32 × Int32 × g_St) ⊕ (Int32 × g_St)} (h : j_X8_kinds_57_in22 fu v0 v1 v3 s0 s1 S = some r) (hc : Sum.elim (fun t : Int32 × Int32 × g_St => g_V g_KM 13 x 4 (g_qi g_KM 13 x z) t.2.2 22 [(0, .ref (g_ad x v0)), (1, .int (v1)), (2, .int (t.1)), (3, .int (t.2.1))] []) (fun e : Int32 × g_St => g_V g_KM 13 x 4 (g_qi g_KM 13 x z) e.2 65 [(2, .int (e.1))] []) r) : g_V g_KM 13 x 4 (g_qi g_KM 13 x z) S 57 [(0, .ref (g_ad x v0)), (1, .int (v1)), (3, .int (v3))] [.int (s1), .int (s0)] := by
  unfold j_X8_kinds_57_in22 at h
  refine g_ior X dX8_kinds_57 ?_
  refine g_istore_n X [(2, _), (0, _), (1, _), (3, _)] dX8_kinds_58 (by decide) rfl ?_
  refine g_iinc X [(3, _), (2, _), (0, _), (1, _)] dX8_kinds_59 3 rfl rfl (by decide) rfl ?_
  refine g_goto X 22 dX8_kinds_62 (by decide) ?_
  cases h
  exact g_sub [2, 3, 1, 0] _ rfl hc
set_option maxRecDepth 100000 in
set_option maxHeartbeats 400000 in
theorem vb_X8_kinds_22 {x : g_CX} {z : Int32 × g_St} {fu : Nat} (X : g_X 13 x cX8_kinds RX8 4 wsX8_kinds rm_X8_kinds (some .int)) (v0 : Nat) (v1 : Int32) (v2 : Int32) (v3 : Int32) (hk_v0 : v0 < 13 ∧ g_KM v0 = g_kX8) (S : g_St) {r : (Int32 × Int32 × g_St) ⊕ (Int32 × g_St)} (h : b_X8_kinds_22 fu v0 v1 v2 v3 S = some r) (hc : Sum.elim (fun t : Int32 × Int32 × g_St => g_V g_KM 13 x 4 (g_qi g_KM 13 x z) t.2.2 22 [(0, .ref (g_ad x v0)), (1, .int (v1)), (2, .int (t.1)), (3, .int (t.2.1))] []) (fun e : Int32 × g_St => g_V g_KM 13 x 4 (g_qi g_KM 13 x z) e.2 65 [(2, .int (e.1))] []) r) : g_V g_KM 13 x 4 (g_qi g_KM 13 x z) S 22 [(0, .ref (g_ad x v0)), (1, .int (v1)), (2, .int (v2)), (3, .int (v3))] [] := by
  unfold b_X8_kinds_22 at h
  refine g_iload_n X dX8_kinds_22 3 rfl ?_
  refine g_iconst X (v := 4) dX8_kinds_23 (by decide) ?_
  refine g_icmp_ge X 65 dX8_kinds_24 (by decide) h (fun c_24 h => ?_) (fun c_24 h => ?_)
  · skip
    cases h
    exact g_sub [2] _ rfl hc
  · skip
    refine g_aload_n X dX8_kinds_27 0 rfl ?_
    refine g_getr X g_cX8 w_X8_kinds_inX8 0 (by decide) w_X8_kinds_7 hk_v0 rfl dX8_kinds_28 h (fun a3 hk_a3 h => ?_)
    refine g_sipush X (v := (225)) dX8_kinds_31 (by decide) ?_
    refine g_iload_n X dX8_kinds_34 1 rfl ?_
    refine g_iadd X dX8_kinds_35 ?_
    refine g_iload_n X dX8_kinds_36 3 rfl ?_
    refine g_iast X hk_a3 dX8_kinds_37 h (fun i4 _ h => ?_)
    refine g_iload_n X dX8_kinds_38 2 rfl ?_
    refine g_aload_n X dX8_kinds_39 0 rfl ?_
    refine g_sipush X (v := (225)) dX8_kinds_40 (by decide) ?_
    refine g_iconst X (v := 0) dX8_kinds_43 (by decide) ?_
    refine g_callVi X g_cX8 hk_v0 [.int ((225 : Int32)), .int ((0 : Int32))] rfl (cwV 2 X.2.2.2.2.1 gX8_kinds_X8_isAsSeen rfl rfl rfl hd_X8_isAsSeen ⟨Nat.le_of_ble_eq_true rfl, Nat.le_of_ble_eq_true rfl⟩) (Nat.le_of_ble_eq_true rfl) dX8_kinds_44 h (fun q hq => ct_X8_isAsSeen X.2.2.2.2.2.2.1 v0 ((225 : Int32)) ((0 : Int32)) hk_v0 _ hq) (fun r5 Sr5 h => ?_)
    refine g_if_eq X 56 dX8_kinds_47 (by decide) h (fun c_47 h => ?_) (fun c_47 h => ?_)
    · skip
      refine g_iconst X (v := 0) dX8_kinds_56 (by decide) ?_
      refine g_sub [0, 1, 3] _ rfl ?_
      exact vj_X8_kinds_57_in22 X v0 v1 v3 v2 ((0 : Int32)) hk_v0 _ h hc
    · skip
      refine g_iconst X (v := 1) dX8_kinds_50 (by decide) ?_
      refine g_iload_n X dX8_kinds_51 3 rfl ?_
      refine g_ishl X dX8_kinds_52 ?_
      refine g_goto X 57 dX8_kinds_53 (by decide) ?_
      refine g_sub [0, 1, 3] _ rfl ?_
      exact vj_X8_kinds_57_in22 X v0 v1 v3 v2 (((1 : Int32) <<< (v3 &&& 31))) hk_v0 _ h hc
set_option maxRecDepth 100000 in
set_option maxHeartbeats 400000 in
theorem ct_X8_kinds {l : Launch} {D : va_G} {ad : Nat → Nat} {cy : Nat → ClassId} {zz : (Nat → Nat) × (Nat → Nat)} (hinj : ∀ i j, i < 13 → j < 13 → ad i = ad j → i = j) {fu : Nat} (o : Nat) (p0 : Int32) (hk_o : o < 13 ∧ g_KM o = g_kX8) {S : g_St} (z : Int32 × g_St) (h : f_X8_kinds fu o p0 S = some z) : g_Mi l g_KM 13 D ad cy zz yX8_kinds wsX8_kinds rm_X8_kinds [.ref (ad o), .int (p0)] S z := by
  refine g_ofi hinj (cc := cX8_kinds) (maxL := 4) (ret := (some .int)) (lv := [(0, .ref (ad o)), (1, .int (p0))]) (by decide) rfl (Nat.le_of_ble_eq_true rfl) rfl ?_
  intro x X hl hD ha hy hz
  subst hl hD ha hy hz
  unfold f_X8_kinds at h
  refine g_aload_n X dX8_kinds_0 0 rfl ?_
  refine g_iload_n X dX8_kinds_1 1 rfl ?_
  refine g_callVi X g_cX8 hk_o [.int (p0)] rfl (cwV 1 X.2.2.2.2.1 gX8_kinds_X8_isDoor rfl rfl rfl hd_X8_isDoor ⟨Nat.le_of_ble_eq_true rfl, Nat.le_of_ble_eq_true rfl⟩) (Nat.le_of_ble_eq_true rfl) dX8_kinds_2 h (fun q hq => ct_X8_isDoor X.2.2.2.2.2.2.1 o p0 hk_o _ hq) (fun r1 Sr1 h => ?_)
  refine g_if_ne X 10 dX8_kinds_5 (by decide) h (fun c_5 h => ?_) (fun c_5 h => ?_)
  · skip
    refine g_iconst X (v := 0) dX8_kinds_10 (by decide) ?_
    refine g_istore_n X [(2, _), (0, _), (1, _)] dX8_kinds_11 (by decide) rfl ?_
    refine g_aload_n X dX8_kinds_12 1 rfl ?_
    refine g_iconst X (v := 0) dX8_kinds_13 (by decide) ?_
    refine g_sipush X (v := (225)) dX8_kinds_14 (by decide) ?_
    refine g_callVv X g_cX8 hk_o [.int ((0 : Int32)), .int ((225 : Int32))] rfl (cwV 2 X.2.2.2.2.1 gX8_kinds_X8_copies rfl rfl rfl hd_X8_copies ⟨Nat.le_of_ble_eq_true rfl, Nat.le_of_ble_eq_true rfl⟩) (Nat.le_of_ble_eq_true rfl) dX8_kinds_17 h (fun q hq => ct_X8_copies X.2.2.2.2.2.2.1 o ((0 : Int32)) ((225 : Int32)) hk_o _ hq) (fun _ Sr2 h => ?_)
    refine g_iconst X (v := 0) dX8_kinds_20 (by decide) ?_
    refine g_istore_n X [(3, _), (2, _), (0, _), (1, _)] dX8_kinds_21 (by decide) rfl ?_
    obtain ⟨e, he, h⟩ := g_th_s h
    refine g_sub [2, 3, 1, 0] _ rfl ?_
    refine g_lp_w (body := (fun t => b_X8_kinds_22 fu o p0 t.1 t.2.1 t.2.2)) (P := fun t : Int32 × Int32 × g_St => g_V g_KM 13 x 4 (g_qi g_KM 13 x z) t.2.2 22 [(0, .ref (g_ad x o)), (1, .int (p0)), (2, .int (t.1)), (3, .int (t.2.1))] []) (E := (fun e : Int32 × g_St => g_V g_KM 13 x 4 (g_qi g_KM 13 x z) e.2 65 [(2, .int (e.1))] [])) (fun t r hb hc => vb_X8_kinds_22 X o p0 t.1 t.2.1 hk_o t.2.2 hb hc) fu ((0 : Int32), (0 : Int32), Sr2) e he ?_
    obtain ⟨w2_1, S1⟩ := e
    show g_V g_KM 13 x 4 (g_qi g_KM 13 x z) S1 65 [(2, .int (w2_1))] []
    refine g_iload_n X dX8_kinds_65 0 rfl ?_
    exact g_iret X h dX8_kinds_66
  · skip
    refine g_iconst X (v := (-1)) dX8_kinds_8 (by decide) ?_
    exact g_iret X h dX8_kinds_9
abbrev rm_X8_depths : Room := { frames := 5, cells := 0, slots := 0, locals := 117 }
theorem hd_X8_depths : yX8_depths.cls = RX8 ∧ yX8_depths.cls ≠ "java/lang/invoke/MethodHandle" ∧ yX8_depths.cls ≠ "java/lang/invoke/VarHandle" ∧ (parseMethodDescriptor yX8_depths.desc).map (fun d => d.parameters.length) = some 1 := by decide +kernel
def j_X8_depths_56_in14 (fu : Nat) (v0 : Nat) (v1 : Int32) (v3 : Int32) (s0 : Int32) (s1 : Int32) (S : g_St) : Option ((Int32 × Int32 × g_St) ⊕ (Int32 × g_St)) :=
  some (.inl ((s0 ||| s1), (v3 + 1), S))
def b_X8_depths_14 (fu : Nat) (v0 : Nat) (v1 : Int32) (v2 : Int32) (v3 : Int32) (S : g_St) : Option ((Int32 × Int32 × g_St) ⊕ (Int32 × g_St)) :=
  if (9 : Int32) < v3 then (some (.inr (v2, S))) else (g_bd (f_X8_copies fu v0 ((0 : Int32)) ((225 : Int32)) S) fun _ Sr2 => g_bd (f_X8_deepOn fu v0 ((225 : Int32)) v1 v3 Sr2) fun _ Sr3 => g_bd (f_X8_isAsSeen fu v0 ((225 : Int32)) ((0 : Int32)) Sr3) fun r4 Sr4 => if r4 = 0 then (j_X8_depths_56_in14 fu v0 v1 v3 v2 ((0 : Int32)) Sr4) else (j_X8_depths_56_in14 fu v0 v1 v3 v2 (((1 : Int32) <<< (v3 &&& 31))) Sr4))
def f_X8_depths (fu : Nat) (o : Nat) (p0 : Int32) (S : g_St) : Option (Int32 × g_St) :=
  g_bd (f_X8_isDoor fu o p0 S) fun r1 Sr1 => if r1 = 0 then (some ((-1 : Int32), Sr1)) else (g_th (g_lp (fun t => b_X8_depths_14 fu o p0 t.1 t.2.1 t.2.2) fu ((0 : Int32), (1 : Int32), Sr1)) fun e => match e with | (w2_1, S1) => some (w2_1, S1))
set_option maxRecDepth 100000 in
set_option maxHeartbeats 400000 in
theorem vj_X8_depths_56_in14 {x : g_CX} {z : Int32 × g_St} {fu : Nat} (X : g_X 13 x cX8_depths RX8 4 wsX8_depths rm_X8_depths (some .int)) (v0 : Nat) (v1 : Int32) (v3 : Int32) (s0 : Int32) (s1 : Int32) (hk_v0 : v0 < 13 ∧ g_KM v0 = g_kX8) (S : g_St) {r : (Int32 × Int32 × g_St) ⊕ (Int32 × g_St)} (h : j_X8_depths_56_in14 fu v0 v1 v3 s0 s1 S = some r) (hc : Sum.elim (fun t : Int32 × Int32 × g_St => g_V g_KM 13 x 4 (g_qi g_KM 13 x z) t.2.2 14 [(0, .ref (g_ad x v0)), (1, .int (v1)), (2, .int (t.1)), (3, .int (t.2.1))] []) (fun e : Int32 × g_St => g_V g_KM 13 x 4 (g_qi g_KM 13 x z) e.2 64 [(2, .int (e.1))] []) r) : g_V g_KM 13 x 4 (g_qi g_KM 13 x z) S 56 [(0, .ref (g_ad x v0)), (1, .int (v1)), (3, .int (v3))] [.int (s1), .int (s0)] := by
  unfold j_X8_depths_56_in14 at h
  refine g_ior X dX8_depths_56 ?_
  refine g_istore_n X [(2, _), (0, _), (1, _), (3, _)] dX8_depths_57 (by decide) rfl ?_
  refine g_iinc X [(3, _), (2, _), (0, _), (1, _)] dX8_depths_58 3 rfl rfl (by decide) rfl ?_
  refine g_goto X 14 dX8_depths_61 (by decide) ?_
  cases h
  exact g_sub [2, 3, 1, 0] _ rfl hc
set_option maxRecDepth 100000 in
set_option maxHeartbeats 400000 in
theorem vb_X8_depths_14 {x : g_CX} {z : Int32 × g_St} {fu : Nat} (X : g_X 13 x cX8_depths RX8 4 wsX8_depths rm_X8_depths (some .int)) (v0 : Nat) (v1 : Int32) (v2 : Int32) (v3 : Int32) (hk_v0 : v0 < 13 ∧ g_KM v0 = g_kX8) (S : g_St) {r : (Int32 × Int32 × g_St) ⊕ (Int32 × g_St)} (h : b_X8_depths_14 fu v0 v1 v2 v3 S = some r) (hc : Sum.elim (fun t : Int32 × Int32 × g_St => g_V g_KM 13 x 4 (g_qi g_KM 13 x z) t.2.2 14 [(0, .ref (g_ad x v0)), (1, .int (v1)), (2, .int (t.1)), (3, .int (t.2.1))] []) (fun e : Int32 × g_St => g_V g_KM 13 x 4 (g_qi g_KM 13 x z) e.2 64 [(2, .int (e.1))] []) r) : g_V g_KM 13 x 4 (g_qi g_KM 13 x z) S 14 [(0, .ref (g_ad x v0)), (1, .int (v1)), (2, .int (v2)), (3, .int (v3))] [] := by
  unfold b_X8_depths_14 at h
  refine g_iload_n X dX8_depths_14 3 rfl ?_
  refine g_bipush X (v := (9)) dX8_depths_15 (by decide) ?_
  refine g_icmp_gt X 64 dX8_depths_17 (by decide) h (fun c_17 h => ?_) (fun c_17 h => ?_)
  · skip
    cases h
    exact g_sub [2] _ rfl hc
  · skip
    refine g_aload_n X dX8_depths_20 0 rfl ?_
    refine g_iconst X (v := 0) dX8_depths_21 (by decide) ?_
    refine g_sipush X (v := (225)) dX8_depths_22 (by decide) ?_
    refine g_callVv X g_cX8 hk_v0 [.int ((0 : Int32)), .int ((225 : Int32))] rfl (cwV 2 X.2.2.2.2.1 gX8_depths_X8_copies rfl rfl rfl hd_X8_copies ⟨Nat.le_of_ble_eq_true rfl, Nat.le_of_ble_eq_true rfl⟩) (Nat.le_of_ble_eq_true rfl) dX8_depths_25 h (fun q hq => ct_X8_copies X.2.2.2.2.2.2.1 v0 ((0 : Int32)) ((225 : Int32)) hk_v0 _ hq) (fun _ Sr2 h => ?_)
    refine g_aload_n X dX8_depths_28 0 rfl ?_
    refine g_sipush X (v := (225)) dX8_depths_29 (by decide) ?_
    refine g_iload_n X dX8_depths_32 1 rfl ?_
    refine g_iload_n X dX8_depths_33 3 rfl ?_
    refine g_callVv X g_cX8 hk_v0 [.int ((225 : Int32)), .int (v1), .int (v3)] rfl (cwV 3 X.2.2.2.2.1 gX8_depths_X8_deepOn rfl rfl rfl hd_X8_deepOn ⟨Nat.le_of_ble_eq_true rfl, Nat.le_of_ble_eq_true rfl⟩) (Nat.le_of_ble_eq_true rfl) dX8_depths_34 h (fun q hq => ct_X8_deepOn X.2.2.2.2.2.2.1 v0 ((225 : Int32)) v1 v3 hk_v0 _ hq) (fun _ Sr3 h => ?_)
    refine g_iload_n X dX8_depths_37 2 rfl ?_
    refine g_aload_n X dX8_depths_38 0 rfl ?_
    refine g_sipush X (v := (225)) dX8_depths_39 (by decide) ?_
    refine g_iconst X (v := 0) dX8_depths_42 (by decide) ?_
    refine g_callVi X g_cX8 hk_v0 [.int ((225 : Int32)), .int ((0 : Int32))] rfl (cwV 2 X.2.2.2.2.1 gX8_depths_X8_isAsSeen rfl rfl rfl hd_X8_isAsSeen ⟨Nat.le_of_ble_eq_true rfl, Nat.le_of_ble_eq_true rfl⟩) (Nat.le_of_ble_eq_true rfl) dX8_depths_43 h (fun q hq => ct_X8_isAsSeen X.2.2.2.2.2.2.1 v0 ((225 : Int32)) ((0 : Int32)) hk_v0 _ hq) (fun r4 Sr4 h => ?_)
    refine g_if_eq X 55 dX8_depths_46 (by decide) h (fun c_46 h => ?_) (fun c_46 h => ?_)
    · skip
      refine g_iconst X (v := 0) dX8_depths_55 (by decide) ?_
      refine g_sub [0, 1, 3] _ rfl ?_
      exact vj_X8_depths_56_in14 X v0 v1 v3 v2 ((0 : Int32)) hk_v0 _ h hc
    · skip
      refine g_iconst X (v := 1) dX8_depths_49 (by decide) ?_
      refine g_iload_n X dX8_depths_50 3 rfl ?_
      refine g_ishl X dX8_depths_51 ?_
      refine g_goto X 56 dX8_depths_52 (by decide) ?_
      refine g_sub [0, 1, 3] _ rfl ?_
      exact vj_X8_depths_56_in14 X v0 v1 v3 v2 (((1 : Int32) <<< (v3 &&& 31))) hk_v0 _ h hc
set_option maxRecDepth 100000 in
set_option maxHeartbeats 400000 in
theorem ct_X8_depths {l : Launch} {D : va_G} {ad : Nat → Nat} {cy : Nat → ClassId} {zz : (Nat → Nat) × (Nat → Nat)} (hinj : ∀ i j, i < 13 → j < 13 → ad i = ad j → i = j) {fu : Nat} (o : Nat) (p0 : Int32) (hk_o : o < 13 ∧ g_KM o = g_kX8) {S : g_St} (z : Int32 × g_St) (h : f_X8_depths fu o p0 S = some z) : g_Mi l g_KM 13 D ad cy zz yX8_depths wsX8_depths rm_X8_depths [.ref (ad o), .int (p0)] S z := by
  refine g_ofi hinj (cc := cX8_depths) (maxL := 4) (ret := (some .int)) (lv := [(0, .ref (ad o)), (1, .int (p0))]) (by decide) rfl (Nat.le_of_ble_eq_true rfl) rfl ?_
  intro x X hl hD ha hy hz
  subst hl hD ha hy hz
  unfold f_X8_depths at h
  refine g_aload_n X dX8_depths_0 0 rfl ?_
  refine g_iload_n X dX8_depths_1 1 rfl ?_
  refine g_callVi X g_cX8 hk_o [.int (p0)] rfl (cwV 1 X.2.2.2.2.1 gX8_depths_X8_isDoor rfl rfl rfl hd_X8_isDoor ⟨Nat.le_of_ble_eq_true rfl, Nat.le_of_ble_eq_true rfl⟩) (Nat.le_of_ble_eq_true rfl) dX8_depths_2 h (fun q hq => ct_X8_isDoor X.2.2.2.2.2.2.1 o p0 hk_o _ hq) (fun r1 Sr1 h => ?_)
  refine g_if_ne X 10 dX8_depths_5 (by decide) h (fun c_5 h => ?_) (fun c_5 h => ?_)
  · skip
    refine g_iconst X (v := 0) dX8_depths_10 (by decide) ?_
    refine g_istore_n X [(2, _), (0, _), (1, _)] dX8_depths_11 (by decide) rfl ?_
    refine g_iconst X (v := 1) dX8_depths_12 (by decide) ?_
    refine g_istore_n X [(3, _), (2, _), (0, _), (1, _)] dX8_depths_13 (by decide) rfl ?_
    obtain ⟨e, he, h⟩ := g_th_s h
    refine g_sub [2, 3, 1, 0] _ rfl ?_
    refine g_lp_w (body := (fun t => b_X8_depths_14 fu o p0 t.1 t.2.1 t.2.2)) (P := fun t : Int32 × Int32 × g_St => g_V g_KM 13 x 4 (g_qi g_KM 13 x z) t.2.2 14 [(0, .ref (g_ad x o)), (1, .int (p0)), (2, .int (t.1)), (3, .int (t.2.1))] []) (E := (fun e : Int32 × g_St => g_V g_KM 13 x 4 (g_qi g_KM 13 x z) e.2 64 [(2, .int (e.1))] [])) (fun t r hb hc => vb_X8_depths_14 X o p0 t.1 t.2.1 hk_o t.2.2 hb hc) fu ((0 : Int32), (1 : Int32), Sr1) e he ?_
    obtain ⟨w2_1, S1⟩ := e
    show g_V g_KM 13 x 4 (g_qi g_KM 13 x z) S1 64 [(2, .int (w2_1))] []
    refine g_iload_n X dX8_depths_64 0 rfl ?_
    exact g_iret X h dX8_depths_65
  · skip
    refine g_iconst X (v := (-1)) dX8_depths_8 (by decide) ?_
    exact g_iret X h dX8_depths_9
abbrev rm_X8_ratesOf : Room := { frames := 5, cells := 0, slots := 0, locals := 117 }
theorem hd_X8_ratesOf : yX8_ratesOf.cls = RX8 ∧ yX8_ratesOf.cls ≠ "java/lang/invoke/MethodHandle" ∧ yX8_ratesOf.cls ≠ "java/lang/invoke/VarHandle" ∧ (parseMethodDescriptor yX8_ratesOf.desc).map (fun d => d.parameters.length) = some 1 := by decide +kernel
theorem w_X8_ratesOf_7 : Cond.fieldLink RX8 7 "TokenDoorsModel" "state" "[I" ∈ wsX8_ratesOf := by decide +kernel
theorem w_X8_ratesOf_inX8 : ∀ w ∈ wsX80, w ∈ wsX8_ratesOf := by decide +kernel
def j_X8_ratesOf_48_in12 (fu : Nat) (v0 : Nat) (v1 : Int32) (v3 : Int32) (s0 : Int32) (s1 : Int32) (S : g_St) : Option ((Int32 × Int32 × g_St) ⊕ (Int32 × g_St)) :=
  some (.inl ((s0 ||| s1), (v3 + 1), S))
def b_X8_ratesOf_12 (fu : Nat) (v0 : Nat) (v1 : Int32) (v2 : Int32) (v3 : Int32) (S : g_St) : Option ((Int32 × Int32 × g_St) ⊕ (Int32 × g_St)) :=
  if (9 : Int32) < v3 then (some (.inr (v2, S))) else (g_ld g_KM 13 (.inr (0, 270, false)) (S.2 v0 0) fun a2 => g_ix ((233 : Int32) + v1) 270 fun i3 => g_bd (f_X8_isAsSeen fu v0 ((225 : Int32)) v3 (g_u S.1 a2 i3 v3, S.2)) fun r4 Sr4 => if r4 = 0 then (j_X8_ratesOf_48_in12 fu v0 v1 v3 v2 ((0 : Int32)) Sr4) else (j_X8_ratesOf_48_in12 fu v0 v1 v3 v2 (((1 : Int32) <<< (v3 &&& 31))) Sr4))
def f_X8_ratesOf (fu : Nat) (o : Nat) (p0 : Int32) (S : g_St) : Option (Int32 × g_St) :=
  g_bd (f_X8_copies fu o ((0 : Int32)) ((225 : Int32)) S) fun _ Sr1 => g_th (g_lp (fun t => b_X8_ratesOf_12 fu o p0 t.1 t.2.1 t.2.2) fu ((0 : Int32), (0 : Int32), Sr1)) fun e => match e with | (w2_1, S1) => some (w2_1, S1)
set_option maxRecDepth 100000 in
set_option maxHeartbeats 400000 in
theorem vj_X8_ratesOf_48_in12 {x : g_CX} {z : Int32 × g_St} {fu : Nat} (X : g_X 13 x cX8_ratesOf RX8 4 wsX8_ratesOf rm_X8_ratesOf (some .int)) (v0 : Nat) (v1 : Int32) (v3 : Int32) (s0 : Int32) (s1 : Int32) (hk_v0 : v0 < 13 ∧ g_KM v0 = g_kX8) (S : g_St) {r : (Int32 × Int32 × g_St) ⊕ (Int32 × g_St)} (h : j_X8_ratesOf_48_in12 fu v0 v1 v3 s0 s1 S = some r) (hc : Sum.elim (fun t : Int32 × Int32 × g_St => g_V g_KM 13 x 4 (g_qi g_KM 13 x z) t.2.2 12 [(0, .ref (g_ad x v0)), (1, .int (v1)), (2, .int (t.1)), (3, .int (t.2.1))] []) (fun e : Int32 × g_St => g_V g_KM 13 x 4 (g_qi g_KM 13 x z) e.2 56 [(2, .int (e.1))] []) r) : g_V g_KM 13 x 4 (g_qi g_KM 13 x z) S 48 [(0, .ref (g_ad x v0)), (1, .int (v1)), (3, .int (v3))] [.int (s1), .int (s0)] := by
  unfold j_X8_ratesOf_48_in12 at h
  refine g_ior X dX8_ratesOf_48 ?_
  refine g_istore_n X [(2, _), (0, _), (1, _), (3, _)] dX8_ratesOf_49 (by decide) rfl ?_
  refine g_iinc X [(3, _), (2, _), (0, _), (1, _)] dX8_ratesOf_50 3 rfl rfl (by decide) rfl ?_
  refine g_goto X 12 dX8_ratesOf_53 (by decide) ?_
  cases h
  exact g_sub [2, 3, 1, 0] _ rfl hc
set_option maxRecDepth 100000 in
set_option maxHeartbeats 400000 in
theorem vb_X8_ratesOf_12 {x : g_CX} {z : Int32 × g_St} {fu : Nat} (X : g_X 13 x cX8_ratesOf RX8 4 wsX8_ratesOf rm_X8_ratesOf (some .int)) (v0 : Nat) (v1 : Int32) (v2 : Int32) (v3 : Int32) (hk_v0 : v0 < 13 ∧ g_KM v0 = g_kX8) (S : g_St) {r : (Int32 × Int32 × g_St) ⊕ (Int32 × g_St)} (h : b_X8_ratesOf_12 fu v0 v1 v2 v3 S = some r) (hc : Sum.elim (fun t : Int32 × Int32 × g_St => g_V g_KM 13 x 4 (g_qi g_KM 13 x z) t.2.2 12 [(0, .ref (g_ad x v0)), (1, .int (v1)), (2, .int (t.1)), (3, .int (t.2.1))] []) (fun e : Int32 × g_St => g_V g_KM 13 x 4 (g_qi g_KM 13 x z) e.2 56 [(2, .int (e.1))] []) r) : g_V g_KM 13 x 4 (g_qi g_KM 13 x z) S 12 [(0, .ref (g_ad x v0)), (1, .int (v1)), (2, .int (v2)), (3, .int (v3))] [] := by
  unfold b_X8_ratesOf_12 at h
  refine g_iload_n X dX8_ratesOf_12 3 rfl ?_
  refine g_bipush X (v := (9)) dX8_ratesOf_13 (by decide) ?_
  refine g_icmp_gt X 56 dX8_ratesOf_15 (by decide) h (fun c_15 h => ?_) (fun c_15 h => ?_)
  · skip
    cases h
    exact g_sub [2] _ rfl hc
  · skip
    refine g_aload_n X dX8_ratesOf_18 0 rfl ?_
    refine g_getr X g_cX8 w_X8_ratesOf_inX8 0 (by decide) w_X8_ratesOf_7 hk_v0 rfl dX8_ratesOf_19 h (fun a2 hk_a2 h => ?_)
    refine g_sipush X (v := (233)) dX8_ratesOf_22 (by decide) ?_
    refine g_iload_n X dX8_ratesOf_25 1 rfl ?_
    refine g_iadd X dX8_ratesOf_26 ?_
    refine g_iload_n X dX8_ratesOf_27 3 rfl ?_
    refine g_iast X hk_a2 dX8_ratesOf_28 h (fun i3 _ h => ?_)
    refine g_iload_n X dX8_ratesOf_29 2 rfl ?_
    refine g_aload_n X dX8_ratesOf_30 0 rfl ?_
    refine g_sipush X (v := (225)) dX8_ratesOf_31 (by decide) ?_
    refine g_iload_n X dX8_ratesOf_34 3 rfl ?_
    refine g_callVi X g_cX8 hk_v0 [.int ((225 : Int32)), .int (v3)] rfl (cwV 2 X.2.2.2.2.1 gX8_ratesOf_X8_isAsSeen rfl rfl rfl hd_X8_isAsSeen ⟨Nat.le_of_ble_eq_true rfl, Nat.le_of_ble_eq_true rfl⟩) (Nat.le_of_ble_eq_true rfl) dX8_ratesOf_35 h (fun q hq => ct_X8_isAsSeen X.2.2.2.2.2.2.1 v0 ((225 : Int32)) v3 hk_v0 _ hq) (fun r4 Sr4 h => ?_)
    refine g_if_eq X 47 dX8_ratesOf_38 (by decide) h (fun c_38 h => ?_) (fun c_38 h => ?_)
    · skip
      refine g_iconst X (v := 0) dX8_ratesOf_47 (by decide) ?_
      refine g_sub [0, 1, 3] _ rfl ?_
      exact vj_X8_ratesOf_48_in12 X v0 v1 v3 v2 ((0 : Int32)) hk_v0 _ h hc
    · skip
      refine g_iconst X (v := 1) dX8_ratesOf_41 (by decide) ?_
      refine g_iload_n X dX8_ratesOf_42 3 rfl ?_
      refine g_ishl X dX8_ratesOf_43 ?_
      refine g_goto X 48 dX8_ratesOf_44 (by decide) ?_
      refine g_sub [0, 1, 3] _ rfl ?_
      exact vj_X8_ratesOf_48_in12 X v0 v1 v3 v2 (((1 : Int32) <<< (v3 &&& 31))) hk_v0 _ h hc
set_option maxRecDepth 100000 in
set_option maxHeartbeats 400000 in
theorem ct_X8_ratesOf {l : Launch} {D : va_G} {ad : Nat → Nat} {cy : Nat → ClassId} {zz : (Nat → Nat) × (Nat → Nat)} (hinj : ∀ i j, i < 13 → j < 13 → ad i = ad j → i = j) {fu : Nat} (o : Nat) (p0 : Int32) (hk_o : o < 13 ∧ g_KM o = g_kX8) {S : g_St} (z : Int32 × g_St) (h : f_X8_ratesOf fu o p0 S = some z) : g_Mi l g_KM 13 D ad cy zz yX8_ratesOf wsX8_ratesOf rm_X8_ratesOf [.ref (ad o), .int (p0)] S z := by
  refine g_ofi hinj (cc := cX8_ratesOf) (maxL := 4) (ret := (some .int)) (lv := [(0, .ref (ad o)), (1, .int (p0))]) (by decide) rfl (Nat.le_of_ble_eq_true rfl) rfl ?_
  intro x X hl hD ha hy hz
  subst hl hD ha hy hz
  unfold f_X8_ratesOf at h
  refine g_iconst X (v := 0) dX8_ratesOf_0 (by decide) ?_
  refine g_istore_n X [(2, _), (0, _), (1, _)] dX8_ratesOf_1 (by decide) rfl ?_
  refine g_aload_n X dX8_ratesOf_2 1 rfl ?_
  refine g_iconst X (v := 0) dX8_ratesOf_3 (by decide) ?_
  refine g_sipush X (v := (225)) dX8_ratesOf_4 (by decide) ?_
  refine g_callVv X g_cX8 hk_o [.int ((0 : Int32)), .int ((225 : Int32))] rfl (cwV 2 X.2.2.2.2.1 gX8_ratesOf_X8_copies rfl rfl rfl hd_X8_copies ⟨Nat.le_of_ble_eq_true rfl, Nat.le_of_ble_eq_true rfl⟩) (Nat.le_of_ble_eq_true rfl) dX8_ratesOf_7 h (fun q hq => ct_X8_copies X.2.2.2.2.2.2.1 o ((0 : Int32)) ((225 : Int32)) hk_o _ hq) (fun _ Sr1 h => ?_)
  refine g_iconst X (v := 0) dX8_ratesOf_10 (by decide) ?_
  refine g_istore_n X [(3, _), (2, _), (0, _), (1, _)] dX8_ratesOf_11 (by decide) rfl ?_
  obtain ⟨e, he, h⟩ := g_th_s h
  refine g_sub [2, 3, 1, 0] _ rfl ?_
  refine g_lp_w (body := (fun t => b_X8_ratesOf_12 fu o p0 t.1 t.2.1 t.2.2)) (P := fun t : Int32 × Int32 × g_St => g_V g_KM 13 x 4 (g_qi g_KM 13 x z) t.2.2 12 [(0, .ref (g_ad x o)), (1, .int (p0)), (2, .int (t.1)), (3, .int (t.2.1))] []) (E := (fun e : Int32 × g_St => g_V g_KM 13 x 4 (g_qi g_KM 13 x z) e.2 56 [(2, .int (e.1))] [])) (fun t r hb hc => vb_X8_ratesOf_12 X o p0 t.1 t.2.1 hk_o t.2.2 hb hc) fu ((0 : Int32), (0 : Int32), Sr1) e he ?_
  obtain ⟨w2_1, S1⟩ := e
  show g_V g_KM 13 x 4 (g_qi g_KM 13 x z) S1 56 [(2, .int (w2_1))] []
  refine g_iload_n X dX8_ratesOf_56 0 rfl ?_
  exact g_iret X h dX8_ratesOf_57
abbrev rm_X8_rates : Room := { frames := 6, cells := 0, slots := 0, locals := 140 }
theorem hd_X8_rates : yX8_rates.cls = RX8 ∧ yX8_rates.cls ≠ "java/lang/invoke/MethodHandle" ∧ yX8_rates.cls ≠ "java/lang/invoke/VarHandle" ∧ (parseMethodDescriptor yX8_rates.desc).map (fun d => d.parameters.length) = some 1 := by decide +kernel
def f_X8_rates (fu : Nat) (o : Nat) (p0 : Int32) (S : g_St) : Option (Int32 × g_St) :=
  g_bd (f_X8_isDoor fu o p0 S) fun r1 Sr1 => if r1 = 0 then (some ((-1 : Int32), Sr1)) else (g_bd (f_X8_ratesOf fu o p0 Sr1) fun r2 Sr2 => some (r2, Sr2))
set_option maxRecDepth 100000 in
set_option maxHeartbeats 400000 in
theorem ct_X8_rates {l : Launch} {D : va_G} {ad : Nat → Nat} {cy : Nat → ClassId} {zz : (Nat → Nat) × (Nat → Nat)} (hinj : ∀ i j, i < 13 → j < 13 → ad i = ad j → i = j) {fu : Nat} (o : Nat) (p0 : Int32) (hk_o : o < 13 ∧ g_KM o = g_kX8) {S : g_St} (z : Int32 × g_St) (h : f_X8_rates fu o p0 S = some z) : g_Mi l g_KM 13 D ad cy zz yX8_rates wsX8_rates rm_X8_rates [.ref (ad o), .int (p0)] S z := by
  refine g_ofi hinj (cc := cX8_rates) (maxL := 2) (ret := (some .int)) (lv := [(0, .ref (ad o)), (1, .int (p0))]) (by decide) rfl (Nat.le_of_ble_eq_true rfl) rfl ?_
  intro x X hl hD ha hy hz
  subst hl hD ha hy hz
  unfold f_X8_rates at h
  refine g_aload_n X dX8_rates_0 0 rfl ?_
  refine g_iload_n X dX8_rates_1 1 rfl ?_
  refine g_callVi X g_cX8 hk_o [.int (p0)] rfl (cwV 1 X.2.2.2.2.1 gX8_rates_X8_isDoor rfl rfl rfl hd_X8_isDoor ⟨Nat.le_of_ble_eq_true rfl, Nat.le_of_ble_eq_true rfl⟩) (Nat.le_of_ble_eq_true rfl) dX8_rates_2 h (fun q hq => ct_X8_isDoor X.2.2.2.2.2.2.1 o p0 hk_o _ hq) (fun r1 Sr1 h => ?_)
  refine g_if_eq X 16 dX8_rates_5 (by decide) h (fun c_5 h => ?_) (fun c_5 h => ?_)
  · skip
    refine g_iconst X (v := (-1)) dX8_rates_16 (by decide) ?_
    exact g_iret X h dX8_rates_17
  · skip
    refine g_aload_n X dX8_rates_8 0 rfl ?_
    refine g_iload_n X dX8_rates_9 1 rfl ?_
    refine g_callVi X g_cX8 hk_o [.int (p0)] rfl (cwV 1 X.2.2.2.2.1 gX8_rates_X8_ratesOf rfl rfl rfl hd_X8_ratesOf ⟨Nat.le_of_ble_eq_true rfl, Nat.le_of_ble_eq_true rfl⟩) (Nat.le_of_ble_eq_true rfl) dX8_rates_10 h (fun q hq => ct_X8_ratesOf X.2.2.2.2.2.2.1 o p0 hk_o _ hq) (fun r2 Sr2 h => ?_)
    refine g_goto X 17 dX8_rates_13 (by decide) ?_
    exact g_iret X h dX8_rates_17
abbrev rm_X8_worstAt : Room := { frames := 0, cells := 0, slots := 0, locals := 0 }
theorem hd_X8_worstAt : yX8_worstAt.cls = RX8 ∧ yX8_worstAt.cls ≠ "java/lang/invoke/MethodHandle" ∧ yX8_worstAt.cls ≠ "java/lang/invoke/VarHandle" ∧ (parseMethodDescriptor yX8_worstAt.desc).map (fun d => d.parameters.length) = some 2 := by decide +kernel
theorem w_X8_worstAt_35 : Cond.fieldLink RX8 35 "TokenDoorsModel" "letBy" "[I" ∈ wsX8_worstAt := by decide +kernel
theorem w_X8_worstAt_inX8 : ∀ w ∈ wsX80, w ∈ wsX8_worstAt := by decide +kernel
def j_X8_worstAt_79_in18 (fu : Nat) (v0 : Nat) (v1 : Int32) (v2 : Int32) (v3 : Int32) (v4 : Int32) (v6 : Int32) (s0 : Int32) (s1 : Int32) (S : g_St) : Option ((Int32 × Int32 × g_St) ⊕ (Int32 × g_St)) :=
  some (.inl ((s0 + s1), (v6 + 1), S))
def j_X8_worstAt_78_in18 (fu : Nat) (v0 : Nat) (v1 : Int32) (v2 : Int32) (v3 : Int32) (v4 : Int32) (v6 : Int32) (s0 : Int32) (S : g_St) : Option ((Int32 × Int32 × g_St) ⊕ (Int32 × g_St)) :=
  j_X8_worstAt_79_in18 fu v0 v1 v2 v3 v4 v6 s0 ((0 : Int32)) S
def b_X8_worstAt_18 (fu : Nat) (v0 : Nat) (v1 : Int32) (v2 : Int32) (v3 : Int32) (v4 : Int32) (v5 : Int32) (v6 : Int32) (S : g_St) : Option ((Int32 × Int32 × g_St) ⊕ (Int32 × g_St)) :=
  if (9 : Int32) < v6 then (some (.inr (v5, S))) else (if ((v1 >>> (v4 &&& 31)) &&& (1 : Int32)) = (1 : Int32) then (if ((v1 >>> (v6 &&& 31)) &&& (1 : Int32)) = (1 : Int32) then (g_ld g_KM 13 (.inr (0, 410, false)) (S.2 v0 21) fun a1 => g_ix (((41 : Int32) * v4) + v2) 410 fun i2 => g_ld g_KM 13 (.inr (0, 410, false)) (S.2 v0 21) fun a3 => g_ix (((41 : Int32) * v6) + v2) 410 fun i4 => if (S.1 a1 i2) = (S.1 a3 i4) then (j_X8_worstAt_79_in18 fu v0 v1 v2 v3 v4 v6 v5 ((1 : Int32)) S) else (j_X8_worstAt_78_in18 fu v0 v1 v2 v3 v4 v6 v5 S)) else (j_X8_worstAt_78_in18 fu v0 v1 v2 v3 v4 v6 v5 S)) else (some (.inr (v5, S))))
def j_X8_worstAt_100_in5 (fu : Nat) (v0 : Nat) (v1 : Int32) (v2 : Int32) (v4 : Int32) (s0 : Int32) (S : g_St) : Option ((Int32 × Int32 × g_St) ⊕ (Int32 × g_St)) :=
  some (.inl (s0, (v4 + 1), S))
def b_X8_worstAt_5 (fu : Nat) (v0 : Nat) (v1 : Int32) (v2 : Int32) (v3 : Int32) (v4 : Int32) (S : g_St) : Option ((Int32 × Int32 × g_St) ⊕ (Int32 × g_St)) :=
  if (9 : Int32) < v4 then (some (.inr (v3, S))) else (g_th (g_lp (fun t => b_X8_worstAt_18 fu v0 v1 v2 v3 v4 t.1 t.2.1 t.2.2) fu ((0 : Int32), (0 : Int32), S)) fun e => match e with | (w5_1, S1) => if w5_1 ≤ v3 then (j_X8_worstAt_100_in5 fu v0 v1 v2 v4 v3 S1) else (j_X8_worstAt_100_in5 fu v0 v1 v2 v4 w5_1 S1))
def f_X8_worstAt (fu : Nat) (o : Nat) (p0 : Int32) (p1 : Int32) (S : g_St) : Option (Int32 × g_St) :=
  g_th (g_lp (fun t => b_X8_worstAt_5 fu o p0 p1 t.1 t.2.1 t.2.2) fu ((0 : Int32), (0 : Int32), S)) fun e => match e with | (w3_2, S2) => some (w3_2, S2)
set_option maxRecDepth 100000 in
set_option maxHeartbeats 400000 in
theorem vj_X8_worstAt_79_in18 {x : g_CX} {z : Int32 × g_St} {fu : Nat} (X : g_X 13 x cX8_worstAt RX8 7 wsX8_worstAt rm_X8_worstAt (some .int)) (v0 : Nat) (v1 : Int32) (v2 : Int32) (v3 : Int32) (v4 : Int32) (v6 : Int32) (s0 : Int32) (s1 : Int32) (hk_v0 : v0 < 13 ∧ g_KM v0 = g_kX8) (S : g_St) {r : (Int32 × Int32 × g_St) ⊕ (Int32 × g_St)} (h : j_X8_worstAt_79_in18 fu v0 v1 v2 v3 v4 v6 s0 s1 S = some r) (hc : Sum.elim (fun t : Int32 × Int32 × g_St => g_V g_KM 13 x 7 (g_qi g_KM 13 x z) t.2.2 18 [(0, .ref (g_ad x v0)), (1, .int (v1)), (2, .int (v2)), (3, .int (v3)), (4, .int (v4)), (5, .int (t.1)), (6, .int (t.2.1))] []) (fun e : Int32 × g_St => g_V g_KM 13 x 7 (g_qi g_KM 13 x z) e.2 88 [(0, .ref (g_ad x v0)), (1, .int (v1)), (2, .int (v2)), (3, .int (v3)), (4, .int (v4)), (5, .int (e.1))] []) r) : g_V g_KM 13 x 7 (g_qi g_KM 13 x z) S 79 [(0, .ref (g_ad x v0)), (1, .int (v1)), (2, .int (v2)), (3, .int (v3)), (4, .int (v4)), (6, .int (v6))] [.int (s1), .int (s0)] := by
  unfold j_X8_worstAt_79_in18 at h
  refine g_iadd X dX8_worstAt_79 ?_
  refine g_istore X [(5, _), (0, _), (1, _), (2, _), (3, _), (4, _), (6, _)] dX8_worstAt_80 (by decide) rfl ?_
  refine g_iinc X [(6, _), (5, _), (0, _), (1, _), (2, _), (3, _), (4, _)] dX8_worstAt_82 6 rfl rfl (by decide) rfl ?_
  refine g_goto X 18 dX8_worstAt_85 (by decide) ?_
  cases h
  exact g_sub [2, 3, 4, 5, 6, 1, 0] _ rfl hc
set_option maxRecDepth 100000 in
set_option maxHeartbeats 400000 in
theorem vj_X8_worstAt_78_in18 {x : g_CX} {z : Int32 × g_St} {fu : Nat} (X : g_X 13 x cX8_worstAt RX8 7 wsX8_worstAt rm_X8_worstAt (some .int)) (v0 : Nat) (v1 : Int32) (v2 : Int32) (v3 : Int32) (v4 : Int32) (v6 : Int32) (s0 : Int32) (hk_v0 : v0 < 13 ∧ g_KM v0 = g_kX8) (S : g_St) {r : (Int32 × Int32 × g_St) ⊕ (Int32 × g_St)} (h : j_X8_worstAt_78_in18 fu v0 v1 v2 v3 v4 v6 s0 S = some r) (hc : Sum.elim (fun t : Int32 × Int32 × g_St => g_V g_KM 13 x 7 (g_qi g_KM 13 x z) t.2.2 18 [(0, .ref (g_ad x v0)), (1, .int (v1)), (2, .int (v2)), (3, .int (v3)), (4, .int (v4)), (5, .int (t.1)), (6, .int (t.2.1))] []) (fun e : Int32 × g_St => g_V g_KM 13 x 7 (g_qi g_KM 13 x z) e.2 88 [(0, .ref (g_ad x v0)), (1, .int (v1)), (2, .int (v2)), (3, .int (v3)), (4, .int (v4)), (5, .int (e.1))] []) r) : g_V g_KM 13 x 7 (g_qi g_KM 13 x z) S 78 [(0, .ref (g_ad x v0)), (1, .int (v1)), (2, .int (v2)), (3, .int (v3)), (4, .int (v4)), (6, .int (v6))] [.int (s0)] := by
  unfold j_X8_worstAt_78_in18 at h
  refine g_iconst X (v := 0) dX8_worstAt_78 (by decide) ?_
  refine g_sub [0, 1, 2, 3, 4, 5] _ rfl ?_
  exact vj_X8_worstAt_79_in18 X v0 v1 v2 v3 v4 v6 s0 ((0 : Int32)) hk_v0 _ h hc
set_option maxRecDepth 100000 in
set_option maxHeartbeats 400000 in
theorem vb_X8_worstAt_18 {x : g_CX} {z : Int32 × g_St} {fu : Nat} (X : g_X 13 x cX8_worstAt RX8 7 wsX8_worstAt rm_X8_worstAt (some .int)) (v0 : Nat) (v1 : Int32) (v2 : Int32) (v3 : Int32) (v4 : Int32) (v5 : Int32) (v6 : Int32) (hk_v0 : v0 < 13 ∧ g_KM v0 = g_kX8) (S : g_St) {r : (Int32 × Int32 × g_St) ⊕ (Int32 × g_St)} (h : b_X8_worstAt_18 fu v0 v1 v2 v3 v4 v5 v6 S = some r) (hc : Sum.elim (fun t : Int32 × Int32 × g_St => g_V g_KM 13 x 7 (g_qi g_KM 13 x z) t.2.2 18 [(0, .ref (g_ad x v0)), (1, .int (v1)), (2, .int (v2)), (3, .int (v3)), (4, .int (v4)), (5, .int (t.1)), (6, .int (t.2.1))] []) (fun e : Int32 × g_St => g_V g_KM 13 x 7 (g_qi g_KM 13 x z) e.2 88 [(0, .ref (g_ad x v0)), (1, .int (v1)), (2, .int (v2)), (3, .int (v3)), (4, .int (v4)), (5, .int (e.1))] []) r) : g_V g_KM 13 x 7 (g_qi g_KM 13 x z) S 18 [(0, .ref (g_ad x v0)), (1, .int (v1)), (2, .int (v2)), (3, .int (v3)), (4, .int (v4)), (5, .int (v5)), (6, .int (v6))] [] := by
  unfold b_X8_worstAt_18 at h
  refine g_iload X dX8_worstAt_18 6 rfl ?_
  refine g_bipush X (v := (9)) dX8_worstAt_20 (by decide) ?_
  refine g_icmp_gt X 88 dX8_worstAt_22 (by decide) h (fun c_22 h => ?_) (fun c_22 h => ?_)
  · skip
    cases h
    exact g_sub [0, 1, 2, 3, 4, 5] _ rfl hc
  · skip
    refine g_iload_n X dX8_worstAt_25 1 rfl ?_
    refine g_iload X dX8_worstAt_26 4 rfl ?_
    refine g_ishr X dX8_worstAt_28 ?_
    refine g_iconst X (v := 1) dX8_worstAt_29 (by decide) ?_
    refine g_iand X dX8_worstAt_30 ?_
    refine g_iconst X (v := 1) dX8_worstAt_31 (by decide) ?_
    refine g_icmp_ne X 88 dX8_worstAt_32 (by decide) h (fun c_32 h => ?_) (fun c_32 h => ?_)
    · skip
      cases h
      exact g_sub [0, 1, 2, 3, 4, 5] _ rfl hc
    · skip
      refine g_iload X dX8_worstAt_35 5 rfl ?_
      refine g_iload_n X dX8_worstAt_37 1 rfl ?_
      refine g_iload X dX8_worstAt_38 6 rfl ?_
      refine g_ishr X dX8_worstAt_40 ?_
      refine g_iconst X (v := 1) dX8_worstAt_41 (by decide) ?_
      refine g_iand X dX8_worstAt_42 ?_
      refine g_iconst X (v := 1) dX8_worstAt_43 (by decide) ?_
      refine g_icmp_ne X 78 dX8_worstAt_44 (by decide) h (fun c_44 h => ?_) (fun c_44 h => ?_)
      · skip
        refine g_sub [0, 1, 2, 3, 4, 6] _ rfl ?_
        exact vj_X8_worstAt_78_in18 X v0 v1 v2 v3 v4 v6 v5 hk_v0 _ h hc
      · skip
        refine g_aload_n X dX8_worstAt_47 0 rfl ?_
        refine g_getr X g_cX8 w_X8_worstAt_inX8 21 (by decide) w_X8_worstAt_35 hk_v0 rfl dX8_worstAt_48 h (fun a1 hk_a1 h => ?_)
        refine g_bipush X (v := (41)) dX8_worstAt_51 (by decide) ?_
        refine g_iload X dX8_worstAt_53 4 rfl ?_
        refine g_imul X dX8_worstAt_55 ?_
        refine g_iload_n X dX8_worstAt_56 2 rfl ?_
        refine g_iadd X dX8_worstAt_57 ?_
        refine g_iald X hk_a1 dX8_worstAt_58 h (fun i2 _ h => ?_)
        refine g_aload_n X dX8_worstAt_59 0 rfl ?_
        refine g_getr X g_cX8 w_X8_worstAt_inX8 21 (by decide) w_X8_worstAt_35 hk_v0 rfl dX8_worstAt_60 h (fun a3 hk_a3 h => ?_)
        refine g_bipush X (v := (41)) dX8_worstAt_63 (by decide) ?_
        refine g_iload X dX8_worstAt_65 6 rfl ?_
        refine g_imul X dX8_worstAt_67 ?_
        refine g_iload_n X dX8_worstAt_68 2 rfl ?_
        refine g_iadd X dX8_worstAt_69 ?_
        refine g_iald X hk_a3 dX8_worstAt_70 h (fun i4 _ h => ?_)
        refine g_icmp_ne X 78 dX8_worstAt_71 (by decide) h (fun c_71 h => ?_) (fun c_71 h => ?_)
        · skip
          refine g_sub [0, 1, 2, 3, 4, 6] _ rfl ?_
          exact vj_X8_worstAt_78_in18 X v0 v1 v2 v3 v4 v6 v5 hk_v0 _ h hc
        · skip
          refine g_iconst X (v := 1) dX8_worstAt_74 (by decide) ?_
          refine g_goto X 79 dX8_worstAt_75 (by decide) ?_
          refine g_sub [0, 1, 2, 3, 4, 6] _ rfl ?_
          exact vj_X8_worstAt_79_in18 X v0 v1 v2 v3 v4 v6 v5 ((1 : Int32)) hk_v0 _ h hc
set_option maxRecDepth 100000 in
set_option maxHeartbeats 400000 in
theorem vj_X8_worstAt_100_in5 {x : g_CX} {z : Int32 × g_St} {fu : Nat} (X : g_X 13 x cX8_worstAt RX8 7 wsX8_worstAt rm_X8_worstAt (some .int)) (v0 : Nat) (v1 : Int32) (v2 : Int32) (v4 : Int32) (s0 : Int32) (hk_v0 : v0 < 13 ∧ g_KM v0 = g_kX8) (S : g_St) {r : (Int32 × Int32 × g_St) ⊕ (Int32 × g_St)} (h : j_X8_worstAt_100_in5 fu v0 v1 v2 v4 s0 S = some r) (hc : Sum.elim (fun t : Int32 × Int32 × g_St => g_V g_KM 13 x 7 (g_qi g_KM 13 x z) t.2.2 5 [(0, .ref (g_ad x v0)), (1, .int (v1)), (2, .int (v2)), (3, .int (t.1)), (4, .int (t.2.1))] []) (fun e : Int32 × g_St => g_V g_KM 13 x 7 (g_qi g_KM 13 x z) e.2 107 [(3, .int (e.1))] []) r) : g_V g_KM 13 x 7 (g_qi g_KM 13 x z) S 100 [(0, .ref (g_ad x v0)), (1, .int (v1)), (2, .int (v2)), (4, .int (v4))] [.int (s0)] := by
  unfold j_X8_worstAt_100_in5 at h
  refine g_istore_n X [(3, _), (0, _), (1, _), (2, _), (4, _)] dX8_worstAt_100 (by decide) rfl ?_
  refine g_iinc X [(4, _), (3, _), (0, _), (1, _), (2, _)] dX8_worstAt_101 4 rfl rfl (by decide) rfl ?_
  refine g_goto X 5 dX8_worstAt_104 (by decide) ?_
  cases h
  exact g_sub [2, 3, 4, 1, 0] _ rfl hc
set_option maxRecDepth 100000 in
set_option maxHeartbeats 400000 in
theorem vb_X8_worstAt_5 {x : g_CX} {z : Int32 × g_St} {fu : Nat} (X : g_X 13 x cX8_worstAt RX8 7 wsX8_worstAt rm_X8_worstAt (some .int)) (v0 : Nat) (v1 : Int32) (v2 : Int32) (v3 : Int32) (v4 : Int32) (hk_v0 : v0 < 13 ∧ g_KM v0 = g_kX8) (S : g_St) {r : (Int32 × Int32 × g_St) ⊕ (Int32 × g_St)} (h : b_X8_worstAt_5 fu v0 v1 v2 v3 v4 S = some r) (hc : Sum.elim (fun t : Int32 × Int32 × g_St => g_V g_KM 13 x 7 (g_qi g_KM 13 x z) t.2.2 5 [(0, .ref (g_ad x v0)), (1, .int (v1)), (2, .int (v2)), (3, .int (t.1)), (4, .int (t.2.1))] []) (fun e : Int32 × g_St => g_V g_KM 13 x 7 (g_qi g_KM 13 x z) e.2 107 [(3, .int (e.1))] []) r) : g_V g_KM 13 x 7 (g_qi g_KM 13 x z) S 5 [(0, .ref (g_ad x v0)), (1, .int (v1)), (2, .int (v2)), (3, .int (v3)), (4, .int (v4))] [] := by
  unfold b_X8_worstAt_5 at h
  refine g_iload X dX8_worstAt_5 4 rfl ?_
  refine g_bipush X (v := (9)) dX8_worstAt_7 (by decide) ?_
  refine g_icmp_gt X 107 dX8_worstAt_9 (by decide) h (fun c_9 h => ?_) (fun c_9 h => ?_)
  · skip
    cases h
    exact g_sub [3] _ rfl hc
  · skip
    refine g_iconst X (v := 0) dX8_worstAt_12 (by decide) ?_
    refine g_istore X [(5, _), (0, _), (1, _), (2, _), (3, _), (4, _)] dX8_worstAt_13 (by decide) rfl ?_
    refine g_iconst X (v := 0) dX8_worstAt_15 (by decide) ?_
    refine g_istore X [(6, _), (5, _), (0, _), (1, _), (2, _), (3, _), (4, _)] dX8_worstAt_16 (by decide) rfl ?_
    obtain ⟨e, he, h⟩ := g_th_s h
    refine g_sub [2, 3, 4, 5, 6, 1, 0] _ rfl ?_
    refine g_lp_w (body := (fun t => b_X8_worstAt_18 fu v0 v1 v2 v3 v4 t.1 t.2.1 t.2.2)) (P := fun t : Int32 × Int32 × g_St => g_V g_KM 13 x 7 (g_qi g_KM 13 x z) t.2.2 18 [(0, .ref (g_ad x v0)), (1, .int (v1)), (2, .int (v2)), (3, .int (v3)), (4, .int (v4)), (5, .int (t.1)), (6, .int (t.2.1))] []) (E := (fun e : Int32 × g_St => g_V g_KM 13 x 7 (g_qi g_KM 13 x z) e.2 88 [(0, .ref (g_ad x v0)), (1, .int (v1)), (2, .int (v2)), (3, .int (v3)), (4, .int (v4)), (5, .int (e.1))] [])) (fun t r hb hc => vb_X8_worstAt_18 X v0 v1 v2 v3 v4 t.1 t.2.1 hk_v0 t.2.2 hb hc) fu ((0 : Int32), (0 : Int32), S) e he ?_
    obtain ⟨w5_1, S1⟩ := e
    show g_V g_KM 13 x 7 (g_qi g_KM 13 x z) S1 88 [(0, .ref (g_ad x v0)), (1, .int (v1)), (2, .int (v2)), (3, .int (v3)), (4, .int (v4)), (5, .int (w5_1))] []
    refine g_iload X dX8_worstAt_88 5 rfl ?_
    refine g_iload_n X dX8_worstAt_90 3 rfl ?_
    refine g_icmp_le X 99 dX8_worstAt_91 (by decide) h (fun c_91 h => ?_) (fun c_91 h => ?_)
    · skip
      refine g_iload_n X dX8_worstAt_99 3 rfl ?_
      refine g_sub [0, 1, 2, 4] _ rfl ?_
      exact vj_X8_worstAt_100_in5 X v0 v1 v2 v4 v3 hk_v0 _ h hc
    · skip
      refine g_iload X dX8_worstAt_94 5 rfl ?_
      refine g_goto X 100 dX8_worstAt_96 (by decide) ?_
      refine g_sub [0, 1, 2, 4] _ rfl ?_
      exact vj_X8_worstAt_100_in5 X v0 v1 v2 v4 w5_1 hk_v0 _ h hc
set_option maxRecDepth 100000 in
set_option maxHeartbeats 400000 in
theorem ct_X8_worstAt {l : Launch} {D : va_G} {ad : Nat → Nat} {cy : Nat → ClassId} {zz : (Nat → Nat) × (Nat → Nat)} (hinj : ∀ i j, i < 13 → j < 13 → ad i = ad j → i = j) {fu : Nat} (o : Nat) (p0 : Int32) (p1 : Int32) (hk_o : o < 13 ∧ g_KM o = g_kX8) {S : g_St} (z : Int32 × g_St) (h : f_X8_worstAt fu o p0 p1 S = some z) : g_Mi l g_KM 13 D ad cy zz yX8_worstAt wsX8_worstAt rm_X8_worstAt [.ref (ad o), .int (p0), .int (p1)] S z := by
  refine g_ofi hinj (cc := cX8_worstAt) (maxL := 7) (ret := (some .int)) (lv := [(0, .ref (ad o)), (1, .int (p0)), (2, .int (p1))]) (by decide) rfl (Nat.le_of_ble_eq_true rfl) rfl ?_
  intro x X hl hD ha hy hz
  subst hl hD ha hy hz
  unfold f_X8_worstAt at h
  refine g_iconst X (v := 0) dX8_worstAt_0 (by decide) ?_
  refine g_istore_n X [(3, _), (0, _), (1, _), (2, _)] dX8_worstAt_1 (by decide) rfl ?_
  refine g_iconst X (v := 0) dX8_worstAt_2 (by decide) ?_
  refine g_istore X [(4, _), (3, _), (0, _), (1, _), (2, _)] dX8_worstAt_3 (by decide) rfl ?_
  obtain ⟨e, he, h⟩ := g_th_s h
  refine g_sub [2, 3, 4, 1, 0] _ rfl ?_
  refine g_lp_w (body := (fun t => b_X8_worstAt_5 fu o p0 p1 t.1 t.2.1 t.2.2)) (P := fun t : Int32 × Int32 × g_St => g_V g_KM 13 x 7 (g_qi g_KM 13 x z) t.2.2 5 [(0, .ref (g_ad x o)), (1, .int (p0)), (2, .int (p1)), (3, .int (t.1)), (4, .int (t.2.1))] []) (E := (fun e : Int32 × g_St => g_V g_KM 13 x 7 (g_qi g_KM 13 x z) e.2 107 [(3, .int (e.1))] [])) (fun t r hb hc => vb_X8_worstAt_5 X o p0 p1 t.1 t.2.1 hk_o t.2.2 hb hc) fu ((0 : Int32), (0 : Int32), S) e he ?_
  obtain ⟨w3_2, S2⟩ := e
  show g_V g_KM 13 x 7 (g_qi g_KM 13 x z) S2 107 [(3, .int (w3_2))] []
  refine g_iload_n X dX8_worstAt_107 0 rfl ?_
  exact g_iret X h dX8_worstAt_108
abbrev rm_X8_ask : Room := { frames := 6, cells := 0, slots := 0, locals := 140 }
theorem hd_X8_ask : yX8_ask.cls = RX8 ∧ yX8_ask.cls ≠ "java/lang/invoke/MethodHandle" ∧ yX8_ask.cls ≠ "java/lang/invoke/VarHandle" ∧ (parseMethodDescriptor yX8_ask.desc).map (fun d => d.parameters.length) = some 2 := by decide +kernel
def b_X8_ask_32 (fu : Nat) (v0 : Nat) (v2 : Int32) (v3 : Int32) (v4 : Int32) (v5 : Int32) (S : g_St) : Option ((Int32 × Int32 × g_St) ⊕ (Int32 × g_St)) :=
  if (9 : Int32) < v5 then (some (.inr (v4, S))) else (some (.inl ((v4 + ((v3 >>> (v5 &&& 31)) &&& (1 : Int32))), (v5 + 1), S)))
def j_X8_ask_109_in63 (fu : Nat) (v0 : Nat) (v2 : Int32) (v3 : Int32) (v5 : Int32) (v6 : Int32) (s0 : Int32) (S : g_St) : Option ((Int32 × Int32 × Int32 × g_St) ⊕ (Int32 × Int32 × g_St)) :=
  some (.inl (s0, v5, (v6 + 1), S))
def j_X8_ask_93_in63 (fu : Nat) (v0 : Nat) (v2 : Int32) (v3 : Int32) (v4 : Int32) (v6 : Int32) (v7 : Int32) (s0 : Int32) (S : g_St) : Option ((Int32 × Int32 × Int32 × g_St) ⊕ (Int32 × Int32 × g_St)) :=
  if v4 ≤ v7 then (j_X8_ask_109_in63 fu v0 v2 v3 s0 v6 v4 S) else (j_X8_ask_109_in63 fu v0 v2 v3 s0 v6 v7 S)
def b_X8_ask_63 (fu : Nat) (v0 : Nat) (v2 : Int32) (v3 : Int32) (v4 : Int32) (v5 : Int32) (v6 : Int32) (S : g_St) : Option ((Int32 × Int32 × Int32 × g_St) ⊕ (Int32 × Int32 × g_St)) :=
  if (40 : Int32) < v6 then (some (.inr (v4, v5, S))) else (g_bd (f_X8_worstAt fu v0 v3 v6 S) fun r4 Sr4 => if v4 ≤ r4 then (j_X8_ask_93_in63 fu v0 v2 v3 v4 v6 r4 v5 Sr4) else (j_X8_ask_93_in63 fu v0 v2 v3 v4 v6 r4 v6 Sr4))
def j_X8_ask_128 (fu : Nat) (v5 : Int32) (S : g_St) : Option (Int32 × g_St) :=
  some (v5, S)
def f_X8_ask (fu : Nat) (o : Nat) (p0 : Int32) (p1 : Int32) (S : g_St) : Option (Int32 × g_St) :=
  g_bd (f_X8_isDoor fu o p0 S) fun r1 Sr1 => if r1 = 0 then (some ((-1 : Int32), Sr1)) else (g_bd (f_X8_in fu ((Int32.toInt64 p1)) ((0 : Int64)) ((1 : Int64)) Sr1) fun r2 Sr2 => if r2 = 0 then (some ((-1 : Int32), Sr2)) else (g_bd (f_X8_ratesOf fu o p0 Sr2) fun r3 Sr3 => g_th (g_lp (fun t => b_X8_ask_32 fu o p1 r3 t.1 t.2.1 t.2.2) fu ((0 : Int32), (0 : Int32), Sr3)) fun e => match e with | (w4_1, S1) => g_th (g_lp (fun t => b_X8_ask_63 fu o p1 r3 t.1 t.2.1 t.2.2.1 t.2.2.2) fu (w4_1, (-4 : Int32), (0 : Int32), S1)) fun e => match e with | (w4_2, w5_2, S2) => if w5_2 = (-4 : Int32) then (j_X8_ask_128 fu w5_2 S2) else (if p1 = 0 then (j_X8_ask_128 fu w5_2 S2) else (some (w4_2, S2)))))
set_option maxRecDepth 100000 in
set_option maxHeartbeats 400000 in
theorem vb_X8_ask_32 {x : g_CX} {z : Int32 × g_St} {fu : Nat} (X : g_X 13 x cX8_ask RX8 8 wsX8_ask rm_X8_ask (some .int)) (v0 : Nat) (v2 : Int32) (v3 : Int32) (v4 : Int32) (v5 : Int32) (hk_v0 : v0 < 13 ∧ g_KM v0 = g_kX8) (S : g_St) {r : (Int32 × Int32 × g_St) ⊕ (Int32 × g_St)} (h : b_X8_ask_32 fu v0 v2 v3 v4 v5 S = some r) (hc : Sum.elim (fun t : Int32 × Int32 × g_St => g_V g_KM 13 x 8 (g_qi g_KM 13 x z) t.2.2 32 [(0, .ref (g_ad x v0)), (2, .int (v2)), (3, .int (v3)), (4, .int (t.1)), (5, .int (t.2.1))] []) (fun e : Int32 × g_St => g_V g_KM 13 x 8 (g_qi g_KM 13 x z) e.2 56 [(0, .ref (g_ad x v0)), (2, .int (v2)), (3, .int (v3)), (4, .int (e.1))] []) r) : g_V g_KM 13 x 8 (g_qi g_KM 13 x z) S 32 [(0, .ref (g_ad x v0)), (2, .int (v2)), (3, .int (v3)), (4, .int (v4)), (5, .int (v5))] [] := by
  unfold b_X8_ask_32 at h
  refine g_iload X dX8_ask_32 4 rfl ?_
  refine g_bipush X (v := (9)) dX8_ask_34 (by decide) ?_
  refine g_icmp_gt X 56 dX8_ask_36 (by decide) h (fun c_36 h => ?_) (fun c_36 h => ?_)
  · skip
    cases h
    exact g_sub [0, 1, 2, 3] _ rfl hc
  · skip
    refine g_iload X dX8_ask_39 3 rfl ?_
    refine g_iload_n X dX8_ask_41 2 rfl ?_
    refine g_iload X dX8_ask_42 4 rfl ?_
    refine g_ishr X dX8_ask_44 ?_
    refine g_iconst X (v := 1) dX8_ask_45 (by decide) ?_
    refine g_iand X dX8_ask_46 ?_
    refine g_iadd X dX8_ask_47 ?_
    refine g_istore X [(4, _), (0, _), (2, _), (3, _), (5, _)] dX8_ask_48 (by decide) rfl ?_
    refine g_iinc X [(5, _), (4, _), (0, _), (2, _), (3, _)] dX8_ask_50 4 rfl rfl (by decide) rfl ?_
    refine g_goto X 32 dX8_ask_53 (by decide) ?_
    cases h
    exact g_sub [2, 3, 4, 1, 0] _ rfl hc
set_option maxRecDepth 100000 in
set_option maxHeartbeats 400000 in
theorem vj_X8_ask_109_in63 {x : g_CX} {z : Int32 × g_St} {fu : Nat} (X : g_X 13 x cX8_ask RX8 8 wsX8_ask rm_X8_ask (some .int)) (v0 : Nat) (v2 : Int32) (v3 : Int32) (v5 : Int32) (v6 : Int32) (s0 : Int32) (hk_v0 : v0 < 13 ∧ g_KM v0 = g_kX8) (S : g_St) {r : (Int32 × Int32 × Int32 × g_St) ⊕ (Int32 × Int32 × g_St)} (h : j_X8_ask_109_in63 fu v0 v2 v3 v5 v6 s0 S = some r) (hc : Sum.elim (fun t : Int32 × Int32 × Int32 × g_St => g_V g_KM 13 x 8 (g_qi g_KM 13 x z) t.2.2.2 63 [(0, .ref (g_ad x v0)), (2, .int (v2)), (3, .int (v3)), (4, .int (t.1)), (5, .int (t.2.1)), (6, .int (t.2.2.1))] []) (fun e : Int32 × Int32 × g_St => g_V g_KM 13 x 8 (g_qi g_KM 13 x z) e.2.2 117 [(2, .int (v2)), (4, .int (e.1)), (5, .int (e.2.1))] []) r) : g_V g_KM 13 x 8 (g_qi g_KM 13 x z) S 109 [(0, .ref (g_ad x v0)), (2, .int (v2)), (3, .int (v3)), (5, .int (v5)), (6, .int (v6))] [.int (s0)] := by
  unfold j_X8_ask_109_in63 at h
  refine g_istore X [(4, _), (0, _), (2, _), (3, _), (5, _), (6, _)] dX8_ask_109 (by decide) rfl ?_
  refine g_iinc X [(6, _), (4, _), (0, _), (2, _), (3, _), (5, _)] dX8_ask_111 5 rfl rfl (by decide) rfl ?_
  refine g_goto X 63 dX8_ask_114 (by decide) ?_
  cases h
  exact g_sub [2, 3, 4, 1, 5, 0] _ rfl hc
set_option maxRecDepth 100000 in
set_option maxHeartbeats 400000 in
theorem vj_X8_ask_93_in63 {x : g_CX} {z : Int32 × g_St} {fu : Nat} (X : g_X 13 x cX8_ask RX8 8 wsX8_ask rm_X8_ask (some .int)) (v0 : Nat) (v2 : Int32) (v3 : Int32) (v4 : Int32) (v6 : Int32) (v7 : Int32) (s0 : Int32) (hk_v0 : v0 < 13 ∧ g_KM v0 = g_kX8) (S : g_St) {r : (Int32 × Int32 × Int32 × g_St) ⊕ (Int32 × Int32 × g_St)} (h : j_X8_ask_93_in63 fu v0 v2 v3 v4 v6 v7 s0 S = some r) (hc : Sum.elim (fun t : Int32 × Int32 × Int32 × g_St => g_V g_KM 13 x 8 (g_qi g_KM 13 x z) t.2.2.2 63 [(0, .ref (g_ad x v0)), (2, .int (v2)), (3, .int (v3)), (4, .int (t.1)), (5, .int (t.2.1)), (6, .int (t.2.2.1))] []) (fun e : Int32 × Int32 × g_St => g_V g_KM 13 x 8 (g_qi g_KM 13 x z) e.2.2 117 [(2, .int (v2)), (4, .int (e.1)), (5, .int (e.2.1))] []) r) : g_V g_KM 13 x 8 (g_qi g_KM 13 x z) S 93 [(0, .ref (g_ad x v0)), (2, .int (v2)), (3, .int (v3)), (4, .int (v4)), (6, .int (v6)), (7, .int (v7))] [.int (s0)] := by
  unfold j_X8_ask_93_in63 at h
  refine g_istore X [(5, _), (0, _), (2, _), (3, _), (4, _), (6, _), (7, _)] dX8_ask_93 (by decide) rfl ?_
  refine g_iload X dX8_ask_95 6 rfl ?_
  refine g_iload X dX8_ask_97 4 rfl ?_
  refine g_icmp_ge X 107 dX8_ask_99 (by decide) h (fun c_99 h => ?_) (fun c_99 h => ?_)
  · skip
    refine g_iload X dX8_ask_107 4 rfl ?_
    refine g_sub [1, 2, 3, 0, 5] _ rfl ?_
    exact vj_X8_ask_109_in63 X v0 v2 v3 s0 v6 v4 hk_v0 _ h hc
  · skip
    refine g_iload X dX8_ask_102 6 rfl ?_
    refine g_goto X 109 dX8_ask_104 (by decide) ?_
    refine g_sub [1, 2, 3, 0, 5] _ rfl ?_
    exact vj_X8_ask_109_in63 X v0 v2 v3 s0 v6 v7 hk_v0 _ h hc
set_option maxRecDepth 100000 in
set_option maxHeartbeats 400000 in
theorem vb_X8_ask_63 {x : g_CX} {z : Int32 × g_St} {fu : Nat} (X : g_X 13 x cX8_ask RX8 8 wsX8_ask rm_X8_ask (some .int)) (v0 : Nat) (v2 : Int32) (v3 : Int32) (v4 : Int32) (v5 : Int32) (v6 : Int32) (hk_v0 : v0 < 13 ∧ g_KM v0 = g_kX8) (S : g_St) {r : (Int32 × Int32 × Int32 × g_St) ⊕ (Int32 × Int32 × g_St)} (h : b_X8_ask_63 fu v0 v2 v3 v4 v5 v6 S = some r) (hc : Sum.elim (fun t : Int32 × Int32 × Int32 × g_St => g_V g_KM 13 x 8 (g_qi g_KM 13 x z) t.2.2.2 63 [(0, .ref (g_ad x v0)), (2, .int (v2)), (3, .int (v3)), (4, .int (t.1)), (5, .int (t.2.1)), (6, .int (t.2.2.1))] []) (fun e : Int32 × Int32 × g_St => g_V g_KM 13 x 8 (g_qi g_KM 13 x z) e.2.2 117 [(2, .int (v2)), (4, .int (e.1)), (5, .int (e.2.1))] []) r) : g_V g_KM 13 x 8 (g_qi g_KM 13 x z) S 63 [(0, .ref (g_ad x v0)), (2, .int (v2)), (3, .int (v3)), (4, .int (v4)), (5, .int (v5)), (6, .int (v6))] [] := by
  unfold b_X8_ask_63 at h
  refine g_iload X dX8_ask_63 5 rfl ?_
  refine g_bipush X (v := (40)) dX8_ask_65 (by decide) ?_
  refine g_icmp_gt X 117 dX8_ask_67 (by decide) h (fun c_67 h => ?_) (fun c_67 h => ?_)
  · skip
    cases h
    exact g_sub [1, 3, 4] _ rfl hc
  · skip
    refine g_aload_n X dX8_ask_70 0 rfl ?_
    refine g_iload_n X dX8_ask_71 2 rfl ?_
    refine g_iload X dX8_ask_72 5 rfl ?_
    refine g_callVi X g_cX8 hk_v0 [.int (v3), .int (v6)] rfl (cwV 2 X.2.2.2.2.1 gX8_ask_X8_worstAt rfl rfl rfl hd_X8_worstAt ⟨Nat.le_of_ble_eq_true rfl, Nat.le_of_ble_eq_true rfl⟩) (Nat.le_of_ble_eq_true rfl) dX8_ask_74 h (fun q hq => ct_X8_worstAt X.2.2.2.2.2.2.1 v0 v3 v6 hk_v0 _ hq) (fun r4 Sr4 h => ?_)
    refine g_istore X [(7, _), (0, _), (2, _), (3, _), (4, _), (5, _), (6, _)] dX8_ask_77 (by decide) rfl ?_
    refine g_iload X dX8_ask_79 0 rfl ?_
    refine g_iload X dX8_ask_81 4 rfl ?_
    refine g_icmp_ge X 91 dX8_ask_83 (by decide) h (fun c_83 h => ?_) (fun c_83 h => ?_)
    · skip
      refine g_iload X dX8_ask_91 5 rfl ?_
      refine g_sub [1, 2, 3, 4, 6, 0] _ rfl ?_
      exact vj_X8_ask_93_in63 X v0 v2 v3 v4 v6 r4 v5 hk_v0 _ h hc
    · skip
      refine g_iload X dX8_ask_86 6 rfl ?_
      refine g_goto X 93 dX8_ask_88 (by decide) ?_
      refine g_sub [1, 2, 3, 4, 6, 0] _ rfl ?_
      exact vj_X8_ask_93_in63 X v0 v2 v3 v4 v6 r4 v6 hk_v0 _ h hc
set_option maxRecDepth 100000 in
set_option maxHeartbeats 400000 in
theorem vj_X8_ask_128 {x : g_CX} {z : Int32 × g_St} {fu : Nat} (X : g_X 13 x cX8_ask RX8 8 wsX8_ask rm_X8_ask (some .int)) (v5 : Int32)  (S : g_St) (h : j_X8_ask_128 fu v5 S = some z) : g_V g_KM 13 x 8 (g_qi g_KM 13 x z) S 128 [(5, .int (v5))] [] := by
  unfold j_X8_ask_128 at h
  refine g_iload X dX8_ask_128 0 rfl ?_
  refine g_goto X 135 dX8_ask_130 (by decide) ?_
  exact g_iret X h dX8_ask_135
set_option maxRecDepth 100000 in
set_option maxHeartbeats 400000 in
theorem ct_X8_ask {l : Launch} {D : va_G} {ad : Nat → Nat} {cy : Nat → ClassId} {zz : (Nat → Nat) × (Nat → Nat)} (hinj : ∀ i j, i < 13 → j < 13 → ad i = ad j → i = j) {fu : Nat} (o : Nat) (p0 : Int32) (p1 : Int32) (hk_o : o < 13 ∧ g_KM o = g_kX8) {S : g_St} (z : Int32 × g_St) (h : f_X8_ask fu o p0 p1 S = some z) : g_Mi l g_KM 13 D ad cy zz yX8_ask wsX8_ask rm_X8_ask [.ref (ad o), .int (p0), .int (p1)] S z := by
  refine g_ofi hinj (cc := cX8_ask) (maxL := 8) (ret := (some .int)) (lv := [(0, .ref (ad o)), (1, .int (p0)), (2, .int (p1))]) (by decide) rfl (Nat.le_of_ble_eq_true rfl) rfl ?_
  intro x X hl hD ha hy hz
  subst hl hD ha hy hz
  unfold f_X8_ask at h
  refine g_aload_n X dX8_ask_0 0 rfl ?_
  refine g_iload_n X dX8_ask_1 1 rfl ?_
  refine g_callVi X g_cX8 hk_o [.int (p0)] rfl (cwV 1 X.2.2.2.2.1 gX8_ask_X8_isDoor rfl rfl rfl hd_X8_isDoor ⟨Nat.le_of_ble_eq_true rfl, Nat.le_of_ble_eq_true rfl⟩) (Nat.le_of_ble_eq_true rfl) dX8_ask_2 h (fun q hq => ct_X8_isDoor X.2.2.2.2.2.2.1 o p0 hk_o _ hq) (fun r1 Sr1 h => ?_)
  refine g_if_eq X 18 dX8_ask_5 (by decide) h (fun c_5 h => ?_) (fun c_5 h => ?_)
  · skip
    refine g_iconst X (v := (-1)) dX8_ask_18 (by decide) ?_
    exact g_iret X h dX8_ask_19
  · skip
    refine g_iload_n X dX8_ask_8 2 rfl ?_
    refine g_i2l X dX8_ask_9 ?_
    refine g_lconst X (v := 0) dX8_ask_10 (by decide) ?_
    refine g_lconst X (v := 1) dX8_ask_11 (by decide) ?_
    refine g_callSi X [.long ((Int32.toInt64 p1)), .long ((0 : Int64)), .long ((1 : Int64))] rfl (va_cwS 3 X.2.2.2.2.1 gX8_ask_X8_in rfl rfl rfl hd_X8_in ⟨Nat.le_of_ble_eq_true rfl, Nat.le_of_ble_eq_true rfl⟩) (Nat.le_of_ble_eq_true rfl) dX8_ask_12 h (fun q hq => ct_X8_in X.2.2.2.2.2.2.1 ((Int32.toInt64 p1)) ((0 : Int64)) ((1 : Int64))  _ hq) (fun r2 Sr2 h => ?_)
    refine g_if_ne X 20 dX8_ask_15 (by decide) h (fun c_15 h => ?_) (fun c_15 h => ?_)
    · skip
      refine g_aload_n X dX8_ask_20 0 rfl ?_
      refine g_iload_n X dX8_ask_21 1 rfl ?_
      refine g_callVi X g_cX8 hk_o [.int (p0)] rfl (cwV 1 X.2.2.2.2.1 gX8_ask_X8_ratesOf rfl rfl rfl hd_X8_ratesOf ⟨Nat.le_of_ble_eq_true rfl, Nat.le_of_ble_eq_true rfl⟩) (Nat.le_of_ble_eq_true rfl) dX8_ask_22 h (fun q hq => ct_X8_ratesOf X.2.2.2.2.2.2.1 o p0 hk_o _ hq) (fun r3 Sr3 h => ?_)
      refine g_istore_n X [(3, _), (0, _), (1, _), (2, _)] dX8_ask_25 (by decide) rfl ?_
      refine g_iconst X (v := 0) dX8_ask_26 (by decide) ?_
      refine g_istore X [(4, _), (3, _), (0, _), (1, _), (2, _)] dX8_ask_27 (by decide) rfl ?_
      refine g_iconst X (v := 0) dX8_ask_29 (by decide) ?_
      refine g_istore X [(5, _), (4, _), (3, _), (0, _), (1, _), (2, _)] dX8_ask_30 (by decide) rfl ?_
      obtain ⟨e, he, h⟩ := g_th_s h
      refine g_sub [3, 5, 2, 1, 0] _ rfl ?_
      refine g_lp_w (body := (fun t => b_X8_ask_32 fu o p1 r3 t.1 t.2.1 t.2.2)) (P := fun t : Int32 × Int32 × g_St => g_V g_KM 13 x 8 (g_qi g_KM 13 x z) t.2.2 32 [(0, .ref (g_ad x o)), (2, .int (p1)), (3, .int (r3)), (4, .int (t.1)), (5, .int (t.2.1))] []) (E := (fun e : Int32 × g_St => g_V g_KM 13 x 8 (g_qi g_KM 13 x z) e.2 56 [(0, .ref (g_ad x o)), (2, .int (p1)), (3, .int (r3)), (4, .int (e.1))] [])) (fun t r hb hc => vb_X8_ask_32 X o p1 r3 t.1 t.2.1 hk_o t.2.2 hb hc) fu ((0 : Int32), (0 : Int32), Sr3) e he ?_
      obtain ⟨w4_1, S1⟩ := e
      show g_V g_KM 13 x 8 (g_qi g_KM 13 x z) S1 56 [(0, .ref (g_ad x o)), (2, .int (p1)), (3, .int (r3)), (4, .int (w4_1))] []
      refine g_bipush X (v := (-4)) dX8_ask_56 (by decide) ?_
      refine g_istore X [(5, _), (0, _), (2, _), (3, _), (4, _)] dX8_ask_58 (by decide) rfl ?_
      refine g_iconst X (v := 0) dX8_ask_60 (by decide) ?_
      refine g_istore X [(6, _), (5, _), (0, _), (2, _), (3, _), (4, _)] dX8_ask_61 (by decide) rfl ?_
      obtain ⟨e, he, h⟩ := g_th_s h
      refine g_sub [2, 3, 4, 5, 1, 0] _ rfl ?_
      refine g_lp_w (body := (fun t => b_X8_ask_63 fu o p1 r3 t.1 t.2.1 t.2.2.1 t.2.2.2)) (P := fun t : Int32 × Int32 × Int32 × g_St => g_V g_KM 13 x 8 (g_qi g_KM 13 x z) t.2.2.2 63 [(0, .ref (g_ad x o)), (2, .int (p1)), (3, .int (r3)), (4, .int (t.1)), (5, .int (t.2.1)), (6, .int (t.2.2.1))] []) (E := (fun e : Int32 × Int32 × g_St => g_V g_KM 13 x 8 (g_qi g_KM 13 x z) e.2.2 117 [(2, .int (p1)), (4, .int (e.1)), (5, .int (e.2.1))] [])) (fun t r hb hc => vb_X8_ask_63 X o p1 r3 t.1 t.2.1 t.2.2.1 hk_o t.2.2.2 hb hc) fu (w4_1, (-4 : Int32), (0 : Int32), S1) e he ?_
      obtain ⟨w4_2, w5_2, S2⟩ := e
      show g_V g_KM 13 x 8 (g_qi g_KM 13 x z) S2 117 [(2, .int (p1)), (4, .int (w4_2)), (5, .int (w5_2))] []
      refine g_iload X dX8_ask_117 2 rfl ?_
      refine g_bipush X (v := (-4)) dX8_ask_119 (by decide) ?_
      refine g_icmp_eq X 128 dX8_ask_121 (by decide) h (fun c_121 h => ?_) (fun c_121 h => ?_)
      · skip
        refine g_sub [2] _ rfl ?_
        exact vj_X8_ask_128 X w5_2  _ h
      · skip
        refine g_iload_n X dX8_ask_124 0 rfl ?_
        refine g_if_ne X 133 dX8_ask_125 (by decide) h (fun c_125 h => ?_) (fun c_125 h => ?_)
        · skip
          refine g_iload X dX8_ask_133 1 rfl ?_
          exact g_iret X h dX8_ask_135
        · skip
          refine g_sub [2] _ rfl ?_
          exact vj_X8_ask_128 X w5_2  _ h
    · skip
      refine g_iconst X (v := (-1)) dX8_ask_18 (by decide) ?_
      exact g_iret X h dX8_ask_19
abbrev rm_X8_drift : Room := { frames := 3, cells := 0, slots := 0, locals := 70 }
theorem hd_X8_drift : yX8_drift.cls = RX8 ∧ yX8_drift.cls ≠ "java/lang/invoke/MethodHandle" ∧ yX8_drift.cls ≠ "java/lang/invoke/VarHandle" ∧ (parseMethodDescriptor yX8_drift.desc).map (fun d => d.parameters.length) = some 3 := by decide +kernel
theorem w_X8_drift_119 : Cond.constantLong RX8 119 (100) ∈ wsX8_drift := by decide +kernel
theorem w_X8_drift_7 : Cond.fieldLink RX8 7 "TokenDoorsModel" "state" "[I" ∈ wsX8_drift := by decide +kernel
theorem w_X8_drift_inX8 : ∀ w ∈ wsX80, w ∈ wsX8_drift := by decide +kernel
theorem w_X8_drift_227 : Cond.constant RX8 227 (1103515245) ∈ wsX8_drift := by decide +kernel
theorem w_X8_drift_124 : Cond.fieldLink RX8 124 "TokenDoorsModel" "turned" "I" ∈ wsX8_drift := by decide +kernel
theorem w_X8_drift_121 : Cond.fieldLink RX8 121 "TokenDoorsModel" "let" "I" ∈ wsX8_drift := by decide +kernel
def b_X8_drift_55 (fu : Nat) (v0 : Nat) (v2 : Int32) (v3 : Int32) (v4 : Int32) (v5 : Int32) (S : g_St) : Option ((Int32 × Int32 × g_St) ⊕ (g_St)) :=
  if v2 ≤ v5 then (some (.inr S)) else (g_nz (10 : Int32) (g_bd (f_X8_tickOn fu v0 ((180 : Int32)) ((((((v4 * (1103515245 : Int32)) + (12345 : Int32)) >>> ((16 : Int32) &&& 31)) &&& (32767 : Int32)) - ((((v4 * (1103515245 : Int32)) + (12345 : Int32)) >>> ((16 : Int32) &&& 31)) &&& (32767 : Int32)) / (10 : Int32) * (10 : Int32))) S) fun r7 Sr7 => some (.inl (((v4 * (1103515245 : Int32)) + (12345 : Int32)), (v5 + 1), Sr7))))
def f_X8_drift (fu : Nat) (o : Nat) (p0 : Int32) (p1 : Int32) (p2 : Int32) (S : g_St) : Option (Int32 × g_St) :=
  g_bd (f_X8_in fu ((Int32.toInt64 p1)) ((1 : Int64)) ((100 : Int64)) S) fun r1 Sr1 => if r1 = 0 then (some ((-1 : Int32), Sr1)) else (g_bd (f_X8_in fu ((Int32.toInt64 p2)) ((0 : Int64)) ((1 : Int64)) Sr1) fun r2 Sr2 => if r2 = 0 then (some ((-1 : Int32), Sr2)) else (g_ld g_KM 13 (.inr (0, 270, false)) (Sr2.2 o 0) fun a3 => g_ix (16 : Int32) 270 fun i4 => if (Sr2.1 a3 i4) = 0 then (some ((-2 : Int32), Sr2)) else (g_bd (f_X8_copies fu o ((0 : Int32)) ((180 : Int32)) Sr2) fun _ Sr5 => g_bd (f_X8_starts fu o Sr5) fun _ Sr6 => g_th (g_lp (fun t => b_X8_drift_55 fu o p1 p2 t.1 t.2.1 t.2.2) fu (p0, (0 : Int32), Sr6)) fun e => match e with | S1 => if p2 = 0 then (some ((S1.1 o 14), S1)) else (some ((S1.1 o 15), S1)))))
set_option maxRecDepth 100000 in
set_option maxHeartbeats 400000 in
theorem vb_X8_drift_55 {x : g_CX} {z : Int32 × g_St} {fu : Nat} (X : g_X 13 x cX8_drift RX8 6 wsX8_drift rm_X8_drift (some .int)) (v0 : Nat) (v2 : Int32) (v3 : Int32) (v4 : Int32) (v5 : Int32) (hk_v0 : v0 < 13 ∧ g_KM v0 = g_kX8) (S : g_St) {r : (Int32 × Int32 × g_St) ⊕ (g_St)} (h : b_X8_drift_55 fu v0 v2 v3 v4 v5 S = some r) (hc : Sum.elim (fun t : Int32 × Int32 × g_St => g_V g_KM 13 x 6 (g_qi g_KM 13 x z) t.2.2 55 [(0, .ref (g_ad x v0)), (2, .int (v2)), (3, .int (v3)), (4, .int (t.1)), (5, .int (t.2.1))] []) (fun e : g_St => g_V g_KM 13 x 6 (g_qi g_KM 13 x z) e 98 [(0, .ref (g_ad x v0)), (3, .int (v3))] []) r) : g_V g_KM 13 x 6 (g_qi g_KM 13 x z) S 55 [(0, .ref (g_ad x v0)), (2, .int (v2)), (3, .int (v3)), (4, .int (v4)), (5, .int (v5))] [] := by
  unfold b_X8_drift_55 at h
  refine g_iload X dX8_drift_55 4 rfl ?_
  refine g_iload_n X dX8_drift_57 1 rfl ?_
  refine g_icmp_ge X 98 dX8_drift_58 (by decide) h (fun c_58 h => ?_) (fun c_58 h => ?_)
  · skip
    cases h
    exact g_sub [0, 2] _ rfl hc
  · skip
    refine g_iload X dX8_drift_61 3 rfl ?_
    refine g_ldc X w_X8_drift_227 dX8_drift_63 ?_
    refine g_imul X dX8_drift_65 ?_
    refine g_sipush X (v := (12345)) dX8_drift_66 (by decide) ?_
    refine g_iadd X dX8_drift_69 ?_
    refine g_istore X [(4, _), (0, _), (2, _), (3, _), (5, _)] dX8_drift_70 (by decide) rfl ?_
    refine g_aload_n X dX8_drift_72 1 rfl ?_
    refine g_sipush X (v := (180)) dX8_drift_73 (by decide) ?_
    refine g_iload X dX8_drift_76 0 rfl ?_
    refine g_bipush X (v := (16)) dX8_drift_78 (by decide) ?_
    refine g_ishr X dX8_drift_80 ?_
    refine g_sipush X (v := (32767)) dX8_drift_81 (by decide) ?_
    refine g_iand X dX8_drift_84 ?_
    refine g_bipush X (v := (10)) dX8_drift_85 (by decide) ?_
    refine g_irem X dX8_drift_87 h (fun h => ?_)
    refine g_callVi X g_cX8 hk_v0 [.int ((180 : Int32)), .int ((((((v4 * (1103515245 : Int32)) + (12345 : Int32)) >>> ((16 : Int32) &&& 31)) &&& (32767 : Int32)) - ((((v4 * (1103515245 : Int32)) + (12345 : Int32)) >>> ((16 : Int32) &&& 31)) &&& (32767 : Int32)) / (10 : Int32) * (10 : Int32)))] rfl (cwV 2 X.2.2.2.2.1 gX8_drift_X8_tickOn rfl rfl rfl hd_X8_tickOn ⟨Nat.le_of_ble_eq_true rfl, Nat.le_of_ble_eq_true rfl⟩) (Nat.le_of_ble_eq_true rfl) dX8_drift_88 h (fun q hq => ct_X8_tickOn X.2.2.2.2.2.2.1 v0 ((180 : Int32)) ((((((v4 * (1103515245 : Int32)) + (12345 : Int32)) >>> ((16 : Int32) &&& 31)) &&& (32767 : Int32)) - ((((v4 * (1103515245 : Int32)) + (12345 : Int32)) >>> ((16 : Int32) &&& 31)) &&& (32767 : Int32)) / (10 : Int32) * (10 : Int32))) hk_v0 _ hq) (fun r7 Sr7 h => ?_)
    refine g_pop X dX8_drift_91 rfl ?_
    refine g_iinc X [(5, _), (4, _), (0, _), (2, _), (3, _)] dX8_drift_92 4 rfl rfl (by decide) rfl ?_
    refine g_goto X 55 dX8_drift_95 (by decide) ?_
    cases h
    exact g_sub [2, 3, 4, 1, 0] _ rfl hc
set_option maxRecDepth 100000 in
set_option maxHeartbeats 400000 in
theorem ct_X8_drift {l : Launch} {D : va_G} {ad : Nat → Nat} {cy : Nat → ClassId} {zz : (Nat → Nat) × (Nat → Nat)} (hinj : ∀ i j, i < 13 → j < 13 → ad i = ad j → i = j) {fu : Nat} (o : Nat) (p0 : Int32) (p1 : Int32) (p2 : Int32) (hk_o : o < 13 ∧ g_KM o = g_kX8) {S : g_St} (z : Int32 × g_St) (h : f_X8_drift fu o p0 p1 p2 S = some z) : g_Mi l g_KM 13 D ad cy zz yX8_drift wsX8_drift rm_X8_drift [.ref (ad o), .int (p0), .int (p1), .int (p2)] S z := by
  refine g_ofi hinj (cc := cX8_drift) (maxL := 6) (ret := (some .int)) (lv := [(0, .ref (ad o)), (1, .int (p0)), (2, .int (p1)), (3, .int (p2))]) (by decide) rfl (Nat.le_of_ble_eq_true rfl) rfl ?_
  intro x X hl hD ha hy hz
  subst hl hD ha hy hz
  unfold f_X8_drift at h
  refine g_iload_n X dX8_drift_0 2 rfl ?_
  refine g_i2l X dX8_drift_1 ?_
  refine g_lconst X (v := 1) dX8_drift_2 (by decide) ?_
  refine g_ldc2 X w_X8_drift_119 dX8_drift_3 ?_
  refine g_callSi X [.long ((Int32.toInt64 p1)), .long ((1 : Int64)), .long ((100 : Int64))] rfl (va_cwS 3 X.2.2.2.2.1 gX8_drift_X8_in rfl rfl rfl hd_X8_in ⟨Nat.le_of_ble_eq_true rfl, Nat.le_of_ble_eq_true rfl⟩) (Nat.le_of_ble_eq_true rfl) dX8_drift_6 h (fun q hq => ct_X8_in X.2.2.2.2.2.2.1 ((Int32.toInt64 p1)) ((1 : Int64)) ((100 : Int64))  _ hq) (fun r1 Sr1 h => ?_)
  refine g_if_eq X 22 dX8_drift_9 (by decide) h (fun c_9 h => ?_) (fun c_9 h => ?_)
  · skip
    refine g_iconst X (v := (-1)) dX8_drift_22 (by decide) ?_
    exact g_iret X h dX8_drift_23
  · skip
    refine g_iload_n X dX8_drift_12 3 rfl ?_
    refine g_i2l X dX8_drift_13 ?_
    refine g_lconst X (v := 0) dX8_drift_14 (by decide) ?_
    refine g_lconst X (v := 1) dX8_drift_15 (by decide) ?_
    refine g_callSi X [.long ((Int32.toInt64 p2)), .long ((0 : Int64)), .long ((1 : Int64))] rfl (va_cwS 3 X.2.2.2.2.1 gX8_drift_X8_in rfl rfl rfl hd_X8_in ⟨Nat.le_of_ble_eq_true rfl, Nat.le_of_ble_eq_true rfl⟩) (Nat.le_of_ble_eq_true rfl) dX8_drift_16 h (fun q hq => ct_X8_in X.2.2.2.2.2.2.1 ((Int32.toInt64 p2)) ((0 : Int64)) ((1 : Int64))  _ hq) (fun r2 Sr2 h => ?_)
    refine g_if_ne X 24 dX8_drift_19 (by decide) h (fun c_19 h => ?_) (fun c_19 h => ?_)
    · skip
      refine g_aload_n X dX8_drift_24 0 rfl ?_
      refine g_getr X g_cX8 w_X8_drift_inX8 0 (by decide) w_X8_drift_7 hk_o rfl dX8_drift_25 h (fun a3 hk_a3 h => ?_)
      refine g_bipush X (v := (16)) dX8_drift_28 (by decide) ?_
      refine g_iald X hk_a3 dX8_drift_30 h (fun i4 _ h => ?_)
      refine g_if_ne X 37 dX8_drift_31 (by decide) h (fun c_31 h => ?_) (fun c_31 h => ?_)
      · skip
        refine g_aload_n X dX8_drift_37 0 rfl ?_
        refine g_iconst X (v := 0) dX8_drift_38 (by decide) ?_
        refine g_sipush X (v := (180)) dX8_drift_39 (by decide) ?_
        refine g_callVv X g_cX8 hk_o [.int ((0 : Int32)), .int ((180 : Int32))] rfl (cwV 2 X.2.2.2.2.1 gX8_drift_X8_copies rfl rfl rfl hd_X8_copies ⟨Nat.le_of_ble_eq_true rfl, Nat.le_of_ble_eq_true rfl⟩) (Nat.le_of_ble_eq_true rfl) dX8_drift_42 h (fun q hq => ct_X8_copies X.2.2.2.2.2.2.1 o ((0 : Int32)) ((180 : Int32)) hk_o _ hq) (fun _ Sr5 h => ?_)
        refine g_aload_n X dX8_drift_45 0 rfl ?_
        refine g_callVv X g_cX8 hk_o [] rfl (cwV 0 X.2.2.2.2.1 gX8_drift_X8_starts rfl rfl rfl hd_X8_starts ⟨Nat.le_of_ble_eq_true rfl, Nat.le_of_ble_eq_true rfl⟩) (Nat.le_of_ble_eq_true rfl) dX8_drift_46 h (fun q hq => ct_X8_starts X.2.2.2.2.2.2.1 o hk_o _ hq) (fun _ Sr6 h => ?_)
        refine g_iload_n X dX8_drift_49 1 rfl ?_
        refine g_istore X [(4, _), (0, _), (1, _), (2, _), (3, _)] dX8_drift_50 (by decide) rfl ?_
        refine g_iconst X (v := 0) dX8_drift_52 (by decide) ?_
        refine g_istore X [(5, _), (4, _), (0, _), (1, _), (2, _), (3, _)] dX8_drift_53 (by decide) rfl ?_
        obtain ⟨e, he, h⟩ := g_th_s h
        refine g_sub [2, 4, 5, 1, 0] _ rfl ?_
        refine g_lp_w (body := (fun t => b_X8_drift_55 fu o p1 p2 t.1 t.2.1 t.2.2)) (P := fun t : Int32 × Int32 × g_St => g_V g_KM 13 x 6 (g_qi g_KM 13 x z) t.2.2 55 [(0, .ref (g_ad x o)), (2, .int (p1)), (3, .int (p2)), (4, .int (t.1)), (5, .int (t.2.1))] []) (E := (fun e : g_St => g_V g_KM 13 x 6 (g_qi g_KM 13 x z) e 98 [(0, .ref (g_ad x o)), (3, .int (p2))] [])) (fun t r hb hc => vb_X8_drift_55 X o p1 p2 t.1 t.2.1 hk_o t.2.2 hb hc) fu (p0, (0 : Int32), Sr6) e he ?_
        obtain ⟨S1, rfl⟩ : ∃ q, q = e := ⟨_, rfl⟩
        show g_V g_KM 13 x 6 (g_qi g_KM 13 x z) S1 98 [(0, .ref (g_ad x o)), (3, .int (p2))] []
        refine g_iload_n X dX8_drift_98 1 rfl ?_
        refine g_if_ne X 109 dX8_drift_99 (by decide) h (fun c_99 h => ?_) (fun c_99 h => ?_)
        · skip
          refine g_aload_n X dX8_drift_109 0 rfl ?_
          refine g_geti X g_cX8 w_X8_drift_inX8 15 (by decide) w_X8_drift_124 hk_o rfl dX8_drift_110 ?_
          exact g_iret X h dX8_drift_113
        · skip
          refine g_aload_n X dX8_drift_102 0 rfl ?_
          refine g_geti X g_cX8 w_X8_drift_inX8 14 (by decide) w_X8_drift_121 hk_o rfl dX8_drift_103 ?_
          refine g_goto X 113 dX8_drift_106 (by decide) ?_
          exact g_iret X h dX8_drift_113
      · skip
        refine g_bipush X (v := (-2)) dX8_drift_34 (by decide) ?_
        exact g_iret X h dX8_drift_36
    · skip
      refine g_iconst X (v := (-1)) dX8_drift_22 (by decide) ?_
      exact g_iret X h dX8_drift_23
abbrev rm_X8_keep : Room := { frames := 1, cells := 0, slots := 0, locals := 25 }
theorem hd_X8_keep : yX8_keep.cls = RX8 ∧ yX8_keep.cls ≠ "java/lang/invoke/MethodHandle" ∧ yX8_keep.cls ≠ "java/lang/invoke/VarHandle" ∧ (parseMethodDescriptor yX8_keep.desc).map (fun d => d.parameters.length) = some 1 := by decide +kernel
theorem w_X8_keep_38 : Cond.fieldLink RX8 38 "TokenDoorsModel" "isKept" "[Z" ∈ wsX8_keep := by decide +kernel
theorem w_X8_keep_inX8 : ∀ w ∈ wsX80, w ∈ wsX8_keep := by decide +kernel
def j_X8_keep_37 (fu : Nat) (v0 : Nat) (v1 : Int32) (s0 : Int32) (S : g_St) : Option (Int32 × g_St) :=
  g_ld g_KM 13 (.inr (2, 2, false)) (S.2 v0 22) fun a5 => g_ix v1 2 fun i6 => some (s0, (g_u S.1 a5 i6 (vp_nar .boolean (1 : Int32)), S.2))
def f_X8_keep (fu : Nat) (o : Nat) (p0 : Int32) (S : g_St) : Option (Int32 × g_St) :=
  g_bd (f_X8_in fu ((Int32.toInt64 p0)) ((0 : Int64)) ((1 : Int64)) S) fun r1 Sr1 => if r1 = 0 then (some ((-1 : Int32), Sr1)) else (g_bd (f_X8_copies fu o ((0 : Int32)) (((45 : Int32) * (p0 + (1 : Int32)))) Sr1) fun _ Sr2 => g_ld g_KM 13 (.inr (2, 2, false)) (Sr2.2 o 22) fun a3 => g_ix p0 2 fun i4 => if (Sr2.1 a3 i4) = 0 then (j_X8_keep_37 fu o p0 ((0 : Int32)) Sr2) else (j_X8_keep_37 fu o p0 ((1 : Int32)) Sr2))
set_option maxRecDepth 100000 in
set_option maxHeartbeats 400000 in
theorem vj_X8_keep_37 {x : g_CX} {z : Int32 × g_St} {fu : Nat} (X : g_X 13 x cX8_keep RX8 3 wsX8_keep rm_X8_keep (some .int)) (v0 : Nat) (v1 : Int32) (s0 : Int32) (hk_v0 : v0 < 13 ∧ g_KM v0 = g_kX8) (S : g_St) (h : j_X8_keep_37 fu v0 v1 s0 S = some z) : g_V g_KM 13 x 3 (g_qi g_KM 13 x z) S 37 [(0, .ref (g_ad x v0)), (1, .int (v1))] [.int (s0)] := by
  unfold j_X8_keep_37 at h
  refine g_istore_n X [(2, _), (0, _), (1, _)] dX8_keep_37 (by decide) rfl ?_
  refine g_aload_n X dX8_keep_38 1 rfl ?_
  refine g_getr X g_cX8 w_X8_keep_inX8 22 (by decide) w_X8_keep_38 hk_v0 rfl dX8_keep_39 h (fun a5 hk_a5 h => ?_)
  refine g_iload_n X dX8_keep_42 2 rfl ?_
  refine g_iconst X (v := 1) dX8_keep_43 (by decide) ?_
  refine g_zast X hk_a5 dX8_keep_44 h (fun i6 _ h => ?_)
  refine g_iload_n X dX8_keep_45 0 rfl ?_
  exact g_iret X h dX8_keep_46
set_option maxRecDepth 100000 in
set_option maxHeartbeats 400000 in
theorem ct_X8_keep {l : Launch} {D : va_G} {ad : Nat → Nat} {cy : Nat → ClassId} {zz : (Nat → Nat) × (Nat → Nat)} (hinj : ∀ i j, i < 13 → j < 13 → ad i = ad j → i = j) {fu : Nat} (o : Nat) (p0 : Int32) (hk_o : o < 13 ∧ g_KM o = g_kX8) {S : g_St} (z : Int32 × g_St) (h : f_X8_keep fu o p0 S = some z) : g_Mi l g_KM 13 D ad cy zz yX8_keep wsX8_keep rm_X8_keep [.ref (ad o), .int (p0)] S z := by
  refine g_ofi hinj (cc := cX8_keep) (maxL := 3) (ret := (some .int)) (lv := [(0, .ref (ad o)), (1, .int (p0))]) (by decide) rfl (Nat.le_of_ble_eq_true rfl) rfl ?_
  intro x X hl hD ha hy hz
  subst hl hD ha hy hz
  unfold f_X8_keep at h
  refine g_iload_n X dX8_keep_0 1 rfl ?_
  refine g_i2l X dX8_keep_1 ?_
  refine g_lconst X (v := 0) dX8_keep_2 (by decide) ?_
  refine g_lconst X (v := 1) dX8_keep_3 (by decide) ?_
  refine g_callSi X [.long ((Int32.toInt64 p0)), .long ((0 : Int64)), .long ((1 : Int64))] rfl (va_cwS 3 X.2.2.2.2.1 gX8_keep_X8_in rfl rfl rfl hd_X8_in ⟨Nat.le_of_ble_eq_true rfl, Nat.le_of_ble_eq_true rfl⟩) (Nat.le_of_ble_eq_true rfl) dX8_keep_4 h (fun q hq => ct_X8_in X.2.2.2.2.2.2.1 ((Int32.toInt64 p0)) ((0 : Int64)) ((1 : Int64))  _ hq) (fun r1 Sr1 h => ?_)
  refine g_if_ne X 12 dX8_keep_7 (by decide) h (fun c_7 h => ?_) (fun c_7 h => ?_)
  · skip
    refine g_aload_n X dX8_keep_12 0 rfl ?_
    refine g_iconst X (v := 0) dX8_keep_13 (by decide) ?_
    refine g_bipush X (v := (45)) dX8_keep_14 (by decide) ?_
    refine g_iload_n X dX8_keep_16 1 rfl ?_
    refine g_iconst X (v := 1) dX8_keep_17 (by decide) ?_
    refine g_iadd X dX8_keep_18 ?_
    refine g_imul X dX8_keep_19 ?_
    refine g_callVv X g_cX8 hk_o [.int ((0 : Int32)), .int (((45 : Int32) * (p0 + (1 : Int32))))] rfl (cwV 2 X.2.2.2.2.1 gX8_keep_X8_copies rfl rfl rfl hd_X8_copies ⟨Nat.le_of_ble_eq_true rfl, Nat.le_of_ble_eq_true rfl⟩) (Nat.le_of_ble_eq_true rfl) dX8_keep_20 h (fun q hq => ct_X8_copies X.2.2.2.2.2.2.1 o ((0 : Int32)) (((45 : Int32) * (p0 + (1 : Int32)))) hk_o _ hq) (fun _ Sr2 h => ?_)
    refine g_aload_n X dX8_keep_23 0 rfl ?_
    refine g_getr X g_cX8 w_X8_keep_inX8 22 (by decide) w_X8_keep_38 hk_o rfl dX8_keep_24 h (fun a3 hk_a3 h => ?_)
    refine g_iload_n X dX8_keep_27 1 rfl ?_
    refine g_zald X hk_a3 dX8_keep_28 h (fun i4 _ h => ?_)
    refine g_if_eq X 36 dX8_keep_29 (by decide) h (fun c_29 h => ?_) (fun c_29 h => ?_)
    · skip
      refine g_iconst X (v := 0) dX8_keep_36 (by decide) ?_
      refine g_sub [0, 1] _ rfl ?_
      exact vj_X8_keep_37 X o p0 ((0 : Int32)) hk_o _ h
    · skip
      refine g_iconst X (v := 1) dX8_keep_32 (by decide) ?_
      refine g_goto X 37 dX8_keep_33 (by decide) ?_
      refine g_sub [0, 1] _ rfl ?_
      exact vj_X8_keep_37 X o p0 ((1 : Int32)) hk_o _ h
  · skip
    refine g_iconst X (v := (-1)) dX8_keep_10 (by decide) ?_
    exact g_iret X h dX8_keep_11
abbrev rm_X8_back : Room := { frames := 1, cells := 0, slots := 0, locals := 25 }
theorem hd_X8_back : yX8_back.cls = RX8 ∧ yX8_back.cls ≠ "java/lang/invoke/MethodHandle" ∧ yX8_back.cls ≠ "java/lang/invoke/VarHandle" ∧ (parseMethodDescriptor yX8_back.desc).map (fun d => d.parameters.length) = some 1 := by decide +kernel
theorem w_X8_back_38 : Cond.fieldLink RX8 38 "TokenDoorsModel" "isKept" "[Z" ∈ wsX8_back := by decide +kernel
theorem w_X8_back_inX8 : ∀ w ∈ wsX80, w ∈ wsX8_back := by decide +kernel
theorem w_X8_back_7 : Cond.fieldLink RX8 7 "TokenDoorsModel" "state" "[I" ∈ wsX8_back := by decide +kernel
def f_X8_back (fu : Nat) (o : Nat) (p0 : Int32) (S : g_St) : Option (Int32 × g_St) :=
  g_bd (f_X8_in fu ((Int32.toInt64 p0)) ((0 : Int64)) ((1 : Int64)) S) fun r1 Sr1 => if r1 = 0 then (some ((-1 : Int32), Sr1)) else (g_ld g_KM 13 (.inr (2, 2, false)) (Sr1.2 o 22) fun a2 => g_ix p0 2 fun i3 => if (Sr1.1 a2 i3) = 0 then (some ((-2 : Int32), Sr1)) else (g_bd (f_X8_copies fu o (((45 : Int32) * (p0 + (1 : Int32)))) ((0 : Int32)) Sr1) fun _ Sr4 => g_ld g_KM 13 (.inr (0, 270, false)) (Sr4.2 o 0) fun a5 => g_ix (42 : Int32) 270 fun i6 => some ((Sr4.1 a5 i6), Sr4)))
set_option maxRecDepth 100000 in
set_option maxHeartbeats 400000 in
theorem ct_X8_back {l : Launch} {D : va_G} {ad : Nat → Nat} {cy : Nat → ClassId} {zz : (Nat → Nat) × (Nat → Nat)} (hinj : ∀ i j, i < 13 → j < 13 → ad i = ad j → i = j) {fu : Nat} (o : Nat) (p0 : Int32) (hk_o : o < 13 ∧ g_KM o = g_kX8) {S : g_St} (z : Int32 × g_St) (h : f_X8_back fu o p0 S = some z) : g_Mi l g_KM 13 D ad cy zz yX8_back wsX8_back rm_X8_back [.ref (ad o), .int (p0)] S z := by
  refine g_ofi hinj (cc := cX8_back) (maxL := 2) (ret := (some .int)) (lv := [(0, .ref (ad o)), (1, .int (p0))]) (by decide) rfl (Nat.le_of_ble_eq_true rfl) rfl ?_
  intro x X hl hD ha hy hz
  subst hl hD ha hy hz
  unfold f_X8_back at h
  refine g_iload_n X dX8_back_0 1 rfl ?_
  refine g_i2l X dX8_back_1 ?_
  refine g_lconst X (v := 0) dX8_back_2 (by decide) ?_
  refine g_lconst X (v := 1) dX8_back_3 (by decide) ?_
  refine g_callSi X [.long ((Int32.toInt64 p0)), .long ((0 : Int64)), .long ((1 : Int64))] rfl (va_cwS 3 X.2.2.2.2.1 gX8_back_X8_in rfl rfl rfl hd_X8_in ⟨Nat.le_of_ble_eq_true rfl, Nat.le_of_ble_eq_true rfl⟩) (Nat.le_of_ble_eq_true rfl) dX8_back_4 h (fun q hq => ct_X8_in X.2.2.2.2.2.2.1 ((Int32.toInt64 p0)) ((0 : Int64)) ((1 : Int64))  _ hq) (fun r1 Sr1 h => ?_)
  refine g_if_ne X 12 dX8_back_7 (by decide) h (fun c_7 h => ?_) (fun c_7 h => ?_)
  · skip
    refine g_aload_n X dX8_back_12 0 rfl ?_
    refine g_getr X g_cX8 w_X8_back_inX8 22 (by decide) w_X8_back_38 hk_o rfl dX8_back_13 h (fun a2 hk_a2 h => ?_)
    refine g_iload_n X dX8_back_16 1 rfl ?_
    refine g_zald X hk_a2 dX8_back_17 h (fun i3 _ h => ?_)
    refine g_if_ne X 24 dX8_back_18 (by decide) h (fun c_18 h => ?_) (fun c_18 h => ?_)
    · skip
      refine g_aload_n X dX8_back_24 0 rfl ?_
      refine g_bipush X (v := (45)) dX8_back_25 (by decide) ?_
      refine g_iload_n X dX8_back_27 1 rfl ?_
      refine g_iconst X (v := 1) dX8_back_28 (by decide) ?_
      refine g_iadd X dX8_back_29 ?_
      refine g_imul X dX8_back_30 ?_
      refine g_iconst X (v := 0) dX8_back_31 (by decide) ?_
      refine g_callVv X g_cX8 hk_o [.int (((45 : Int32) * (p0 + (1 : Int32)))), .int ((0 : Int32))] rfl (cwV 2 X.2.2.2.2.1 gX8_back_X8_copies rfl rfl rfl hd_X8_copies ⟨Nat.le_of_ble_eq_true rfl, Nat.le_of_ble_eq_true rfl⟩) (Nat.le_of_ble_eq_true rfl) dX8_back_32 h (fun q hq => ct_X8_copies X.2.2.2.2.2.2.1 o (((45 : Int32) * (p0 + (1 : Int32)))) ((0 : Int32)) hk_o _ hq) (fun _ Sr4 h => ?_)
      refine g_aload_n X dX8_back_35 0 rfl ?_
      refine g_getr X g_cX8 w_X8_back_inX8 0 (by decide) w_X8_back_7 hk_o rfl dX8_back_36 h (fun a5 hk_a5 h => ?_)
      refine g_bipush X (v := (42)) dX8_back_39 (by decide) ?_
      refine g_iald X hk_a5 dX8_back_41 h (fun i6 _ h => ?_)
      exact g_iret X h dX8_back_42
    · skip
      refine g_bipush X (v := (-2)) dX8_back_21 (by decide) ?_
      exact g_iret X h dX8_back_23
  · skip
    refine g_iconst X (v := (-1)) dX8_back_10 (by decide) ?_
    exact g_iret X h dX8_back_11
abbrev rm_X8_sheet : Room := { frames := 1, cells := 0, slots := 0, locals := 25 }
theorem hd_X8_sheet : yX8_sheet.cls = RX8 ∧ yX8_sheet.cls ≠ "java/lang/invoke/MethodHandle" ∧ yX8_sheet.cls ≠ "java/lang/invoke/VarHandle" ∧ (parseMethodDescriptor yX8_sheet.desc).map (fun d => d.parameters.length) = some 3 := by decide +kernel
theorem w_X8_sheet_159 : Cond.constantLong RX8 159 (3) ∈ wsX8_sheet := by decide +kernel
theorem w_X8_sheet_157 : Cond.constantLong RX8 157 (2) ∈ wsX8_sheet := by decide +kernel
theorem w_X8_sheet_42 : Cond.fieldLink RX8 42 "TokenDoorsModel" "lanes" "[I" ∈ wsX8_sheet := by decide +kernel
theorem w_X8_sheet_inX8 : ∀ w ∈ wsX80, w ∈ wsX8_sheet := by decide +kernel
theorem w_X8_sheet_45 : Cond.fieldLink RX8 45 "TokenDoorsModel" "lengths" "[I" ∈ wsX8_sheet := by decide +kernel
theorem w_X8_sheet_48 : Cond.fieldLink RX8 48 "TokenDoorsModel" "cells" "[I" ∈ wsX8_sheet := by decide +kernel
def b_X8_sheet_56 (fu : Nat) (v0 : Nat) (v1 : Int32) (v4 : Int32) (S : g_St) : Option ((Int32 × g_St) ⊕ (g_St)) :=
  if (40 : Int32) ≤ v4 then (some (.inr S)) else (g_ld g_KM 13 (.inr (0, 160, false)) (S.2 v0 25) fun a7 => g_ix (((40 : Int32) * v1) + v4) 160 fun i8 => some (.inl ((v4 + 1), (g_u S.1 a7 i8 (0 : Int32), S.2))))
def f_X8_sheet (fu : Nat) (o : Nat) (p0 : Int32) (p1 : Int32) (p2 : Int32) (S : g_St) : Option (Int32 × g_St) :=
  g_bd (f_X8_in fu ((Int32.toInt64 p0)) ((0 : Int64)) ((3 : Int64)) S) fun r1 Sr1 => if r1 = 0 then (some ((-1 : Int32), Sr1)) else (g_bd (f_X8_in fu ((Int32.toInt64 p1)) ((0 : Int64)) ((2 : Int64)) Sr1) fun r2 Sr2 => if r2 = 0 then (some ((-1 : Int32), Sr2)) else (if p2 ≤ (40 : Int32) then (if 0 ≤ p2 then (g_ld g_KM 13 (.inr (0, 4, false)) (Sr2.2 o 23) fun a3 => g_ix p0 4 fun i4 => g_ld g_KM 13 (.inr (0, 4, false)) (Sr2.2 o 24) fun a5 => g_ix p0 4 fun i6 => g_th (g_lp (fun t => b_X8_sheet_56 fu o p0 t.1 t.2) fu ((0 : Int32), (g_u (g_u Sr2.1 a3 i4 p1) a5 i6 p2, Sr2.2))) fun e => match e with | S1 => some ((1 : Int32), S1)) else (some ((-14 : Int32), Sr2))) else (some ((-1 : Int32), Sr2))))
set_option maxRecDepth 100000 in
set_option maxHeartbeats 400000 in
theorem vb_X8_sheet_56 {x : g_CX} {z : Int32 × g_St} {fu : Nat} (X : g_X 13 x cX8_sheet RX8 5 wsX8_sheet rm_X8_sheet (some .int)) (v0 : Nat) (v1 : Int32) (v4 : Int32) (hk_v0 : v0 < 13 ∧ g_KM v0 = g_kX8) (S : g_St) {r : (Int32 × g_St) ⊕ (g_St)} (h : b_X8_sheet_56 fu v0 v1 v4 S = some r) (hc : Sum.elim (fun t : Int32 × g_St => g_V g_KM 13 x 5 (g_qi g_KM 13 x z) t.2 56 [(0, .ref (g_ad x v0)), (1, .int (v1)), (4, .int (t.1))] []) (fun e : g_St => g_V g_KM 13 x 5 (g_qi g_KM 13 x z) e 82 [] []) r) : g_V g_KM 13 x 5 (g_qi g_KM 13 x z) S 56 [(0, .ref (g_ad x v0)), (1, .int (v1)), (4, .int (v4))] [] := by
  unfold b_X8_sheet_56 at h
  refine g_iload X dX8_sheet_56 2 rfl ?_
  refine g_bipush X (v := (40)) dX8_sheet_58 (by decide) ?_
  refine g_icmp_ge X 82 dX8_sheet_60 (by decide) h (fun c_60 h => ?_) (fun c_60 h => ?_)
  · skip
    cases h
    exact g_sub [] _ rfl hc
  · skip
    refine g_aload_n X dX8_sheet_63 0 rfl ?_
    refine g_getr X g_cX8 w_X8_sheet_inX8 25 (by decide) w_X8_sheet_48 hk_v0 rfl dX8_sheet_64 h (fun a7 hk_a7 h => ?_)
    refine g_bipush X (v := (40)) dX8_sheet_67 (by decide) ?_
    refine g_iload_n X dX8_sheet_69 1 rfl ?_
    refine g_imul X dX8_sheet_70 ?_
    refine g_iload X dX8_sheet_71 2 rfl ?_
    refine g_iadd X dX8_sheet_73 ?_
    refine g_iconst X (v := 0) dX8_sheet_74 (by decide) ?_
    refine g_iast X hk_a7 dX8_sheet_75 h (fun i8 _ h => ?_)
    refine g_iinc X [(4, _), (0, _), (1, _)] dX8_sheet_76 2 rfl rfl (by decide) rfl ?_
    refine g_goto X 56 dX8_sheet_79 (by decide) ?_
    cases h
    exact g_sub [1, 2, 0] _ rfl hc
set_option maxRecDepth 100000 in
set_option maxHeartbeats 400000 in
theorem ct_X8_sheet {l : Launch} {D : va_G} {ad : Nat → Nat} {cy : Nat → ClassId} {zz : (Nat → Nat) × (Nat → Nat)} (hinj : ∀ i j, i < 13 → j < 13 → ad i = ad j → i = j) {fu : Nat} (o : Nat) (p0 : Int32) (p1 : Int32) (p2 : Int32) (hk_o : o < 13 ∧ g_KM o = g_kX8) {S : g_St} (z : Int32 × g_St) (h : f_X8_sheet fu o p0 p1 p2 S = some z) : g_Mi l g_KM 13 D ad cy zz yX8_sheet wsX8_sheet rm_X8_sheet [.ref (ad o), .int (p0), .int (p1), .int (p2)] S z := by
  refine g_ofi hinj (cc := cX8_sheet) (maxL := 5) (ret := (some .int)) (lv := [(0, .ref (ad o)), (1, .int (p0)), (2, .int (p1)), (3, .int (p2))]) (by decide) rfl (Nat.le_of_ble_eq_true rfl) rfl ?_
  intro x X hl hD ha hy hz
  subst hl hD ha hy hz
  unfold f_X8_sheet at h
  refine g_iload_n X dX8_sheet_0 1 rfl ?_
  refine g_i2l X dX8_sheet_1 ?_
  refine g_lconst X (v := 0) dX8_sheet_2 (by decide) ?_
  refine g_ldc2 X w_X8_sheet_159 dX8_sheet_3 ?_
  refine g_callSi X [.long ((Int32.toInt64 p0)), .long ((0 : Int64)), .long ((3 : Int64))] rfl (va_cwS 3 X.2.2.2.2.1 gX8_sheet_X8_in rfl rfl rfl hd_X8_in ⟨Nat.le_of_ble_eq_true rfl, Nat.le_of_ble_eq_true rfl⟩) (Nat.le_of_ble_eq_true rfl) dX8_sheet_6 h (fun q hq => ct_X8_in X.2.2.2.2.2.2.1 ((Int32.toInt64 p0)) ((0 : Int64)) ((3 : Int64))  _ hq) (fun r1 Sr1 h => ?_)
  refine g_if_eq X 30 dX8_sheet_9 (by decide) h (fun c_9 h => ?_) (fun c_9 h => ?_)
  · skip
    refine g_iconst X (v := (-1)) dX8_sheet_30 (by decide) ?_
    exact g_iret X h dX8_sheet_31
  · skip
    refine g_iload_n X dX8_sheet_12 2 rfl ?_
    refine g_i2l X dX8_sheet_13 ?_
    refine g_lconst X (v := 0) dX8_sheet_14 (by decide) ?_
    refine g_ldc2 X w_X8_sheet_157 dX8_sheet_15 ?_
    refine g_callSi X [.long ((Int32.toInt64 p1)), .long ((0 : Int64)), .long ((2 : Int64))] rfl (va_cwS 3 X.2.2.2.2.1 gX8_sheet_X8_in rfl rfl rfl hd_X8_in ⟨Nat.le_of_ble_eq_true rfl, Nat.le_of_ble_eq_true rfl⟩) (Nat.le_of_ble_eq_true rfl) dX8_sheet_18 h (fun q hq => ct_X8_in X.2.2.2.2.2.2.1 ((Int32.toInt64 p1)) ((0 : Int64)) ((2 : Int64))  _ hq) (fun r2 Sr2 h => ?_)
    refine g_if_eq X 30 dX8_sheet_21 (by decide) h (fun c_21 h => ?_) (fun c_21 h => ?_)
    · skip
      refine g_iconst X (v := (-1)) dX8_sheet_30 (by decide) ?_
      exact g_iret X h dX8_sheet_31
    · skip
      refine g_iload_n X dX8_sheet_24 3 rfl ?_
      refine g_bipush X (v := (40)) dX8_sheet_25 (by decide) ?_
      refine g_icmp_le X 32 dX8_sheet_27 (by decide) h (fun c_27 h => ?_) (fun c_27 h => ?_)
      · skip
        refine g_iload_n X dX8_sheet_32 3 rfl ?_
        refine g_if_ge X 39 dX8_sheet_33 (by decide) h (fun c_33 h => ?_) (fun c_33 h => ?_)
        · skip
          refine g_aload_n X dX8_sheet_39 0 rfl ?_
          refine g_getr X g_cX8 w_X8_sheet_inX8 23 (by decide) w_X8_sheet_42 hk_o rfl dX8_sheet_40 h (fun a3 hk_a3 h => ?_)
          refine g_iload_n X dX8_sheet_43 1 rfl ?_
          refine g_iload_n X dX8_sheet_44 2 rfl ?_
          refine g_iast X hk_a3 dX8_sheet_45 h (fun i4 _ h => ?_)
          refine g_aload_n X dX8_sheet_46 0 rfl ?_
          refine g_getr X g_cX8 w_X8_sheet_inX8 24 (by decide) w_X8_sheet_45 hk_o rfl dX8_sheet_47 h (fun a5 hk_a5 h => ?_)
          refine g_iload_n X dX8_sheet_50 1 rfl ?_
          refine g_iload_n X dX8_sheet_51 3 rfl ?_
          refine g_iast X hk_a5 dX8_sheet_52 h (fun i6 _ h => ?_)
          refine g_iconst X (v := 0) dX8_sheet_53 (by decide) ?_
          refine g_istore X [(4, _), (0, _), (1, _), (2, _), (3, _)] dX8_sheet_54 (by decide) rfl ?_
          obtain ⟨e, he, h⟩ := g_th_s h
          refine g_sub [1, 2, 0] _ rfl ?_
          refine g_lp_w (body := (fun t => b_X8_sheet_56 fu o p0 t.1 t.2)) (P := fun t : Int32 × g_St => g_V g_KM 13 x 5 (g_qi g_KM 13 x z) t.2 56 [(0, .ref (g_ad x o)), (1, .int (p0)), (4, .int (t.1))] []) (E := (fun e : g_St => g_V g_KM 13 x 5 (g_qi g_KM 13 x z) e 82 [] [])) (fun t r hb hc => vb_X8_sheet_56 X o p0 t.1 hk_o t.2 hb hc) fu ((0 : Int32), (g_u (g_u Sr2.1 a3 i4 p1) a5 i6 p2, Sr2.2)) e he ?_
          obtain ⟨S1, rfl⟩ : ∃ q, q = e := ⟨_, rfl⟩
          show g_V g_KM 13 x 5 (g_qi g_KM 13 x z) S1 82 [] []
          refine g_iconst X (v := 1) dX8_sheet_82 (by decide) ?_
          exact g_iret X h dX8_sheet_83
        · skip
          refine g_bipush X (v := (-14)) dX8_sheet_36 (by decide) ?_
          exact g_iret X h dX8_sheet_38
      · skip
        refine g_iconst X (v := (-1)) dX8_sheet_30 (by decide) ?_
        exact g_iret X h dX8_sheet_31
abbrev rm_X8_lay : Room := { frames := 1, cells := 0, slots := 0, locals := 25 }
theorem hd_X8_lay : yX8_lay.cls = RX8 ∧ yX8_lay.cls ≠ "java/lang/invoke/MethodHandle" ∧ yX8_lay.cls ≠ "java/lang/invoke/VarHandle" ∧ (parseMethodDescriptor yX8_lay.desc).map (fun d => d.parameters.length) = some 3 := by decide +kernel
theorem w_X8_lay_159 : Cond.constantLong RX8 159 (3) ∈ wsX8_lay := by decide +kernel
theorem w_X8_lay_42 : Cond.fieldLink RX8 42 "TokenDoorsModel" "lanes" "[I" ∈ wsX8_lay := by decide +kernel
theorem w_X8_lay_inX8 : ∀ w ∈ wsX80, w ∈ wsX8_lay := by decide +kernel
theorem w_X8_lay_45 : Cond.fieldLink RX8 45 "TokenDoorsModel" "lengths" "[I" ∈ wsX8_lay := by decide +kernel
theorem w_X8_lay_48 : Cond.fieldLink RX8 48 "TokenDoorsModel" "cells" "[I" ∈ wsX8_lay := by decide +kernel
def j_X8_lay_99 (fu : Nat) (s0 : Nat) (s1 : Int32) (s2 : Int32) (S : g_St) : Option (Int32 × g_St) :=
  g_ix s1 160 fun i12 => some ((1 : Int32), (g_u S.1 s0 i12 s2, S.2))
def f_X8_lay (fu : Nat) (o : Nat) (p0 : Int32) (p1 : Int32) (p2 : Int32) (S : g_St) : Option (Int32 × g_St) :=
  g_bd (f_X8_in fu ((Int32.toInt64 p0)) ((0 : Int64)) ((3 : Int64)) S) fun r1 Sr1 => if r1 = 0 then (some ((-1 : Int32), Sr1)) else (g_ld g_KM 13 (.inr (0, 4, false)) (Sr1.2 o 23) fun a2 => g_ix p0 4 fun i3 => if (Sr1.1 a2 i3) = (-4 : Int32) then (some ((-11 : Int32), Sr1)) else (g_ld g_KM 13 (.inr (0, 4, false)) (Sr1.2 o 24) fun a4 => g_ix p0 4 fun i5 => g_bd (f_X8_in fu ((Int32.toInt64 p1)) ((0 : Int64)) ((Int32.toInt64 ((Sr1.1 a4 i5) - (1 : Int32)))) Sr1) fun r6 Sr6 => if r6 = 0 then (some ((-12 : Int32), Sr6)) else (g_ld g_KM 13 (.inr (0, 160, false)) (Sr6.2 o 25) fun a7 => g_ld g_KM 13 (.inr (0, 4, false)) (Sr6.2 o 23) fun a8 => g_ix p0 4 fun i9 => if (Sr6.1 a8 i9) = 0 then (j_X8_lay_99 fu a7 ((((40 : Int32) * p0) + p1)) (((p2 <<< ((24 : Int32) &&& 31)) >>> ((24 : Int32) &&& 31))) Sr6) else (g_ld g_KM 13 (.inr (0, 4, false)) (Sr6.2 o 23) fun a10 => g_ix p0 4 fun i11 => if (Sr6.1 a10 i11) = (1 : Int32) then (j_X8_lay_99 fu a7 ((((40 : Int32) * p0) + p1)) (((p2 <<< ((16 : Int32) &&& 31)) >>> ((16 : Int32) &&& 31))) Sr6) else (j_X8_lay_99 fu a7 ((((40 : Int32) * p0) + p1)) p2 Sr6)))))
set_option maxRecDepth 100000 in
set_option maxHeartbeats 400000 in
theorem vj_X8_lay_99 {x : g_CX} {z : Int32 × g_St} {fu : Nat} (X : g_X 13 x cX8_lay RX8 4 wsX8_lay rm_X8_lay (some .int)) (s0 : Nat) (s1 : Int32) (s2 : Int32) (hk_s0 : s0 < 13 ∧ g_KM s0 = (.inr (0, 160, false))) (S : g_St) (h : j_X8_lay_99 fu s0 s1 s2 S = some z) : g_V g_KM 13 x 4 (g_qi g_KM 13 x z) S 99 [] [.int (s2), .int (s1), .ref (g_ad x s0)] := by
  unfold j_X8_lay_99 at h
  refine g_iast X hk_s0 dX8_lay_99 h (fun i12 _ h => ?_)
  refine g_iconst X (v := 1) dX8_lay_100 (by decide) ?_
  exact g_iret X h dX8_lay_101
set_option maxRecDepth 100000 in
set_option maxHeartbeats 400000 in
theorem ct_X8_lay {l : Launch} {D : va_G} {ad : Nat → Nat} {cy : Nat → ClassId} {zz : (Nat → Nat) × (Nat → Nat)} (hinj : ∀ i j, i < 13 → j < 13 → ad i = ad j → i = j) {fu : Nat} (o : Nat) (p0 : Int32) (p1 : Int32) (p2 : Int32) (hk_o : o < 13 ∧ g_KM o = g_kX8) {S : g_St} (z : Int32 × g_St) (h : f_X8_lay fu o p0 p1 p2 S = some z) : g_Mi l g_KM 13 D ad cy zz yX8_lay wsX8_lay rm_X8_lay [.ref (ad o), .int (p0), .int (p1), .int (p2)] S z := by
  refine g_ofi hinj (cc := cX8_lay) (maxL := 4) (ret := (some .int)) (lv := [(0, .ref (ad o)), (1, .int (p0)), (2, .int (p1)), (3, .int (p2))]) (by decide) rfl (Nat.le_of_ble_eq_true rfl) rfl ?_
  intro x X hl hD ha hy hz
  subst hl hD ha hy hz
  unfold f_X8_lay at h
  refine g_iload_n X dX8_lay_0 1 rfl ?_
  refine g_i2l X dX8_lay_1 ?_
  refine g_lconst X (v := 0) dX8_lay_2 (by decide) ?_
  refine g_ldc2 X w_X8_lay_159 dX8_lay_3 ?_
  refine g_callSi X [.long ((Int32.toInt64 p0)), .long ((0 : Int64)), .long ((3 : Int64))] rfl (va_cwS 3 X.2.2.2.2.1 gX8_lay_X8_in rfl rfl rfl hd_X8_in ⟨Nat.le_of_ble_eq_true rfl, Nat.le_of_ble_eq_true rfl⟩) (Nat.le_of_ble_eq_true rfl) dX8_lay_6 h (fun q hq => ct_X8_in X.2.2.2.2.2.2.1 ((Int32.toInt64 p0)) ((0 : Int64)) ((3 : Int64))  _ hq) (fun r1 Sr1 h => ?_)
  refine g_if_ne X 14 dX8_lay_9 (by decide) h (fun c_9 h => ?_) (fun c_9 h => ?_)
  · skip
    refine g_aload_n X dX8_lay_14 0 rfl ?_
    refine g_getr X g_cX8 w_X8_lay_inX8 23 (by decide) w_X8_lay_42 hk_o rfl dX8_lay_15 h (fun a2 hk_a2 h => ?_)
    refine g_iload_n X dX8_lay_18 1 rfl ?_
    refine g_iald X hk_a2 dX8_lay_19 h (fun i3 _ h => ?_)
    refine g_bipush X (v := (-4)) dX8_lay_20 (by decide) ?_
    refine g_icmp_ne X 28 dX8_lay_22 (by decide) h (fun c_22 h => ?_) (fun c_22 h => ?_)
    · skip
      refine g_iload_n X dX8_lay_28 2 rfl ?_
      refine g_i2l X dX8_lay_29 ?_
      refine g_lconst X (v := 0) dX8_lay_30 (by decide) ?_
      refine g_aload_n X dX8_lay_31 0 rfl ?_
      refine g_getr X g_cX8 w_X8_lay_inX8 24 (by decide) w_X8_lay_45 hk_o rfl dX8_lay_32 h (fun a4 hk_a4 h => ?_)
      refine g_iload_n X dX8_lay_35 1 rfl ?_
      refine g_iald X hk_a4 dX8_lay_36 h (fun i5 _ h => ?_)
      refine g_iconst X (v := 1) dX8_lay_37 (by decide) ?_
      refine g_isub X dX8_lay_38 ?_
      refine g_i2l X dX8_lay_39 ?_
      refine g_callSi X [.long ((Int32.toInt64 p1)), .long ((0 : Int64)), .long ((Int32.toInt64 ((Sr1.1 a4 i5) - (1 : Int32))))] rfl (va_cwS 3 X.2.2.2.2.1 gX8_lay_X8_in rfl rfl rfl hd_X8_in ⟨Nat.le_of_ble_eq_true rfl, Nat.le_of_ble_eq_true rfl⟩) (Nat.le_of_ble_eq_true rfl) dX8_lay_40 h (fun q hq => ct_X8_in X.2.2.2.2.2.2.1 ((Int32.toInt64 p1)) ((0 : Int64)) ((Int32.toInt64 ((Sr1.1 a4 i5) - (1 : Int32))))  _ hq) (fun r6 Sr6 h => ?_)
      refine g_if_ne X 49 dX8_lay_43 (by decide) h (fun c_43 h => ?_) (fun c_43 h => ?_)
      · skip
        refine g_aload_n X dX8_lay_49 0 rfl ?_
        refine g_getr X g_cX8 w_X8_lay_inX8 25 (by decide) w_X8_lay_48 hk_o rfl dX8_lay_50 h (fun a7 hk_a7 h => ?_)
        refine g_bipush X (v := (40)) dX8_lay_53 (by decide) ?_
        refine g_iload_n X dX8_lay_55 1 rfl ?_
        refine g_imul X dX8_lay_56 ?_
        refine g_iload_n X dX8_lay_57 2 rfl ?_
        refine g_iadd X dX8_lay_58 ?_
        refine g_aload_n X dX8_lay_59 0 rfl ?_
        refine g_getr X g_cX8 w_X8_lay_inX8 23 (by decide) w_X8_lay_42 hk_o rfl dX8_lay_60 h (fun a8 hk_a8 h => ?_)
        refine g_iload_n X dX8_lay_63 1 rfl ?_
        refine g_iald X hk_a8 dX8_lay_64 h (fun i9 _ h => ?_)
        refine g_if_ne X 78 dX8_lay_65 (by decide) h (fun c_65 h => ?_) (fun c_65 h => ?_)
        · skip
          refine g_aload_n X dX8_lay_78 0 rfl ?_
          refine g_getr X g_cX8 w_X8_lay_inX8 23 (by decide) w_X8_lay_42 hk_o rfl dX8_lay_79 h (fun a10 hk_a10 h => ?_)
          refine g_iload_n X dX8_lay_82 1 rfl ?_
          refine g_iald X hk_a10 dX8_lay_83 h (fun i11 _ h => ?_)
          refine g_iconst X (v := 1) dX8_lay_84 (by decide) ?_
          refine g_icmp_ne X 98 dX8_lay_85 (by decide) h (fun c_85 h => ?_) (fun c_85 h => ?_)
          · skip
            refine g_iload_n X dX8_lay_98 3 rfl ?_
            refine g_sub [] _ rfl ?_
            exact vj_X8_lay_99 X a7 ((((40 : Int32) * p0) + p1)) p2 hk_a7 _ h
          · skip
            refine g_iload_n X dX8_lay_88 3 rfl ?_
            refine g_bipush X (v := (16)) dX8_lay_89 (by decide) ?_
            refine g_ishl X dX8_lay_91 ?_
            refine g_bipush X (v := (16)) dX8_lay_92 (by decide) ?_
            refine g_ishr X dX8_lay_94 ?_
            refine g_goto X 99 dX8_lay_95 (by decide) ?_
            refine g_sub [] _ rfl ?_
            exact vj_X8_lay_99 X a7 ((((40 : Int32) * p0) + p1)) (((p2 <<< ((16 : Int32) &&& 31)) >>> ((16 : Int32) &&& 31))) hk_a7 _ h
        · skip
          refine g_iload_n X dX8_lay_68 3 rfl ?_
          refine g_bipush X (v := (24)) dX8_lay_69 (by decide) ?_
          refine g_ishl X dX8_lay_71 ?_
          refine g_bipush X (v := (24)) dX8_lay_72 (by decide) ?_
          refine g_ishr X dX8_lay_74 ?_
          refine g_goto X 99 dX8_lay_75 (by decide) ?_
          refine g_sub [] _ rfl ?_
          exact vj_X8_lay_99 X a7 ((((40 : Int32) * p0) + p1)) (((p2 <<< ((24 : Int32) &&& 31)) >>> ((24 : Int32) &&& 31))) hk_a7 _ h
      · skip
        refine g_bipush X (v := (-12)) dX8_lay_46 (by decide) ?_
        exact g_iret X h dX8_lay_48
    · skip
      refine g_bipush X (v := (-11)) dX8_lay_25 (by decide) ?_
      exact g_iret X h dX8_lay_27
  · skip
    refine g_iconst X (v := (-1)) dX8_lay_12 (by decide) ?_
    exact g_iret X h dX8_lay_13
abbrev rm_X8_read : Room := { frames := 2, cells := 0, slots := 0, locals := 49 }
theorem hd_X8_read : yX8_read.cls = RX8 ∧ yX8_read.cls ≠ "java/lang/invoke/MethodHandle" ∧ yX8_read.cls ≠ "java/lang/invoke/VarHandle" ∧ (parseMethodDescriptor yX8_read.desc).map (fun d => d.parameters.length) = some 4 := by decide +kernel
theorem w_X8_read_159 : Cond.constantLong RX8 159 (3) ∈ wsX8_read := by decide +kernel
theorem w_X8_read_157 : Cond.constantLong RX8 157 (2) ∈ wsX8_read := by decide +kernel
theorem w_X8_read_228 : Cond.constantLong RX8 228 (13) ∈ wsX8_read := by decide +kernel
theorem w_X8_read_42 : Cond.fieldLink RX8 42 "TokenDoorsModel" "lanes" "[I" ∈ wsX8_read := by decide +kernel
theorem w_X8_read_inX8 : ∀ w ∈ wsX80, w ∈ wsX8_read := by decide +kernel
theorem w_X8_read_45 : Cond.fieldLink RX8 45 "TokenDoorsModel" "lengths" "[I" ∈ wsX8_read := by decide +kernel
theorem w_X8_read_48 : Cond.fieldLink RX8 48 "TokenDoorsModel" "cells" "[I" ∈ wsX8_read := by decide +kernel
theorem w_X8_read_230 : Cond.fieldLink RX8 230 "TokenDoorsModel" "torn" "I" ∈ wsX8_read := by decide +kernel
def j_X8_read_201_in56 (fu : Nat) (v0 : Nat) (v1 : Int32) (v2 : Int32) (v3 : Int32) (v4 : Int32) (v5 : Int32) (v6 : Int32) (v7 : Int32) (S : g_St) : Option ((Int32 × Int32 × Int32 × g_St) ⊕ ((Int32 × Int32 × g_St) ⊕ (Int32 × g_St))) :=
  some (.inl (v5, v6, (v7 + 1), S))
def j_X8_read_126_in56 (fu : Nat) (v0 : Nat) (v1 : Int32) (v2 : Int32) (v3 : Int32) (v4 : Int32) (v6 : Int32) (v7 : Int32) (s0 : Int32) (S : g_St) : Option ((Int32 × Int32 × Int32 × g_St) ⊕ ((Int32 × Int32 × g_St) ⊕ (Int32 × g_St))) :=
  if s0 = 0 then (g_nz (3 : Int32) (if (v7 - v7 / (3 : Int32) * (3 : Int32)) = (2 : Int32) then (g_ld g_KM 13 (.inr (0, 160, false)) (S.2 v0 25) fun a12 => g_ix (((((40 : Int32) * v1) + v3) + v7) - (2 : Int32)) 160 fun i13 => g_ld g_KM 13 (.inr (0, 160, false)) (S.2 v0 25) fun a14 => g_ix (((((40 : Int32) * v1) + v3) + v7) - (1 : Int32)) 160 fun i15 => g_ld g_KM 13 (.inr (0, 160, false)) (S.2 v0 25) fun a16 => g_ix ((((40 : Int32) * v1) + v3) + v7) 160 fun i17 => g_bd (f_X8_comes fu v0 ((S.1 a12 i13)) ((S.1 a14 i15)) ((S.1 a16 i17)) S) fun r18 Sr18 => if 0 ≤ r18 then (j_X8_read_201_in56 fu v0 v1 v2 v3 v4 s0 ((v6 + 1)) v7 Sr18) else (g_bd (f_X8_copies fu v0 ((135 : Int32)) ((0 : Int32)) Sr18) fun _ Sr19 => some (.inr (.inr (((-20 : Int32) - v6), Sr19))))) else (j_X8_read_201_in56 fu v0 v1 v2 v3 v4 s0 v6 v7 S))) else (j_X8_read_201_in56 fu v0 v1 v2 v3 v4 s0 v6 v7 S)
def b_X8_read_56 (fu : Nat) (v0 : Nat) (v1 : Int32) (v2 : Int32) (v3 : Int32) (v4 : Int32) (v5 : Int32) (v6 : Int32) (v7 : Int32) (S : g_St) : Option ((Int32 × Int32 × Int32 × g_St) ⊕ ((Int32 × Int32 × g_St) ⊕ (Int32 × g_St))) :=
  if ((3 : Int32) * v4) ≤ v7 then (some (.inr (.inl (v5, v6, S)))) else (if v5 = 0 then (g_ld g_KM 13 (.inr (0, 4, false)) (S.2 v0 23) fun a5 => g_ix v1 4 fun i6 => if (S.1 a5 i6) = (-4 : Int32) then (j_X8_read_126_in56 fu v0 v1 v2 v3 v4 v6 v7 ((1 : Int32)) S) else (g_ld g_KM 13 (.inr (0, 4, false)) (S.2 v0 23) fun a7 => g_ix v1 4 fun i8 => if (S.1 a7 i8) = v2 then (g_ld g_KM 13 (.inr (0, 4, false)) (S.2 v0 24) fun a9 => g_ix v1 4 fun i10 => g_bd (f_X8_in fu (((Int32.toInt64 v3) + (Int32.toInt64 v7))) ((0 : Int64)) ((Int32.toInt64 ((S.1 a9 i10) - (1 : Int32)))) S) fun r11 Sr11 => if r11 = 0 then (j_X8_read_126_in56 fu v0 v1 v2 v3 v4 v6 v7 ((2 : Int32)) Sr11) else (j_X8_read_126_in56 fu v0 v1 v2 v3 v4 v6 v7 ((0 : Int32)) Sr11)) else (j_X8_read_126_in56 fu v0 v1 v2 v3 v4 v6 v7 ((3 : Int32)) S))) else (some (.inr (.inl (v5, v6, S)))))
def f_X8_read (fu : Nat) (o : Nat) (p0 : Int32) (p1 : Int32) (p2 : Int32) (p3 : Int32) (S : g_St) : Option (Int32 × g_St) :=
  g_bd (f_X8_in fu ((Int32.toInt64 p0)) ((0 : Int64)) ((3 : Int64)) S) fun r1 Sr1 => if r1 = 0 then (some ((-1 : Int32), Sr1)) else (g_bd (f_X8_in fu ((Int32.toInt64 p1)) ((0 : Int64)) ((2 : Int64)) Sr1) fun r2 Sr2 => if r2 = 0 then (some ((-1 : Int32), Sr2)) else (g_bd (f_X8_in fu ((Int32.toInt64 p3)) ((0 : Int64)) ((13 : Int64)) Sr2) fun r3 Sr3 => if r3 = 0 then (some ((-1 : Int32), Sr3)) else (g_bd (f_X8_copies fu o ((0 : Int32)) ((135 : Int32)) Sr3) fun _ Sr4 => g_th (g_lp (fun t => b_X8_read_56 fu o p0 p1 p2 p3 t.1 t.2.1 t.2.2.1 t.2.2.2) fu ((0 : Int32), (0 : Int32), (0 : Int32), Sr4)) fun e => match e with | .inl (w5_1, w6_1, S1) => (some (w6_1, (g_u S1.1 o 26 w5_1, S1.2))) | .inr q => some q)))
set_option maxRecDepth 100000 in
set_option maxHeartbeats 400000 in
theorem vj_X8_read_201_in56 {x : g_CX} {z : Int32 × g_St} {fu : Nat} (X : g_X 13 x cX8_read RX8 9 wsX8_read rm_X8_read (some .int)) (v0 : Nat) (v1 : Int32) (v2 : Int32) (v3 : Int32) (v4 : Int32) (v5 : Int32) (v6 : Int32) (v7 : Int32) (hk_v0 : v0 < 13 ∧ g_KM v0 = g_kX8) (S : g_St) {r : (Int32 × Int32 × Int32 × g_St) ⊕ ((Int32 × Int32 × g_St) ⊕ (Int32 × g_St))} (h : j_X8_read_201_in56 fu v0 v1 v2 v3 v4 v5 v6 v7 S = some r) (hc : Sum.elim (fun t : Int32 × Int32 × Int32 × g_St => g_V g_KM 13 x 9 (g_qi g_KM 13 x z) t.2.2.2 56 [(0, .ref (g_ad x v0)), (1, .int (v1)), (2, .int (v2)), (3, .int (v3)), (4, .int (v4)), (5, .int (t.1)), (6, .int (t.2.1)), (7, .int (t.2.2.1))] []) (fun b : (Int32 × Int32 × g_St) ⊕ (Int32 × g_St) => Sum.elim (fun e : Int32 × Int32 × g_St => g_V g_KM 13 x 9 (g_qi g_KM 13 x z) e.2.2 207 [(0, .ref (g_ad x v0)), (5, .int (e.1)), (6, .int (e.2.1))] []) (fun q : Int32 × g_St => q = z) b) r) : g_V g_KM 13 x 9 (g_qi g_KM 13 x z) S 201 [(0, .ref (g_ad x v0)), (1, .int (v1)), (2, .int (v2)), (3, .int (v3)), (4, .int (v4)), (5, .int (v5)), (6, .int (v6)), (7, .int (v7))] [] := by
  unfold j_X8_read_201_in56 at h
  refine g_iinc X [(7, _), (0, _), (1, _), (2, _), (3, _), (4, _), (5, _), (6, _)] dX8_read_201 7 rfl rfl (by decide) rfl ?_
  refine g_goto X 56 dX8_read_204 (by decide) ?_
  cases h
  exact g_sub [1, 2, 3, 4, 5, 6, 7, 0] _ rfl hc
set_option maxRecDepth 100000 in
set_option maxHeartbeats 400000 in
theorem vj_X8_read_126_in56 {x : g_CX} {z : Int32 × g_St} {fu : Nat} (X : g_X 13 x cX8_read RX8 9 wsX8_read rm_X8_read (some .int)) (v0 : Nat) (v1 : Int32) (v2 : Int32) (v3 : Int32) (v4 : Int32) (v6 : Int32) (v7 : Int32) (s0 : Int32) (hk_v0 : v0 < 13 ∧ g_KM v0 = g_kX8) (S : g_St) {r : (Int32 × Int32 × Int32 × g_St) ⊕ ((Int32 × Int32 × g_St) ⊕ (Int32 × g_St))} (h : j_X8_read_126_in56 fu v0 v1 v2 v3 v4 v6 v7 s0 S = some r) (hc : Sum.elim (fun t : Int32 × Int32 × Int32 × g_St => g_V g_KM 13 x 9 (g_qi g_KM 13 x z) t.2.2.2 56 [(0, .ref (g_ad x v0)), (1, .int (v1)), (2, .int (v2)), (3, .int (v3)), (4, .int (v4)), (5, .int (t.1)), (6, .int (t.2.1)), (7, .int (t.2.2.1))] []) (fun b : (Int32 × Int32 × g_St) ⊕ (Int32 × g_St) => Sum.elim (fun e : Int32 × Int32 × g_St => g_V g_KM 13 x 9 (g_qi g_KM 13 x z) e.2.2 207 [(0, .ref (g_ad x v0)), (5, .int (e.1)), (6, .int (e.2.1))] []) (fun q : Int32 × g_St => q = z) b) r) : g_V g_KM 13 x 9 (g_qi g_KM 13 x z) S 126 [(0, .ref (g_ad x v0)), (1, .int (v1)), (2, .int (v2)), (3, .int (v3)), (4, .int (v4)), (6, .int (v6)), (7, .int (v7))] [.int (s0)] := by
  unfold j_X8_read_126_in56 at h
  refine g_istore X [(5, _), (0, _), (1, _), (2, _), (3, _), (4, _), (6, _), (7, _)] dX8_read_126 (by decide) rfl ?_
  refine g_iload X dX8_read_128 0 rfl ?_
  refine g_if_ne X 201 dX8_read_130 (by decide) h (fun c_130 h => ?_) (fun c_130 h => ?_)
  · skip
    refine g_sub [1, 2, 3, 4, 5, 0, 6, 7] _ rfl ?_
    exact vj_X8_read_201_in56 X v0 v1 v2 v3 v4 s0 v6 v7 hk_v0 _ h hc
  · skip
    refine g_iload X dX8_read_133 7 rfl ?_
    refine g_iconst X (v := 3) dX8_read_135 (by decide) ?_
    refine g_irem X dX8_read_136 h (fun h => ?_)
    refine g_iconst X (v := 2) dX8_read_137 (by decide) ?_
    refine g_icmp_ne X 201 dX8_read_138 (by decide) h (fun c_138 h => ?_) (fun c_138 h => ?_)
    · skip
      refine g_sub [1, 2, 3, 4, 5, 0, 6, 7] _ rfl ?_
      exact vj_X8_read_201_in56 X v0 v1 v2 v3 v4 s0 v6 v7 hk_v0 _ h hc
    · skip
      refine g_bipush X (v := (40)) dX8_read_141 (by decide) ?_
      refine g_iload_n X dX8_read_143 2 rfl ?_
      refine g_imul X dX8_read_144 ?_
      refine g_iload_n X dX8_read_145 4 rfl ?_
      refine g_iadd X dX8_read_146 ?_
      refine g_iload X dX8_read_147 7 rfl ?_
      refine g_iadd X dX8_read_149 ?_
      refine g_istore X [(8, _), (5, _), (0, _), (1, _), (2, _), (3, _), (4, _), (6, _), (7, _)] dX8_read_150 (by decide) rfl ?_
      refine g_aload_n X dX8_read_152 2 rfl ?_
      refine g_aload_n X dX8_read_153 2 rfl ?_
      refine g_getr X g_cX8 w_X8_read_inX8 25 (by decide) w_X8_read_48 hk_v0 rfl dX8_read_154 h (fun a12 hk_a12 h => ?_)
      refine g_iload X dX8_read_157 0 rfl ?_
      refine g_iconst X (v := 2) dX8_read_159 (by decide) ?_
      refine g_isub X dX8_read_160 ?_
      refine g_iald X hk_a12 dX8_read_161 h (fun i13 _ h => ?_)
      refine g_aload_n X dX8_read_162 2 rfl ?_
      refine g_getr X g_cX8 w_X8_read_inX8 25 (by decide) w_X8_read_48 hk_v0 rfl dX8_read_163 h (fun a14 hk_a14 h => ?_)
      refine g_iload X dX8_read_166 0 rfl ?_
      refine g_iconst X (v := 1) dX8_read_168 (by decide) ?_
      refine g_isub X dX8_read_169 ?_
      refine g_iald X hk_a14 dX8_read_170 h (fun i15 _ h => ?_)
      refine g_aload_n X dX8_read_171 2 rfl ?_
      refine g_getr X g_cX8 w_X8_read_inX8 25 (by decide) w_X8_read_48 hk_v0 rfl dX8_read_172 h (fun a16 hk_a16 h => ?_)
      refine g_iload X dX8_read_175 0 rfl ?_
      refine g_iald X hk_a16 dX8_read_177 h (fun i17 _ h => ?_)
      refine g_callVi X g_cX8 hk_v0 [.int ((S.1 a12 i13)), .int ((S.1 a14 i15)), .int ((S.1 a16 i17))] rfl (cwV 3 X.2.2.2.2.1 gX8_read_X8_comes rfl rfl rfl hd_X8_comes ⟨Nat.le_of_ble_eq_true rfl, Nat.le_of_ble_eq_true rfl⟩) (Nat.le_of_ble_eq_true rfl) dX8_read_178 h (fun q hq => ct_X8_comes X.2.2.2.2.2.2.1 v0 ((S.1 a12 i13)) ((S.1 a14 i15)) ((S.1 a16 i17)) hk_v0 _ hq) (fun r18 Sr18 h => ?_)
      refine g_if_ge X 198 dX8_read_181 (by decide) h (fun c_181 h => ?_) (fun c_181 h => ?_)
      · skip
        refine g_iinc X [(6, _), (8, _), (5, _), (0, _), (1, _), (2, _), (3, _), (4, _), (7, _)] dX8_read_198 7 rfl rfl (by decide) rfl ?_
        refine g_sub [3, 4, 5, 6, 7, 2, 0, 8] _ rfl ?_
        exact vj_X8_read_201_in56 X v0 v1 v2 v3 v4 s0 ((v6 + 1)) v7 hk_v0 _ h hc
      · skip
        refine g_aload_n X dX8_read_184 2 rfl ?_
        refine g_sipush X (v := (135)) dX8_read_185 (by decide) ?_
        refine g_iconst X (v := 0) dX8_read_188 (by decide) ?_
        refine g_callVv X g_cX8 hk_v0 [.int ((135 : Int32)), .int ((0 : Int32))] rfl (cwV 2 X.2.2.2.2.1 gX8_read_X8_copies rfl rfl rfl hd_X8_copies ⟨Nat.le_of_ble_eq_true rfl, Nat.le_of_ble_eq_true rfl⟩) (Nat.le_of_ble_eq_true rfl) dX8_read_189 h (fun q hq => ct_X8_copies X.2.2.2.2.2.2.1 v0 ((135 : Int32)) ((0 : Int32)) hk_v0 _ hq) (fun _ Sr19 h => ?_)
        refine g_bipush X (v := (-20)) dX8_read_192 (by decide) ?_
        refine g_iload X dX8_read_194 7 rfl ?_
        refine g_isub X dX8_read_196 ?_
        cases h
        exact g_iret X (congrArg some hc) dX8_read_197
set_option maxRecDepth 100000 in
set_option maxHeartbeats 400000 in
theorem vb_X8_read_56 {x : g_CX} {z : Int32 × g_St} {fu : Nat} (X : g_X 13 x cX8_read RX8 9 wsX8_read rm_X8_read (some .int)) (v0 : Nat) (v1 : Int32) (v2 : Int32) (v3 : Int32) (v4 : Int32) (v5 : Int32) (v6 : Int32) (v7 : Int32) (hk_v0 : v0 < 13 ∧ g_KM v0 = g_kX8) (S : g_St) {r : (Int32 × Int32 × Int32 × g_St) ⊕ ((Int32 × Int32 × g_St) ⊕ (Int32 × g_St))} (h : b_X8_read_56 fu v0 v1 v2 v3 v4 v5 v6 v7 S = some r) (hc : Sum.elim (fun t : Int32 × Int32 × Int32 × g_St => g_V g_KM 13 x 9 (g_qi g_KM 13 x z) t.2.2.2 56 [(0, .ref (g_ad x v0)), (1, .int (v1)), (2, .int (v2)), (3, .int (v3)), (4, .int (v4)), (5, .int (t.1)), (6, .int (t.2.1)), (7, .int (t.2.2.1))] []) (fun b : (Int32 × Int32 × g_St) ⊕ (Int32 × g_St) => Sum.elim (fun e : Int32 × Int32 × g_St => g_V g_KM 13 x 9 (g_qi g_KM 13 x z) e.2.2 207 [(0, .ref (g_ad x v0)), (5, .int (e.1)), (6, .int (e.2.1))] []) (fun q : Int32 × g_St => q = z) b) r) : g_V g_KM 13 x 9 (g_qi g_KM 13 x z) S 56 [(0, .ref (g_ad x v0)), (1, .int (v1)), (2, .int (v2)), (3, .int (v3)), (4, .int (v4)), (5, .int (v5)), (6, .int (v6)), (7, .int (v7))] [] := by
  unfold b_X8_read_56 at h
  refine g_iload X dX8_read_56 7 rfl ?_
  refine g_iconst X (v := 3) dX8_read_58 (by decide) ?_
  refine g_iload X dX8_read_59 4 rfl ?_
  refine g_imul X dX8_read_61 ?_
  refine g_icmp_ge X 207 dX8_read_62 (by decide) h (fun c_62 h => ?_) (fun c_62 h => ?_)
  · skip
    cases h
    exact g_sub [0, 5, 6] _ rfl hc
  · skip
    refine g_iload X dX8_read_65 5 rfl ?_
    refine g_if_ne X 207 dX8_read_67 (by decide) h (fun c_67 h => ?_) (fun c_67 h => ?_)
    · skip
      cases h
      exact g_sub [0, 5, 6] _ rfl hc
    · skip
      refine g_aload_n X dX8_read_70 0 rfl ?_
      refine g_getr X g_cX8 w_X8_read_inX8 23 (by decide) w_X8_read_42 hk_v0 rfl dX8_read_71 h (fun a5 hk_a5 h => ?_)
      refine g_iload_n X dX8_read_74 1 rfl ?_
      refine g_iald X hk_a5 dX8_read_75 h (fun i6 _ h => ?_)
      refine g_bipush X (v := (-4)) dX8_read_76 (by decide) ?_
      refine g_icmp_ne X 85 dX8_read_78 (by decide) h (fun c_78 h => ?_) (fun c_78 h => ?_)
      · skip
        refine g_aload_n X dX8_read_85 0 rfl ?_
        refine g_getr X g_cX8 w_X8_read_inX8 23 (by decide) w_X8_read_42 hk_v0 rfl dX8_read_86 h (fun a7 hk_a7 h => ?_)
        refine g_iload_n X dX8_read_89 1 rfl ?_
        refine g_iald X hk_a7 dX8_read_90 h (fun i8 _ h => ?_)
        refine g_iload_n X dX8_read_91 2 rfl ?_
        refine g_icmp_eq X 99 dX8_read_92 (by decide) h (fun c_92 h => ?_) (fun c_92 h => ?_)
        · skip
          refine g_iload_n X dX8_read_99 3 rfl ?_
          refine g_i2l X dX8_read_100 ?_
          refine g_iload X dX8_read_101 7 rfl ?_
          refine g_i2l X dX8_read_103 ?_
          refine g_ladd X dX8_read_104 ?_
          refine g_lconst X (v := 0) dX8_read_105 (by decide) ?_
          refine g_aload_n X dX8_read_106 0 rfl ?_
          refine g_getr X g_cX8 w_X8_read_inX8 24 (by decide) w_X8_read_45 hk_v0 rfl dX8_read_107 h (fun a9 hk_a9 h => ?_)
          refine g_iload_n X dX8_read_110 1 rfl ?_
          refine g_iald X hk_a9 dX8_read_111 h (fun i10 _ h => ?_)
          refine g_iconst X (v := 1) dX8_read_112 (by decide) ?_
          refine g_isub X dX8_read_113 ?_
          refine g_i2l X dX8_read_114 ?_
          refine g_callSi X [.long (((Int32.toInt64 v3) + (Int32.toInt64 v7))), .long ((0 : Int64)), .long ((Int32.toInt64 ((S.1 a9 i10) - (1 : Int32))))] rfl (va_cwS 3 X.2.2.2.2.1 gX8_read_X8_in rfl rfl rfl hd_X8_in ⟨Nat.le_of_ble_eq_true rfl, Nat.le_of_ble_eq_true rfl⟩) (Nat.le_of_ble_eq_true rfl) dX8_read_115 h (fun q hq => ct_X8_in X.2.2.2.2.2.2.1 (((Int32.toInt64 v3) + (Int32.toInt64 v7))) ((0 : Int64)) ((Int32.toInt64 ((S.1 a9 i10) - (1 : Int32))))  _ hq) (fun r11 Sr11 h => ?_)
          refine g_if_ne X 125 dX8_read_118 (by decide) h (fun c_118 h => ?_) (fun c_118 h => ?_)
          · skip
            refine g_iconst X (v := 0) dX8_read_125 (by decide) ?_
            refine g_sub [0, 1, 2, 3, 4, 6, 7] _ rfl ?_
            exact vj_X8_read_126_in56 X v0 v1 v2 v3 v4 v6 v7 ((0 : Int32)) hk_v0 _ h hc
          · skip
            refine g_iconst X (v := 2) dX8_read_121 (by decide) ?_
            refine g_goto X 126 dX8_read_122 (by decide) ?_
            refine g_sub [0, 1, 2, 3, 4, 6, 7] _ rfl ?_
            exact vj_X8_read_126_in56 X v0 v1 v2 v3 v4 v6 v7 ((2 : Int32)) hk_v0 _ h hc
        · skip
          refine g_iconst X (v := 3) dX8_read_95 (by decide) ?_
          refine g_goto X 126 dX8_read_96 (by decide) ?_
          refine g_sub [0, 1, 2, 3, 4, 6, 7] _ rfl ?_
          exact vj_X8_read_126_in56 X v0 v1 v2 v3 v4 v6 v7 ((3 : Int32)) hk_v0 _ h hc
      · skip
        refine g_iconst X (v := 1) dX8_read_81 (by decide) ?_
        refine g_goto X 126 dX8_read_82 (by decide) ?_
        refine g_sub [0, 1, 2, 3, 4, 6, 7] _ rfl ?_
        exact vj_X8_read_126_in56 X v0 v1 v2 v3 v4 v6 v7 ((1 : Int32)) hk_v0 _ h hc
set_option maxRecDepth 100000 in
set_option maxHeartbeats 400000 in
theorem ct_X8_read {l : Launch} {D : va_G} {ad : Nat → Nat} {cy : Nat → ClassId} {zz : (Nat → Nat) × (Nat → Nat)} (hinj : ∀ i j, i < 13 → j < 13 → ad i = ad j → i = j) {fu : Nat} (o : Nat) (p0 : Int32) (p1 : Int32) (p2 : Int32) (p3 : Int32) (hk_o : o < 13 ∧ g_KM o = g_kX8) {S : g_St} (z : Int32 × g_St) (h : f_X8_read fu o p0 p1 p2 p3 S = some z) : g_Mi l g_KM 13 D ad cy zz yX8_read wsX8_read rm_X8_read [.ref (ad o), .int (p0), .int (p1), .int (p2), .int (p3)] S z := by
  refine g_ofi hinj (cc := cX8_read) (maxL := 9) (ret := (some .int)) (lv := [(0, .ref (ad o)), (1, .int (p0)), (2, .int (p1)), (3, .int (p2)), (4, .int (p3))]) (by decide) rfl (Nat.le_of_ble_eq_true rfl) rfl ?_
  intro x X hl hD ha hy hz
  subst hl hD ha hy hz
  unfold f_X8_read at h
  refine g_iload_n X dX8_read_0 1 rfl ?_
  refine g_i2l X dX8_read_1 ?_
  refine g_lconst X (v := 0) dX8_read_2 (by decide) ?_
  refine g_ldc2 X w_X8_read_159 dX8_read_3 ?_
  refine g_callSi X [.long ((Int32.toInt64 p0)), .long ((0 : Int64)), .long ((3 : Int64))] rfl (va_cwS 3 X.2.2.2.2.1 gX8_read_X8_in rfl rfl rfl hd_X8_in ⟨Nat.le_of_ble_eq_true rfl, Nat.le_of_ble_eq_true rfl⟩) (Nat.le_of_ble_eq_true rfl) dX8_read_6 h (fun q hq => ct_X8_in X.2.2.2.2.2.2.1 ((Int32.toInt64 p0)) ((0 : Int64)) ((3 : Int64))  _ hq) (fun r1 Sr1 h => ?_)
  refine g_if_eq X 37 dX8_read_9 (by decide) h (fun c_9 h => ?_) (fun c_9 h => ?_)
  · skip
    refine g_iconst X (v := (-1)) dX8_read_37 (by decide) ?_
    exact g_iret X h dX8_read_38
  · skip
    refine g_iload_n X dX8_read_12 2 rfl ?_
    refine g_i2l X dX8_read_13 ?_
    refine g_lconst X (v := 0) dX8_read_14 (by decide) ?_
    refine g_ldc2 X w_X8_read_157 dX8_read_15 ?_
    refine g_callSi X [.long ((Int32.toInt64 p1)), .long ((0 : Int64)), .long ((2 : Int64))] rfl (va_cwS 3 X.2.2.2.2.1 gX8_read_X8_in rfl rfl rfl hd_X8_in ⟨Nat.le_of_ble_eq_true rfl, Nat.le_of_ble_eq_true rfl⟩) (Nat.le_of_ble_eq_true rfl) dX8_read_18 h (fun q hq => ct_X8_in X.2.2.2.2.2.2.1 ((Int32.toInt64 p1)) ((0 : Int64)) ((2 : Int64))  _ hq) (fun r2 Sr2 h => ?_)
    refine g_if_eq X 37 dX8_read_21 (by decide) h (fun c_21 h => ?_) (fun c_21 h => ?_)
    · skip
      refine g_iconst X (v := (-1)) dX8_read_37 (by decide) ?_
      exact g_iret X h dX8_read_38
    · skip
      refine g_iload X dX8_read_24 4 rfl ?_
      refine g_i2l X dX8_read_26 ?_
      refine g_lconst X (v := 0) dX8_read_27 (by decide) ?_
      refine g_ldc2 X w_X8_read_228 dX8_read_28 ?_
      refine g_callSi X [.long ((Int32.toInt64 p3)), .long ((0 : Int64)), .long ((13 : Int64))] rfl (va_cwS 3 X.2.2.2.2.1 gX8_read_X8_in rfl rfl rfl hd_X8_in ⟨Nat.le_of_ble_eq_true rfl, Nat.le_of_ble_eq_true rfl⟩) (Nat.le_of_ble_eq_true rfl) dX8_read_31 h (fun q hq => ct_X8_in X.2.2.2.2.2.2.1 ((Int32.toInt64 p3)) ((0 : Int64)) ((13 : Int64))  _ hq) (fun r3 Sr3 h => ?_)
      refine g_if_ne X 39 dX8_read_34 (by decide) h (fun c_34 h => ?_) (fun c_34 h => ?_)
      · skip
        refine g_aload_n X dX8_read_39 0 rfl ?_
        refine g_iconst X (v := 0) dX8_read_40 (by decide) ?_
        refine g_sipush X (v := (135)) dX8_read_41 (by decide) ?_
        refine g_callVv X g_cX8 hk_o [.int ((0 : Int32)), .int ((135 : Int32))] rfl (cwV 2 X.2.2.2.2.1 gX8_read_X8_copies rfl rfl rfl hd_X8_copies ⟨Nat.le_of_ble_eq_true rfl, Nat.le_of_ble_eq_true rfl⟩) (Nat.le_of_ble_eq_true rfl) dX8_read_44 h (fun q hq => ct_X8_copies X.2.2.2.2.2.2.1 o ((0 : Int32)) ((135 : Int32)) hk_o _ hq) (fun _ Sr4 h => ?_)
        refine g_iconst X (v := 0) dX8_read_47 (by decide) ?_
        refine g_istore X [(5, _), (0, _), (1, _), (2, _), (3, _), (4, _)] dX8_read_48 (by decide) rfl ?_
        refine g_iconst X (v := 0) dX8_read_50 (by decide) ?_
        refine g_istore X [(6, _), (5, _), (0, _), (1, _), (2, _), (3, _), (4, _)] dX8_read_51 (by decide) rfl ?_
        refine g_iconst X (v := 0) dX8_read_53 (by decide) ?_
        refine g_istore X [(7, _), (6, _), (5, _), (0, _), (1, _), (2, _), (3, _), (4, _)] dX8_read_54 (by decide) rfl ?_
        obtain ⟨e, he, h⟩ := g_th_s h
        refine g_sub [3, 4, 5, 6, 7, 2, 1, 0] _ rfl ?_
        refine g_lp_w (body := (fun t => b_X8_read_56 fu o p0 p1 p2 p3 t.1 t.2.1 t.2.2.1 t.2.2.2)) (P := fun t : Int32 × Int32 × Int32 × g_St => g_V g_KM 13 x 9 (g_qi g_KM 13 x z) t.2.2.2 56 [(0, .ref (g_ad x o)), (1, .int (p0)), (2, .int (p1)), (3, .int (p2)), (4, .int (p3)), (5, .int (t.1)), (6, .int (t.2.1)), (7, .int (t.2.2.1))] []) (E := (fun b : (Int32 × Int32 × g_St) ⊕ (Int32 × g_St) => Sum.elim (fun e : Int32 × Int32 × g_St => g_V g_KM 13 x 9 (g_qi g_KM 13 x z) e.2.2 207 [(0, .ref (g_ad x o)), (5, .int (e.1)), (6, .int (e.2.1))] []) (fun q : Int32 × g_St => q = z) b)) (fun t r hb hc => vb_X8_read_56 X o p0 p1 p2 p3 t.1 t.2.1 t.2.2.1 hk_o t.2.2.2 hb hc) fu ((0 : Int32), (0 : Int32), (0 : Int32), Sr4) e he ?_
        rcases e with ⟨w5_1, w6_1, S1⟩ | q
        · show g_V g_KM 13 x 9 (g_qi g_KM 13 x z) S1 207 [(0, .ref (g_ad x o)), (5, .int (w5_1)), (6, .int (w6_1))] []
          refine g_aload_n X dX8_read_207 0 rfl ?_
          refine g_iload X dX8_read_208 1 rfl ?_
          refine g_puti X g_cX8 w_X8_read_inX8 26 (by decide) w_X8_read_230 hk_o rfl rfl (t := .int) (by decide +kernel) rfl rfl dX8_read_210 ?_
          refine g_iload X dX8_read_213 2 rfl ?_
          exact g_iret X h dX8_read_215
        · cases h; rfl
      · skip
        refine g_iconst X (v := (-1)) dX8_read_37 (by decide) ?_
        exact g_iret X h dX8_read_38
abbrev rm_X8_torn : Room := { frames := 0, cells := 0, slots := 0, locals := 0 }
theorem hd_X8_torn : yX8_torn.cls = RX8 ∧ yX8_torn.cls ≠ "java/lang/invoke/MethodHandle" ∧ yX8_torn.cls ≠ "java/lang/invoke/VarHandle" ∧ (parseMethodDescriptor yX8_torn.desc).map (fun d => d.parameters.length) = some 0 := by decide +kernel
theorem w_X8_torn_230 : Cond.fieldLink RX8 230 "TokenDoorsModel" "torn" "I" ∈ wsX8_torn := by decide +kernel
theorem w_X8_torn_inX8 : ∀ w ∈ wsX80, w ∈ wsX8_torn := by decide +kernel
def f_X8_torn (fu : Nat) (o : Nat) (S : g_St) : Option (Int32 × g_St) :=
  some ((S.1 o 26), S)
set_option maxRecDepth 100000 in
set_option maxHeartbeats 400000 in
theorem ct_X8_torn {l : Launch} {D : va_G} {ad : Nat → Nat} {cy : Nat → ClassId} {zz : (Nat → Nat) × (Nat → Nat)} (hinj : ∀ i j, i < 13 → j < 13 → ad i = ad j → i = j) {fu : Nat} (o : Nat) (hk_o : o < 13 ∧ g_KM o = g_kX8) {S : g_St} (z : Int32 × g_St) (h : f_X8_torn fu o S = some z) : g_Mi l g_KM 13 D ad cy zz yX8_torn wsX8_torn rm_X8_torn [.ref (ad o)] S z := by
  refine g_ofi hinj (cc := cX8_torn) (maxL := 1) (ret := (some .int)) (lv := [(0, .ref (ad o))]) (by decide) rfl (Nat.le_of_ble_eq_true rfl) rfl ?_
  intro x X hl hD ha hy hz
  subst hl hD ha hy hz
  unfold f_X8_torn at h
  refine g_aload_n X dX8_torn_0 0 rfl ?_
  refine g_geti X g_cX8 w_X8_torn_inX8 26 (by decide) w_X8_torn_230 hk_o rfl dX8_torn_1 ?_
  exact g_iret X h dX8_torn_4
abbrev rm_X8_count : Room := { frames := 0, cells := 0, slots := 0, locals := 0 }
theorem hd_X8_count : yX8_count.cls = RX8 ∧ yX8_count.cls ≠ "java/lang/invoke/MethodHandle" ∧ yX8_count.cls ≠ "java/lang/invoke/VarHandle" ∧ (parseMethodDescriptor yX8_count.desc).map (fun d => d.parameters.length) = some 1 := by decide +kernel
theorem w_X8_count_7 : Cond.fieldLink RX8 7 "TokenDoorsModel" "state" "[I" ∈ wsX8_count := by decide +kernel
theorem w_X8_count_inX8 : ∀ w ∈ wsX80, w ∈ wsX8_count := by decide +kernel
theorem w_X8_count_116 : Cond.fieldLink RX8 116 "TokenDoorsModel" "seenMany" "I" ∈ wsX8_count := by decide +kernel
theorem w_X8_count_38 : Cond.fieldLink RX8 38 "TokenDoorsModel" "isKept" "[Z" ∈ wsX8_count := by decide +kernel
theorem w_X8_count_57 : Cond.fieldLink RX8 57 "TokenDoorsModel" "taped" "I" ∈ wsX8_count := by decide +kernel
theorem w_X8_count_42 : Cond.fieldLink RX8 42 "TokenDoorsModel" "lanes" "[I" ∈ wsX8_count := by decide +kernel
theorem w_X8_count_45 : Cond.fieldLink RX8 45 "TokenDoorsModel" "lengths" "[I" ∈ wsX8_count := by decide +kernel
def b_X8_count_7 (fu : Nat) (v0 : Nat) (v1 : Int32) (v3 : Int32) (v2 : Int32) (v4 : Int32) (S : g_St) : Option ((Int32 × Int32 × g_St) ⊕ (Int32 × g_St)) :=
  g_ld g_KM 13 (.inr (0, 270, false)) (S.2 v0 0) fun a1 => g_ix (16 : Int32) 270 fun i2 => if (S.1 a1 i2) ≤ v4 then (some (.inr (v2, S))) else (g_ld g_KM 13 (.inr (0, 270, false)) (S.2 v0 0) fun a3 => g_ix ((4 : Int32) + v4) 270 fun i4 => some (.inl ((v2 + (S.1 a3 i4)), (v4 + 1), S)))
def b_X8_count_40 (fu : Nat) (v0 : Nat) (v1 : Int32) (v2 : Int32) (v3 : Int32) (v4 : Int32) (S : g_St) : Option ((Int32 × Int32 × g_St) ⊕ (Int32 × g_St)) :=
  g_ld g_KM 13 (.inr (0, 270, false)) (S.2 v0 0) fun a5 => g_ix (41 : Int32) 270 fun i6 => if (S.1 a5 i6) ≤ v4 then (some (.inr (v3, S))) else (g_ld g_KM 13 (.inr (0, 270, false)) (S.2 v0 0) fun a7 => g_ix ((25 : Int32) + v4) 270 fun i8 => some (.inl ((v3 + (S.1 a7 i8)), (v4 + 1), S)))
def j_X8_count_131 (fu : Nat) (v0 : Nat) (s0 : Int32) (S : g_St) : Option (Int32 × g_St) :=
  g_ld g_KM 13 (.inr (2, 2, false)) (S.2 v0 22) fun a11 => g_ix (1 : Int32) 2 fun i12 => if (S.1 a11 i12) = 0 then (some ((s0 + (0 : Int32)), S)) else (some ((s0 + (1 : Int32)), S))
def f_X8_count (fu : Nat) (o : Nat) (p0 : Int32) (S : g_St) : Option (Int32 × g_St) :=
  g_th (g_lp (fun t => b_X8_count_7 fu o p0 ((0 : Int32)) t.1 t.2.1 t.2.2) fu ((0 : Int32), (0 : Int32), S)) fun e => match e with | (w2_1, S1) => g_th (g_lp (fun t => b_X8_count_40 fu o p0 w2_1 t.1 t.2.1 t.2.2) fu ((0 : Int32), (0 : Int32), S1)) fun e => match e with | (w3_2, S2) => if p0 = 0 then (some ((S2.1 o 20), S2)) else (if p0 = 1 then (g_ld g_KM 13 (.inr (2, 2, false)) (S2.2 o 22) fun a9 => g_ix (0 : Int32) 2 fun i10 => if (S2.1 a9 i10) = 0 then (j_X8_count_131 fu o ((0 : Int32)) S2) else (j_X8_count_131 fu o ((1 : Int32)) S2)) else (if p0 = 2 then (some ((S2.1 o 3), S2)) else (if p0 = 3 then (g_ld g_KM 13 (.inr (0, 4, false)) (S2.2 o 23) fun a13 => g_ix (0 : Int32) 4 fun i14 => if (S2.1 a13 i14) = (-4 : Int32) then (some ((-4 : Int32), S2)) else (g_ld g_KM 13 (.inr (0, 4, false)) (S2.2 o 24) fun a15 => g_ix (0 : Int32) 4 fun i16 => some ((S2.1 a15 i16), S2))) else (if p0 = 4 then (some (w2_1, S2)) else (if p0 = 5 then (some (w3_2, S2)) else (some ((-1 : Int32), S2)))))))
set_option maxRecDepth 100000 in
set_option maxHeartbeats 400000 in
theorem vb_X8_count_7 {x : g_CX} {z : Int32 × g_St} {fu : Nat} (X : g_X 13 x cX8_count RX8 5 wsX8_count rm_X8_count (some .int)) (v0 : Nat) (v1 : Int32) (v3 : Int32) (v2 : Int32) (v4 : Int32) (hk_v0 : v0 < 13 ∧ g_KM v0 = g_kX8) (S : g_St) {r : (Int32 × Int32 × g_St) ⊕ (Int32 × g_St)} (h : b_X8_count_7 fu v0 v1 v3 v2 v4 S = some r) (hc : Sum.elim (fun t : Int32 × Int32 × g_St => g_V g_KM 13 x 5 (g_qi g_KM 13 x z) t.2.2 7 [(0, .ref (g_ad x v0)), (1, .int (v1)), (2, .int (t.1)), (3, .int (v3)), (4, .int (t.2.1))] []) (fun e : Int32 × g_St => g_V g_KM 13 x 5 (g_qi g_KM 13 x z) e.2 37 [(0, .ref (g_ad x v0)), (1, .int (v1)), (2, .int (e.1)), (3, .int (v3))] []) r) : g_V g_KM 13 x 5 (g_qi g_KM 13 x z) S 7 [(0, .ref (g_ad x v0)), (1, .int (v1)), (2, .int (v2)), (3, .int (v3)), (4, .int (v4))] [] := by
  unfold b_X8_count_7 at h
  refine g_iload X dX8_count_7 4 rfl ?_
  refine g_aload_n X dX8_count_9 0 rfl ?_
  refine g_getr X g_cX8 w_X8_count_inX8 0 (by decide) w_X8_count_7 hk_v0 rfl dX8_count_10 h (fun a1 hk_a1 h => ?_)
  refine g_bipush X (v := (16)) dX8_count_13 (by decide) ?_
  refine g_iald X hk_a1 dX8_count_15 h (fun i2 _ h => ?_)
  refine g_icmp_ge X 37 dX8_count_16 (by decide) h (fun c_16 h => ?_) (fun c_16 h => ?_)
  · skip
    cases h
    exact g_sub [0, 1, 2, 3] _ rfl hc
  · skip
    refine g_iload_n X dX8_count_19 2 rfl ?_
    refine g_aload_n X dX8_count_20 0 rfl ?_
    refine g_getr X g_cX8 w_X8_count_inX8 0 (by decide) w_X8_count_7 hk_v0 rfl dX8_count_21 h (fun a3 hk_a3 h => ?_)
    refine g_iconst X (v := 4) dX8_count_24 (by decide) ?_
    refine g_iload X dX8_count_25 4 rfl ?_
    refine g_iadd X dX8_count_27 ?_
    refine g_iald X hk_a3 dX8_count_28 h (fun i4 _ h => ?_)
    refine g_iadd X dX8_count_29 ?_
    refine g_istore_n X [(2, _), (0, _), (1, _), (3, _), (4, _)] dX8_count_30 (by decide) rfl ?_
    refine g_iinc X [(4, _), (2, _), (0, _), (1, _), (3, _)] dX8_count_31 4 rfl rfl (by decide) rfl ?_
    refine g_goto X 7 dX8_count_34 (by decide) ?_
    cases h
    exact g_sub [2, 3, 1, 4, 0] _ rfl hc
set_option maxRecDepth 100000 in
set_option maxHeartbeats 400000 in
theorem vb_X8_count_40 {x : g_CX} {z : Int32 × g_St} {fu : Nat} (X : g_X 13 x cX8_count RX8 5 wsX8_count rm_X8_count (some .int)) (v0 : Nat) (v1 : Int32) (v2 : Int32) (v3 : Int32) (v4 : Int32) (hk_v0 : v0 < 13 ∧ g_KM v0 = g_kX8) (S : g_St) {r : (Int32 × Int32 × g_St) ⊕ (Int32 × g_St)} (h : b_X8_count_40 fu v0 v1 v2 v3 v4 S = some r) (hc : Sum.elim (fun t : Int32 × Int32 × g_St => g_V g_KM 13 x 5 (g_qi g_KM 13 x z) t.2.2 40 [(0, .ref (g_ad x v0)), (1, .int (v1)), (2, .int (v2)), (3, .int (t.1)), (4, .int (t.2.1))] []) (fun e : Int32 × g_St => g_V g_KM 13 x 5 (g_qi g_KM 13 x z) e.2 71 [(0, .ref (g_ad x v0)), (1, .int (v1)), (2, .int (v2)), (3, .int (e.1))] []) r) : g_V g_KM 13 x 5 (g_qi g_KM 13 x z) S 40 [(0, .ref (g_ad x v0)), (1, .int (v1)), (2, .int (v2)), (3, .int (v3)), (4, .int (v4))] [] := by
  unfold b_X8_count_40 at h
  refine g_iload X dX8_count_40 4 rfl ?_
  refine g_aload_n X dX8_count_42 0 rfl ?_
  refine g_getr X g_cX8 w_X8_count_inX8 0 (by decide) w_X8_count_7 hk_v0 rfl dX8_count_43 h (fun a5 hk_a5 h => ?_)
  refine g_bipush X (v := (41)) dX8_count_46 (by decide) ?_
  refine g_iald X hk_a5 dX8_count_48 h (fun i6 _ h => ?_)
  refine g_icmp_ge X 71 dX8_count_49 (by decide) h (fun c_49 h => ?_) (fun c_49 h => ?_)
  · skip
    cases h
    exact g_sub [0, 1, 2, 3] _ rfl hc
  · skip
    refine g_iload_n X dX8_count_52 3 rfl ?_
    refine g_aload_n X dX8_count_53 0 rfl ?_
    refine g_getr X g_cX8 w_X8_count_inX8 0 (by decide) w_X8_count_7 hk_v0 rfl dX8_count_54 h (fun a7 hk_a7 h => ?_)
    refine g_bipush X (v := (25)) dX8_count_57 (by decide) ?_
    refine g_iload X dX8_count_59 4 rfl ?_
    refine g_iadd X dX8_count_61 ?_
    refine g_iald X hk_a7 dX8_count_62 h (fun i8 _ h => ?_)
    refine g_iadd X dX8_count_63 ?_
    refine g_istore_n X [(3, _), (0, _), (1, _), (2, _), (4, _)] dX8_count_64 (by decide) rfl ?_
    refine g_iinc X [(4, _), (3, _), (0, _), (1, _), (2, _)] dX8_count_65 4 rfl rfl (by decide) rfl ?_
    refine g_goto X 40 dX8_count_68 (by decide) ?_
    cases h
    exact g_sub [2, 3, 4, 1, 0] _ rfl hc
set_option maxRecDepth 100000 in
set_option maxHeartbeats 400000 in
theorem vj_X8_count_131 {x : g_CX} {z : Int32 × g_St} {fu : Nat} (X : g_X 13 x cX8_count RX8 5 wsX8_count rm_X8_count (some .int)) (v0 : Nat) (s0 : Int32) (hk_v0 : v0 < 13 ∧ g_KM v0 = g_kX8) (S : g_St) (h : j_X8_count_131 fu v0 s0 S = some z) : g_V g_KM 13 x 5 (g_qi g_KM 13 x z) S 131 [(0, .ref (g_ad x v0))] [.int (s0)] := by
  unfold j_X8_count_131 at h
  refine g_aload_n X dX8_count_131 0 rfl ?_
  refine g_getr X g_cX8 w_X8_count_inX8 22 (by decide) w_X8_count_38 hk_v0 rfl dX8_count_132 h (fun a11 hk_a11 h => ?_)
  refine g_iconst X (v := 1) dX8_count_135 (by decide) ?_
  refine g_zald X hk_a11 dX8_count_136 h (fun i12 _ h => ?_)
  refine g_if_eq X 144 dX8_count_137 (by decide) h (fun c_137 h => ?_) (fun c_137 h => ?_)
  · skip
    refine g_iconst X (v := 0) dX8_count_144 (by decide) ?_
    refine g_iadd X dX8_count_145 ?_
    exact g_iret X h dX8_count_146
  · skip
    refine g_iconst X (v := 1) dX8_count_140 (by decide) ?_
    refine g_goto X 145 dX8_count_141 (by decide) ?_
    refine g_iadd X dX8_count_145 ?_
    exact g_iret X h dX8_count_146
set_option maxRecDepth 100000 in
set_option maxHeartbeats 400000 in
theorem ct_X8_count {l : Launch} {D : va_G} {ad : Nat → Nat} {cy : Nat → ClassId} {zz : (Nat → Nat) × (Nat → Nat)} (hinj : ∀ i j, i < 13 → j < 13 → ad i = ad j → i = j) {fu : Nat} (o : Nat) (p0 : Int32) (hk_o : o < 13 ∧ g_KM o = g_kX8) {S : g_St} (z : Int32 × g_St) (h : f_X8_count fu o p0 S = some z) : g_Mi l g_KM 13 D ad cy zz yX8_count wsX8_count rm_X8_count [.ref (ad o), .int (p0)] S z := by
  refine g_ofi hinj (cc := cX8_count) (maxL := 5) (ret := (some .int)) (lv := [(0, .ref (ad o)), (1, .int (p0))]) (by decide) rfl (Nat.le_of_ble_eq_true rfl) rfl ?_
  intro x X hl hD ha hy hz
  subst hl hD ha hy hz
  unfold f_X8_count at h
  refine g_iconst X (v := 0) dX8_count_0 (by decide) ?_
  refine g_istore_n X [(2, _), (0, _), (1, _)] dX8_count_1 (by decide) rfl ?_
  refine g_iconst X (v := 0) dX8_count_2 (by decide) ?_
  refine g_istore_n X [(3, _), (2, _), (0, _), (1, _)] dX8_count_3 (by decide) rfl ?_
  refine g_iconst X (v := 0) dX8_count_4 (by decide) ?_
  refine g_istore X [(4, _), (3, _), (2, _), (0, _), (1, _)] dX8_count_5 (by decide) rfl ?_
  obtain ⟨e, he, h⟩ := g_th_s h
  refine g_sub [3, 4, 2, 1, 0] _ rfl ?_
  refine g_lp_w (body := (fun t => b_X8_count_7 fu o p0 ((0 : Int32)) t.1 t.2.1 t.2.2)) (P := fun t : Int32 × Int32 × g_St => g_V g_KM 13 x 5 (g_qi g_KM 13 x z) t.2.2 7 [(0, .ref (g_ad x o)), (1, .int (p0)), (2, .int (t.1)), (3, .int ((0 : Int32))), (4, .int (t.2.1))] []) (E := (fun e : Int32 × g_St => g_V g_KM 13 x 5 (g_qi g_KM 13 x z) e.2 37 [(0, .ref (g_ad x o)), (1, .int (p0)), (2, .int (e.1)), (3, .int ((0 : Int32)))] [])) (fun t r hb hc => vb_X8_count_7 X o p0 ((0 : Int32)) t.1 t.2.1 hk_o t.2.2 hb hc) fu ((0 : Int32), (0 : Int32), S) e he ?_
  obtain ⟨w2_1, S1⟩ := e
  show g_V g_KM 13 x 5 (g_qi g_KM 13 x z) S1 37 [(0, .ref (g_ad x o)), (1, .int (p0)), (2, .int (w2_1)), (3, .int ((0 : Int32)))] []
  refine g_iconst X (v := 0) dX8_count_37 (by decide) ?_
  refine g_istore X [(4, _), (0, _), (1, _), (2, _), (3, _)] dX8_count_38 (by decide) rfl ?_
  obtain ⟨e, he, h⟩ := g_th_s h
  refine g_sub [1, 2, 3, 4, 0] _ rfl ?_
  refine g_lp_w (body := (fun t => b_X8_count_40 fu o p0 w2_1 t.1 t.2.1 t.2.2)) (P := fun t : Int32 × Int32 × g_St => g_V g_KM 13 x 5 (g_qi g_KM 13 x z) t.2.2 40 [(0, .ref (g_ad x o)), (1, .int (p0)), (2, .int (w2_1)), (3, .int (t.1)), (4, .int (t.2.1))] []) (E := (fun e : Int32 × g_St => g_V g_KM 13 x 5 (g_qi g_KM 13 x z) e.2 71 [(0, .ref (g_ad x o)), (1, .int (p0)), (2, .int (w2_1)), (3, .int (e.1))] [])) (fun t r hb hc => vb_X8_count_40 X o p0 w2_1 t.1 t.2.1 hk_o t.2.2 hb hc) fu ((0 : Int32), (0 : Int32), S1) e he ?_
  obtain ⟨w3_2, S2⟩ := e
  show g_V g_KM 13 x 5 (g_qi g_KM 13 x z) S2 71 [(0, .ref (g_ad x o)), (1, .int (p0)), (2, .int (w2_1)), (3, .int (w3_2))] []
  refine g_iload_n X dX8_count_71 1 rfl ?_
  refine g_ifs h (fun c_72_0 h => ?_) (fun c_72_0 h => ?_)
  · refine g_tableIn X 112 (off := 40) dX8_count_72 (by rw [c_72_0]; decide) (by rw [c_72_0]; decide) (by rw [c_72_0]; rfl) (by decide) ?_
    refine g_aload_n X dX8_count_112 0 rfl ?_
    refine g_geti X g_cX8 w_X8_count_inX8 20 (by decide) w_X8_count_116 hk_o rfl dX8_count_113 ?_
    exact g_iret X h dX8_count_116
  refine g_ifs h (fun c_72_1 h => ?_) (fun c_72_1 h => ?_)
  · refine g_tableIn X 117 (off := 45) dX8_count_72 (by rw [c_72_1]; decide) (by rw [c_72_1]; decide) (by rw [c_72_1]; rfl) (by decide) ?_
    refine g_aload_n X dX8_count_117 0 rfl ?_
    refine g_getr X g_cX8 w_X8_count_inX8 22 (by decide) w_X8_count_38 hk_o rfl dX8_count_118 h (fun a9 hk_a9 h => ?_)
    refine g_iconst X (v := 0) dX8_count_121 (by decide) ?_
    refine g_zald X hk_a9 dX8_count_122 h (fun i10 _ h => ?_)
    refine g_if_eq X 130 dX8_count_123 (by decide) h (fun c_123 h => ?_) (fun c_123 h => ?_)
    · skip
      refine g_iconst X (v := 0) dX8_count_130 (by decide) ?_
      refine g_sub [0] _ rfl ?_
      exact vj_X8_count_131 X o ((0 : Int32)) hk_o _ h
    · skip
      refine g_iconst X (v := 1) dX8_count_126 (by decide) ?_
      refine g_goto X 131 dX8_count_127 (by decide) ?_
      refine g_sub [0] _ rfl ?_
      exact vj_X8_count_131 X o ((1 : Int32)) hk_o _ h
  refine g_ifs h (fun c_72_2 h => ?_) (fun c_72_2 h => ?_)
  · refine g_tableIn X 147 (off := 75) dX8_count_72 (by rw [c_72_2]; decide) (by rw [c_72_2]; decide) (by rw [c_72_2]; rfl) (by decide) ?_
    refine g_aload_n X dX8_count_147 0 rfl ?_
    refine g_geti X g_cX8 w_X8_count_inX8 3 (by decide) w_X8_count_57 hk_o rfl dX8_count_148 ?_
    exact g_iret X h dX8_count_151
  refine g_ifs h (fun c_72_3 h => ?_) (fun c_72_3 h => ?_)
  · refine g_tableIn X 152 (off := 80) dX8_count_72 (by rw [c_72_3]; decide) (by rw [c_72_3]; decide) (by rw [c_72_3]; rfl) (by decide) ?_
    refine g_aload_n X dX8_count_152 0 rfl ?_
    refine g_getr X g_cX8 w_X8_count_inX8 23 (by decide) w_X8_count_42 hk_o rfl dX8_count_153 h (fun a13 hk_a13 h => ?_)
    refine g_iconst X (v := 0) dX8_count_156 (by decide) ?_
    refine g_iald X hk_a13 dX8_count_157 h (fun i14 _ h => ?_)
    refine g_bipush X (v := (-4)) dX8_count_158 (by decide) ?_
    refine g_icmp_ne X 168 dX8_count_160 (by decide) h (fun c_160 h => ?_) (fun c_160 h => ?_)
    · skip
      refine g_aload_n X dX8_count_168 0 rfl ?_
      refine g_getr X g_cX8 w_X8_count_inX8 24 (by decide) w_X8_count_45 hk_o rfl dX8_count_169 h (fun a15 hk_a15 h => ?_)
      refine g_iconst X (v := 0) dX8_count_172 (by decide) ?_
      refine g_iald X hk_a15 dX8_count_173 h (fun i16 _ h => ?_)
      exact g_iret X h dX8_count_174
    · skip
      refine g_bipush X (v := (-4)) dX8_count_163 (by decide) ?_
      refine g_goto X 174 dX8_count_165 (by decide) ?_
      exact g_iret X h dX8_count_174
  refine g_ifs h (fun c_72_4 h => ?_) (fun c_72_4 h => ?_)
  · refine g_tableIn X 175 (off := 103) dX8_count_72 (by rw [c_72_4]; decide) (by rw [c_72_4]; decide) (by rw [c_72_4]; rfl) (by decide) ?_
    refine g_iload_n X dX8_count_175 2 rfl ?_
    exact g_iret X h dX8_count_176
  refine g_ifs h (fun c_72_5 h => ?_) (fun c_72_5 h => ?_)
  · refine g_tableIn X 177 (off := 105) dX8_count_72 (by rw [c_72_5]; decide) (by rw [c_72_5]; decide) (by rw [c_72_5]; rfl) (by decide) ?_
    refine g_iload_n X dX8_count_177 3 rfl ?_
    exact g_iret X h dX8_count_178
  refine g_tableOut X 179 dX8_count_72 (g_sw_out (n := 5) (by decide) rfl (fun k hk => by rcases (show k = 0 ∨ k = 1 ∨ k = 2 ∨ k = 3 ∨ k = 4 ∨ k = 5 by omega) with rfl | rfl | rfl | rfl | rfl | rfl <;> first | exact c_72_0 | exact c_72_1 | exact c_72_2 | exact c_72_3 | exact c_72_4 | exact c_72_5)) (by decide) ?_
  refine g_iconst X (v := (-1)) dX8_count_179 (by decide) ?_
  exact g_iret X h dX8_count_180
