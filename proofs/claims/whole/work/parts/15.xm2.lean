abbrev rm_X8_rule : Room := { frames := 1, cells := 0, slots := 0, locals := 25 }
theorem hd_X8_rule : yX8_rule.cls = RX8 ∧ yX8_rule.cls ≠ "java/lang/invoke/MethodHandle" ∧ yX8_rule.cls ≠ "java/lang/invoke/VarHandle" ∧ (parseMethodDescriptor yX8_rule.desc).map (fun d => d.parameters.length) = some 1 := by decide +kernel
theorem w_X8_rule_7 : Cond.fieldLink RX8 7 "TokenDoorsModel" "state" "[I" ∈ wsX8_rule := by decide +kernel
theorem w_X8_rule_inX8 : ∀ w ∈ wsX80, w ∈ wsX8_rule := by decide +kernel
def j_X8_rule_32_in4 (fu : Nat) (v0 : Nat) (v1 : Int32) (v3 : Int32) (s0 : Int32) (s1 : Int32) (S : g_St) : Option ((Int32 × Int32 × g_St) ⊕ (Int32 × g_St)) :=
  some (.inl ((s0 ||| s1), (v3 + 1), S))
def b_X8_rule_4 (fu : Nat) (v0 : Nat) (v1 : Int32) (v2 : Int32) (v3 : Int32) (S : g_St) : Option ((Int32 × Int32 × g_St) ⊕ (Int32 × g_St)) :=
  g_ld g_KM 13 (.inr (0, 270, false)) (S.2 v0 0) fun a1 => g_ix (16 : Int32) 270 fun i2 => if (S.1 a1 i2) ≤ v3 then (some (.inr (v2, S))) else (g_bd (f_X8_roomOn fu v0 ((0 : Int32)) v3 S) fun r3 Sr3 => if r3 ≤ 0 then (j_X8_rule_32_in4 fu v0 v1 v3 v2 ((0 : Int32)) Sr3) else (j_X8_rule_32_in4 fu v0 v1 v3 v2 (((1 : Int32) <<< (v3 &&& 31))) Sr3))
def f_X8_rule (fu : Nat) (o : Nat) (p0 : Int32) (S : g_St) : Option (Int32 × g_St) :=
  g_th (g_lp (fun t => b_X8_rule_4 fu o p0 t.1 t.2.1 t.2.2) fu ((0 : Int32), (0 : Int32), S)) fun e => match e with | (w2_1, S1) => if p0 = 0 then (g_ld g_KM 13 (.inr (0, 270, false)) (S1.2 o 0) fun a4 => g_ix (16 : Int32) 270 fun i5 => some ((S1.1 a4 i5), S1)) else (if p0 = 1 then (g_ld g_KM 13 (.inr (0, 270, false)) (S1.2 o 0) fun a6 => g_ix (41 : Int32) 270 fun i7 => some ((S1.1 a6 i7), S1)) else (if p0 = 2 then (g_ld g_KM 13 (.inr (0, 270, false)) (S1.2 o 0) fun a8 => g_ix (42 : Int32) 270 fun i9 => some ((S1.1 a8 i9), S1)) else (if p0 = 3 then (g_ld g_KM 13 (.inr (0, 270, false)) (S1.2 o 0) fun a10 => g_ix (43 : Int32) 270 fun i11 => some ((S1.1 a10 i11), S1)) else (if p0 = 4 then (g_ld g_KM 13 (.inr (0, 270, false)) (S1.2 o 0) fun a12 => g_ix (44 : Int32) 270 fun i13 => some ((S1.1 a12 i13), S1)) else (if p0 = 5 then (g_bd (f_X8_comeOn fu o ((0 : Int32)) S1) fun r14 Sr14 => some (r14, Sr14)) else (if p0 = 6 then (some (w2_1, S1)) else (some ((-1 : Int32), S1))))))))
set_option maxRecDepth 100000 in
set_option maxHeartbeats 400000 in
theorem vj_X8_rule_32_in4 {x : g_CX} {z : Int32 × g_St} {fu : Nat} (X : g_X 13 x cX8_rule RX8 4 wsX8_rule rm_X8_rule (some .int)) (v0 : Nat) (v1 : Int32) (v3 : Int32) (s0 : Int32) (s1 : Int32) (hk_v0 : v0 < 13 ∧ g_KM v0 = g_kX8) (S : g_St) {r : (Int32 × Int32 × g_St) ⊕ (Int32 × g_St)} (h : j_X8_rule_32_in4 fu v0 v1 v3 s0 s1 S = some r) (hc : Sum.elim (fun t : Int32 × Int32 × g_St => g_V g_KM 13 x 4 (g_qi g_KM 13 x z) t.2.2 4 [(0, .ref (g_ad x v0)), (1, .int (v1)), (2, .int (t.1)), (3, .int (t.2.1))] []) (fun e : Int32 × g_St => g_V g_KM 13 x 4 (g_qi g_KM 13 x z) e.2 40 [(0, .ref (g_ad x v0)), (1, .int (v1)), (2, .int (e.1))] []) r) : g_V g_KM 13 x 4 (g_qi g_KM 13 x z) S 32 [(0, .ref (g_ad x v0)), (1, .int (v1)), (3, .int (v3))] [.int (s1), .int (s0)] := by
  unfold j_X8_rule_32_in4 at h
  refine g_ior X dX8_rule_32 ?_
  refine g_istore_n X [(2, _), (0, _), (1, _), (3, _)] dX8_rule_33 (by decide) rfl ?_
  refine g_iinc X [(3, _), (2, _), (0, _), (1, _)] dX8_rule_34 3 rfl rfl (by decide) rfl ?_
  refine g_goto X 4 dX8_rule_37 (by decide) ?_
  cases h
  exact g_sub [2, 3, 1, 0] _ rfl hc
set_option maxRecDepth 100000 in
set_option maxHeartbeats 400000 in
theorem vb_X8_rule_4 {x : g_CX} {z : Int32 × g_St} {fu : Nat} (X : g_X 13 x cX8_rule RX8 4 wsX8_rule rm_X8_rule (some .int)) (v0 : Nat) (v1 : Int32) (v2 : Int32) (v3 : Int32) (hk_v0 : v0 < 13 ∧ g_KM v0 = g_kX8) (S : g_St) {r : (Int32 × Int32 × g_St) ⊕ (Int32 × g_St)} (h : b_X8_rule_4 fu v0 v1 v2 v3 S = some r) (hc : Sum.elim (fun t : Int32 × Int32 × g_St => g_V g_KM 13 x 4 (g_qi g_KM 13 x z) t.2.2 4 [(0, .ref (g_ad x v0)), (1, .int (v1)), (2, .int (t.1)), (3, .int (t.2.1))] []) (fun e : Int32 × g_St => g_V g_KM 13 x 4 (g_qi g_KM 13 x z) e.2 40 [(0, .ref (g_ad x v0)), (1, .int (v1)), (2, .int (e.1))] []) r) : g_V g_KM 13 x 4 (g_qi g_KM 13 x z) S 4 [(0, .ref (g_ad x v0)), (1, .int (v1)), (2, .int (v2)), (3, .int (v3))] [] := by
  unfold b_X8_rule_4 at h
  refine g_iload_n X dX8_rule_4 3 rfl ?_
  refine g_aload_n X dX8_rule_5 0 rfl ?_
  refine g_getr X g_cX8 w_X8_rule_inX8 0 (by decide) w_X8_rule_7 hk_v0 rfl dX8_rule_6 h (fun a1 hk_a1 h => ?_)
  refine g_bipush X (v := (16)) dX8_rule_9 (by decide) ?_
  refine g_iald X hk_a1 dX8_rule_11 h (fun i2 _ h => ?_)
  refine g_icmp_ge X 40 dX8_rule_12 (by decide) h (fun c_12 h => ?_) (fun c_12 h => ?_)
  · skip
    cases h
    exact g_sub [0, 1, 2] _ rfl hc
  · skip
    refine g_iload_n X dX8_rule_15 2 rfl ?_
    refine g_aload_n X dX8_rule_16 0 rfl ?_
    refine g_iconst X (v := 0) dX8_rule_17 (by decide) ?_
    refine g_iload_n X dX8_rule_18 3 rfl ?_
    refine g_callVi X g_cX8 hk_v0 [.int ((0 : Int32)), .int (v3)] rfl (cwV 2 X.2.2.2.2.1 gX8_rule_X8_roomOn rfl rfl rfl hd_X8_roomOn ⟨Nat.le_of_ble_eq_true rfl, Nat.le_of_ble_eq_true rfl⟩) (Nat.le_of_ble_eq_true rfl) dX8_rule_19 h (fun q hq => ct_X8_roomOn X.2.2.2.2.2.2.1 v0 ((0 : Int32)) v3 hk_v0 _ hq) (fun r3 Sr3 h => ?_)
    refine g_if_le X 31 dX8_rule_22 (by decide) h (fun c_22 h => ?_) (fun c_22 h => ?_)
    · skip
      refine g_iconst X (v := 0) dX8_rule_31 (by decide) ?_
      refine g_sub [0, 1, 3] _ rfl ?_
      exact vj_X8_rule_32_in4 X v0 v1 v3 v2 ((0 : Int32)) hk_v0 _ h hc
    · skip
      refine g_iconst X (v := 1) dX8_rule_25 (by decide) ?_
      refine g_iload_n X dX8_rule_26 3 rfl ?_
      refine g_ishl X dX8_rule_27 ?_
      refine g_goto X 32 dX8_rule_28 (by decide) ?_
      refine g_sub [0, 1, 3] _ rfl ?_
      exact vj_X8_rule_32_in4 X v0 v1 v3 v2 (((1 : Int32) <<< (v3 &&& 31))) hk_v0 _ h hc
set_option maxRecDepth 100000 in
set_option maxHeartbeats 400000 in
theorem ct_X8_rule {l : Launch} {D : va_G} {ad : Nat → Nat} {cy : Nat → ClassId} {zz : (Nat → Nat) × (Nat → Nat)} (hinj : ∀ i j, i < 13 → j < 13 → ad i = ad j → i = j) {fu : Nat} (o : Nat) (p0 : Int32) (hk_o : o < 13 ∧ g_KM o = g_kX8) {S : g_St} (z : Int32 × g_St) (h : f_X8_rule fu o p0 S = some z) : g_Mi l g_KM 13 D ad cy zz yX8_rule wsX8_rule rm_X8_rule [.ref (ad o), .int (p0)] S z := by
  refine g_ofi hinj (cc := cX8_rule) (maxL := 4) (ret := (some .int)) (lv := [(0, .ref (ad o)), (1, .int (p0))]) (by decide) rfl (Nat.le_of_ble_eq_true rfl) rfl ?_
  intro x X hl hD ha hy hz
  subst hl hD ha hy hz
  unfold f_X8_rule at h
  refine g_iconst X (v := 0) dX8_rule_0 (by decide) ?_
  refine g_istore_n X [(2, _), (0, _), (1, _)] dX8_rule_1 (by decide) rfl ?_
  refine g_iconst X (v := 0) dX8_rule_2 (by decide) ?_
  refine g_istore_n X [(3, _), (2, _), (0, _), (1, _)] dX8_rule_3 (by decide) rfl ?_
  obtain ⟨e, he, h⟩ := g_th_s h
  refine g_sub [2, 3, 1, 0] _ rfl ?_
  refine g_lp_w (body := (fun t => b_X8_rule_4 fu o p0 t.1 t.2.1 t.2.2)) (P := fun t : Int32 × Int32 × g_St => g_V g_KM 13 x 4 (g_qi g_KM 13 x z) t.2.2 4 [(0, .ref (g_ad x o)), (1, .int (p0)), (2, .int (t.1)), (3, .int (t.2.1))] []) (E := (fun e : Int32 × g_St => g_V g_KM 13 x 4 (g_qi g_KM 13 x z) e.2 40 [(0, .ref (g_ad x o)), (1, .int (p0)), (2, .int (e.1))] [])) (fun t r hb hc => vb_X8_rule_4 X o p0 t.1 t.2.1 hk_o t.2.2 hb hc) fu ((0 : Int32), (0 : Int32), S) e he ?_
  obtain ⟨w2_1, S1⟩ := e
  show g_V g_KM 13 x 4 (g_qi g_KM 13 x z) S1 40 [(0, .ref (g_ad x o)), (1, .int (p0)), (2, .int (w2_1))] []
  refine g_iload_n X dX8_rule_40 1 rfl ?_
  refine g_ifs h (fun c_41_0 h => ?_) (fun c_41_0 h => ?_)
  · refine g_tableIn X 84 (off := 43) dX8_rule_41 (by rw [c_41_0]; decide) (by rw [c_41_0]; decide) (by rw [c_41_0]; rfl) (by decide) ?_
    refine g_aload_n X dX8_rule_84 0 rfl ?_
    refine g_getr X g_cX8 w_X8_rule_inX8 0 (by decide) w_X8_rule_7 hk_o rfl dX8_rule_85 h (fun a4 hk_a4 h => ?_)
    refine g_bipush X (v := (16)) dX8_rule_88 (by decide) ?_
    refine g_iald X hk_a4 dX8_rule_90 h (fun i5 _ h => ?_)
    exact g_iret X h dX8_rule_91
  refine g_ifs h (fun c_41_1 h => ?_) (fun c_41_1 h => ?_)
  · refine g_tableIn X 92 (off := 51) dX8_rule_41 (by rw [c_41_1]; decide) (by rw [c_41_1]; decide) (by rw [c_41_1]; rfl) (by decide) ?_
    refine g_aload_n X dX8_rule_92 0 rfl ?_
    refine g_getr X g_cX8 w_X8_rule_inX8 0 (by decide) w_X8_rule_7 hk_o rfl dX8_rule_93 h (fun a6 hk_a6 h => ?_)
    refine g_bipush X (v := (41)) dX8_rule_96 (by decide) ?_
    refine g_iald X hk_a6 dX8_rule_98 h (fun i7 _ h => ?_)
    exact g_iret X h dX8_rule_99
  refine g_ifs h (fun c_41_2 h => ?_) (fun c_41_2 h => ?_)
  · refine g_tableIn X 100 (off := 59) dX8_rule_41 (by rw [c_41_2]; decide) (by rw [c_41_2]; decide) (by rw [c_41_2]; rfl) (by decide) ?_
    refine g_aload_n X dX8_rule_100 0 rfl ?_
    refine g_getr X g_cX8 w_X8_rule_inX8 0 (by decide) w_X8_rule_7 hk_o rfl dX8_rule_101 h (fun a8 hk_a8 h => ?_)
    refine g_bipush X (v := (42)) dX8_rule_104 (by decide) ?_
    refine g_iald X hk_a8 dX8_rule_106 h (fun i9 _ h => ?_)
    exact g_iret X h dX8_rule_107
  refine g_ifs h (fun c_41_3 h => ?_) (fun c_41_3 h => ?_)
  · refine g_tableIn X 108 (off := 67) dX8_rule_41 (by rw [c_41_3]; decide) (by rw [c_41_3]; decide) (by rw [c_41_3]; rfl) (by decide) ?_
    refine g_aload_n X dX8_rule_108 0 rfl ?_
    refine g_getr X g_cX8 w_X8_rule_inX8 0 (by decide) w_X8_rule_7 hk_o rfl dX8_rule_109 h (fun a10 hk_a10 h => ?_)
    refine g_bipush X (v := (43)) dX8_rule_112 (by decide) ?_
    refine g_iald X hk_a10 dX8_rule_114 h (fun i11 _ h => ?_)
    exact g_iret X h dX8_rule_115
  refine g_ifs h (fun c_41_4 h => ?_) (fun c_41_4 h => ?_)
  · refine g_tableIn X 116 (off := 75) dX8_rule_41 (by rw [c_41_4]; decide) (by rw [c_41_4]; decide) (by rw [c_41_4]; rfl) (by decide) ?_
    refine g_aload_n X dX8_rule_116 0 rfl ?_
    refine g_getr X g_cX8 w_X8_rule_inX8 0 (by decide) w_X8_rule_7 hk_o rfl dX8_rule_117 h (fun a12 hk_a12 h => ?_)
    refine g_bipush X (v := (44)) dX8_rule_120 (by decide) ?_
    refine g_iald X hk_a12 dX8_rule_122 h (fun i13 _ h => ?_)
    exact g_iret X h dX8_rule_123
  refine g_ifs h (fun c_41_5 h => ?_) (fun c_41_5 h => ?_)
  · refine g_tableIn X 124 (off := 83) dX8_rule_41 (by rw [c_41_5]; decide) (by rw [c_41_5]; decide) (by rw [c_41_5]; rfl) (by decide) ?_
    refine g_aload_n X dX8_rule_124 0 rfl ?_
    refine g_iconst X (v := 0) dX8_rule_125 (by decide) ?_
    refine g_callVi X g_cX8 hk_o [.int ((0 : Int32))] rfl (cwV 1 X.2.2.2.2.1 gX8_rule_X8_comeOn rfl rfl rfl hd_X8_comeOn ⟨Nat.le_of_ble_eq_true rfl, Nat.le_of_ble_eq_true rfl⟩) (Nat.le_of_ble_eq_true rfl) dX8_rule_126 h (fun q hq => ct_X8_comeOn X.2.2.2.2.2.2.1 o ((0 : Int32)) hk_o _ hq) (fun r14 Sr14 h => ?_)
    exact g_iret X h dX8_rule_129
  refine g_ifs h (fun c_41_6 h => ?_) (fun c_41_6 h => ?_)
  · refine g_tableIn X 130 (off := 89) dX8_rule_41 (by rw [c_41_6]; decide) (by rw [c_41_6]; decide) (by rw [c_41_6]; rfl) (by decide) ?_
    refine g_iload_n X dX8_rule_130 2 rfl ?_
    exact g_iret X h dX8_rule_131
  refine g_tableOut X 132 dX8_rule_41 (g_sw_out (n := 6) (by decide) rfl (fun k hk => by rcases (show k = 0 ∨ k = 1 ∨ k = 2 ∨ k = 3 ∨ k = 4 ∨ k = 5 ∨ k = 6 by omega) with rfl | rfl | rfl | rfl | rfl | rfl | rfl <;> first | exact c_41_0 | exact c_41_1 | exact c_41_2 | exact c_41_3 | exact c_41_4 | exact c_41_5 | exact c_41_6)) (by decide) ?_
  refine g_iconst X (v := (-1)) dX8_rule_132 (by decide) ?_
  exact g_iret X h dX8_rule_133
abbrev rm_X8_door : Room := { frames := 2, cells := 0, slots := 0, locals := 46 }
theorem hd_X8_door : yX8_door.cls = RX8 ∧ yX8_door.cls ≠ "java/lang/invoke/MethodHandle" ∧ yX8_door.cls ≠ "java/lang/invoke/VarHandle" ∧ (parseMethodDescriptor yX8_door.desc).map (fun d => d.parameters.length) = some 2 := by decide +kernel
theorem w_X8_door_105 : Cond.constantLong RX8 105 (4) ∈ wsX8_door := by decide +kernel
theorem w_X8_door_7 : Cond.fieldLink RX8 7 "TokenDoorsModel" "state" "[I" ∈ wsX8_door := by decide +kernel
theorem w_X8_door_inX8 : ∀ w ∈ wsX80, w ∈ wsX8_door := by decide +kernel
def f_X8_door (fu : Nat) (o : Nat) (p0 : Int32) (p1 : Int32) (S : g_St) : Option (Int32 × g_St) :=
  g_bd (f_X8_isDoor fu o p0 S) fun r1 Sr1 => if r1 = 0 then (some ((-1 : Int32), Sr1)) else (g_bd (f_X8_in fu ((Int32.toInt64 p1)) ((0 : Int64)) ((4 : Int64)) Sr1) fun r2 Sr2 => if r2 = 0 then (some ((-1 : Int32), Sr2)) else (if (4 : Int32) ≤ p1 then (g_bd (f_X8_roomOn fu o ((0 : Int32)) p0 Sr2) fun r3 Sr3 => some (r3, Sr3)) else (g_ld g_KM 13 (.inr (0, 270, false)) (Sr2.2 o 0) fun a4 => g_ix (((4 : Int32) * p1) + p0) 270 fun i5 => some ((Sr2.1 a4 i5), Sr2))))
set_option maxRecDepth 100000 in
set_option maxHeartbeats 400000 in
theorem ct_X8_door {l : Launch} {D : va_G} {ad : Nat → Nat} {cy : Nat → ClassId} {zz : (Nat → Nat) × (Nat → Nat)} (hinj : ∀ i j, i < 13 → j < 13 → ad i = ad j → i = j) {fu : Nat} (o : Nat) (p0 : Int32) (p1 : Int32) (hk_o : o < 13 ∧ g_KM o = g_kX8) {S : g_St} (z : Int32 × g_St) (h : f_X8_door fu o p0 p1 S = some z) : g_Mi l g_KM 13 D ad cy zz yX8_door wsX8_door rm_X8_door [.ref (ad o), .int (p0), .int (p1)] S z := by
  refine g_ofi hinj (cc := cX8_door) (maxL := 3) (ret := (some .int)) (lv := [(0, .ref (ad o)), (1, .int (p0)), (2, .int (p1))]) (by decide) rfl (Nat.le_of_ble_eq_true rfl) rfl ?_
  intro x X hl hD ha hy hz
  subst hl hD ha hy hz
  unfold f_X8_door at h
  refine g_aload_n X dX8_door_0 0 rfl ?_
  refine g_iload_n X dX8_door_1 1 rfl ?_
  refine g_callVi X g_cX8 hk_o [.int (p0)] rfl (cwV 1 X.2.2.2.2.1 gX8_door_X8_isDoor rfl rfl rfl hd_X8_isDoor ⟨Nat.le_of_ble_eq_true rfl, Nat.le_of_ble_eq_true rfl⟩) (Nat.le_of_ble_eq_true rfl) dX8_door_2 h (fun q hq => ct_X8_isDoor X.2.2.2.2.2.2.1 o p0 hk_o _ hq) (fun r1 Sr1 h => ?_)
  refine g_if_eq X 20 dX8_door_5 (by decide) h (fun c_5 h => ?_) (fun c_5 h => ?_)
  · skip
    refine g_iconst X (v := (-1)) dX8_door_20 (by decide) ?_
    exact g_iret X h dX8_door_21
  · skip
    refine g_iload_n X dX8_door_8 2 rfl ?_
    refine g_i2l X dX8_door_9 ?_
    refine g_lconst X (v := 0) dX8_door_10 (by decide) ?_
    refine g_ldc2 X w_X8_door_105 dX8_door_11 ?_
    refine g_callSi X [.long ((Int32.toInt64 p1)), .long ((0 : Int64)), .long ((4 : Int64))] rfl (va_cwS 3 X.2.2.2.2.1 gX8_door_X8_in rfl rfl rfl hd_X8_in ⟨Nat.le_of_ble_eq_true rfl, Nat.le_of_ble_eq_true rfl⟩) (Nat.le_of_ble_eq_true rfl) dX8_door_14 h (fun q hq => ct_X8_in X.2.2.2.2.2.2.1 ((Int32.toInt64 p1)) ((0 : Int64)) ((4 : Int64))  _ hq) (fun r2 Sr2 h => ?_)
    refine g_if_ne X 22 dX8_door_17 (by decide) h (fun c_17 h => ?_) (fun c_17 h => ?_)
    · skip
      refine g_iload_n X dX8_door_22 2 rfl ?_
      refine g_iconst X (v := 4) dX8_door_23 (by decide) ?_
      refine g_icmp_ge X 40 dX8_door_24 (by decide) h (fun c_24 h => ?_) (fun c_24 h => ?_)
      · skip
        refine g_aload_n X dX8_door_40 0 rfl ?_
        refine g_iconst X (v := 0) dX8_door_41 (by decide) ?_
        refine g_iload_n X dX8_door_42 1 rfl ?_
        refine g_callVi X g_cX8 hk_o [.int ((0 : Int32)), .int (p0)] rfl (cwV 2 X.2.2.2.2.1 gX8_door_X8_roomOn rfl rfl rfl hd_X8_roomOn ⟨Nat.le_of_ble_eq_true rfl, Nat.le_of_ble_eq_true rfl⟩) (Nat.le_of_ble_eq_true rfl) dX8_door_43 h (fun q hq => ct_X8_roomOn X.2.2.2.2.2.2.1 o ((0 : Int32)) p0 hk_o _ hq) (fun r3 Sr3 h => ?_)
        exact g_iret X h dX8_door_46
      · skip
        refine g_aload_n X dX8_door_27 0 rfl ?_
        refine g_getr X g_cX8 w_X8_door_inX8 0 (by decide) w_X8_door_7 hk_o rfl dX8_door_28 h (fun a4 hk_a4 h => ?_)
        refine g_iconst X (v := 4) dX8_door_31 (by decide) ?_
        refine g_iload_n X dX8_door_32 2 rfl ?_
        refine g_imul X dX8_door_33 ?_
        refine g_iload_n X dX8_door_34 1 rfl ?_
        refine g_iadd X dX8_door_35 ?_
        refine g_iald X hk_a4 dX8_door_36 h (fun i5 _ h => ?_)
        refine g_goto X 46 dX8_door_37 (by decide) ?_
        exact g_iret X h dX8_door_46
    · skip
      refine g_iconst X (v := (-1)) dX8_door_20 (by decide) ?_
      exact g_iret X h dX8_door_21
abbrev rm_X8_crowd : Room := { frames := 2, cells := 0, slots := 0, locals := 46 }
theorem hd_X8_crowd : yX8_crowd.cls = RX8 ∧ yX8_crowd.cls ≠ "java/lang/invoke/MethodHandle" ∧ yX8_crowd.cls ≠ "java/lang/invoke/VarHandle" ∧ (parseMethodDescriptor yX8_crowd.desc).map (fun d => d.parameters.length) = some 2 := by decide +kernel
theorem w_X8_crowd_157 : Cond.constantLong RX8 157 (2) ∈ wsX8_crowd := by decide +kernel
theorem w_X8_crowd_7 : Cond.fieldLink RX8 7 "TokenDoorsModel" "state" "[I" ∈ wsX8_crowd := by decide +kernel
theorem w_X8_crowd_inX8 : ∀ w ∈ wsX80, w ∈ wsX8_crowd := by decide +kernel
def f_X8_crowd (fu : Nat) (o : Nat) (p0 : Int32) (p1 : Int32) (S : g_St) : Option (Int32 × g_St) :=
  g_bd (f_X8_isCrowd fu o p0 S) fun r1 Sr1 => if r1 = 0 then (some ((-1 : Int32), Sr1)) else (g_bd (f_X8_in fu ((Int32.toInt64 p1)) ((0 : Int64)) ((2 : Int64)) Sr1) fun r2 Sr2 => if r2 = 0 then (some ((-1 : Int32), Sr2)) else (g_ld g_KM 13 (.inr (0, 270, false)) (Sr2.2 o 0) fun a3 => g_ix (((17 : Int32) + ((8 : Int32) * p1)) + p0) 270 fun i4 => some ((Sr2.1 a3 i4), Sr2)))
set_option maxRecDepth 100000 in
set_option maxHeartbeats 400000 in
theorem ct_X8_crowd {l : Launch} {D : va_G} {ad : Nat → Nat} {cy : Nat → ClassId} {zz : (Nat → Nat) × (Nat → Nat)} (hinj : ∀ i j, i < 13 → j < 13 → ad i = ad j → i = j) {fu : Nat} (o : Nat) (p0 : Int32) (p1 : Int32) (hk_o : o < 13 ∧ g_KM o = g_kX8) {S : g_St} (z : Int32 × g_St) (h : f_X8_crowd fu o p0 p1 S = some z) : g_Mi l g_KM 13 D ad cy zz yX8_crowd wsX8_crowd rm_X8_crowd [.ref (ad o), .int (p0), .int (p1)] S z := by
  refine g_ofi hinj (cc := cX8_crowd) (maxL := 3) (ret := (some .int)) (lv := [(0, .ref (ad o)), (1, .int (p0)), (2, .int (p1))]) (by decide) rfl (Nat.le_of_ble_eq_true rfl) rfl ?_
  intro x X hl hD ha hy hz
  subst hl hD ha hy hz
  unfold f_X8_crowd at h
  refine g_aload_n X dX8_crowd_0 0 rfl ?_
  refine g_iload_n X dX8_crowd_1 1 rfl ?_
  refine g_callVi X g_cX8 hk_o [.int (p0)] rfl (cwV 1 X.2.2.2.2.1 gX8_crowd_X8_isCrowd rfl rfl rfl hd_X8_isCrowd ⟨Nat.le_of_ble_eq_true rfl, Nat.le_of_ble_eq_true rfl⟩) (Nat.le_of_ble_eq_true rfl) dX8_crowd_2 h (fun q hq => ct_X8_isCrowd X.2.2.2.2.2.2.1 o p0 hk_o _ hq) (fun r1 Sr1 h => ?_)
  refine g_if_eq X 37 dX8_crowd_5 (by decide) h (fun c_5 h => ?_) (fun c_5 h => ?_)
  · skip
    refine g_iconst X (v := (-1)) dX8_crowd_37 (by decide) ?_
    exact g_iret X h dX8_crowd_38
  · skip
    refine g_iload_n X dX8_crowd_8 2 rfl ?_
    refine g_i2l X dX8_crowd_9 ?_
    refine g_lconst X (v := 0) dX8_crowd_10 (by decide) ?_
    refine g_ldc2 X w_X8_crowd_157 dX8_crowd_11 ?_
    refine g_callSi X [.long ((Int32.toInt64 p1)), .long ((0 : Int64)), .long ((2 : Int64))] rfl (va_cwS 3 X.2.2.2.2.1 gX8_crowd_X8_in rfl rfl rfl hd_X8_in ⟨Nat.le_of_ble_eq_true rfl, Nat.le_of_ble_eq_true rfl⟩) (Nat.le_of_ble_eq_true rfl) dX8_crowd_14 h (fun q hq => ct_X8_in X.2.2.2.2.2.2.1 ((Int32.toInt64 p1)) ((0 : Int64)) ((2 : Int64))  _ hq) (fun r2 Sr2 h => ?_)
    refine g_if_eq X 37 dX8_crowd_17 (by decide) h (fun c_17 h => ?_) (fun c_17 h => ?_)
    · skip
      refine g_iconst X (v := (-1)) dX8_crowd_37 (by decide) ?_
      exact g_iret X h dX8_crowd_38
    · skip
      refine g_aload_n X dX8_crowd_20 0 rfl ?_
      refine g_getr X g_cX8 w_X8_crowd_inX8 0 (by decide) w_X8_crowd_7 hk_o rfl dX8_crowd_21 h (fun a3 hk_a3 h => ?_)
      refine g_bipush X (v := (17)) dX8_crowd_24 (by decide) ?_
      refine g_bipush X (v := (8)) dX8_crowd_26 (by decide) ?_
      refine g_iload_n X dX8_crowd_28 2 rfl ?_
      refine g_imul X dX8_crowd_29 ?_
      refine g_iadd X dX8_crowd_30 ?_
      refine g_iload_n X dX8_crowd_31 1 rfl ?_
      refine g_iadd X dX8_crowd_32 ?_
      refine g_iald X hk_a3 dX8_crowd_33 h (fun i4 _ h => ?_)
      refine g_goto X 38 dX8_crowd_34 (by decide) ?_
      exact g_iret X h dX8_crowd_38
abbrev rm_X8_deepOn : Room := { frames := 0, cells := 0, slots := 0, locals := 0 }
theorem hd_X8_deepOn : yX8_deepOn.cls = RX8 ∧ yX8_deepOn.cls ≠ "java/lang/invoke/MethodHandle" ∧ yX8_deepOn.cls ≠ "java/lang/invoke/VarHandle" ∧ (parseMethodDescriptor yX8_deepOn.desc).map (fun d => d.parameters.length) = some 3 := by decide +kernel
theorem w_X8_deepOn_7 : Cond.fieldLink RX8 7 "TokenDoorsModel" "state" "[I" ∈ wsX8_deepOn := by decide +kernel
theorem w_X8_deepOn_inX8 : ∀ w ∈ wsX80, w ∈ wsX8_deepOn := by decide +kernel
def f_X8_deepOn (fu : Nat) (o : Nat) (p0 : Int32) (p1 : Int32) (p2 : Int32) (S : g_St) : Option (Unit × g_St) :=
  g_ld g_KM 13 (.inr (0, 270, false)) (S.2 o 0) fun a1 => g_ix ((p0 + (4 : Int32)) + p1) 270 fun i2 => g_ld g_KM 13 (.inr (0, 270, false)) (S.2 o 0) fun a3 => g_ld g_KM 13 (.inr (0, 270, false)) (S.2 o 0) fun a4 => g_ix ((p0 + (12 : Int32)) + p1) 270 fun i5 => if ((g_u S.1 a1 i2 p2) a4 i5) ≤ p2 then (g_ld g_KM 13 (.inr (0, 270, false)) (S.2 o 0) fun a6 => g_ix ((p0 + (12 : Int32)) + p1) 270 fun i7 => g_ix ((p0 + (12 : Int32)) + p1) 270 fun i8 => some ((), (g_u (g_u S.1 a1 i2 p2) a3 i8 ((g_u S.1 a1 i2 p2) a6 i7), S.2))) else (g_ix ((p0 + (12 : Int32)) + p1) 270 fun i9 => some ((), (g_u (g_u S.1 a1 i2 p2) a3 i9 p2, S.2)))
set_option maxRecDepth 100000 in
set_option maxHeartbeats 400000 in
theorem ct_X8_deepOn {l : Launch} {D : va_G} {ad : Nat → Nat} {cy : Nat → ClassId} {zz : (Nat → Nat) × (Nat → Nat)} (hinj : ∀ i j, i < 13 → j < 13 → ad i = ad j → i = j) {fu : Nat} (o : Nat) (p0 : Int32) (p1 : Int32) (p2 : Int32) (hk_o : o < 13 ∧ g_KM o = g_kX8) {S : g_St} (z : Unit × g_St) (h : f_X8_deepOn fu o p0 p1 p2 S = some z) : g_Mv l g_KM 13 D ad cy zz yX8_deepOn wsX8_deepOn rm_X8_deepOn [.ref (ad o), .int (p0), .int (p1), .int (p2)] S z := by
  refine g_ofv hinj (cc := cX8_deepOn) (maxL := 4) (ret := none) (lv := [(0, .ref (ad o)), (1, .int (p0)), (2, .int (p1)), (3, .int (p2))]) (by decide) rfl (Nat.le_of_ble_eq_true rfl) rfl ?_
  intro x X hl hD ha hy hz
  subst hl hD ha hy hz
  unfold f_X8_deepOn at h
  refine g_aload_n X dX8_deepOn_0 0 rfl ?_
  refine g_getr X g_cX8 w_X8_deepOn_inX8 0 (by decide) w_X8_deepOn_7 hk_o rfl dX8_deepOn_1 h (fun a1 hk_a1 h => ?_)
  refine g_iload_n X dX8_deepOn_4 1 rfl ?_
  refine g_iconst X (v := 4) dX8_deepOn_5 (by decide) ?_
  refine g_iadd X dX8_deepOn_6 ?_
  refine g_iload_n X dX8_deepOn_7 2 rfl ?_
  refine g_iadd X dX8_deepOn_8 ?_
  refine g_iload_n X dX8_deepOn_9 3 rfl ?_
  refine g_iast X hk_a1 dX8_deepOn_10 h (fun i2 _ h => ?_)
  refine g_aload_n X dX8_deepOn_11 0 rfl ?_
  refine g_getr X g_cX8 w_X8_deepOn_inX8 0 (by decide) w_X8_deepOn_7 hk_o rfl dX8_deepOn_12 h (fun a3 hk_a3 h => ?_)
  refine g_iload_n X dX8_deepOn_15 1 rfl ?_
  refine g_bipush X (v := (12)) dX8_deepOn_16 (by decide) ?_
  refine g_iadd X dX8_deepOn_18 ?_
  refine g_iload_n X dX8_deepOn_19 2 rfl ?_
  refine g_iadd X dX8_deepOn_20 ?_
  refine g_aload_n X dX8_deepOn_21 0 rfl ?_
  refine g_getr X g_cX8 w_X8_deepOn_inX8 0 (by decide) w_X8_deepOn_7 hk_o rfl dX8_deepOn_22 h (fun a4 hk_a4 h => ?_)
  refine g_iload_n X dX8_deepOn_25 1 rfl ?_
  refine g_bipush X (v := (12)) dX8_deepOn_26 (by decide) ?_
  refine g_iadd X dX8_deepOn_28 ?_
  refine g_iload_n X dX8_deepOn_29 2 rfl ?_
  refine g_iadd X dX8_deepOn_30 ?_
  refine g_iald X hk_a4 dX8_deepOn_31 h (fun i5 _ h => ?_)
  refine g_iload_n X dX8_deepOn_32 3 rfl ?_
  refine g_icmp_le X 40 dX8_deepOn_33 (by decide) h (fun c_33 h => ?_) (fun c_33 h => ?_)
  · skip
    refine g_aload_n X dX8_deepOn_40 0 rfl ?_
    refine g_getr X g_cX8 w_X8_deepOn_inX8 0 (by decide) w_X8_deepOn_7 hk_o rfl dX8_deepOn_41 h (fun a6 hk_a6 h => ?_)
    refine g_iload_n X dX8_deepOn_44 1 rfl ?_
    refine g_bipush X (v := (12)) dX8_deepOn_45 (by decide) ?_
    refine g_iadd X dX8_deepOn_47 ?_
    refine g_iload_n X dX8_deepOn_48 2 rfl ?_
    refine g_iadd X dX8_deepOn_49 ?_
    refine g_iald X hk_a6 dX8_deepOn_50 h (fun i7 _ h => ?_)
    refine g_iast X hk_a3 dX8_deepOn_51 h (fun i8 _ h => ?_)
    exact g_vret X h dX8_deepOn_52
  · skip
    refine g_iload_n X dX8_deepOn_36 3 rfl ?_
    refine g_goto X 51 dX8_deepOn_37 (by decide) ?_
    refine g_iast X hk_a3 dX8_deepOn_51 h (fun i9 _ h => ?_)
    exact g_vret X h dX8_deepOn_52
abbrev rm_X8_alter : Room := { frames := 2, cells := 0, slots := 0, locals := 46 }
theorem hd_X8_alter : yX8_alter.cls = RX8 ∧ yX8_alter.cls ≠ "java/lang/invoke/MethodHandle" ∧ yX8_alter.cls ≠ "java/lang/invoke/VarHandle" ∧ (parseMethodDescriptor yX8_alter.desc).map (fun d => d.parameters.length) = some 3 := by decide +kernel
theorem w_X8_alter_157 : Cond.constantLong RX8 157 (2) ∈ wsX8_alter := by decide +kernel
theorem w_X8_alter_159 : Cond.constantLong RX8 159 (3) ∈ wsX8_alter := by decide +kernel
theorem w_X8_alter_7 : Cond.fieldLink RX8 7 "TokenDoorsModel" "state" "[I" ∈ wsX8_alter := by decide +kernel
theorem w_X8_alter_inX8 : ∀ w ∈ wsX80, w ∈ wsX8_alter := by decide +kernel
theorem w_X8_alter_161 : Cond.constantLong RX8 161 (9) ∈ wsX8_alter := by decide +kernel
def j_X8_alter_101 (fu : Nat) (v0 : Nat) (v1 : Int32) (v2 : Int32) (v3 : Int32) (S : g_St) : Option (Int32 × g_St) :=
  g_ld g_KM 13 (.inr (0, 270, false)) (S.2 v0 0) fun a3 => g_ix (((4 : Int32) * v2) + v1) 270 fun i4 => if v2 = (1 : Int32) then (g_bd (f_X8_deepOn fu v0 ((0 : Int32)) v1 v3 S) fun _ Sr7 => some ((S.1 a3 i4), Sr7)) else (g_ld g_KM 13 (.inr (0, 270, false)) (S.2 v0 0) fun a5 => g_ix (((4 : Int32) * v2) + v1) 270 fun i6 => some ((S.1 a3 i4), (g_u S.1 a5 i6 v3, S.2)))
def j_X8_alter_64 (fu : Nat) (v0 : Nat) (v1 : Int32) (v2 : Int32) (v3 : Int32) (s0 : Int32) (S : g_St) : Option (Int32 × g_St) :=
  g_bd (f_X8_isDoor fu v0 v1 S) fun r2 Sr2 => if r2 = 0 then (some ((-1 : Int32), Sr2)) else (if s0 = 0 then (some ((-1 : Int32), Sr2)) else (if v2 = (3 : Int32) then (g_ld g_KM 13 (.inr (0, 270, false)) (Sr2.2 v0 0) fun a8 => g_ix ((4 : Int32) + v1) 270 fun i9 => if v3 ≤ (Sr2.1 a8 i9) then (j_X8_alter_101 fu v0 v1 v2 v3 Sr2) else (some ((-2 : Int32), Sr2))) else (j_X8_alter_101 fu v0 v1 v2 v3 Sr2)))
def j_X8_alter_63 (fu : Nat) (v0 : Nat) (v1 : Int32) (v2 : Int32) (v3 : Int32) (S : g_St) : Option (Int32 × g_St) :=
  j_X8_alter_64 fu v0 v1 v2 v3 ((0 : Int32)) S
def f_X8_alter (fu : Nat) (o : Nat) (p0 : Int32) (p1 : Int32) (p2 : Int32) (S : g_St) : Option (Int32 × g_St) :=
  if p1 = 0 then (g_bd (f_X8_in fu ((Int32.toInt64 p2)) ((0 : Int64)) ((3 : Int64)) S) fun r12 Sr12 => j_X8_alter_64 fu o p0 p1 p2 r12 Sr12) else (if p1 = (1 : Int32) then (g_bd (f_X8_in fu ((Int32.toInt64 p2)) ((1 : Int64)) ((9 : Int64)) S) fun r11 Sr11 => j_X8_alter_64 fu o p0 p1 p2 r11 Sr11) else (g_bd (f_X8_in fu ((Int32.toInt64 p1)) ((2 : Int64)) ((3 : Int64)) S) fun r1 Sr1 => if r1 = 0 then (j_X8_alter_63 fu o p0 p1 p2 Sr1) else (g_bd (f_X8_in fu ((Int32.toInt64 p2)) ((0 : Int64)) ((9 : Int64)) Sr1) fun r10 Sr10 => if r10 = 0 then (j_X8_alter_63 fu o p0 p1 p2 Sr10) else (j_X8_alter_64 fu o p0 p1 p2 ((1 : Int32)) Sr10))))
set_option maxRecDepth 100000 in
set_option maxHeartbeats 400000 in
theorem vj_X8_alter_101 {x : g_CX} {z : Int32 × g_St} {fu : Nat} (X : g_X 13 x cX8_alter RX8 6 wsX8_alter rm_X8_alter (some .int)) (v0 : Nat) (v1 : Int32) (v2 : Int32) (v3 : Int32) (hk_v0 : v0 < 13 ∧ g_KM v0 = g_kX8) (S : g_St) (h : j_X8_alter_101 fu v0 v1 v2 v3 S = some z) : g_V g_KM 13 x 6 (g_qi g_KM 13 x z) S 101 [(0, .ref (g_ad x v0)), (1, .int (v1)), (2, .int (v2)), (3, .int (v3))] [] := by
  unfold j_X8_alter_101 at h
  refine g_aload_n X dX8_alter_101 0 rfl ?_
  refine g_getr X g_cX8 w_X8_alter_inX8 0 (by decide) w_X8_alter_7 hk_v0 rfl dX8_alter_102 h (fun a3 hk_a3 h => ?_)
  refine g_iconst X (v := 4) dX8_alter_105 (by decide) ?_
  refine g_iload_n X dX8_alter_106 2 rfl ?_
  refine g_imul X dX8_alter_107 ?_
  refine g_iload_n X dX8_alter_108 1 rfl ?_
  refine g_iadd X dX8_alter_109 ?_
  refine g_iald X hk_a3 dX8_alter_110 h (fun i4 _ h => ?_)
  refine g_istore X [(5, _), (0, _), (1, _), (2, _), (3, _)] dX8_alter_111 (by decide) rfl ?_
  refine g_iload_n X dX8_alter_113 3 rfl ?_
  refine g_iconst X (v := 1) dX8_alter_114 (by decide) ?_
  refine g_icmp_ne X 128 dX8_alter_115 (by decide) h (fun c_115 h => ?_) (fun c_115 h => ?_)
  · skip
    refine g_aload_n X dX8_alter_128 1 rfl ?_
    refine g_getr X g_cX8 w_X8_alter_inX8 0 (by decide) w_X8_alter_7 hk_v0 rfl dX8_alter_129 h (fun a5 hk_a5 h => ?_)
    refine g_iconst X (v := 4) dX8_alter_132 (by decide) ?_
    refine g_iload_n X dX8_alter_133 3 rfl ?_
    refine g_imul X dX8_alter_134 ?_
    refine g_iload_n X dX8_alter_135 2 rfl ?_
    refine g_iadd X dX8_alter_136 ?_
    refine g_iload_n X dX8_alter_137 4 rfl ?_
    refine g_iast X hk_a5 dX8_alter_138 h (fun i6 _ h => ?_)
    refine g_iload X dX8_alter_139 0 rfl ?_
    exact g_iret X h dX8_alter_141
  · skip
    refine g_aload_n X dX8_alter_118 1 rfl ?_
    refine g_iconst X (v := 0) dX8_alter_119 (by decide) ?_
    refine g_iload_n X dX8_alter_120 2 rfl ?_
    refine g_iload_n X dX8_alter_121 4 rfl ?_
    refine g_callVv X g_cX8 hk_v0 [.int ((0 : Int32)), .int (v1), .int (v3)] rfl (cwV 3 X.2.2.2.2.1 gX8_alter_X8_deepOn rfl rfl rfl hd_X8_deepOn ⟨Nat.le_of_ble_eq_true rfl, Nat.le_of_ble_eq_true rfl⟩) (Nat.le_of_ble_eq_true rfl) dX8_alter_122 h (fun q hq => ct_X8_deepOn X.2.2.2.2.2.2.1 v0 ((0 : Int32)) v1 v3 hk_v0 _ hq) (fun _ Sr7 h => ?_)
    refine g_goto X 139 dX8_alter_125 (by decide) ?_
    refine g_iload X dX8_alter_139 0 rfl ?_
    exact g_iret X h dX8_alter_141
set_option maxRecDepth 100000 in
set_option maxHeartbeats 400000 in
theorem vj_X8_alter_64 {x : g_CX} {z : Int32 × g_St} {fu : Nat} (X : g_X 13 x cX8_alter RX8 6 wsX8_alter rm_X8_alter (some .int)) (v0 : Nat) (v1 : Int32) (v2 : Int32) (v3 : Int32) (s0 : Int32) (hk_v0 : v0 < 13 ∧ g_KM v0 = g_kX8) (S : g_St) (h : j_X8_alter_64 fu v0 v1 v2 v3 s0 S = some z) : g_V g_KM 13 x 6 (g_qi g_KM 13 x z) S 64 [(0, .ref (g_ad x v0)), (1, .int (v1)), (2, .int (v2)), (3, .int (v3))] [.int (s0)] := by
  unfold j_X8_alter_64 at h
  refine g_istore X [(4, _), (0, _), (1, _), (2, _), (3, _)] dX8_alter_64 (by decide) rfl ?_
  refine g_aload_n X dX8_alter_66 1 rfl ?_
  refine g_iload_n X dX8_alter_67 2 rfl ?_
  refine g_callVi X g_cX8 hk_v0 [.int (v1)] rfl (cwV 1 X.2.2.2.2.1 gX8_alter_X8_isDoor rfl rfl rfl hd_X8_isDoor ⟨Nat.le_of_ble_eq_true rfl, Nat.le_of_ble_eq_true rfl⟩) (Nat.le_of_ble_eq_true rfl) dX8_alter_68 h (fun q hq => ct_X8_isDoor X.2.2.2.2.2.2.1 v0 v1 hk_v0 _ hq) (fun r2 Sr2 h => ?_)
  refine g_if_eq X 79 dX8_alter_71 (by decide) h (fun c_71 h => ?_) (fun c_71 h => ?_)
  · skip
    refine g_iconst X (v := (-1)) dX8_alter_79 (by decide) ?_
    exact g_iret X h dX8_alter_80
  · skip
    refine g_iload X dX8_alter_74 0 rfl ?_
    refine g_if_ne X 81 dX8_alter_76 (by decide) h (fun c_76 h => ?_) (fun c_76 h => ?_)
    · skip
      refine g_iload_n X dX8_alter_81 3 rfl ?_
      refine g_iconst X (v := 3) dX8_alter_82 (by decide) ?_
      refine g_icmp_ne X 101 dX8_alter_83 (by decide) h (fun c_83 h => ?_) (fun c_83 h => ?_)
      · skip
        refine g_sub [1, 2, 3, 4] _ rfl ?_
        exact vj_X8_alter_101 X v0 v1 v2 v3 hk_v0 _ h
      · skip
        refine g_iload_n X dX8_alter_86 4 rfl ?_
        refine g_aload_n X dX8_alter_87 1 rfl ?_
        refine g_getr X g_cX8 w_X8_alter_inX8 0 (by decide) w_X8_alter_7 hk_v0 rfl dX8_alter_88 h (fun a8 hk_a8 h => ?_)
        refine g_iconst X (v := 4) dX8_alter_91 (by decide) ?_
        refine g_iload_n X dX8_alter_92 2 rfl ?_
        refine g_iadd X dX8_alter_93 ?_
        refine g_iald X hk_a8 dX8_alter_94 h (fun i9 _ h => ?_)
        refine g_icmp_le X 101 dX8_alter_95 (by decide) h (fun c_95 h => ?_) (fun c_95 h => ?_)
        · skip
          refine g_sub [1, 2, 3, 4] _ rfl ?_
          exact vj_X8_alter_101 X v0 v1 v2 v3 hk_v0 _ h
        · skip
          refine g_bipush X (v := (-2)) dX8_alter_98 (by decide) ?_
          exact g_iret X h dX8_alter_100
    · skip
      refine g_iconst X (v := (-1)) dX8_alter_79 (by decide) ?_
      exact g_iret X h dX8_alter_80
set_option maxRecDepth 100000 in
set_option maxHeartbeats 400000 in
theorem vj_X8_alter_63 {x : g_CX} {z : Int32 × g_St} {fu : Nat} (X : g_X 13 x cX8_alter RX8 6 wsX8_alter rm_X8_alter (some .int)) (v0 : Nat) (v1 : Int32) (v2 : Int32) (v3 : Int32) (hk_v0 : v0 < 13 ∧ g_KM v0 = g_kX8) (S : g_St) (h : j_X8_alter_63 fu v0 v1 v2 v3 S = some z) : g_V g_KM 13 x 6 (g_qi g_KM 13 x z) S 63 [(0, .ref (g_ad x v0)), (1, .int (v1)), (2, .int (v2)), (3, .int (v3))] [] := by
  unfold j_X8_alter_63 at h
  refine g_iconst X (v := 0) dX8_alter_63 (by decide) ?_
  refine g_sub [0, 1, 2, 3] _ rfl ?_
  exact vj_X8_alter_64 X v0 v1 v2 v3 ((0 : Int32)) hk_v0 _ h
set_option maxRecDepth 100000 in
set_option maxHeartbeats 400000 in
theorem ct_X8_alter {l : Launch} {D : va_G} {ad : Nat → Nat} {cy : Nat → ClassId} {zz : (Nat → Nat) × (Nat → Nat)} (hinj : ∀ i j, i < 13 → j < 13 → ad i = ad j → i = j) {fu : Nat} (o : Nat) (p0 : Int32) (p1 : Int32) (p2 : Int32) (hk_o : o < 13 ∧ g_KM o = g_kX8) {S : g_St} (z : Int32 × g_St) (h : f_X8_alter fu o p0 p1 p2 S = some z) : g_Mi l g_KM 13 D ad cy zz yX8_alter wsX8_alter rm_X8_alter [.ref (ad o), .int (p0), .int (p1), .int (p2)] S z := by
  refine g_ofi hinj (cc := cX8_alter) (maxL := 6) (ret := (some .int)) (lv := [(0, .ref (ad o)), (1, .int (p0)), (2, .int (p1)), (3, .int (p2))]) (by decide) rfl (Nat.le_of_ble_eq_true rfl) rfl ?_
  intro x X hl hD ha hy hz
  subst hl hD ha hy hz
  unfold f_X8_alter at h
  refine g_iload_n X dX8_alter_0 2 rfl ?_
  refine g_if_ne X 16 dX8_alter_1 (by decide) h (fun c_1 h => ?_) (fun c_1 h => ?_)
  · skip
    refine g_iload_n X dX8_alter_16 2 rfl ?_
    refine g_iconst X (v := 1) dX8_alter_17 (by decide) ?_
    refine g_icmp_ne X 33 dX8_alter_18 (by decide) h (fun c_18 h => ?_) (fun c_18 h => ?_)
    · skip
      refine g_iload_n X dX8_alter_33 2 rfl ?_
      refine g_i2l X dX8_alter_34 ?_
      refine g_ldc2 X w_X8_alter_157 dX8_alter_35 ?_
      refine g_ldc2 X w_X8_alter_159 dX8_alter_38 ?_
      refine g_callSi X [.long ((Int32.toInt64 p1)), .long ((2 : Int64)), .long ((3 : Int64))] rfl (va_cwS 3 X.2.2.2.2.1 gX8_alter_X8_in rfl rfl rfl hd_X8_in ⟨Nat.le_of_ble_eq_true rfl, Nat.le_of_ble_eq_true rfl⟩) (Nat.le_of_ble_eq_true rfl) dX8_alter_41 h (fun q hq => ct_X8_in X.2.2.2.2.2.2.1 ((Int32.toInt64 p1)) ((2 : Int64)) ((3 : Int64))  _ hq) (fun r1 Sr1 h => ?_)
      refine g_if_eq X 63 dX8_alter_44 (by decide) h (fun c_44 h => ?_) (fun c_44 h => ?_)
      · skip
        refine g_sub [0, 1, 2, 3] _ rfl ?_
        exact vj_X8_alter_63 X o p0 p1 p2 hk_o _ h
      · skip
        refine g_iload_n X dX8_alter_47 3 rfl ?_
        refine g_i2l X dX8_alter_48 ?_
        refine g_lconst X (v := 0) dX8_alter_49 (by decide) ?_
        refine g_ldc2 X w_X8_alter_161 dX8_alter_50 ?_
        refine g_callSi X [.long ((Int32.toInt64 p2)), .long ((0 : Int64)), .long ((9 : Int64))] rfl (va_cwS 3 X.2.2.2.2.1 gX8_alter_X8_in rfl rfl rfl hd_X8_in ⟨Nat.le_of_ble_eq_true rfl, Nat.le_of_ble_eq_true rfl⟩) (Nat.le_of_ble_eq_true rfl) dX8_alter_53 h (fun q hq => ct_X8_in X.2.2.2.2.2.2.1 ((Int32.toInt64 p2)) ((0 : Int64)) ((9 : Int64))  _ hq) (fun r10 Sr10 h => ?_)
        refine g_if_eq X 63 dX8_alter_56 (by decide) h (fun c_56 h => ?_) (fun c_56 h => ?_)
        · skip
          refine g_sub [0, 1, 2, 3] _ rfl ?_
          exact vj_X8_alter_63 X o p0 p1 p2 hk_o _ h
        · skip
          refine g_iconst X (v := 1) dX8_alter_59 (by decide) ?_
          refine g_goto X 64 dX8_alter_60 (by decide) ?_
          refine g_sub [0, 1, 2, 3] _ rfl ?_
          exact vj_X8_alter_64 X o p0 p1 p2 ((1 : Int32)) hk_o _ h
    · skip
      refine g_iload_n X dX8_alter_21 3 rfl ?_
      refine g_i2l X dX8_alter_22 ?_
      refine g_lconst X (v := 1) dX8_alter_23 (by decide) ?_
      refine g_ldc2 X w_X8_alter_161 dX8_alter_24 ?_
      refine g_callSi X [.long ((Int32.toInt64 p2)), .long ((1 : Int64)), .long ((9 : Int64))] rfl (va_cwS 3 X.2.2.2.2.1 gX8_alter_X8_in rfl rfl rfl hd_X8_in ⟨Nat.le_of_ble_eq_true rfl, Nat.le_of_ble_eq_true rfl⟩) (Nat.le_of_ble_eq_true rfl) dX8_alter_27 h (fun q hq => ct_X8_in X.2.2.2.2.2.2.1 ((Int32.toInt64 p2)) ((1 : Int64)) ((9 : Int64))  _ hq) (fun r11 Sr11 h => ?_)
      refine g_goto X 64 dX8_alter_30 (by decide) ?_
      refine g_sub [0, 1, 2, 3] _ rfl ?_
      exact vj_X8_alter_64 X o p0 p1 p2 r11 hk_o _ h
  · skip
    refine g_iload_n X dX8_alter_4 3 rfl ?_
    refine g_i2l X dX8_alter_5 ?_
    refine g_lconst X (v := 0) dX8_alter_6 (by decide) ?_
    refine g_ldc2 X w_X8_alter_159 dX8_alter_7 ?_
    refine g_callSi X [.long ((Int32.toInt64 p2)), .long ((0 : Int64)), .long ((3 : Int64))] rfl (va_cwS 3 X.2.2.2.2.1 gX8_alter_X8_in rfl rfl rfl hd_X8_in ⟨Nat.le_of_ble_eq_true rfl, Nat.le_of_ble_eq_true rfl⟩) (Nat.le_of_ble_eq_true rfl) dX8_alter_10 h (fun q hq => ct_X8_in X.2.2.2.2.2.2.1 ((Int32.toInt64 p2)) ((0 : Int64)) ((3 : Int64))  _ hq) (fun r12 Sr12 h => ?_)
    refine g_goto X 64 dX8_alter_13 (by decide) ?_
    refine g_sub [0, 1, 2, 3] _ rfl ?_
    exact vj_X8_alter_64 X o p0 p1 p2 r12 hk_o _ h
abbrev rm_X8_hang : Room := { frames := 1, cells := 0, slots := 0, locals := 25 }
theorem hd_X8_hang : yX8_hang.cls = RX8 ∧ yX8_hang.cls ≠ "java/lang/invoke/MethodHandle" ∧ yX8_hang.cls ≠ "java/lang/invoke/VarHandle" ∧ (parseMethodDescriptor yX8_hang.desc).map (fun d => d.parameters.length) = some 3 := by decide +kernel
theorem w_X8_hang_159 : Cond.constantLong RX8 159 (3) ∈ wsX8_hang := by decide +kernel
theorem w_X8_hang_161 : Cond.constantLong RX8 161 (9) ∈ wsX8_hang := by decide +kernel
theorem w_X8_hang_7 : Cond.fieldLink RX8 7 "TokenDoorsModel" "state" "[I" ∈ wsX8_hang := by decide +kernel
theorem w_X8_hang_inX8 : ∀ w ∈ wsX80, w ∈ wsX8_hang := by decide +kernel
def j_X8_hang_103 (fu : Nat) (v0 : Nat) (s0 : Nat) (s1 : Int32) (s2 : Int32) (S : g_St) : Option (Int32 × g_St) :=
  g_ix s1 270 fun i13 => g_ld g_KM 13 (.inr (0, 270, false)) (S.2 v0 0) fun a14 => g_ix (16 : Int32) 270 fun i15 => g_ix (16 : Int32) 270 fun i16 => g_ld g_KM 13 (.inr (0, 270, false)) (S.2 v0 0) fun a17 => g_ix (16 : Int32) 270 fun i18 => some (((g_u (g_u S.1 s0 i13 s2) a14 i16 (((g_u S.1 s0 i13 s2) a14 i15) + (1 : Int32))) a17 i18), (g_u (g_u S.1 s0 i13 s2) a14 i16 (((g_u S.1 s0 i13 s2) a14 i15) + (1 : Int32)), S.2))
def f_X8_hang (fu : Nat) (o : Nat) (p0 : Int32) (p1 : Int32) (p2 : Int32) (S : g_St) : Option (Int32 × g_St) :=
  g_bd (f_X8_in fu ((Int32.toInt64 p0)) ((0 : Int64)) ((3 : Int64)) S) fun r1 Sr1 => if r1 = 0 then (some ((-1 : Int32), Sr1)) else (g_bd (f_X8_in fu ((Int32.toInt64 p1)) ((1 : Int64)) ((9 : Int64)) Sr1) fun r2 Sr2 => if r2 = 0 then (some ((-1 : Int32), Sr2)) else (g_bd (f_X8_in fu ((Int32.toInt64 p2)) ((0 : Int64)) ((9 : Int64)) Sr2) fun r3 Sr3 => if r3 = 0 then (some ((-1 : Int32), Sr3)) else (g_ld g_KM 13 (.inr (0, 270, false)) (Sr3.2 o 0) fun a4 => g_ix (16 : Int32) 270 fun i5 => if (Sr3.1 a4 i5) = (4 : Int32) then (some ((-3 : Int32), Sr3)) else (g_ld g_KM 13 (.inr (0, 270, false)) (Sr3.2 o 0) fun a6 => g_ix (Sr3.1 a4 i5) 270 fun i7 => g_ld g_KM 13 (.inr (0, 270, false)) (Sr3.2 o 0) fun a8 => g_ix ((4 : Int32) + (Sr3.1 a4 i5)) 270 fun i9 => g_ld g_KM 13 (.inr (0, 270, false)) (Sr3.2 o 0) fun a10 => g_ix ((8 : Int32) + (Sr3.1 a4 i5)) 270 fun i11 => g_ld g_KM 13 (.inr (0, 270, false)) (Sr3.2 o 0) fun a12 => if p0 = 0 then (j_X8_hang_103 fu o a12 (((12 : Int32) + (Sr3.1 a4 i5))) p1 (g_u (g_u (g_u Sr3.1 a6 i7 p0) a8 i9 p1) a10 i11 p2, Sr3.2)) else (j_X8_hang_103 fu o a12 (((12 : Int32) + (Sr3.1 a4 i5))) ((0 : Int32)) (g_u (g_u (g_u Sr3.1 a6 i7 p0) a8 i9 p1) a10 i11 p2, Sr3.2))))))
set_option maxRecDepth 100000 in
set_option maxHeartbeats 400000 in
theorem vj_X8_hang_103 {x : g_CX} {z : Int32 × g_St} {fu : Nat} (X : g_X 13 x cX8_hang RX8 5 wsX8_hang rm_X8_hang (some .int)) (v0 : Nat) (s0 : Nat) (s1 : Int32) (s2 : Int32) (hk_v0 : v0 < 13 ∧ g_KM v0 = g_kX8) (hk_s0 : s0 < 13 ∧ g_KM s0 = (.inr (0, 270, false))) (S : g_St) (h : j_X8_hang_103 fu v0 s0 s1 s2 S = some z) : g_V g_KM 13 x 5 (g_qi g_KM 13 x z) S 103 [(0, .ref (g_ad x v0))] [.int (s2), .int (s1), .ref (g_ad x s0)] := by
  unfold j_X8_hang_103 at h
  refine g_iast X hk_s0 dX8_hang_103 h (fun i13 _ h => ?_)
  refine g_aload_n X dX8_hang_104 0 rfl ?_
  refine g_getr X g_cX8 w_X8_hang_inX8 0 (by decide) w_X8_hang_7 hk_v0 rfl dX8_hang_105 h (fun a14 hk_a14 h => ?_)
  refine g_bipush X (v := (16)) dX8_hang_108 (by decide) ?_
  refine g_dup2_11 X dX8_hang_110 rfl rfl ?_
  refine g_iald X hk_a14 dX8_hang_111 h (fun i15 _ h => ?_)
  refine g_iconst X (v := 1) dX8_hang_112 (by decide) ?_
  refine g_iadd X dX8_hang_113 ?_
  refine g_iast X hk_a14 dX8_hang_114 h (fun i16 _ h => ?_)
  refine g_aload_n X dX8_hang_115 0 rfl ?_
  refine g_getr X g_cX8 w_X8_hang_inX8 0 (by decide) w_X8_hang_7 hk_v0 rfl dX8_hang_116 h (fun a17 hk_a17 h => ?_)
  refine g_bipush X (v := (16)) dX8_hang_119 (by decide) ?_
  refine g_iald X hk_a17 dX8_hang_121 h (fun i18 _ h => ?_)
  exact g_iret X h dX8_hang_122
set_option maxRecDepth 100000 in
set_option maxHeartbeats 400000 in
theorem ct_X8_hang {l : Launch} {D : va_G} {ad : Nat → Nat} {cy : Nat → ClassId} {zz : (Nat → Nat) × (Nat → Nat)} (hinj : ∀ i j, i < 13 → j < 13 → ad i = ad j → i = j) {fu : Nat} (o : Nat) (p0 : Int32) (p1 : Int32) (p2 : Int32) (hk_o : o < 13 ∧ g_KM o = g_kX8) {S : g_St} (z : Int32 × g_St) (h : f_X8_hang fu o p0 p1 p2 S = some z) : g_Mi l g_KM 13 D ad cy zz yX8_hang wsX8_hang rm_X8_hang [.ref (ad o), .int (p0), .int (p1), .int (p2)] S z := by
  refine g_ofi hinj (cc := cX8_hang) (maxL := 5) (ret := (some .int)) (lv := [(0, .ref (ad o)), (1, .int (p0)), (2, .int (p1)), (3, .int (p2))]) (by decide) rfl (Nat.le_of_ble_eq_true rfl) rfl ?_
  intro x X hl hD ha hy hz
  subst hl hD ha hy hz
  unfold f_X8_hang at h
  refine g_iload_n X dX8_hang_0 1 rfl ?_
  refine g_i2l X dX8_hang_1 ?_
  refine g_lconst X (v := 0) dX8_hang_2 (by decide) ?_
  refine g_ldc2 X w_X8_hang_159 dX8_hang_3 ?_
  refine g_callSi X [.long ((Int32.toInt64 p0)), .long ((0 : Int64)), .long ((3 : Int64))] rfl (va_cwS 3 X.2.2.2.2.1 gX8_hang_X8_in rfl rfl rfl hd_X8_in ⟨Nat.le_of_ble_eq_true rfl, Nat.le_of_ble_eq_true rfl⟩) (Nat.le_of_ble_eq_true rfl) dX8_hang_6 h (fun q hq => ct_X8_in X.2.2.2.2.2.2.1 ((Int32.toInt64 p0)) ((0 : Int64)) ((3 : Int64))  _ hq) (fun r1 Sr1 h => ?_)
  refine g_if_eq X 36 dX8_hang_9 (by decide) h (fun c_9 h => ?_) (fun c_9 h => ?_)
  · skip
    refine g_iconst X (v := (-1)) dX8_hang_36 (by decide) ?_
    exact g_iret X h dX8_hang_37
  · skip
    refine g_iload_n X dX8_hang_12 2 rfl ?_
    refine g_i2l X dX8_hang_13 ?_
    refine g_lconst X (v := 1) dX8_hang_14 (by decide) ?_
    refine g_ldc2 X w_X8_hang_161 dX8_hang_15 ?_
    refine g_callSi X [.long ((Int32.toInt64 p1)), .long ((1 : Int64)), .long ((9 : Int64))] rfl (va_cwS 3 X.2.2.2.2.1 gX8_hang_X8_in rfl rfl rfl hd_X8_in ⟨Nat.le_of_ble_eq_true rfl, Nat.le_of_ble_eq_true rfl⟩) (Nat.le_of_ble_eq_true rfl) dX8_hang_18 h (fun q hq => ct_X8_in X.2.2.2.2.2.2.1 ((Int32.toInt64 p1)) ((1 : Int64)) ((9 : Int64))  _ hq) (fun r2 Sr2 h => ?_)
    refine g_if_eq X 36 dX8_hang_21 (by decide) h (fun c_21 h => ?_) (fun c_21 h => ?_)
    · skip
      refine g_iconst X (v := (-1)) dX8_hang_36 (by decide) ?_
      exact g_iret X h dX8_hang_37
    · skip
      refine g_iload_n X dX8_hang_24 3 rfl ?_
      refine g_i2l X dX8_hang_25 ?_
      refine g_lconst X (v := 0) dX8_hang_26 (by decide) ?_
      refine g_ldc2 X w_X8_hang_161 dX8_hang_27 ?_
      refine g_callSi X [.long ((Int32.toInt64 p2)), .long ((0 : Int64)), .long ((9 : Int64))] rfl (va_cwS 3 X.2.2.2.2.1 gX8_hang_X8_in rfl rfl rfl hd_X8_in ⟨Nat.le_of_ble_eq_true rfl, Nat.le_of_ble_eq_true rfl⟩) (Nat.le_of_ble_eq_true rfl) dX8_hang_30 h (fun q hq => ct_X8_in X.2.2.2.2.2.2.1 ((Int32.toInt64 p2)) ((0 : Int64)) ((9 : Int64))  _ hq) (fun r3 Sr3 h => ?_)
      refine g_if_ne X 38 dX8_hang_33 (by decide) h (fun c_33 h => ?_) (fun c_33 h => ?_)
      · skip
        refine g_aload_n X dX8_hang_38 0 rfl ?_
        refine g_getr X g_cX8 w_X8_hang_inX8 0 (by decide) w_X8_hang_7 hk_o rfl dX8_hang_39 h (fun a4 hk_a4 h => ?_)
        refine g_bipush X (v := (16)) dX8_hang_42 (by decide) ?_
        refine g_iald X hk_a4 dX8_hang_44 h (fun i5 _ h => ?_)
        refine g_istore X [(4, _), (0, _), (1, _), (2, _), (3, _)] dX8_hang_45 (by decide) rfl ?_
        refine g_iload X dX8_hang_47 0 rfl ?_
        refine g_iconst X (v := 4) dX8_hang_49 (by decide) ?_
        refine g_icmp_ne X 56 dX8_hang_50 (by decide) h (fun c_50 h => ?_) (fun c_50 h => ?_)
        · skip
          refine g_aload_n X dX8_hang_56 1 rfl ?_
          refine g_getr X g_cX8 w_X8_hang_inX8 0 (by decide) w_X8_hang_7 hk_o rfl dX8_hang_57 h (fun a6 hk_a6 h => ?_)
          refine g_iload X dX8_hang_60 0 rfl ?_
          refine g_iload_n X dX8_hang_62 2 rfl ?_
          refine g_iast X hk_a6 dX8_hang_63 h (fun i7 _ h => ?_)
          refine g_aload_n X dX8_hang_64 1 rfl ?_
          refine g_getr X g_cX8 w_X8_hang_inX8 0 (by decide) w_X8_hang_7 hk_o rfl dX8_hang_65 h (fun a8 hk_a8 h => ?_)
          refine g_iconst X (v := 4) dX8_hang_68 (by decide) ?_
          refine g_iload X dX8_hang_69 0 rfl ?_
          refine g_iadd X dX8_hang_71 ?_
          refine g_iload_n X dX8_hang_72 3 rfl ?_
          refine g_iast X hk_a8 dX8_hang_73 h (fun i9 _ h => ?_)
          refine g_aload_n X dX8_hang_74 1 rfl ?_
          refine g_getr X g_cX8 w_X8_hang_inX8 0 (by decide) w_X8_hang_7 hk_o rfl dX8_hang_75 h (fun a10 hk_a10 h => ?_)
          refine g_bipush X (v := (8)) dX8_hang_78 (by decide) ?_
          refine g_iload X dX8_hang_80 0 rfl ?_
          refine g_iadd X dX8_hang_82 ?_
          refine g_iload_n X dX8_hang_83 4 rfl ?_
          refine g_iast X hk_a10 dX8_hang_84 h (fun i11 _ h => ?_)
          refine g_aload_n X dX8_hang_85 1 rfl ?_
          refine g_getr X g_cX8 w_X8_hang_inX8 0 (by decide) w_X8_hang_7 hk_o rfl dX8_hang_86 h (fun a12 hk_a12 h => ?_)
          refine g_bipush X (v := (12)) dX8_hang_89 (by decide) ?_
          refine g_iload X dX8_hang_91 0 rfl ?_
          refine g_iadd X dX8_hang_93 ?_
          refine g_iload_n X dX8_hang_94 2 rfl ?_
          refine g_if_ne X 102 dX8_hang_95 (by decide) h (fun c_95 h => ?_) (fun c_95 h => ?_)
          · skip
            refine g_iconst X (v := 0) dX8_hang_102 (by decide) ?_
            refine g_sub [1] _ rfl ?_
            exact vj_X8_hang_103 X o a12 (((12 : Int32) + (Sr3.1 a4 i5))) ((0 : Int32)) hk_o hk_a12 _ h
          · skip
            refine g_iload_n X dX8_hang_98 3 rfl ?_
            refine g_goto X 103 dX8_hang_99 (by decide) ?_
            refine g_sub [1] _ rfl ?_
            exact vj_X8_hang_103 X o a12 (((12 : Int32) + (Sr3.1 a4 i5))) p1 hk_o hk_a12 _ h
        · skip
          refine g_bipush X (v := (-3)) dX8_hang_53 (by decide) ?_
          exact g_iret X h dX8_hang_55
      · skip
        refine g_iconst X (v := (-1)) dX8_hang_36 (by decide) ?_
        exact g_iret X h dX8_hang_37
abbrev rm_X8_puts : Room := { frames := 0, cells := 0, slots := 0, locals := 0 }
theorem hd_X8_puts : yX8_puts.cls = RX8 ∧ yX8_puts.cls ≠ "java/lang/invoke/MethodHandle" ∧ yX8_puts.cls ≠ "java/lang/invoke/VarHandle" ∧ (parseMethodDescriptor yX8_puts.desc).map (fun d => d.parameters.length) = some 3 := by decide +kernel
theorem w_X8_puts_7 : Cond.fieldLink RX8 7 "TokenDoorsModel" "state" "[I" ∈ wsX8_puts := by decide +kernel
theorem w_X8_puts_inX8 : ∀ w ∈ wsX80, w ∈ wsX8_puts := by decide +kernel
def f_X8_puts (fu : Nat) (o : Nat) (p0 : Int32) (p1 : Int32) (p2 : Int32) (S : g_St) : Option (Int32 × g_St) :=
  if p0 = 0 then (some ((-1 : Int32), S)) else (g_ld g_KM 13 (.inr (0, 270, false)) (S.2 o 0) fun a1 => g_ix p1 270 fun i2 => g_ld g_KM 13 (.inr (0, 270, false)) (S.2 o 0) fun a3 => g_ix p1 270 fun i4 => some ((S.1 a1 i2), (g_u S.1 a3 i4 p2, S.2)))
set_option maxRecDepth 100000 in
set_option maxHeartbeats 400000 in
theorem ct_X8_puts {l : Launch} {D : va_G} {ad : Nat → Nat} {cy : Nat → ClassId} {zz : (Nat → Nat) × (Nat → Nat)} (hinj : ∀ i j, i < 13 → j < 13 → ad i = ad j → i = j) {fu : Nat} (o : Nat) (p0 : Int32) (p1 : Int32) (p2 : Int32) (hk_o : o < 13 ∧ g_KM o = g_kX8) {S : g_St} (z : Int32 × g_St) (h : f_X8_puts fu o p0 p1 p2 S = some z) : g_Mi l g_KM 13 D ad cy zz yX8_puts wsX8_puts rm_X8_puts [.ref (ad o), .int (p0), .int (p1), .int (p2)] S z := by
  refine g_ofi hinj (cc := cX8_puts) (maxL := 5) (ret := (some .int)) (lv := [(0, .ref (ad o)), (1, .int (p0)), (2, .int (p1)), (3, .int (p2))]) (by decide) rfl (Nat.le_of_ble_eq_true rfl) rfl ?_
  intro x X hl hD ha hy hz
  subst hl hD ha hy hz
  unfold f_X8_puts at h
  refine g_iload_n X dX8_puts_0 1 rfl ?_
  refine g_if_ne X 6 dX8_puts_1 (by decide) h (fun c_1 h => ?_) (fun c_1 h => ?_)
  · skip
    refine g_aload_n X dX8_puts_6 0 rfl ?_
    refine g_getr X g_cX8 w_X8_puts_inX8 0 (by decide) w_X8_puts_7 hk_o rfl dX8_puts_7 h (fun a1 hk_a1 h => ?_)
    refine g_iload_n X dX8_puts_10 2 rfl ?_
    refine g_iald X hk_a1 dX8_puts_11 h (fun i2 _ h => ?_)
    refine g_istore X [(4, _), (0, _), (1, _), (2, _), (3, _)] dX8_puts_12 (by decide) rfl ?_
    refine g_aload_n X dX8_puts_14 1 rfl ?_
    refine g_getr X g_cX8 w_X8_puts_inX8 0 (by decide) w_X8_puts_7 hk_o rfl dX8_puts_15 h (fun a3 hk_a3 h => ?_)
    refine g_iload_n X dX8_puts_18 3 rfl ?_
    refine g_iload_n X dX8_puts_19 4 rfl ?_
    refine g_iast X hk_a3 dX8_puts_20 h (fun i4 _ h => ?_)
    refine g_iload X dX8_puts_21 0 rfl ?_
    exact g_iret X h dX8_puts_23
  · skip
    refine g_iconst X (v := (-1)) dX8_puts_4 (by decide) ?_
    exact g_iret X h dX8_puts_5
abbrev rm_X8_cut : Room := { frames := 1, cells := 0, slots := 0, locals := 25 }
theorem hd_X8_cut : yX8_cut.cls = RX8 ∧ yX8_cut.cls ≠ "java/lang/invoke/MethodHandle" ∧ yX8_cut.cls ≠ "java/lang/invoke/VarHandle" ∧ (parseMethodDescriptor yX8_cut.desc).map (fun d => d.parameters.length) = some 1 := by decide +kernel
theorem w_X8_cut_7 : Cond.fieldLink RX8 7 "TokenDoorsModel" "state" "[I" ∈ wsX8_cut := by decide +kernel
theorem w_X8_cut_inX8 : ∀ w ∈ wsX80, w ∈ wsX8_cut := by decide +kernel
def f_X8_cut (fu : Nat) (o : Nat) (p0 : Int32) (S : g_St) : Option (Int32 × g_St) :=
  g_ld g_KM 13 (.inr (0, 270, false)) (S.2 o 0) fun a1 => g_ix (16 : Int32) 270 fun i2 => g_bd (f_X8_in fu ((Int32.toInt64 p0)) ((0 : Int64)) ((Int32.toInt64 (S.1 a1 i2))) S) fun r3 Sr3 => g_bd (f_X8_puts fu o r3 ((16 : Int32)) p0 Sr3) fun r4 Sr4 => some (r4, Sr4)
set_option maxRecDepth 100000 in
set_option maxHeartbeats 400000 in
theorem ct_X8_cut {l : Launch} {D : va_G} {ad : Nat → Nat} {cy : Nat → ClassId} {zz : (Nat → Nat) × (Nat → Nat)} (hinj : ∀ i j, i < 13 → j < 13 → ad i = ad j → i = j) {fu : Nat} (o : Nat) (p0 : Int32) (hk_o : o < 13 ∧ g_KM o = g_kX8) {S : g_St} (z : Int32 × g_St) (h : f_X8_cut fu o p0 S = some z) : g_Mi l g_KM 13 D ad cy zz yX8_cut wsX8_cut rm_X8_cut [.ref (ad o), .int (p0)] S z := by
  refine g_ofi hinj (cc := cX8_cut) (maxL := 2) (ret := (some .int)) (lv := [(0, .ref (ad o)), (1, .int (p0))]) (by decide) rfl (Nat.le_of_ble_eq_true rfl) rfl ?_
  intro x X hl hD ha hy hz
  subst hl hD ha hy hz
  unfold f_X8_cut at h
  refine g_aload_n X dX8_cut_0 0 rfl ?_
  refine g_iload_n X dX8_cut_1 1 rfl ?_
  refine g_i2l X dX8_cut_2 ?_
  refine g_lconst X (v := 0) dX8_cut_3 (by decide) ?_
  refine g_aload_n X dX8_cut_4 0 rfl ?_
  refine g_getr X g_cX8 w_X8_cut_inX8 0 (by decide) w_X8_cut_7 hk_o rfl dX8_cut_5 h (fun a1 hk_a1 h => ?_)
  refine g_bipush X (v := (16)) dX8_cut_8 (by decide) ?_
  refine g_iald X hk_a1 dX8_cut_10 h (fun i2 _ h => ?_)
  refine g_i2l X dX8_cut_11 ?_
  refine g_callSi X [.long ((Int32.toInt64 p0)), .long ((0 : Int64)), .long ((Int32.toInt64 (S.1 a1 i2)))] rfl (va_cwS 3 X.2.2.2.2.1 gX8_cut_X8_in rfl rfl rfl hd_X8_in ⟨Nat.le_of_ble_eq_true rfl, Nat.le_of_ble_eq_true rfl⟩) (Nat.le_of_ble_eq_true rfl) dX8_cut_12 h (fun q hq => ct_X8_in X.2.2.2.2.2.2.1 ((Int32.toInt64 p0)) ((0 : Int64)) ((Int32.toInt64 (S.1 a1 i2)))  _ hq) (fun r3 Sr3 h => ?_)
  refine g_bipush X (v := (16)) dX8_cut_15 (by decide) ?_
  refine g_iload_n X dX8_cut_17 1 rfl ?_
  refine g_callVi X g_cX8 hk_o [.int (r3), .int ((16 : Int32)), .int (p0)] rfl (cwV 3 X.2.2.2.2.1 gX8_cut_X8_puts rfl rfl rfl hd_X8_puts ⟨Nat.le_of_ble_eq_true rfl, Nat.le_of_ble_eq_true rfl⟩) (Nat.le_of_ble_eq_true rfl) dX8_cut_18 h (fun q hq => ct_X8_puts X.2.2.2.2.2.2.1 o r3 ((16 : Int32)) p0 hk_o _ hq) (fun r4 Sr4 h => ?_)
  exact g_iret X h dX8_cut_21
abbrev rm_X8_comes : Room := { frames := 1, cells := 0, slots := 0, locals := 25 }
theorem hd_X8_comes : yX8_comes.cls = RX8 ∧ yX8_comes.cls ≠ "java/lang/invoke/MethodHandle" ∧ yX8_comes.cls ≠ "java/lang/invoke/VarHandle" ∧ (parseMethodDescriptor yX8_comes.desc).map (fun d => d.parameters.length) = some 3 := by decide +kernel
theorem w_X8_comes_171 : Cond.constantLong RX8 171 (99) ∈ wsX8_comes := by decide +kernel
theorem w_X8_comes_161 : Cond.constantLong RX8 161 (9) ∈ wsX8_comes := by decide +kernel
theorem w_X8_comes_7 : Cond.fieldLink RX8 7 "TokenDoorsModel" "state" "[I" ∈ wsX8_comes := by decide +kernel
theorem w_X8_comes_inX8 : ∀ w ∈ wsX80, w ∈ wsX8_comes := by decide +kernel
def f_X8_comes (fu : Nat) (o : Nat) (p0 : Int32) (p1 : Int32) (p2 : Int32) (S : g_St) : Option (Int32 × g_St) :=
  g_bd (f_X8_in fu ((Int32.toInt64 p0)) ((0 : Int64)) ((99 : Int64)) S) fun r1 Sr1 => if r1 = 0 then (some ((-1 : Int32), Sr1)) else (g_bd (f_X8_in fu ((Int32.toInt64 p1)) ((1 : Int64)) ((9 : Int64)) Sr1) fun r2 Sr2 => if r2 = 0 then (some ((-1 : Int32), Sr2)) else (g_bd (f_X8_in fu ((Int32.toInt64 p2)) ((0 : Int64)) ((9 : Int64)) Sr2) fun r3 Sr3 => if r3 = 0 then (some ((-1 : Int32), Sr3)) else (g_ld g_KM 13 (.inr (0, 270, false)) (Sr3.2 o 0) fun a4 => g_ix (41 : Int32) 270 fun i5 => if (Sr3.1 a4 i5) = (8 : Int32) then (some ((-3 : Int32), Sr3)) else (g_ld g_KM 13 (.inr (0, 270, false)) (Sr3.2 o 0) fun a6 => g_ix ((17 : Int32) + (Sr3.1 a4 i5)) 270 fun i7 => g_ld g_KM 13 (.inr (0, 270, false)) (Sr3.2 o 0) fun a8 => g_ix ((25 : Int32) + (Sr3.1 a4 i5)) 270 fun i9 => g_ld g_KM 13 (.inr (0, 270, false)) (Sr3.2 o 0) fun a10 => g_ix ((33 : Int32) + (Sr3.1 a4 i5)) 270 fun i11 => g_ld g_KM 13 (.inr (0, 270, false)) (Sr3.2 o 0) fun a12 => g_ix (41 : Int32) 270 fun i13 => g_ix (41 : Int32) 270 fun i14 => g_ld g_KM 13 (.inr (0, 270, false)) (Sr3.2 o 0) fun a15 => g_ix (41 : Int32) 270 fun i16 => some (((g_u (g_u (g_u (g_u Sr3.1 a6 i7 p0) a8 i9 p1) a10 i11 p2) a12 i14 (((g_u (g_u (g_u Sr3.1 a6 i7 p0) a8 i9 p1) a10 i11 p2) a12 i13) + (1 : Int32))) a15 i16), (g_u (g_u (g_u (g_u Sr3.1 a6 i7 p0) a8 i9 p1) a10 i11 p2) a12 i14 (((g_u (g_u (g_u Sr3.1 a6 i7 p0) a8 i9 p1) a10 i11 p2) a12 i13) + (1 : Int32)), Sr3.2))))))
set_option maxRecDepth 100000 in
set_option maxHeartbeats 400000 in
theorem ct_X8_comes {l : Launch} {D : va_G} {ad : Nat → Nat} {cy : Nat → ClassId} {zz : (Nat → Nat) × (Nat → Nat)} (hinj : ∀ i j, i < 13 → j < 13 → ad i = ad j → i = j) {fu : Nat} (o : Nat) (p0 : Int32) (p1 : Int32) (p2 : Int32) (hk_o : o < 13 ∧ g_KM o = g_kX8) {S : g_St} (z : Int32 × g_St) (h : f_X8_comes fu o p0 p1 p2 S = some z) : g_Mi l g_KM 13 D ad cy zz yX8_comes wsX8_comes rm_X8_comes [.ref (ad o), .int (p0), .int (p1), .int (p2)] S z := by
  refine g_ofi hinj (cc := cX8_comes) (maxL := 5) (ret := (some .int)) (lv := [(0, .ref (ad o)), (1, .int (p0)), (2, .int (p1)), (3, .int (p2))]) (by decide) rfl (Nat.le_of_ble_eq_true rfl) rfl ?_
  intro x X hl hD ha hy hz
  subst hl hD ha hy hz
  unfold f_X8_comes at h
  refine g_iload_n X dX8_comes_0 1 rfl ?_
  refine g_i2l X dX8_comes_1 ?_
  refine g_lconst X (v := 0) dX8_comes_2 (by decide) ?_
  refine g_ldc2 X w_X8_comes_171 dX8_comes_3 ?_
  refine g_callSi X [.long ((Int32.toInt64 p0)), .long ((0 : Int64)), .long ((99 : Int64))] rfl (va_cwS 3 X.2.2.2.2.1 gX8_comes_X8_in rfl rfl rfl hd_X8_in ⟨Nat.le_of_ble_eq_true rfl, Nat.le_of_ble_eq_true rfl⟩) (Nat.le_of_ble_eq_true rfl) dX8_comes_6 h (fun q hq => ct_X8_in X.2.2.2.2.2.2.1 ((Int32.toInt64 p0)) ((0 : Int64)) ((99 : Int64))  _ hq) (fun r1 Sr1 h => ?_)
  refine g_if_eq X 36 dX8_comes_9 (by decide) h (fun c_9 h => ?_) (fun c_9 h => ?_)
  · skip
    refine g_iconst X (v := (-1)) dX8_comes_36 (by decide) ?_
    exact g_iret X h dX8_comes_37
  · skip
    refine g_iload_n X dX8_comes_12 2 rfl ?_
    refine g_i2l X dX8_comes_13 ?_
    refine g_lconst X (v := 1) dX8_comes_14 (by decide) ?_
    refine g_ldc2 X w_X8_comes_161 dX8_comes_15 ?_
    refine g_callSi X [.long ((Int32.toInt64 p1)), .long ((1 : Int64)), .long ((9 : Int64))] rfl (va_cwS 3 X.2.2.2.2.1 gX8_comes_X8_in rfl rfl rfl hd_X8_in ⟨Nat.le_of_ble_eq_true rfl, Nat.le_of_ble_eq_true rfl⟩) (Nat.le_of_ble_eq_true rfl) dX8_comes_18 h (fun q hq => ct_X8_in X.2.2.2.2.2.2.1 ((Int32.toInt64 p1)) ((1 : Int64)) ((9 : Int64))  _ hq) (fun r2 Sr2 h => ?_)
    refine g_if_eq X 36 dX8_comes_21 (by decide) h (fun c_21 h => ?_) (fun c_21 h => ?_)
    · skip
      refine g_iconst X (v := (-1)) dX8_comes_36 (by decide) ?_
      exact g_iret X h dX8_comes_37
    · skip
      refine g_iload_n X dX8_comes_24 3 rfl ?_
      refine g_i2l X dX8_comes_25 ?_
      refine g_lconst X (v := 0) dX8_comes_26 (by decide) ?_
      refine g_ldc2 X w_X8_comes_161 dX8_comes_27 ?_
      refine g_callSi X [.long ((Int32.toInt64 p2)), .long ((0 : Int64)), .long ((9 : Int64))] rfl (va_cwS 3 X.2.2.2.2.1 gX8_comes_X8_in rfl rfl rfl hd_X8_in ⟨Nat.le_of_ble_eq_true rfl, Nat.le_of_ble_eq_true rfl⟩) (Nat.le_of_ble_eq_true rfl) dX8_comes_30 h (fun q hq => ct_X8_in X.2.2.2.2.2.2.1 ((Int32.toInt64 p2)) ((0 : Int64)) ((9 : Int64))  _ hq) (fun r3 Sr3 h => ?_)
      refine g_if_ne X 38 dX8_comes_33 (by decide) h (fun c_33 h => ?_) (fun c_33 h => ?_)
      · skip
        refine g_aload_n X dX8_comes_38 0 rfl ?_
        refine g_getr X g_cX8 w_X8_comes_inX8 0 (by decide) w_X8_comes_7 hk_o rfl dX8_comes_39 h (fun a4 hk_a4 h => ?_)
        refine g_bipush X (v := (41)) dX8_comes_42 (by decide) ?_
        refine g_iald X hk_a4 dX8_comes_44 h (fun i5 _ h => ?_)
        refine g_istore X [(4, _), (0, _), (1, _), (2, _), (3, _)] dX8_comes_45 (by decide) rfl ?_
        refine g_iload X dX8_comes_47 0 rfl ?_
        refine g_bipush X (v := (8)) dX8_comes_49 (by decide) ?_
        refine g_icmp_ne X 57 dX8_comes_51 (by decide) h (fun c_51 h => ?_) (fun c_51 h => ?_)
        · skip
          refine g_aload_n X dX8_comes_57 1 rfl ?_
          refine g_getr X g_cX8 w_X8_comes_inX8 0 (by decide) w_X8_comes_7 hk_o rfl dX8_comes_58 h (fun a6 hk_a6 h => ?_)
          refine g_bipush X (v := (17)) dX8_comes_61 (by decide) ?_
          refine g_iload X dX8_comes_63 0 rfl ?_
          refine g_iadd X dX8_comes_65 ?_
          refine g_iload_n X dX8_comes_66 2 rfl ?_
          refine g_iast X hk_a6 dX8_comes_67 h (fun i7 _ h => ?_)
          refine g_aload_n X dX8_comes_68 1 rfl ?_
          refine g_getr X g_cX8 w_X8_comes_inX8 0 (by decide) w_X8_comes_7 hk_o rfl dX8_comes_69 h (fun a8 hk_a8 h => ?_)
          refine g_bipush X (v := (25)) dX8_comes_72 (by decide) ?_
          refine g_iload X dX8_comes_74 0 rfl ?_
          refine g_iadd X dX8_comes_76 ?_
          refine g_iload_n X dX8_comes_77 3 rfl ?_
          refine g_iast X hk_a8 dX8_comes_78 h (fun i9 _ h => ?_)
          refine g_aload_n X dX8_comes_79 1 rfl ?_
          refine g_getr X g_cX8 w_X8_comes_inX8 0 (by decide) w_X8_comes_7 hk_o rfl dX8_comes_80 h (fun a10 hk_a10 h => ?_)
          refine g_bipush X (v := (33)) dX8_comes_83 (by decide) ?_
          refine g_iload X dX8_comes_85 0 rfl ?_
          refine g_iadd X dX8_comes_87 ?_
          refine g_iload_n X dX8_comes_88 4 rfl ?_
          refine g_iast X hk_a10 dX8_comes_89 h (fun i11 _ h => ?_)
          refine g_aload_n X dX8_comes_90 1 rfl ?_
          refine g_getr X g_cX8 w_X8_comes_inX8 0 (by decide) w_X8_comes_7 hk_o rfl dX8_comes_91 h (fun a12 hk_a12 h => ?_)
          refine g_bipush X (v := (41)) dX8_comes_94 (by decide) ?_
          refine g_dup2_11 X dX8_comes_96 rfl rfl ?_
          refine g_iald X hk_a12 dX8_comes_97 h (fun i13 _ h => ?_)
          refine g_iconst X (v := 1) dX8_comes_98 (by decide) ?_
          refine g_iadd X dX8_comes_99 ?_
          refine g_iast X hk_a12 dX8_comes_100 h (fun i14 _ h => ?_)
          refine g_aload_n X dX8_comes_101 1 rfl ?_
          refine g_getr X g_cX8 w_X8_comes_inX8 0 (by decide) w_X8_comes_7 hk_o rfl dX8_comes_102 h (fun a15 hk_a15 h => ?_)
          refine g_bipush X (v := (41)) dX8_comes_105 (by decide) ?_
          refine g_iald X hk_a15 dX8_comes_107 h (fun i16 _ h => ?_)
          exact g_iret X h dX8_comes_108
        · skip
          refine g_bipush X (v := (-3)) dX8_comes_54 (by decide) ?_
          exact g_iret X h dX8_comes_56
      · skip
        refine g_iconst X (v := (-1)) dX8_comes_36 (by decide) ?_
        exact g_iret X h dX8_comes_37
abbrev rm_X8_come : Room := { frames := 2, cells := 0, slots := 0, locals := 49 }
theorem hd_X8_come : yX8_come.cls = RX8 ∧ yX8_come.cls ≠ "java/lang/invoke/MethodHandle" ∧ yX8_come.cls ≠ "java/lang/invoke/VarHandle" ∧ (parseMethodDescriptor yX8_come.desc).map (fun d => d.parameters.length) = some 3 := by decide +kernel
def f_X8_come (fu : Nat) (o : Nat) (p0 : Int32) (p1 : Int32) (p2 : Int32) (S : g_St) : Option (Int32 × g_St) :=
  g_bd (f_X8_comes fu o p0 p1 p2 S) fun r1 Sr1 => some (r1, Sr1)
set_option maxRecDepth 100000 in
set_option maxHeartbeats 400000 in
theorem ct_X8_come {l : Launch} {D : va_G} {ad : Nat → Nat} {cy : Nat → ClassId} {zz : (Nat → Nat) × (Nat → Nat)} (hinj : ∀ i j, i < 13 → j < 13 → ad i = ad j → i = j) {fu : Nat} (o : Nat) (p0 : Int32) (p1 : Int32) (p2 : Int32) (hk_o : o < 13 ∧ g_KM o = g_kX8) {S : g_St} (z : Int32 × g_St) (h : f_X8_come fu o p0 p1 p2 S = some z) : g_Mi l g_KM 13 D ad cy zz yX8_come wsX8_come rm_X8_come [.ref (ad o), .int (p0), .int (p1), .int (p2)] S z := by
  refine g_ofi hinj (cc := cX8_come) (maxL := 4) (ret := (some .int)) (lv := [(0, .ref (ad o)), (1, .int (p0)), (2, .int (p1)), (3, .int (p2))]) (by decide) rfl (Nat.le_of_ble_eq_true rfl) rfl ?_
  intro x X hl hD ha hy hz
  subst hl hD ha hy hz
  unfold f_X8_come at h
  refine g_aload_n X dX8_come_0 0 rfl ?_
  refine g_iload_n X dX8_come_1 1 rfl ?_
  refine g_iload_n X dX8_come_2 2 rfl ?_
  refine g_iload_n X dX8_come_3 3 rfl ?_
  refine g_callVi X g_cX8 hk_o [.int (p0), .int (p1), .int (p2)] rfl (cwV 3 X.2.2.2.2.1 gX8_come_X8_comes rfl rfl rfl hd_X8_comes ⟨Nat.le_of_ble_eq_true rfl, Nat.le_of_ble_eq_true rfl⟩) (Nat.le_of_ble_eq_true rfl) dX8_come_4 h (fun q hq => ct_X8_comes X.2.2.2.2.2.2.1 o p0 p1 p2 hk_o _ hq) (fun r1 Sr1 h => ?_)
  exact g_iret X h dX8_come_7
abbrev rm_X8_leave : Room := { frames := 1, cells := 0, slots := 0, locals := 25 }
theorem hd_X8_leave : yX8_leave.cls = RX8 ∧ yX8_leave.cls ≠ "java/lang/invoke/MethodHandle" ∧ yX8_leave.cls ≠ "java/lang/invoke/VarHandle" ∧ (parseMethodDescriptor yX8_leave.desc).map (fun d => d.parameters.length) = some 1 := by decide +kernel
theorem w_X8_leave_7 : Cond.fieldLink RX8 7 "TokenDoorsModel" "state" "[I" ∈ wsX8_leave := by decide +kernel
theorem w_X8_leave_inX8 : ∀ w ∈ wsX80, w ∈ wsX8_leave := by decide +kernel
def f_X8_leave (fu : Nat) (o : Nat) (p0 : Int32) (S : g_St) : Option (Int32 × g_St) :=
  g_ld g_KM 13 (.inr (0, 270, false)) (S.2 o 0) fun a1 => g_ix (41 : Int32) 270 fun i2 => g_bd (f_X8_in fu ((Int32.toInt64 p0)) ((0 : Int64)) ((Int32.toInt64 (S.1 a1 i2))) S) fun r3 Sr3 => g_bd (f_X8_puts fu o r3 ((41 : Int32)) p0 Sr3) fun r4 Sr4 => some (r4, Sr4)
set_option maxRecDepth 100000 in
set_option maxHeartbeats 400000 in
theorem ct_X8_leave {l : Launch} {D : va_G} {ad : Nat → Nat} {cy : Nat → ClassId} {zz : (Nat → Nat) × (Nat → Nat)} (hinj : ∀ i j, i < 13 → j < 13 → ad i = ad j → i = j) {fu : Nat} (o : Nat) (p0 : Int32) (hk_o : o < 13 ∧ g_KM o = g_kX8) {S : g_St} (z : Int32 × g_St) (h : f_X8_leave fu o p0 S = some z) : g_Mi l g_KM 13 D ad cy zz yX8_leave wsX8_leave rm_X8_leave [.ref (ad o), .int (p0)] S z := by
  refine g_ofi hinj (cc := cX8_leave) (maxL := 2) (ret := (some .int)) (lv := [(0, .ref (ad o)), (1, .int (p0))]) (by decide) rfl (Nat.le_of_ble_eq_true rfl) rfl ?_
  intro x X hl hD ha hy hz
  subst hl hD ha hy hz
  unfold f_X8_leave at h
  refine g_aload_n X dX8_leave_0 0 rfl ?_
  refine g_iload_n X dX8_leave_1 1 rfl ?_
  refine g_i2l X dX8_leave_2 ?_
  refine g_lconst X (v := 0) dX8_leave_3 (by decide) ?_
  refine g_aload_n X dX8_leave_4 0 rfl ?_
  refine g_getr X g_cX8 w_X8_leave_inX8 0 (by decide) w_X8_leave_7 hk_o rfl dX8_leave_5 h (fun a1 hk_a1 h => ?_)
  refine g_bipush X (v := (41)) dX8_leave_8 (by decide) ?_
  refine g_iald X hk_a1 dX8_leave_10 h (fun i2 _ h => ?_)
  refine g_i2l X dX8_leave_11 ?_
  refine g_callSi X [.long ((Int32.toInt64 p0)), .long ((0 : Int64)), .long ((Int32.toInt64 (S.1 a1 i2)))] rfl (va_cwS 3 X.2.2.2.2.1 gX8_leave_X8_in rfl rfl rfl hd_X8_in ⟨Nat.le_of_ble_eq_true rfl, Nat.le_of_ble_eq_true rfl⟩) (Nat.le_of_ble_eq_true rfl) dX8_leave_12 h (fun q hq => ct_X8_in X.2.2.2.2.2.2.1 ((Int32.toInt64 p0)) ((0 : Int64)) ((Int32.toInt64 (S.1 a1 i2)))  _ hq) (fun r3 Sr3 h => ?_)
  refine g_bipush X (v := (41)) dX8_leave_15 (by decide) ?_
  refine g_iload_n X dX8_leave_17 1 rfl ?_
  refine g_callVi X g_cX8 hk_o [.int (r3), .int ((41 : Int32)), .int (p0)] rfl (cwV 3 X.2.2.2.2.1 gX8_leave_X8_puts rfl rfl rfl hd_X8_puts ⟨Nat.le_of_ble_eq_true rfl, Nat.le_of_ble_eq_true rfl⟩) (Nat.le_of_ble_eq_true rfl) dX8_leave_18 h (fun q hq => ct_X8_puts X.2.2.2.2.2.2.1 o r3 ((41 : Int32)) p0 hk_o _ hq) (fun r4 Sr4 h => ?_)
  exact g_iret X h dX8_leave_21
abbrev rm_X8_pass : Room := { frames := 2, cells := 0, slots := 0, locals := 45 }
theorem hd_X8_pass : yX8_pass.cls = RX8 ∧ yX8_pass.cls ≠ "java/lang/invoke/MethodHandle" ∧ yX8_pass.cls ≠ "java/lang/invoke/VarHandle" ∧ (parseMethodDescriptor yX8_pass.desc).map (fun d => d.parameters.length) = some 0 := by decide +kernel
def f_X8_pass (fu : Nat) (o : Nat) (S : g_St) : Option (Int32 × g_St) :=
  g_bd (f_X8_passOn fu o ((0 : Int32)) S) fun r1 Sr1 => some (r1, Sr1)
set_option maxRecDepth 100000 in
set_option maxHeartbeats 400000 in
theorem ct_X8_pass {l : Launch} {D : va_G} {ad : Nat → Nat} {cy : Nat → ClassId} {zz : (Nat → Nat) × (Nat → Nat)} (hinj : ∀ i j, i < 13 → j < 13 → ad i = ad j → i = j) {fu : Nat} (o : Nat) (hk_o : o < 13 ∧ g_KM o = g_kX8) {S : g_St} (z : Int32 × g_St) (h : f_X8_pass fu o S = some z) : g_Mi l g_KM 13 D ad cy zz yX8_pass wsX8_pass rm_X8_pass [.ref (ad o)] S z := by
  refine g_ofi hinj (cc := cX8_pass) (maxL := 1) (ret := (some .int)) (lv := [(0, .ref (ad o))]) (by decide) rfl (Nat.le_of_ble_eq_true rfl) rfl ?_
  intro x X hl hD ha hy hz
  subst hl hD ha hy hz
  unfold f_X8_pass at h
  refine g_aload_n X dX8_pass_0 0 rfl ?_
  refine g_iconst X (v := 0) dX8_pass_1 (by decide) ?_
  refine g_callVi X g_cX8 hk_o [.int ((0 : Int32))] rfl (cwV 1 X.2.2.2.2.1 gX8_pass_X8_passOn rfl rfl rfl hd_X8_passOn ⟨Nat.le_of_ble_eq_true rfl, Nat.le_of_ble_eq_true rfl⟩) (Nat.le_of_ble_eq_true rfl) dX8_pass_2 h (fun q hq => ct_X8_passOn X.2.2.2.2.2.2.1 o ((0 : Int32)) hk_o _ hq) (fun r1 Sr1 h => ?_)
  exact g_iret X h dX8_pass_5
abbrev rm_X8_ticks : Room := { frames := 4, cells := 0, slots := 0, locals := 91 }
theorem hd_X8_ticks : yX8_ticks.cls = RX8 ∧ yX8_ticks.cls ≠ "java/lang/invoke/MethodHandle" ∧ yX8_ticks.cls ≠ "java/lang/invoke/VarHandle" ∧ (parseMethodDescriptor yX8_ticks.desc).map (fun d => d.parameters.length) = some 1 := by decide +kernel
theorem w_X8_ticks_7 : Cond.fieldLink RX8 7 "TokenDoorsModel" "state" "[I" ∈ wsX8_ticks := by decide +kernel
theorem w_X8_ticks_inX8 : ∀ w ∈ wsX80, w ∈ wsX8_ticks := by decide +kernel
theorem w_X8_ticks_121 : Cond.fieldLink RX8 121 "TokenDoorsModel" "let" "I" ∈ wsX8_ticks := by decide +kernel
def b_X8_ticks_33 (fu : Nat) (v0 : Nat) (v1 : Int32) (v2 : Int32) (S : g_St) : Option ((Int32 × g_St) ⊕ (g_St)) :=
  if v1 ≤ v2 then (some (.inr S)) else (g_bd (f_X8_goesOn fu v0 ((0 : Int32)) S) fun r5 Sr5 => some (.inl ((v2 + 1), Sr5)))
def f_X8_ticks (fu : Nat) (o : Nat) (p0 : Int32) (S : g_St) : Option (Int32 × g_St) :=
  g_bd (f_X8_isLong fu p0 S) fun r1 Sr1 => if r1 = 0 then (some ((-1 : Int32), Sr1)) else (g_ld g_KM 13 (.inr (0, 270, false)) (Sr1.2 o 0) fun a2 => g_ix (42 : Int32) 270 fun i3 => if ((Sr1.1 a2 i3) + p0) ≤ (999 : Int32) then (g_bd (f_X8_starts fu o Sr1) fun _ Sr4 => g_th (g_lp (fun t => b_X8_ticks_33 fu o p0 t.1 t.2) fu ((0 : Int32), Sr4)) fun e => match e with | S1 => some ((S1.1 o 14), S1)) else (some ((-3 : Int32), Sr1)))
set_option maxRecDepth 100000 in
set_option maxHeartbeats 400000 in
theorem vb_X8_ticks_33 {x : g_CX} {z : Int32 × g_St} {fu : Nat} (X : g_X 13 x cX8_ticks RX8 3 wsX8_ticks rm_X8_ticks (some .int)) (v0 : Nat) (v1 : Int32) (v2 : Int32) (hk_v0 : v0 < 13 ∧ g_KM v0 = g_kX8) (S : g_St) {r : (Int32 × g_St) ⊕ (g_St)} (h : b_X8_ticks_33 fu v0 v1 v2 S = some r) (hc : Sum.elim (fun t : Int32 × g_St => g_V g_KM 13 x 3 (g_qi g_KM 13 x z) t.2 33 [(0, .ref (g_ad x v0)), (1, .int (v1)), (2, .int (t.1))] []) (fun e : g_St => g_V g_KM 13 x 3 (g_qi g_KM 13 x z) e 50 [(0, .ref (g_ad x v0))] []) r) : g_V g_KM 13 x 3 (g_qi g_KM 13 x z) S 33 [(0, .ref (g_ad x v0)), (1, .int (v1)), (2, .int (v2))] [] := by
  unfold b_X8_ticks_33 at h
  refine g_iload_n X dX8_ticks_33 2 rfl ?_
  refine g_iload_n X dX8_ticks_34 1 rfl ?_
  refine g_icmp_ge X 50 dX8_ticks_35 (by decide) h (fun c_35 h => ?_) (fun c_35 h => ?_)
  · skip
    cases h
    exact g_sub [0] _ rfl hc
  · skip
    refine g_aload_n X dX8_ticks_38 0 rfl ?_
    refine g_iconst X (v := 0) dX8_ticks_39 (by decide) ?_
    refine g_callVi X g_cX8 hk_v0 [.int ((0 : Int32))] rfl (cwV 1 X.2.2.2.2.1 gX8_ticks_X8_goesOn rfl rfl rfl hd_X8_goesOn ⟨Nat.le_of_ble_eq_true rfl, Nat.le_of_ble_eq_true rfl⟩) (Nat.le_of_ble_eq_true rfl) dX8_ticks_40 h (fun q hq => ct_X8_goesOn X.2.2.2.2.2.2.1 v0 ((0 : Int32)) hk_v0 _ hq) (fun r5 Sr5 h => ?_)
    refine g_pop X dX8_ticks_43 rfl ?_
    refine g_iinc X [(2, _), (0, _), (1, _)] dX8_ticks_44 2 rfl rfl (by decide) rfl ?_
    refine g_goto X 33 dX8_ticks_47 (by decide) ?_
    cases h
    exact g_sub [1, 2, 0] _ rfl hc
set_option maxRecDepth 100000 in
set_option maxHeartbeats 400000 in
theorem ct_X8_ticks {l : Launch} {D : va_G} {ad : Nat → Nat} {cy : Nat → ClassId} {zz : (Nat → Nat) × (Nat → Nat)} (hinj : ∀ i j, i < 13 → j < 13 → ad i = ad j → i = j) {fu : Nat} (o : Nat) (p0 : Int32) (hk_o : o < 13 ∧ g_KM o = g_kX8) {S : g_St} (z : Int32 × g_St) (h : f_X8_ticks fu o p0 S = some z) : g_Mi l g_KM 13 D ad cy zz yX8_ticks wsX8_ticks rm_X8_ticks [.ref (ad o), .int (p0)] S z := by
  refine g_ofi hinj (cc := cX8_ticks) (maxL := 3) (ret := (some .int)) (lv := [(0, .ref (ad o)), (1, .int (p0))]) (by decide) rfl (Nat.le_of_ble_eq_true rfl) rfl ?_
  intro x X hl hD ha hy hz
  subst hl hD ha hy hz
  unfold f_X8_ticks at h
  refine g_iload_n X dX8_ticks_0 1 rfl ?_
  refine g_callSi X [.int (p0)] rfl (va_cwS 1 X.2.2.2.2.1 gX8_ticks_X8_isLong rfl rfl rfl hd_X8_isLong ⟨Nat.le_of_ble_eq_true rfl, Nat.le_of_ble_eq_true rfl⟩) (Nat.le_of_ble_eq_true rfl) dX8_ticks_1 h (fun q hq => ct_X8_isLong X.2.2.2.2.2.2.1 p0  _ hq) (fun r1 Sr1 h => ?_)
  refine g_if_ne X 9 dX8_ticks_4 (by decide) h (fun c_4 h => ?_) (fun c_4 h => ?_)
  · skip
    refine g_aload_n X dX8_ticks_9 0 rfl ?_
    refine g_getr X g_cX8 w_X8_ticks_inX8 0 (by decide) w_X8_ticks_7 hk_o rfl dX8_ticks_10 h (fun a2 hk_a2 h => ?_)
    refine g_bipush X (v := (42)) dX8_ticks_13 (by decide) ?_
    refine g_iald X hk_a2 dX8_ticks_15 h (fun i3 _ h => ?_)
    refine g_iload_n X dX8_ticks_16 1 rfl ?_
    refine g_iadd X dX8_ticks_17 ?_
    refine g_sipush X (v := (999)) dX8_ticks_18 (by decide) ?_
    refine g_icmp_le X 27 dX8_ticks_21 (by decide) h (fun c_21 h => ?_) (fun c_21 h => ?_)
    · skip
      refine g_aload_n X dX8_ticks_27 0 rfl ?_
      refine g_callVv X g_cX8 hk_o [] rfl (cwV 0 X.2.2.2.2.1 gX8_ticks_X8_starts rfl rfl rfl hd_X8_starts ⟨Nat.le_of_ble_eq_true rfl, Nat.le_of_ble_eq_true rfl⟩) (Nat.le_of_ble_eq_true rfl) dX8_ticks_28 h (fun q hq => ct_X8_starts X.2.2.2.2.2.2.1 o hk_o _ hq) (fun _ Sr4 h => ?_)
      refine g_iconst X (v := 0) dX8_ticks_31 (by decide) ?_
      refine g_istore_n X [(2, _), (0, _), (1, _)] dX8_ticks_32 (by decide) rfl ?_
      obtain ⟨e, he, h⟩ := g_th_s h
      refine g_sub [1, 2, 0] _ rfl ?_
      refine g_lp_w (body := (fun t => b_X8_ticks_33 fu o p0 t.1 t.2)) (P := fun t : Int32 × g_St => g_V g_KM 13 x 3 (g_qi g_KM 13 x z) t.2 33 [(0, .ref (g_ad x o)), (1, .int (p0)), (2, .int (t.1))] []) (E := (fun e : g_St => g_V g_KM 13 x 3 (g_qi g_KM 13 x z) e 50 [(0, .ref (g_ad x o))] [])) (fun t r hb hc => vb_X8_ticks_33 X o p0 t.1 hk_o t.2 hb hc) fu ((0 : Int32), Sr4) e he ?_
      obtain ⟨S1, rfl⟩ : ∃ q, q = e := ⟨_, rfl⟩
      show g_V g_KM 13 x 3 (g_qi g_KM 13 x z) S1 50 [(0, .ref (g_ad x o))] []
      refine g_aload_n X dX8_ticks_50 0 rfl ?_
      refine g_geti X g_cX8 w_X8_ticks_inX8 14 (by decide) w_X8_ticks_121 hk_o rfl dX8_ticks_51 ?_
      exact g_iret X h dX8_ticks_54
    · skip
      refine g_bipush X (v := (-3)) dX8_ticks_24 (by decide) ?_
      exact g_iret X h dX8_ticks_26
  · skip
    refine g_iconst X (v := (-1)) dX8_ticks_7 (by decide) ?_
    exact g_iret X h dX8_ticks_8
abbrev rm_X8_copies : Room := { frames := 0, cells := 0, slots := 0, locals := 0 }
theorem hd_X8_copies : yX8_copies.cls = RX8 ∧ yX8_copies.cls ≠ "java/lang/invoke/MethodHandle" ∧ yX8_copies.cls ≠ "java/lang/invoke/VarHandle" ∧ (parseMethodDescriptor yX8_copies.desc).map (fun d => d.parameters.length) = some 2 := by decide +kernel
theorem w_X8_copies_7 : Cond.fieldLink RX8 7 "TokenDoorsModel" "state" "[I" ∈ wsX8_copies := by decide +kernel
theorem w_X8_copies_inX8 : ∀ w ∈ wsX80, w ∈ wsX8_copies := by decide +kernel
def b_X8_copies_2 (fu : Nat) (v0 : Nat) (v1 : Int32) (v2 : Int32) (v3 : Int32) (S : g_St) : Option ((Int32 × g_St) ⊕ (g_St)) :=
  if (45 : Int32) ≤ v3 then (some (.inr S)) else (g_ld g_KM 13 (.inr (0, 270, false)) (S.2 v0 0) fun a1 => g_ld g_KM 13 (.inr (0, 270, false)) (S.2 v0 0) fun a2 => g_ix (v1 + v3) 270 fun i3 => g_ix (v2 + v3) 270 fun i4 => some (.inl ((v3 + 1), (g_u S.1 a1 i4 (S.1 a2 i3), S.2))))
def f_X8_copies (fu : Nat) (o : Nat) (p0 : Int32) (p1 : Int32) (S : g_St) : Option (Unit × g_St) :=
  g_th (g_lp (fun t => b_X8_copies_2 fu o p0 p1 t.1 t.2) fu ((0 : Int32), S)) fun e => match e with | S1 => some ((), S1)
set_option maxRecDepth 100000 in
set_option maxHeartbeats 400000 in
theorem vb_X8_copies_2 {x : g_CX} {z : Unit × g_St} {fu : Nat} (X : g_X 13 x cX8_copies RX8 4 wsX8_copies rm_X8_copies none) (v0 : Nat) (v1 : Int32) (v2 : Int32) (v3 : Int32) (hk_v0 : v0 < 13 ∧ g_KM v0 = g_kX8) (S : g_St) {r : (Int32 × g_St) ⊕ (g_St)} (h : b_X8_copies_2 fu v0 v1 v2 v3 S = some r) (hc : Sum.elim (fun t : Int32 × g_St => g_V g_KM 13 x 4 (g_qv g_KM 13 x z) t.2 2 [(0, .ref (g_ad x v0)), (1, .int (v1)), (2, .int (v2)), (3, .int (t.1))] []) (fun e : g_St => g_V g_KM 13 x 4 (g_qv g_KM 13 x z) e 30 [] []) r) : g_V g_KM 13 x 4 (g_qv g_KM 13 x z) S 2 [(0, .ref (g_ad x v0)), (1, .int (v1)), (2, .int (v2)), (3, .int (v3))] [] := by
  unfold b_X8_copies_2 at h
  refine g_iload_n X dX8_copies_2 3 rfl ?_
  refine g_bipush X (v := (45)) dX8_copies_3 (by decide) ?_
  refine g_icmp_ge X 30 dX8_copies_5 (by decide) h (fun c_5 h => ?_) (fun c_5 h => ?_)
  · skip
    cases h
    exact g_sub [] _ rfl hc
  · skip
    refine g_aload_n X dX8_copies_8 0 rfl ?_
    refine g_getr X g_cX8 w_X8_copies_inX8 0 (by decide) w_X8_copies_7 hk_v0 rfl dX8_copies_9 h (fun a1 hk_a1 h => ?_)
    refine g_iload_n X dX8_copies_12 2 rfl ?_
    refine g_iload_n X dX8_copies_13 3 rfl ?_
    refine g_iadd X dX8_copies_14 ?_
    refine g_aload_n X dX8_copies_15 0 rfl ?_
    refine g_getr X g_cX8 w_X8_copies_inX8 0 (by decide) w_X8_copies_7 hk_v0 rfl dX8_copies_16 h (fun a2 hk_a2 h => ?_)
    refine g_iload_n X dX8_copies_19 1 rfl ?_
    refine g_iload_n X dX8_copies_20 3 rfl ?_
    refine g_iadd X dX8_copies_21 ?_
    refine g_iald X hk_a2 dX8_copies_22 h (fun i3 _ h => ?_)
    refine g_iast X hk_a1 dX8_copies_23 h (fun i4 _ h => ?_)
    refine g_iinc X [(3, _), (0, _), (1, _), (2, _)] dX8_copies_24 3 rfl rfl (by decide) rfl ?_
    refine g_goto X 2 dX8_copies_27 (by decide) ?_
    cases h
    exact g_sub [1, 2, 3, 0] _ rfl hc
set_option maxRecDepth 100000 in
set_option maxHeartbeats 400000 in
theorem ct_X8_copies {l : Launch} {D : va_G} {ad : Nat → Nat} {cy : Nat → ClassId} {zz : (Nat → Nat) × (Nat → Nat)} (hinj : ∀ i j, i < 13 → j < 13 → ad i = ad j → i = j) {fu : Nat} (o : Nat) (p0 : Int32) (p1 : Int32) (hk_o : o < 13 ∧ g_KM o = g_kX8) {S : g_St} (z : Unit × g_St) (h : f_X8_copies fu o p0 p1 S = some z) : g_Mv l g_KM 13 D ad cy zz yX8_copies wsX8_copies rm_X8_copies [.ref (ad o), .int (p0), .int (p1)] S z := by
  refine g_ofv hinj (cc := cX8_copies) (maxL := 4) (ret := none) (lv := [(0, .ref (ad o)), (1, .int (p0)), (2, .int (p1))]) (by decide) rfl (Nat.le_of_ble_eq_true rfl) rfl ?_
  intro x X hl hD ha hy hz
  subst hl hD ha hy hz
  unfold f_X8_copies at h
  refine g_iconst X (v := 0) dX8_copies_0 (by decide) ?_
  refine g_istore_n X [(3, _), (0, _), (1, _), (2, _)] dX8_copies_1 (by decide) rfl ?_
  obtain ⟨e, he, h⟩ := g_th_s h
  refine g_sub [1, 2, 3, 0] _ rfl ?_
  refine g_lp_w (body := (fun t => b_X8_copies_2 fu o p0 p1 t.1 t.2)) (P := fun t : Int32 × g_St => g_V g_KM 13 x 4 (g_qv g_KM 13 x z) t.2 2 [(0, .ref (g_ad x o)), (1, .int (p0)), (2, .int (p1)), (3, .int (t.1))] []) (E := (fun e : g_St => g_V g_KM 13 x 4 (g_qv g_KM 13 x z) e 30 [] [])) (fun t r hb hc => vb_X8_copies_2 X o p0 p1 t.1 hk_o t.2 hb hc) fu ((0 : Int32), S) e he ?_
  obtain ⟨S1, rfl⟩ : ∃ q, q = e := ⟨_, rfl⟩
  show g_V g_KM 13 x 4 (g_qv g_KM 13 x z) S1 30 [] []
  exact g_vret X h dX8_copies_30
abbrev rm_X8_ticksGo : Room := { frames := 4, cells := 0, slots := 0, locals := 91 }
theorem hd_X8_ticksGo : yX8_ticksGo.cls = RX8 ∧ yX8_ticksGo.cls ≠ "java/lang/invoke/MethodHandle" ∧ yX8_ticksGo.cls ≠ "java/lang/invoke/VarHandle" ∧ (parseMethodDescriptor yX8_ticksGo.desc).map (fun d => d.parameters.length) = some 2 := by decide +kernel
theorem w_X8_ticksGo_121 : Cond.fieldLink RX8 121 "TokenDoorsModel" "let" "I" ∈ wsX8_ticksGo := by decide +kernel
theorem w_X8_ticksGo_inX8 : ∀ w ∈ wsX80, w ∈ wsX8_ticksGo := by decide +kernel
def b_X8_ticksGo_14 (fu : Nat) (v0 : Nat) (v2 : Int32) (v3 : Int32) (S : g_St) : Option ((Int32 × g_St) ⊕ (g_St)) :=
  if v2 ≤ v3 then (some (.inr S)) else (g_bd (f_X8_goesOn fu v0 ((180 : Int32)) S) fun r3 Sr3 => some (.inl ((v3 + 1), Sr3)))
def f_X8_ticksGo (fu : Nat) (o : Nat) (p0 : Int32) (p1 : Int32) (S : g_St) : Option (Int32 × g_St) :=
  g_bd (f_X8_copies fu o p0 ((180 : Int32)) S) fun _ Sr1 => g_bd (f_X8_starts fu o Sr1) fun _ Sr2 => g_th (g_lp (fun t => b_X8_ticksGo_14 fu o p1 t.1 t.2) fu ((0 : Int32), Sr2)) fun e => match e with | S1 => some ((S1.1 o 14), S1)
set_option maxRecDepth 100000 in
set_option maxHeartbeats 400000 in
theorem vb_X8_ticksGo_14 {x : g_CX} {z : Int32 × g_St} {fu : Nat} (X : g_X 13 x cX8_ticksGo RX8 4 wsX8_ticksGo rm_X8_ticksGo (some .int)) (v0 : Nat) (v2 : Int32) (v3 : Int32) (hk_v0 : v0 < 13 ∧ g_KM v0 = g_kX8) (S : g_St) {r : (Int32 × g_St) ⊕ (g_St)} (h : b_X8_ticksGo_14 fu v0 v2 v3 S = some r) (hc : Sum.elim (fun t : Int32 × g_St => g_V g_KM 13 x 4 (g_qi g_KM 13 x z) t.2 14 [(0, .ref (g_ad x v0)), (2, .int (v2)), (3, .int (t.1))] []) (fun e : g_St => g_V g_KM 13 x 4 (g_qi g_KM 13 x z) e 33 [(0, .ref (g_ad x v0))] []) r) : g_V g_KM 13 x 4 (g_qi g_KM 13 x z) S 14 [(0, .ref (g_ad x v0)), (2, .int (v2)), (3, .int (v3))] [] := by
  unfold b_X8_ticksGo_14 at h
  refine g_iload_n X dX8_ticksGo_14 2 rfl ?_
  refine g_iload_n X dX8_ticksGo_15 1 rfl ?_
  refine g_icmp_ge X 33 dX8_ticksGo_16 (by decide) h (fun c_16 h => ?_) (fun c_16 h => ?_)
  · skip
    cases h
    exact g_sub [0] _ rfl hc
  · skip
    refine g_aload_n X dX8_ticksGo_19 0 rfl ?_
    refine g_sipush X (v := (180)) dX8_ticksGo_20 (by decide) ?_
    refine g_callVi X g_cX8 hk_v0 [.int ((180 : Int32))] rfl (cwV 1 X.2.2.2.2.1 gX8_ticksGo_X8_goesOn rfl rfl rfl hd_X8_goesOn ⟨Nat.le_of_ble_eq_true rfl, Nat.le_of_ble_eq_true rfl⟩) (Nat.le_of_ble_eq_true rfl) dX8_ticksGo_23 h (fun q hq => ct_X8_goesOn X.2.2.2.2.2.2.1 v0 ((180 : Int32)) hk_v0 _ hq) (fun r3 Sr3 h => ?_)
    refine g_pop X dX8_ticksGo_26 rfl ?_
    refine g_iinc X [(3, _), (0, _), (2, _)] dX8_ticksGo_27 2 rfl rfl (by decide) rfl ?_
    refine g_goto X 14 dX8_ticksGo_30 (by decide) ?_
    cases h
    exact g_sub [1, 2, 0] _ rfl hc
set_option maxRecDepth 100000 in
set_option maxHeartbeats 400000 in
theorem ct_X8_ticksGo {l : Launch} {D : va_G} {ad : Nat → Nat} {cy : Nat → ClassId} {zz : (Nat → Nat) × (Nat → Nat)} (hinj : ∀ i j, i < 13 → j < 13 → ad i = ad j → i = j) {fu : Nat} (o : Nat) (p0 : Int32) (p1 : Int32) (hk_o : o < 13 ∧ g_KM o = g_kX8) {S : g_St} (z : Int32 × g_St) (h : f_X8_ticksGo fu o p0 p1 S = some z) : g_Mi l g_KM 13 D ad cy zz yX8_ticksGo wsX8_ticksGo rm_X8_ticksGo [.ref (ad o), .int (p0), .int (p1)] S z := by
  refine g_ofi hinj (cc := cX8_ticksGo) (maxL := 4) (ret := (some .int)) (lv := [(0, .ref (ad o)), (1, .int (p0)), (2, .int (p1))]) (by decide) rfl (Nat.le_of_ble_eq_true rfl) rfl ?_
  intro x X hl hD ha hy hz
  subst hl hD ha hy hz
  unfold f_X8_ticksGo at h
  refine g_aload_n X dX8_ticksGo_0 0 rfl ?_
  refine g_iload_n X dX8_ticksGo_1 1 rfl ?_
  refine g_sipush X (v := (180)) dX8_ticksGo_2 (by decide) ?_
  refine g_callVv X g_cX8 hk_o [.int (p0), .int ((180 : Int32))] rfl (cwV 2 X.2.2.2.2.1 gX8_ticksGo_X8_copies rfl rfl rfl hd_X8_copies ⟨Nat.le_of_ble_eq_true rfl, Nat.le_of_ble_eq_true rfl⟩) (Nat.le_of_ble_eq_true rfl) dX8_ticksGo_5 h (fun q hq => ct_X8_copies X.2.2.2.2.2.2.1 o p0 ((180 : Int32)) hk_o _ hq) (fun _ Sr1 h => ?_)
  refine g_aload_n X dX8_ticksGo_8 0 rfl ?_
  refine g_callVv X g_cX8 hk_o [] rfl (cwV 0 X.2.2.2.2.1 gX8_ticksGo_X8_starts rfl rfl rfl hd_X8_starts ⟨Nat.le_of_ble_eq_true rfl, Nat.le_of_ble_eq_true rfl⟩) (Nat.le_of_ble_eq_true rfl) dX8_ticksGo_9 h (fun q hq => ct_X8_starts X.2.2.2.2.2.2.1 o hk_o _ hq) (fun _ Sr2 h => ?_)
  refine g_iconst X (v := 0) dX8_ticksGo_12 (by decide) ?_
  refine g_istore_n X [(3, _), (0, _), (1, _), (2, _)] dX8_ticksGo_13 (by decide) rfl ?_
  obtain ⟨e, he, h⟩ := g_th_s h
  refine g_sub [1, 3, 0] _ rfl ?_
  refine g_lp_w (body := (fun t => b_X8_ticksGo_14 fu o p1 t.1 t.2)) (P := fun t : Int32 × g_St => g_V g_KM 13 x 4 (g_qi g_KM 13 x z) t.2 14 [(0, .ref (g_ad x o)), (2, .int (p1)), (3, .int (t.1))] []) (E := (fun e : g_St => g_V g_KM 13 x 4 (g_qi g_KM 13 x z) e 33 [(0, .ref (g_ad x o))] [])) (fun t r hb hc => vb_X8_ticksGo_14 X o p1 t.1 hk_o t.2 hb hc) fu ((0 : Int32), Sr2) e he ?_
  obtain ⟨S1, rfl⟩ : ∃ q, q = e := ⟨_, rfl⟩
  show g_V g_KM 13 x 4 (g_qi g_KM 13 x z) S1 33 [(0, .ref (g_ad x o))] []
  refine g_aload_n X dX8_ticksGo_33 0 rfl ?_
  refine g_geti X g_cX8 w_X8_ticksGo_inX8 14 (by decide) w_X8_ticksGo_121 hk_o rfl dX8_ticksGo_34 ?_
  exact g_iret X h dX8_ticksGo_37
abbrev rm_X8_runs : Room := { frames := 5, cells := 0, slots := 0, locals := 114 }
theorem hd_X8_runs : yX8_runs.cls = RX8 ∧ yX8_runs.cls ≠ "java/lang/invoke/MethodHandle" ∧ yX8_runs.cls ≠ "java/lang/invoke/VarHandle" ∧ (parseMethodDescriptor yX8_runs.desc).map (fun d => d.parameters.length) = some 2 := by decide +kernel
theorem w_X8_runs_105 : Cond.constantLong RX8 105 (4) ∈ wsX8_runs := by decide +kernel
theorem w_X8_runs_124 : Cond.fieldLink RX8 124 "TokenDoorsModel" "turned" "I" ∈ wsX8_runs := by decide +kernel
theorem w_X8_runs_inX8 : ∀ w ∈ wsX80, w ∈ wsX8_runs := by decide +kernel
theorem w_X8_runs_127 : Cond.fieldLink RX8 127 "TokenDoorsModel" "badTicks" "I" ∈ wsX8_runs := by decide +kernel
theorem w_X8_runs_130 : Cond.fieldLink RX8 130 "TokenDoorsModel" "worstTick" "I" ∈ wsX8_runs := by decide +kernel
def f_X8_runs (fu : Nat) (o : Nat) (p0 : Int32) (p1 : Int32) (S : g_St) : Option (Int32 × g_St) :=
  g_bd (f_X8_isLong fu p0 S) fun r1 Sr1 => if r1 = 0 then (some ((-1 : Int32), Sr1)) else (g_bd (f_X8_in fu ((Int32.toInt64 p1)) ((0 : Int64)) ((4 : Int64)) Sr1) fun r2 Sr2 => if r2 = 0 then (some ((-1 : Int32), Sr2)) else (g_bd (f_X8_ticksGo fu o ((0 : Int32)) p0 Sr2) fun r3 Sr3 => if p1 = 0 then (some (r3, Sr3)) else (if p1 = 1 then (some ((Sr3.1 o 15), Sr3)) else (if p1 = 2 then (some ((Sr3.1 o 16), Sr3)) else (if p1 = 3 then (some ((Sr3.1 o 17), Sr3)) else (g_bd (f_X8_holdOn fu o ((180 : Int32)) Sr3) fun r4 Sr4 => some (r4, Sr4)))))))
set_option maxRecDepth 100000 in
set_option maxHeartbeats 400000 in
theorem ct_X8_runs {l : Launch} {D : va_G} {ad : Nat → Nat} {cy : Nat → ClassId} {zz : (Nat → Nat) × (Nat → Nat)} (hinj : ∀ i j, i < 13 → j < 13 → ad i = ad j → i = j) {fu : Nat} (o : Nat) (p0 : Int32) (p1 : Int32) (hk_o : o < 13 ∧ g_KM o = g_kX8) {S : g_St} (z : Int32 × g_St) (h : f_X8_runs fu o p0 p1 S = some z) : g_Mi l g_KM 13 D ad cy zz yX8_runs wsX8_runs rm_X8_runs [.ref (ad o), .int (p0), .int (p1)] S z := by
  refine g_ofi hinj (cc := cX8_runs) (maxL := 4) (ret := (some .int)) (lv := [(0, .ref (ad o)), (1, .int (p0)), (2, .int (p1))]) (by decide) rfl (Nat.le_of_ble_eq_true rfl) rfl ?_
  intro x X hl hD ha hy hz
  subst hl hD ha hy hz
  unfold f_X8_runs at h
  refine g_iload_n X dX8_runs_0 1 rfl ?_
  refine g_callSi X [.int (p0)] rfl (va_cwS 1 X.2.2.2.2.1 gX8_runs_X8_isLong rfl rfl rfl hd_X8_isLong ⟨Nat.le_of_ble_eq_true rfl, Nat.le_of_ble_eq_true rfl⟩) (Nat.le_of_ble_eq_true rfl) dX8_runs_1 h (fun q hq => ct_X8_isLong X.2.2.2.2.2.2.1 p0  _ hq) (fun r1 Sr1 h => ?_)
  refine g_if_eq X 19 dX8_runs_4 (by decide) h (fun c_4 h => ?_) (fun c_4 h => ?_)
  · skip
    refine g_iconst X (v := (-1)) dX8_runs_19 (by decide) ?_
    exact g_iret X h dX8_runs_20
  · skip
    refine g_iload_n X dX8_runs_7 2 rfl ?_
    refine g_i2l X dX8_runs_8 ?_
    refine g_lconst X (v := 0) dX8_runs_9 (by decide) ?_
    refine g_ldc2 X w_X8_runs_105 dX8_runs_10 ?_
    refine g_callSi X [.long ((Int32.toInt64 p1)), .long ((0 : Int64)), .long ((4 : Int64))] rfl (va_cwS 3 X.2.2.2.2.1 gX8_runs_X8_in rfl rfl rfl hd_X8_in ⟨Nat.le_of_ble_eq_true rfl, Nat.le_of_ble_eq_true rfl⟩) (Nat.le_of_ble_eq_true rfl) dX8_runs_13 h (fun q hq => ct_X8_in X.2.2.2.2.2.2.1 ((Int32.toInt64 p1)) ((0 : Int64)) ((4 : Int64))  _ hq) (fun r2 Sr2 h => ?_)
    refine g_if_ne X 21 dX8_runs_16 (by decide) h (fun c_16 h => ?_) (fun c_16 h => ?_)
    · skip
      refine g_aload_n X dX8_runs_21 0 rfl ?_
      refine g_iconst X (v := 0) dX8_runs_22 (by decide) ?_
      refine g_iload_n X dX8_runs_23 1 rfl ?_
      refine g_callVi X g_cX8 hk_o [.int ((0 : Int32)), .int (p0)] rfl (cwV 2 X.2.2.2.2.1 gX8_runs_X8_ticksGo rfl rfl rfl hd_X8_ticksGo ⟨Nat.le_of_ble_eq_true rfl, Nat.le_of_ble_eq_true rfl⟩) (Nat.le_of_ble_eq_true rfl) dX8_runs_24 h (fun q hq => ct_X8_ticksGo X.2.2.2.2.2.2.1 o ((0 : Int32)) p0 hk_o _ hq) (fun r3 Sr3 h => ?_)
      refine g_istore_n X [(3, _), (0, _), (1, _), (2, _)] dX8_runs_27 (by decide) rfl ?_
      refine g_iload_n X dX8_runs_28 3 rfl ?_
      refine g_ifs h (fun c_29_0 h => ?_) (fun c_29_0 h => ?_)
      · refine g_tableIn X 60 (off := 31) dX8_runs_29 (by rw [c_29_0]; decide) (by rw [c_29_0]; decide) (by rw [c_29_0]; rfl) (by decide) ?_
        refine g_iload_n X dX8_runs_60 0 rfl ?_
        exact g_iret X h dX8_runs_61
      refine g_ifs h (fun c_29_1 h => ?_) (fun c_29_1 h => ?_)
      · refine g_tableIn X 62 (off := 33) dX8_runs_29 (by rw [c_29_1]; decide) (by rw [c_29_1]; decide) (by rw [c_29_1]; rfl) (by decide) ?_
        refine g_aload_n X dX8_runs_62 1 rfl ?_
        refine g_geti X g_cX8 w_X8_runs_inX8 15 (by decide) w_X8_runs_124 hk_o rfl dX8_runs_63 ?_
        exact g_iret X h dX8_runs_66
      refine g_ifs h (fun c_29_2 h => ?_) (fun c_29_2 h => ?_)
      · refine g_tableIn X 67 (off := 38) dX8_runs_29 (by rw [c_29_2]; decide) (by rw [c_29_2]; decide) (by rw [c_29_2]; rfl) (by decide) ?_
        refine g_aload_n X dX8_runs_67 1 rfl ?_
        refine g_geti X g_cX8 w_X8_runs_inX8 16 (by decide) w_X8_runs_127 hk_o rfl dX8_runs_68 ?_
        exact g_iret X h dX8_runs_71
      refine g_ifs h (fun c_29_3 h => ?_) (fun c_29_3 h => ?_)
      · refine g_tableIn X 72 (off := 43) dX8_runs_29 (by rw [c_29_3]; decide) (by rw [c_29_3]; decide) (by rw [c_29_3]; rfl) (by decide) ?_
        refine g_aload_n X dX8_runs_72 1 rfl ?_
        refine g_geti X g_cX8 w_X8_runs_inX8 17 (by decide) w_X8_runs_130 hk_o rfl dX8_runs_73 ?_
        exact g_iret X h dX8_runs_76
      refine g_tableOut X 77 dX8_runs_29 (g_sw_out (n := 3) (by decide) rfl (fun k hk => by rcases (show k = 0 ∨ k = 1 ∨ k = 2 ∨ k = 3 by omega) with rfl | rfl | rfl | rfl <;> first | exact c_29_0 | exact c_29_1 | exact c_29_2 | exact c_29_3)) (by decide) ?_
      refine g_aload_n X dX8_runs_77 1 rfl ?_
      refine g_sipush X (v := (180)) dX8_runs_78 (by decide) ?_
      refine g_callVi X g_cX8 hk_o [.int ((180 : Int32))] rfl (cwV 1 X.2.2.2.2.1 gX8_runs_X8_holdOn rfl rfl rfl hd_X8_holdOn ⟨Nat.le_of_ble_eq_true rfl, Nat.le_of_ble_eq_true rfl⟩) (Nat.le_of_ble_eq_true rfl) dX8_runs_81 h (fun q hq => ct_X8_holdOn X.2.2.2.2.2.2.1 o ((180 : Int32)) hk_o _ hq) (fun r4 Sr4 h => ?_)
      exact g_iret X h dX8_runs_84
    · skip
      refine g_iconst X (v := (-1)) dX8_runs_19 (by decide) ?_
      exact g_iret X h dX8_runs_20
abbrev rm_X8_ahead : Room := { frames := 5, cells := 0, slots := 0, locals := 114 }
theorem hd_X8_ahead : yX8_ahead.cls = RX8 ∧ yX8_ahead.cls ≠ "java/lang/invoke/MethodHandle" ∧ yX8_ahead.cls ≠ "java/lang/invoke/VarHandle" ∧ (parseMethodDescriptor yX8_ahead.desc).map (fun d => d.parameters.length) = some 2 := by decide +kernel
theorem w_X8_ahead_7 : Cond.fieldLink RX8 7 "TokenDoorsModel" "state" "[I" ∈ wsX8_ahead := by decide +kernel
theorem w_X8_ahead_inX8 : ∀ w ∈ wsX80, w ∈ wsX8_ahead := by decide +kernel
def f_X8_ahead (fu : Nat) (o : Nat) (p0 : Int32) (p1 : Int32) (S : g_St) : Option (Int32 × g_St) :=
  g_bd (f_X8_isDoor fu o p0 S) fun r1 Sr1 => if r1 = 0 then (some ((-1 : Int32), Sr1)) else (g_bd (f_X8_isLong fu p1 Sr1) fun r2 Sr2 => if r2 = 0 then (some ((-1 : Int32), Sr2)) else (g_bd (f_X8_ticksGo fu o ((0 : Int32)) p1 Sr2) fun r3 Sr3 => g_ld g_KM 13 (.inr (0, 270, false)) (Sr3.2 o 0) fun a4 => g_ix ((192 : Int32) + p0) 270 fun i5 => some ((Sr3.1 a4 i5), Sr3)))
set_option maxRecDepth 100000 in
set_option maxHeartbeats 400000 in
theorem ct_X8_ahead {l : Launch} {D : va_G} {ad : Nat → Nat} {cy : Nat → ClassId} {zz : (Nat → Nat) × (Nat → Nat)} (hinj : ∀ i j, i < 13 → j < 13 → ad i = ad j → i = j) {fu : Nat} (o : Nat) (p0 : Int32) (p1 : Int32) (hk_o : o < 13 ∧ g_KM o = g_kX8) {S : g_St} (z : Int32 × g_St) (h : f_X8_ahead fu o p0 p1 S = some z) : g_Mi l g_KM 13 D ad cy zz yX8_ahead wsX8_ahead rm_X8_ahead [.ref (ad o), .int (p0), .int (p1)] S z := by
  refine g_ofi hinj (cc := cX8_ahead) (maxL := 3) (ret := (some .int)) (lv := [(0, .ref (ad o)), (1, .int (p0)), (2, .int (p1))]) (by decide) rfl (Nat.le_of_ble_eq_true rfl) rfl ?_
  intro x X hl hD ha hy hz
  subst hl hD ha hy hz
  unfold f_X8_ahead at h
  refine g_aload_n X dX8_ahead_0 0 rfl ?_
  refine g_iload_n X dX8_ahead_1 1 rfl ?_
  refine g_callVi X g_cX8 hk_o [.int (p0)] rfl (cwV 1 X.2.2.2.2.1 gX8_ahead_X8_isDoor rfl rfl rfl hd_X8_isDoor ⟨Nat.le_of_ble_eq_true rfl, Nat.le_of_ble_eq_true rfl⟩) (Nat.le_of_ble_eq_true rfl) dX8_ahead_2 h (fun q hq => ct_X8_isDoor X.2.2.2.2.2.2.1 o p0 hk_o _ hq) (fun r1 Sr1 h => ?_)
  refine g_if_eq X 15 dX8_ahead_5 (by decide) h (fun c_5 h => ?_) (fun c_5 h => ?_)
  · skip
    refine g_iconst X (v := (-1)) dX8_ahead_15 (by decide) ?_
    exact g_iret X h dX8_ahead_16
  · skip
    refine g_iload_n X dX8_ahead_8 2 rfl ?_
    refine g_callSi X [.int (p1)] rfl (va_cwS 1 X.2.2.2.2.1 gX8_ahead_X8_isLong rfl rfl rfl hd_X8_isLong ⟨Nat.le_of_ble_eq_true rfl, Nat.le_of_ble_eq_true rfl⟩) (Nat.le_of_ble_eq_true rfl) dX8_ahead_9 h (fun q hq => ct_X8_isLong X.2.2.2.2.2.2.1 p1  _ hq) (fun r2 Sr2 h => ?_)
    refine g_if_ne X 17 dX8_ahead_12 (by decide) h (fun c_12 h => ?_) (fun c_12 h => ?_)
    · skip
      refine g_aload_n X dX8_ahead_17 0 rfl ?_
      refine g_iconst X (v := 0) dX8_ahead_18 (by decide) ?_
      refine g_iload_n X dX8_ahead_19 2 rfl ?_
      refine g_callVi X g_cX8 hk_o [.int ((0 : Int32)), .int (p1)] rfl (cwV 2 X.2.2.2.2.1 gX8_ahead_X8_ticksGo rfl rfl rfl hd_X8_ticksGo ⟨Nat.le_of_ble_eq_true rfl, Nat.le_of_ble_eq_true rfl⟩) (Nat.le_of_ble_eq_true rfl) dX8_ahead_20 h (fun q hq => ct_X8_ticksGo X.2.2.2.2.2.2.1 o ((0 : Int32)) p1 hk_o _ hq) (fun r3 Sr3 h => ?_)
      refine g_pop X dX8_ahead_23 rfl ?_
      refine g_aload_n X dX8_ahead_24 0 rfl ?_
      refine g_getr X g_cX8 w_X8_ahead_inX8 0 (by decide) w_X8_ahead_7 hk_o rfl dX8_ahead_25 h (fun a4 hk_a4 h => ?_)
      refine g_sipush X (v := (192)) dX8_ahead_28 (by decide) ?_
      refine g_iload_n X dX8_ahead_31 1 rfl ?_
      refine g_iadd X dX8_ahead_32 ?_
      refine g_iald X hk_a4 dX8_ahead_33 h (fun i5 _ h => ?_)
      exact g_iret X h dX8_ahead_34
    · skip
      refine g_iconst X (v := (-1)) dX8_ahead_15 (by decide) ?_
      exact g_iret X h dX8_ahead_16
abbrev rm_X8_lets : Room := { frames := 5, cells := 0, slots := 0, locals := 114 }
theorem hd_X8_lets : yX8_lets.cls = RX8 ∧ yX8_lets.cls ≠ "java/lang/invoke/MethodHandle" ∧ yX8_lets.cls ≠ "java/lang/invoke/VarHandle" ∧ (parseMethodDescriptor yX8_lets.desc).map (fun d => d.parameters.length) = some 1 := by decide +kernel
def f_X8_lets (fu : Nat) (o : Nat) (p0 : Int32) (S : g_St) : Option (Int32 × g_St) :=
  g_bd (f_X8_isLong fu p0 S) fun r1 Sr1 => if r1 = 0 then (some ((-1 : Int32), Sr1)) else (g_bd (f_X8_ticksGo fu o ((0 : Int32)) p0 Sr1) fun r2 Sr2 => g_bd (f_X8_goesOn fu o ((180 : Int32)) Sr2) fun r3 Sr3 => some (r3, Sr3))
set_option maxRecDepth 100000 in
set_option maxHeartbeats 400000 in
theorem ct_X8_lets {l : Launch} {D : va_G} {ad : Nat → Nat} {cy : Nat → ClassId} {zz : (Nat → Nat) × (Nat → Nat)} (hinj : ∀ i j, i < 13 → j < 13 → ad i = ad j → i = j) {fu : Nat} (o : Nat) (p0 : Int32) (hk_o : o < 13 ∧ g_KM o = g_kX8) {S : g_St} (z : Int32 × g_St) (h : f_X8_lets fu o p0 S = some z) : g_Mi l g_KM 13 D ad cy zz yX8_lets wsX8_lets rm_X8_lets [.ref (ad o), .int (p0)] S z := by
  refine g_ofi hinj (cc := cX8_lets) (maxL := 2) (ret := (some .int)) (lv := [(0, .ref (ad o)), (1, .int (p0))]) (by decide) rfl (Nat.le_of_ble_eq_true rfl) rfl ?_
  intro x X hl hD ha hy hz
  subst hl hD ha hy hz
  unfold f_X8_lets at h
  refine g_iload_n X dX8_lets_0 1 rfl ?_
  refine g_callSi X [.int (p0)] rfl (va_cwS 1 X.2.2.2.2.1 gX8_lets_X8_isLong rfl rfl rfl hd_X8_isLong ⟨Nat.le_of_ble_eq_true rfl, Nat.le_of_ble_eq_true rfl⟩) (Nat.le_of_ble_eq_true rfl) dX8_lets_1 h (fun q hq => ct_X8_isLong X.2.2.2.2.2.2.1 p0  _ hq) (fun r1 Sr1 h => ?_)
  refine g_if_ne X 9 dX8_lets_4 (by decide) h (fun c_4 h => ?_) (fun c_4 h => ?_)
  · skip
    refine g_aload_n X dX8_lets_9 0 rfl ?_
    refine g_iconst X (v := 0) dX8_lets_10 (by decide) ?_
    refine g_iload_n X dX8_lets_11 1 rfl ?_
    refine g_callVi X g_cX8 hk_o [.int ((0 : Int32)), .int (p0)] rfl (cwV 2 X.2.2.2.2.1 gX8_lets_X8_ticksGo rfl rfl rfl hd_X8_ticksGo ⟨Nat.le_of_ble_eq_true rfl, Nat.le_of_ble_eq_true rfl⟩) (Nat.le_of_ble_eq_true rfl) dX8_lets_12 h (fun q hq => ct_X8_ticksGo X.2.2.2.2.2.2.1 o ((0 : Int32)) p0 hk_o _ hq) (fun r2 Sr2 h => ?_)
    refine g_pop X dX8_lets_15 rfl ?_
    refine g_aload_n X dX8_lets_16 0 rfl ?_
    refine g_sipush X (v := (180)) dX8_lets_17 (by decide) ?_
    refine g_callVi X g_cX8 hk_o [.int ((180 : Int32))] rfl (cwV 1 X.2.2.2.2.1 gX8_lets_X8_goesOn rfl rfl rfl hd_X8_goesOn ⟨Nat.le_of_ble_eq_true rfl, Nat.le_of_ble_eq_true rfl⟩) (Nat.le_of_ble_eq_true rfl) dX8_lets_20 h (fun q hq => ct_X8_goesOn X.2.2.2.2.2.2.1 o ((180 : Int32)) hk_o _ hq) (fun r3 Sr3 h => ?_)
    exact g_iret X h dX8_lets_23
  · skip
    refine g_iconst X (v := (-1)) dX8_lets_7 (by decide) ?_
    exact g_iret X h dX8_lets_8
abbrev rm_X8_turns : Room := { frames := 5, cells := 0, slots := 0, locals := 114 }
theorem hd_X8_turns : yX8_turns.cls = RX8 ∧ yX8_turns.cls ≠ "java/lang/invoke/MethodHandle" ∧ yX8_turns.cls ≠ "java/lang/invoke/VarHandle" ∧ (parseMethodDescriptor yX8_turns.desc).map (fun d => d.parameters.length) = some 2 := by decide +kernel
theorem w_X8_turns_29 : Cond.fieldLink RX8 29 "TokenDoorsModel" "turnedBy" "[I" ∈ wsX8_turns := by decide +kernel
theorem w_X8_turns_inX8 : ∀ w ∈ wsX80, w ∈ wsX8_turns := by decide +kernel
def f_X8_turns (fu : Nat) (o : Nat) (p0 : Int32) (p1 : Int32) (S : g_St) : Option (Int32 × g_St) :=
  g_bd (f_X8_isDoor fu o p0 S) fun r1 Sr1 => if r1 = 0 then (some ((-1 : Int32), Sr1)) else (g_bd (f_X8_isLong fu p1 Sr1) fun r2 Sr2 => if r2 = 0 then (some ((-1 : Int32), Sr2)) else (g_bd (f_X8_ticksGo fu o ((0 : Int32)) p1 Sr2) fun r3 Sr3 => g_ld g_KM 13 (.inr (0, 4, false)) (Sr3.2 o 18) fun a4 => g_ix p0 4 fun i5 => some ((Sr3.1 a4 i5), Sr3)))
set_option maxRecDepth 100000 in
set_option maxHeartbeats 400000 in
theorem ct_X8_turns {l : Launch} {D : va_G} {ad : Nat → Nat} {cy : Nat → ClassId} {zz : (Nat → Nat) × (Nat → Nat)} (hinj : ∀ i j, i < 13 → j < 13 → ad i = ad j → i = j) {fu : Nat} (o : Nat) (p0 : Int32) (p1 : Int32) (hk_o : o < 13 ∧ g_KM o = g_kX8) {S : g_St} (z : Int32 × g_St) (h : f_X8_turns fu o p0 p1 S = some z) : g_Mi l g_KM 13 D ad cy zz yX8_turns wsX8_turns rm_X8_turns [.ref (ad o), .int (p0), .int (p1)] S z := by
  refine g_ofi hinj (cc := cX8_turns) (maxL := 3) (ret := (some .int)) (lv := [(0, .ref (ad o)), (1, .int (p0)), (2, .int (p1))]) (by decide) rfl (Nat.le_of_ble_eq_true rfl) rfl ?_
  intro x X hl hD ha hy hz
  subst hl hD ha hy hz
  unfold f_X8_turns at h
  refine g_aload_n X dX8_turns_0 0 rfl ?_
  refine g_iload_n X dX8_turns_1 1 rfl ?_
  refine g_callVi X g_cX8 hk_o [.int (p0)] rfl (cwV 1 X.2.2.2.2.1 gX8_turns_X8_isDoor rfl rfl rfl hd_X8_isDoor ⟨Nat.le_of_ble_eq_true rfl, Nat.le_of_ble_eq_true rfl⟩) (Nat.le_of_ble_eq_true rfl) dX8_turns_2 h (fun q hq => ct_X8_isDoor X.2.2.2.2.2.2.1 o p0 hk_o _ hq) (fun r1 Sr1 h => ?_)
  refine g_if_eq X 15 dX8_turns_5 (by decide) h (fun c_5 h => ?_) (fun c_5 h => ?_)
  · skip
    refine g_iconst X (v := (-1)) dX8_turns_15 (by decide) ?_
    exact g_iret X h dX8_turns_16
  · skip
    refine g_iload_n X dX8_turns_8 2 rfl ?_
    refine g_callSi X [.int (p1)] rfl (va_cwS 1 X.2.2.2.2.1 gX8_turns_X8_isLong rfl rfl rfl hd_X8_isLong ⟨Nat.le_of_ble_eq_true rfl, Nat.le_of_ble_eq_true rfl⟩) (Nat.le_of_ble_eq_true rfl) dX8_turns_9 h (fun q hq => ct_X8_isLong X.2.2.2.2.2.2.1 p1  _ hq) (fun r2 Sr2 h => ?_)
    refine g_if_ne X 17 dX8_turns_12 (by decide) h (fun c_12 h => ?_) (fun c_12 h => ?_)
    · skip
      refine g_aload_n X dX8_turns_17 0 rfl ?_
      refine g_iconst X (v := 0) dX8_turns_18 (by decide) ?_
      refine g_iload_n X dX8_turns_19 2 rfl ?_
      refine g_callVi X g_cX8 hk_o [.int ((0 : Int32)), .int (p1)] rfl (cwV 2 X.2.2.2.2.1 gX8_turns_X8_ticksGo rfl rfl rfl hd_X8_ticksGo ⟨Nat.le_of_ble_eq_true rfl, Nat.le_of_ble_eq_true rfl⟩) (Nat.le_of_ble_eq_true rfl) dX8_turns_20 h (fun q hq => ct_X8_ticksGo X.2.2.2.2.2.2.1 o ((0 : Int32)) p1 hk_o _ hq) (fun r3 Sr3 h => ?_)
      refine g_pop X dX8_turns_23 rfl ?_
      refine g_aload_n X dX8_turns_24 0 rfl ?_
      refine g_getr X g_cX8 w_X8_turns_inX8 18 (by decide) w_X8_turns_29 hk_o rfl dX8_turns_25 h (fun a4 hk_a4 h => ?_)
      refine g_iload_n X dX8_turns_28 1 rfl ?_
      refine g_iald X hk_a4 dX8_turns_29 h (fun i5 _ h => ?_)
      exact g_iret X h dX8_turns_30
    · skip
      refine g_iconst X (v := (-1)) dX8_turns_15 (by decide) ?_
      exact g_iret X h dX8_turns_16
abbrev rm_X8_when : Room := { frames := 4, cells := 0, slots := 0, locals := 91 }
theorem hd_X8_when : yX8_when.cls = RX8 ∧ yX8_when.cls ≠ "java/lang/invoke/MethodHandle" ∧ yX8_when.cls ≠ "java/lang/invoke/VarHandle" ∧ (parseMethodDescriptor yX8_when.desc).map (fun d => d.parameters.length) = some 0 := by decide +kernel
theorem w_X8_when_124 : Cond.fieldLink RX8 124 "TokenDoorsModel" "turned" "I" ∈ wsX8_when := by decide +kernel
theorem w_X8_when_inX8 : ∀ w ∈ wsX80, w ∈ wsX8_when := by decide +kernel
def b_X8_when_14 (fu : Nat) (v0 : Nat) (v1 : Int32) (S : g_St) : Option ((Int32 × g_St) ⊕ ((g_St) ⊕ (Int32 × g_St))) :=
  if (100 : Int32) < v1 then (some (.inr (.inl S))) else (g_bd (f_X8_goesOn fu v0 ((180 : Int32)) S) fun r3 Sr3 => if (Sr3.1 v0 15) ≤ 0 then (some (.inl ((v1 + 1), Sr3))) else (some (.inr (.inr (v1, Sr3)))))
def f_X8_when (fu : Nat) (o : Nat) (S : g_St) : Option (Int32 × g_St) :=
  g_bd (f_X8_copies fu o ((0 : Int32)) ((180 : Int32)) S) fun _ Sr1 => g_bd (f_X8_starts fu o Sr1) fun _ Sr2 => g_th (g_lp (fun t => b_X8_when_14 fu o t.1 t.2) fu ((0 : Int32), Sr2)) fun e => match e with | .inl S1 => (some ((-4 : Int32), S1)) | .inr q => some q
set_option maxRecDepth 100000 in
set_option maxHeartbeats 400000 in
theorem vb_X8_when_14 {x : g_CX} {z : Int32 × g_St} {fu : Nat} (X : g_X 13 x cX8_when RX8 2 wsX8_when rm_X8_when (some .int)) (v0 : Nat) (v1 : Int32) (hk_v0 : v0 < 13 ∧ g_KM v0 = g_kX8) (S : g_St) {r : (Int32 × g_St) ⊕ ((g_St) ⊕ (Int32 × g_St))} (h : b_X8_when_14 fu v0 v1 S = some r) (hc : Sum.elim (fun t : Int32 × g_St => g_V g_KM 13 x 2 (g_qi g_KM 13 x z) t.2 14 [(0, .ref (g_ad x v0)), (1, .int (t.1))] []) (fun b : (g_St) ⊕ (Int32 × g_St) => Sum.elim (fun e : g_St => g_V g_KM 13 x 2 (g_qi g_KM 13 x z) e 43 [] []) (fun q : Int32 × g_St => q = z) b) r) : g_V g_KM 13 x 2 (g_qi g_KM 13 x z) S 14 [(0, .ref (g_ad x v0)), (1, .int (v1))] [] := by
  unfold b_X8_when_14 at h
  refine g_iload_n X dX8_when_14 1 rfl ?_
  refine g_bipush X (v := (100)) dX8_when_15 (by decide) ?_
  refine g_icmp_gt X 43 dX8_when_17 (by decide) h (fun c_17 h => ?_) (fun c_17 h => ?_)
  · skip
    cases h
    exact g_sub [] _ rfl hc
  · skip
    refine g_aload_n X dX8_when_20 0 rfl ?_
    refine g_sipush X (v := (180)) dX8_when_21 (by decide) ?_
    refine g_callVi X g_cX8 hk_v0 [.int ((180 : Int32))] rfl (cwV 1 X.2.2.2.2.1 gX8_when_X8_goesOn rfl rfl rfl hd_X8_goesOn ⟨Nat.le_of_ble_eq_true rfl, Nat.le_of_ble_eq_true rfl⟩) (Nat.le_of_ble_eq_true rfl) dX8_when_24 h (fun q hq => ct_X8_goesOn X.2.2.2.2.2.2.1 v0 ((180 : Int32)) hk_v0 _ hq) (fun r3 Sr3 h => ?_)
    refine g_pop X dX8_when_27 rfl ?_
    refine g_aload_n X dX8_when_28 0 rfl ?_
    refine g_geti X g_cX8 w_X8_when_inX8 15 (by decide) w_X8_when_124 hk_v0 rfl dX8_when_29 ?_
    refine g_if_le X 37 dX8_when_32 (by decide) h (fun c_32 h => ?_) (fun c_32 h => ?_)
    · skip
      refine g_iinc X [(1, _), (0, _)] dX8_when_37 1 rfl rfl (by decide) rfl ?_
      refine g_goto X 14 dX8_when_40 (by decide) ?_
      cases h
      exact g_sub [1, 0] _ rfl hc
    · skip
      refine g_iload_n X dX8_when_35 1 rfl ?_
      cases h
      exact g_iret X (congrArg some hc) dX8_when_36
set_option maxRecDepth 100000 in
set_option maxHeartbeats 400000 in
theorem ct_X8_when {l : Launch} {D : va_G} {ad : Nat → Nat} {cy : Nat → ClassId} {zz : (Nat → Nat) × (Nat → Nat)} (hinj : ∀ i j, i < 13 → j < 13 → ad i = ad j → i = j) {fu : Nat} (o : Nat) (hk_o : o < 13 ∧ g_KM o = g_kX8) {S : g_St} (z : Int32 × g_St) (h : f_X8_when fu o S = some z) : g_Mi l g_KM 13 D ad cy zz yX8_when wsX8_when rm_X8_when [.ref (ad o)] S z := by
  refine g_ofi hinj (cc := cX8_when) (maxL := 2) (ret := (some .int)) (lv := [(0, .ref (ad o))]) (by decide) rfl (Nat.le_of_ble_eq_true rfl) rfl ?_
  intro x X hl hD ha hy hz
  subst hl hD ha hy hz
  unfold f_X8_when at h
  refine g_aload_n X dX8_when_0 0 rfl ?_
  refine g_iconst X (v := 0) dX8_when_1 (by decide) ?_
  refine g_sipush X (v := (180)) dX8_when_2 (by decide) ?_
  refine g_callVv X g_cX8 hk_o [.int ((0 : Int32)), .int ((180 : Int32))] rfl (cwV 2 X.2.2.2.2.1 gX8_when_X8_copies rfl rfl rfl hd_X8_copies ⟨Nat.le_of_ble_eq_true rfl, Nat.le_of_ble_eq_true rfl⟩) (Nat.le_of_ble_eq_true rfl) dX8_when_5 h (fun q hq => ct_X8_copies X.2.2.2.2.2.2.1 o ((0 : Int32)) ((180 : Int32)) hk_o _ hq) (fun _ Sr1 h => ?_)
  refine g_aload_n X dX8_when_8 0 rfl ?_
  refine g_callVv X g_cX8 hk_o [] rfl (cwV 0 X.2.2.2.2.1 gX8_when_X8_starts rfl rfl rfl hd_X8_starts ⟨Nat.le_of_ble_eq_true rfl, Nat.le_of_ble_eq_true rfl⟩) (Nat.le_of_ble_eq_true rfl) dX8_when_9 h (fun q hq => ct_X8_starts X.2.2.2.2.2.2.1 o hk_o _ hq) (fun _ Sr2 h => ?_)
  refine g_iconst X (v := 0) dX8_when_12 (by decide) ?_
  refine g_istore_n X [(1, _), (0, _)] dX8_when_13 (by decide) rfl ?_
  obtain ⟨e, he, h⟩ := g_th_s h
  refine g_sub [1, 0] _ rfl ?_
  refine g_lp_w (body := (fun t => b_X8_when_14 fu o t.1 t.2)) (P := fun t : Int32 × g_St => g_V g_KM 13 x 2 (g_qi g_KM 13 x z) t.2 14 [(0, .ref (g_ad x o)), (1, .int (t.1))] []) (E := (fun b : (g_St) ⊕ (Int32 × g_St) => Sum.elim (fun e : g_St => g_V g_KM 13 x 2 (g_qi g_KM 13 x z) e 43 [] []) (fun q : Int32 × g_St => q = z) b)) (fun t r hb hc => vb_X8_when_14 X o t.1 hk_o t.2 hb hc) fu ((0 : Int32), Sr2) e he ?_
  rcases e with S1 | q
  · show g_V g_KM 13 x 2 (g_qi g_KM 13 x z) S1 43 [] []
    refine g_bipush X (v := (-4)) dX8_when_43 (by decide) ?_
    exact g_iret X h dX8_when_45
  · cases h; rfl
abbrev rm_X8_depth : Room := { frames := 5, cells := 0, slots := 0, locals := 114 }
theorem hd_X8_depth : yX8_depth.cls = RX8 ∧ yX8_depth.cls ≠ "java/lang/invoke/MethodHandle" ∧ yX8_depth.cls ≠ "java/lang/invoke/VarHandle" ∧ (parseMethodDescriptor yX8_depth.desc).map (fun d => d.parameters.length) = some 2 := by decide +kernel
theorem w_X8_depth_29 : Cond.fieldLink RX8 29 "TokenDoorsModel" "turnedBy" "[I" ∈ wsX8_depth := by decide +kernel
theorem w_X8_depth_inX8 : ∀ w ∈ wsX80, w ∈ wsX8_depth := by decide +kernel
def b_X8_depth_19 (fu : Nat) (v0 : Nat) (v1 : Int32) (v2 : Int32) (v3 : Int32) (S : g_St) : Option ((Int32 × g_St) ⊕ ((g_St) ⊕ (Int32 × g_St))) :=
  if (9 : Int32) < v3 then (some (.inr (.inl S))) else (g_bd (f_X8_copies fu v0 ((0 : Int32)) ((225 : Int32)) S) fun _ Sr3 => g_bd (f_X8_deepOn fu v0 ((225 : Int32)) v1 v3 Sr3) fun _ Sr4 => g_bd (f_X8_ticksGo fu v0 ((225 : Int32)) v2 Sr4) fun r5 Sr5 => g_ld g_KM 13 (.inr (0, 4, false)) (Sr5.2 v0 18) fun a6 => g_ix v1 4 fun i7 => if (Sr5.1 a6 i7) = 0 then (some (.inr (.inr (v3, Sr5)))) else (some (.inl ((v3 + 1), Sr5))))
def f_X8_depth (fu : Nat) (o : Nat) (p0 : Int32) (p1 : Int32) (S : g_St) : Option (Int32 × g_St) :=
  g_bd (f_X8_isDoor fu o p0 S) fun r1 Sr1 => if r1 = 0 then (some ((-1 : Int32), Sr1)) else (g_bd (f_X8_isLong fu p1 Sr1) fun r2 Sr2 => if r2 = 0 then (some ((-1 : Int32), Sr2)) else (g_th (g_lp (fun t => b_X8_depth_19 fu o p0 p1 t.1 t.2) fu ((1 : Int32), Sr2)) fun e => match e with | .inl S1 => (some ((-4 : Int32), S1)) | .inr q => some q))
set_option maxRecDepth 100000 in
set_option maxHeartbeats 400000 in
theorem vb_X8_depth_19 {x : g_CX} {z : Int32 × g_St} {fu : Nat} (X : g_X 13 x cX8_depth RX8 4 wsX8_depth rm_X8_depth (some .int)) (v0 : Nat) (v1 : Int32) (v2 : Int32) (v3 : Int32) (hk_v0 : v0 < 13 ∧ g_KM v0 = g_kX8) (S : g_St) {r : (Int32 × g_St) ⊕ ((g_St) ⊕ (Int32 × g_St))} (h : b_X8_depth_19 fu v0 v1 v2 v3 S = some r) (hc : Sum.elim (fun t : Int32 × g_St => g_V g_KM 13 x 4 (g_qi g_KM 13 x z) t.2 19 [(0, .ref (g_ad x v0)), (1, .int (v1)), (2, .int (v2)), (3, .int (t.1))] []) (fun b : (g_St) ⊕ (Int32 × g_St) => Sum.elim (fun e : g_St => g_V g_KM 13 x 4 (g_qi g_KM 13 x z) e 68 [] []) (fun q : Int32 × g_St => q = z) b) r) : g_V g_KM 13 x 4 (g_qi g_KM 13 x z) S 19 [(0, .ref (g_ad x v0)), (1, .int (v1)), (2, .int (v2)), (3, .int (v3))] [] := by
  unfold b_X8_depth_19 at h
  refine g_iload_n X dX8_depth_19 3 rfl ?_
  refine g_bipush X (v := (9)) dX8_depth_20 (by decide) ?_
  refine g_icmp_gt X 68 dX8_depth_22 (by decide) h (fun c_22 h => ?_) (fun c_22 h => ?_)
  · skip
    cases h
    exact g_sub [] _ rfl hc
  · skip
    refine g_aload_n X dX8_depth_25 0 rfl ?_
    refine g_iconst X (v := 0) dX8_depth_26 (by decide) ?_
    refine g_sipush X (v := (225)) dX8_depth_27 (by decide) ?_
    refine g_callVv X g_cX8 hk_v0 [.int ((0 : Int32)), .int ((225 : Int32))] rfl (cwV 2 X.2.2.2.2.1 gX8_depth_X8_copies rfl rfl rfl hd_X8_copies ⟨Nat.le_of_ble_eq_true rfl, Nat.le_of_ble_eq_true rfl⟩) (Nat.le_of_ble_eq_true rfl) dX8_depth_30 h (fun q hq => ct_X8_copies X.2.2.2.2.2.2.1 v0 ((0 : Int32)) ((225 : Int32)) hk_v0 _ hq) (fun _ Sr3 h => ?_)
    refine g_aload_n X dX8_depth_33 0 rfl ?_
    refine g_sipush X (v := (225)) dX8_depth_34 (by decide) ?_
    refine g_iload_n X dX8_depth_37 1 rfl ?_
    refine g_iload_n X dX8_depth_38 3 rfl ?_
    refine g_callVv X g_cX8 hk_v0 [.int ((225 : Int32)), .int (v1), .int (v3)] rfl (cwV 3 X.2.2.2.2.1 gX8_depth_X8_deepOn rfl rfl rfl hd_X8_deepOn ⟨Nat.le_of_ble_eq_true rfl, Nat.le_of_ble_eq_true rfl⟩) (Nat.le_of_ble_eq_true rfl) dX8_depth_39 h (fun q hq => ct_X8_deepOn X.2.2.2.2.2.2.1 v0 ((225 : Int32)) v1 v3 hk_v0 _ hq) (fun _ Sr4 h => ?_)
    refine g_aload_n X dX8_depth_42 0 rfl ?_
    refine g_sipush X (v := (225)) dX8_depth_43 (by decide) ?_
    refine g_iload_n X dX8_depth_46 2 rfl ?_
    refine g_callVi X g_cX8 hk_v0 [.int ((225 : Int32)), .int (v2)] rfl (cwV 2 X.2.2.2.2.1 gX8_depth_X8_ticksGo rfl rfl rfl hd_X8_ticksGo ⟨Nat.le_of_ble_eq_true rfl, Nat.le_of_ble_eq_true rfl⟩) (Nat.le_of_ble_eq_true rfl) dX8_depth_47 h (fun q hq => ct_X8_ticksGo X.2.2.2.2.2.2.1 v0 ((225 : Int32)) v2 hk_v0 _ hq) (fun r5 Sr5 h => ?_)
    refine g_pop X dX8_depth_50 rfl ?_
    refine g_aload_n X dX8_depth_51 0 rfl ?_
    refine g_getr X g_cX8 w_X8_depth_inX8 18 (by decide) w_X8_depth_29 hk_v0 rfl dX8_depth_52 h (fun a6 hk_a6 h => ?_)
    refine g_iload_n X dX8_depth_55 1 rfl ?_
    refine g_iald X hk_a6 dX8_depth_56 h (fun i7 _ h => ?_)
    refine g_if_ne X 62 dX8_depth_57 (by decide) h (fun c_57 h => ?_) (fun c_57 h => ?_)
    · skip
      refine g_iinc X [(3, _), (0, _), (1, _), (2, _)] dX8_depth_62 3 rfl rfl (by decide) rfl ?_
      refine g_goto X 19 dX8_depth_65 (by decide) ?_
      cases h
      exact g_sub [1, 2, 3, 0] _ rfl hc
    · skip
      refine g_iload_n X dX8_depth_60 3 rfl ?_
      cases h
      exact g_iret X (congrArg some hc) dX8_depth_61
set_option maxRecDepth 100000 in
set_option maxHeartbeats 400000 in
theorem ct_X8_depth {l : Launch} {D : va_G} {ad : Nat → Nat} {cy : Nat → ClassId} {zz : (Nat → Nat) × (Nat → Nat)} (hinj : ∀ i j, i < 13 → j < 13 → ad i = ad j → i = j) {fu : Nat} (o : Nat) (p0 : Int32) (p1 : Int32) (hk_o : o < 13 ∧ g_KM o = g_kX8) {S : g_St} (z : Int32 × g_St) (h : f_X8_depth fu o p0 p1 S = some z) : g_Mi l g_KM 13 D ad cy zz yX8_depth wsX8_depth rm_X8_depth [.ref (ad o), .int (p0), .int (p1)] S z := by
  refine g_ofi hinj (cc := cX8_depth) (maxL := 4) (ret := (some .int)) (lv := [(0, .ref (ad o)), (1, .int (p0)), (2, .int (p1))]) (by decide) rfl (Nat.le_of_ble_eq_true rfl) rfl ?_
  intro x X hl hD ha hy hz
  subst hl hD ha hy hz
  unfold f_X8_depth at h
  refine g_aload_n X dX8_depth_0 0 rfl ?_
  refine g_iload_n X dX8_depth_1 1 rfl ?_
  refine g_callVi X g_cX8 hk_o [.int (p0)] rfl (cwV 1 X.2.2.2.2.1 gX8_depth_X8_isDoor rfl rfl rfl hd_X8_isDoor ⟨Nat.le_of_ble_eq_true rfl, Nat.le_of_ble_eq_true rfl⟩) (Nat.le_of_ble_eq_true rfl) dX8_depth_2 h (fun q hq => ct_X8_isDoor X.2.2.2.2.2.2.1 o p0 hk_o _ hq) (fun r1 Sr1 h => ?_)
  refine g_if_eq X 15 dX8_depth_5 (by decide) h (fun c_5 h => ?_) (fun c_5 h => ?_)
  · skip
    refine g_iconst X (v := (-1)) dX8_depth_15 (by decide) ?_
    exact g_iret X h dX8_depth_16
  · skip
    refine g_iload_n X dX8_depth_8 2 rfl ?_
    refine g_callSi X [.int (p1)] rfl (va_cwS 1 X.2.2.2.2.1 gX8_depth_X8_isLong rfl rfl rfl hd_X8_isLong ⟨Nat.le_of_ble_eq_true rfl, Nat.le_of_ble_eq_true rfl⟩) (Nat.le_of_ble_eq_true rfl) dX8_depth_9 h (fun q hq => ct_X8_isLong X.2.2.2.2.2.2.1 p1  _ hq) (fun r2 Sr2 h => ?_)
    refine g_if_ne X 17 dX8_depth_12 (by decide) h (fun c_12 h => ?_) (fun c_12 h => ?_)
    · skip
      refine g_iconst X (v := 1) dX8_depth_17 (by decide) ?_
      refine g_istore_n X [(3, _), (0, _), (1, _), (2, _)] dX8_depth_18 (by decide) rfl ?_
      obtain ⟨e, he, h⟩ := g_th_s h
      refine g_sub [1, 2, 3, 0] _ rfl ?_
      refine g_lp_w (body := (fun t => b_X8_depth_19 fu o p0 p1 t.1 t.2)) (P := fun t : Int32 × g_St => g_V g_KM 13 x 4 (g_qi g_KM 13 x z) t.2 19 [(0, .ref (g_ad x o)), (1, .int (p0)), (2, .int (p1)), (3, .int (t.1))] []) (E := (fun b : (g_St) ⊕ (Int32 × g_St) => Sum.elim (fun e : g_St => g_V g_KM 13 x 4 (g_qi g_KM 13 x z) e 68 [] []) (fun q : Int32 × g_St => q = z) b)) (fun t r hb hc => vb_X8_depth_19 X o p0 p1 t.1 hk_o t.2 hb hc) fu ((1 : Int32), Sr2) e he ?_
      rcases e with S1 | q
      · show g_V g_KM 13 x 4 (g_qi g_KM 13 x z) S1 68 [] []
        refine g_bipush X (v := (-4)) dX8_depth_68 (by decide) ?_
        exact g_iret X h dX8_depth_70
      · cases h; rfl
    · skip
      refine g_iconst X (v := (-1)) dX8_depth_15 (by decide) ?_
      exact g_iret X h dX8_depth_16
abbrev rm_X8_rate : Room := { frames := 5, cells := 0, slots := 0, locals := 114 }
theorem hd_X8_rate : yX8_rate.cls = RX8 ∧ yX8_rate.cls ≠ "java/lang/invoke/MethodHandle" ∧ yX8_rate.cls ≠ "java/lang/invoke/VarHandle" ∧ (parseMethodDescriptor yX8_rate.desc).map (fun d => d.parameters.length) = some 2 := by decide +kernel
theorem w_X8_rate_7 : Cond.fieldLink RX8 7 "TokenDoorsModel" "state" "[I" ∈ wsX8_rate := by decide +kernel
theorem w_X8_rate_inX8 : ∀ w ∈ wsX80, w ∈ wsX8_rate := by decide +kernel
theorem w_X8_rate_29 : Cond.fieldLink RX8 29 "TokenDoorsModel" "turnedBy" "[I" ∈ wsX8_rate := by decide +kernel
def b_X8_rate_27 (fu : Nat) (v0 : Nat) (v1 : Int32) (v2 : Int32) (v3 : Int32) (S : g_St) : Option ((Int32 × g_St) ⊕ ((g_St) ⊕ (Int32 × g_St))) :=
  if (9 : Int32) < v3 then (some (.inr (.inl S))) else (g_ld g_KM 13 (.inr (0, 270, false)) (S.2 v0 0) fun a4 => g_ix ((233 : Int32) + v1) 270 fun i5 => g_bd (f_X8_ticksGo fu v0 ((225 : Int32)) v2 (g_u S.1 a4 i5 v3, S.2)) fun r6 Sr6 => g_ld g_KM 13 (.inr (0, 4, false)) (Sr6.2 v0 18) fun a7 => g_ix v1 4 fun i8 => if (Sr6.1 a7 i8) = 0 then (some (.inr (.inr (v3, Sr6)))) else (some (.inl ((v3 + 1), Sr6))))
def f_X8_rate (fu : Nat) (o : Nat) (p0 : Int32) (p1 : Int32) (S : g_St) : Option (Int32 × g_St) :=
  g_bd (f_X8_isDoor fu o p0 S) fun r1 Sr1 => if r1 = 0 then (some ((-1 : Int32), Sr1)) else (g_bd (f_X8_isLong fu p1 Sr1) fun r2 Sr2 => if r2 = 0 then (some ((-1 : Int32), Sr2)) else (g_bd (f_X8_copies fu o ((0 : Int32)) ((225 : Int32)) Sr2) fun _ Sr3 => g_th (g_lp (fun t => b_X8_rate_27 fu o p0 p1 t.1 t.2) fu ((0 : Int32), Sr3)) fun e => match e with | .inl S1 => (some ((-4 : Int32), S1)) | .inr q => some q))
set_option maxRecDepth 100000 in
set_option maxHeartbeats 400000 in
theorem vb_X8_rate_27 {x : g_CX} {z : Int32 × g_St} {fu : Nat} (X : g_X 13 x cX8_rate RX8 4 wsX8_rate rm_X8_rate (some .int)) (v0 : Nat) (v1 : Int32) (v2 : Int32) (v3 : Int32) (hk_v0 : v0 < 13 ∧ g_KM v0 = g_kX8) (S : g_St) {r : (Int32 × g_St) ⊕ ((g_St) ⊕ (Int32 × g_St))} (h : b_X8_rate_27 fu v0 v1 v2 v3 S = some r) (hc : Sum.elim (fun t : Int32 × g_St => g_V g_KM 13 x 4 (g_qi g_KM 13 x z) t.2 27 [(0, .ref (g_ad x v0)), (1, .int (v1)), (2, .int (v2)), (3, .int (t.1))] []) (fun b : (g_St) ⊕ (Int32 × g_St) => Sum.elim (fun e : g_St => g_V g_KM 13 x 4 (g_qi g_KM 13 x z) e 70 [] []) (fun q : Int32 × g_St => q = z) b) r) : g_V g_KM 13 x 4 (g_qi g_KM 13 x z) S 27 [(0, .ref (g_ad x v0)), (1, .int (v1)), (2, .int (v2)), (3, .int (v3))] [] := by
  unfold b_X8_rate_27 at h
  refine g_iload_n X dX8_rate_27 3 rfl ?_
  refine g_bipush X (v := (9)) dX8_rate_28 (by decide) ?_
  refine g_icmp_gt X 70 dX8_rate_30 (by decide) h (fun c_30 h => ?_) (fun c_30 h => ?_)
  · skip
    cases h
    exact g_sub [] _ rfl hc
  · skip
    refine g_aload_n X dX8_rate_33 0 rfl ?_
    refine g_getr X g_cX8 w_X8_rate_inX8 0 (by decide) w_X8_rate_7 hk_v0 rfl dX8_rate_34 h (fun a4 hk_a4 h => ?_)
    refine g_sipush X (v := (233)) dX8_rate_37 (by decide) ?_
    refine g_iload_n X dX8_rate_40 1 rfl ?_
    refine g_iadd X dX8_rate_41 ?_
    refine g_iload_n X dX8_rate_42 3 rfl ?_
    refine g_iast X hk_a4 dX8_rate_43 h (fun i5 _ h => ?_)
    refine g_aload_n X dX8_rate_44 0 rfl ?_
    refine g_sipush X (v := (225)) dX8_rate_45 (by decide) ?_
    refine g_iload_n X dX8_rate_48 2 rfl ?_
    refine g_callVi X g_cX8 hk_v0 [.int ((225 : Int32)), .int (v2)] rfl (cwV 2 X.2.2.2.2.1 gX8_rate_X8_ticksGo rfl rfl rfl hd_X8_ticksGo ⟨Nat.le_of_ble_eq_true rfl, Nat.le_of_ble_eq_true rfl⟩) (Nat.le_of_ble_eq_true rfl) dX8_rate_49 h (fun q hq => ct_X8_ticksGo X.2.2.2.2.2.2.1 v0 ((225 : Int32)) v2 hk_v0 _ hq) (fun r6 Sr6 h => ?_)
    refine g_pop X dX8_rate_52 rfl ?_
    refine g_aload_n X dX8_rate_53 0 rfl ?_
    refine g_getr X g_cX8 w_X8_rate_inX8 18 (by decide) w_X8_rate_29 hk_v0 rfl dX8_rate_54 h (fun a7 hk_a7 h => ?_)
    refine g_iload_n X dX8_rate_57 1 rfl ?_
    refine g_iald X hk_a7 dX8_rate_58 h (fun i8 _ h => ?_)
    refine g_if_ne X 64 dX8_rate_59 (by decide) h (fun c_59 h => ?_) (fun c_59 h => ?_)
    · skip
      refine g_iinc X [(3, _), (0, _), (1, _), (2, _)] dX8_rate_64 3 rfl rfl (by decide) rfl ?_
      refine g_goto X 27 dX8_rate_67 (by decide) ?_
      cases h
      exact g_sub [1, 2, 3, 0] _ rfl hc
    · skip
      refine g_iload_n X dX8_rate_62 3 rfl ?_
      cases h
      exact g_iret X (congrArg some hc) dX8_rate_63
set_option maxRecDepth 100000 in
set_option maxHeartbeats 400000 in
theorem ct_X8_rate {l : Launch} {D : va_G} {ad : Nat → Nat} {cy : Nat → ClassId} {zz : (Nat → Nat) × (Nat → Nat)} (hinj : ∀ i j, i < 13 → j < 13 → ad i = ad j → i = j) {fu : Nat} (o : Nat) (p0 : Int32) (p1 : Int32) (hk_o : o < 13 ∧ g_KM o = g_kX8) {S : g_St} (z : Int32 × g_St) (h : f_X8_rate fu o p0 p1 S = some z) : g_Mi l g_KM 13 D ad cy zz yX8_rate wsX8_rate rm_X8_rate [.ref (ad o), .int (p0), .int (p1)] S z := by
  refine g_ofi hinj (cc := cX8_rate) (maxL := 4) (ret := (some .int)) (lv := [(0, .ref (ad o)), (1, .int (p0)), (2, .int (p1))]) (by decide) rfl (Nat.le_of_ble_eq_true rfl) rfl ?_
  intro x X hl hD ha hy hz
  subst hl hD ha hy hz
  unfold f_X8_rate at h
  refine g_aload_n X dX8_rate_0 0 rfl ?_
  refine g_iload_n X dX8_rate_1 1 rfl ?_
  refine g_callVi X g_cX8 hk_o [.int (p0)] rfl (cwV 1 X.2.2.2.2.1 gX8_rate_X8_isDoor rfl rfl rfl hd_X8_isDoor ⟨Nat.le_of_ble_eq_true rfl, Nat.le_of_ble_eq_true rfl⟩) (Nat.le_of_ble_eq_true rfl) dX8_rate_2 h (fun q hq => ct_X8_isDoor X.2.2.2.2.2.2.1 o p0 hk_o _ hq) (fun r1 Sr1 h => ?_)
  refine g_if_eq X 15 dX8_rate_5 (by decide) h (fun c_5 h => ?_) (fun c_5 h => ?_)
  · skip
    refine g_iconst X (v := (-1)) dX8_rate_15 (by decide) ?_
    exact g_iret X h dX8_rate_16
  · skip
    refine g_iload_n X dX8_rate_8 2 rfl ?_
    refine g_callSi X [.int (p1)] rfl (va_cwS 1 X.2.2.2.2.1 gX8_rate_X8_isLong rfl rfl rfl hd_X8_isLong ⟨Nat.le_of_ble_eq_true rfl, Nat.le_of_ble_eq_true rfl⟩) (Nat.le_of_ble_eq_true rfl) dX8_rate_9 h (fun q hq => ct_X8_isLong X.2.2.2.2.2.2.1 p1  _ hq) (fun r2 Sr2 h => ?_)
    refine g_if_ne X 17 dX8_rate_12 (by decide) h (fun c_12 h => ?_) (fun c_12 h => ?_)
    · skip
      refine g_aload_n X dX8_rate_17 0 rfl ?_
      refine g_iconst X (v := 0) dX8_rate_18 (by decide) ?_
      refine g_sipush X (v := (225)) dX8_rate_19 (by decide) ?_
      refine g_callVv X g_cX8 hk_o [.int ((0 : Int32)), .int ((225 : Int32))] rfl (cwV 2 X.2.2.2.2.1 gX8_rate_X8_copies rfl rfl rfl hd_X8_copies ⟨Nat.le_of_ble_eq_true rfl, Nat.le_of_ble_eq_true rfl⟩) (Nat.le_of_ble_eq_true rfl) dX8_rate_22 h (fun q hq => ct_X8_copies X.2.2.2.2.2.2.1 o ((0 : Int32)) ((225 : Int32)) hk_o _ hq) (fun _ Sr3 h => ?_)
      refine g_iconst X (v := 0) dX8_rate_25 (by decide) ?_
      refine g_istore_n X [(3, _), (0, _), (1, _), (2, _)] dX8_rate_26 (by decide) rfl ?_
      obtain ⟨e, he, h⟩ := g_th_s h
      refine g_sub [1, 2, 3, 0] _ rfl ?_
      refine g_lp_w (body := (fun t => b_X8_rate_27 fu o p0 p1 t.1 t.2)) (P := fun t : Int32 × g_St => g_V g_KM 13 x 4 (g_qi g_KM 13 x z) t.2 27 [(0, .ref (g_ad x o)), (1, .int (p0)), (2, .int (p1)), (3, .int (t.1))] []) (E := (fun b : (g_St) ⊕ (Int32 × g_St) => Sum.elim (fun e : g_St => g_V g_KM 13 x 4 (g_qi g_KM 13 x z) e 70 [] []) (fun q : Int32 × g_St => q = z) b)) (fun t r hb hc => vb_X8_rate_27 X o p0 p1 t.1 hk_o t.2 hb hc) fu ((0 : Int32), Sr3) e he ?_
      rcases e with S1 | q
      · show g_V g_KM 13 x 4 (g_qi g_KM 13 x z) S1 70 [] []
        refine g_bipush X (v := (-4)) dX8_rate_70 (by decide) ?_
        exact g_iret X h dX8_rate_72
      · cases h; rfl
    · skip
      refine g_iconst X (v := (-1)) dX8_rate_15 (by decide) ?_
      exact g_iret X h dX8_rate_16
abbrev rm_X8_swap : Room := { frames := 5, cells := 0, slots := 0, locals := 114 }
theorem hd_X8_swap : yX8_swap.cls = RX8 ∧ yX8_swap.cls ≠ "java/lang/invoke/MethodHandle" ∧ yX8_swap.cls ≠ "java/lang/invoke/VarHandle" ∧ (parseMethodDescriptor yX8_swap.desc).map (fun d => d.parameters.length) = some 2 := by decide +kernel
theorem w_X8_swap_7 : Cond.fieldLink RX8 7 "TokenDoorsModel" "state" "[I" ∈ wsX8_swap := by decide +kernel
theorem w_X8_swap_inX8 : ∀ w ∈ wsX80, w ∈ wsX8_swap := by decide +kernel
def b_X8_swap_74 (fu : Nat) (v0 : Nat) (v1 : Int32) (v2 : Int32) (v3 : Int32) (v4 : Int32) (v5 : Int32) (v6 : Int32) (v7 : Int32) (S : g_St) : Option ((Int32 × g_St) ⊕ (g_St)) :=
  if (16 : Int32) ≤ v7 then (some (.inr S)) else (g_ld g_KM 13 (.inr (0, 270, false)) (S.2 v0 0) fun a9 => g_ld g_KM 13 (.inr (0, 270, false)) (S.2 v0 0) fun a10 => g_ix (v7 + v6) 270 fun i11 => g_ix (((225 : Int32) + v7) + v5) 270 fun i12 => g_ld g_KM 13 (.inr (0, 270, false)) (S.2 v0 0) fun a13 => g_ld g_KM 13 (.inr (0, 270, false)) (S.2 v0 0) fun a14 => g_ix (v7 + v5) 270 fun i15 => g_ix (((225 : Int32) + v7) + v6) 270 fun i16 => some (.inl ((v7 + 4), (g_u (g_u S.1 a9 i12 (S.1 a10 i11)) a13 i16 ((g_u S.1 a9 i12 (S.1 a10 i11)) a14 i15), S.2))))
def j_X8_swap_178_in51 (fu : Nat) (v0 : Nat) (v1 : Int32) (v2 : Int32) (v4 : Int32) (v5 : Int32) (v6 : Int32) (s0 : Int32) (S : g_St) : Option ((Int32 × Int32 × Int32 × g_St) ⊕ (Int32 × Int32 × g_St)) :=
  some (.inl (s0, v4, (v6 + 1), S))
def j_X8_swap_164_in51 (fu : Nat) (v0 : Nat) (v1 : Int32) (v2 : Int32) (v3 : Int32) (v5 : Int32) (v6 : Int32) (v7 : Int32) (s0 : Int32) (S : g_St) : Option ((Int32 × Int32 × Int32 × g_St) ⊕ (Int32 × Int32 × g_St)) :=
  if v7 ≤ v3 then (j_X8_swap_178_in51 fu v0 v1 v2 s0 v5 v6 v3 S) else (j_X8_swap_178_in51 fu v0 v1 v2 s0 v5 v6 v7 S)
def b_X8_swap_51 (fu : Nat) (v0 : Nat) (v1 : Int32) (v2 : Int32) (v5 : Int32) (v3 : Int32) (v4 : Int32) (v6 : Int32) (S : g_St) : Option ((Int32 × Int32 × Int32 × g_St) ⊕ (Int32 × Int32 × g_St)) :=
  g_ld g_KM 13 (.inr (0, 270, false)) (S.2 v0 0) fun a6 => g_ix (16 : Int32) 270 fun i7 => if (S.1 a6 i7) ≤ v6 then (some (.inr (v3, v4, S))) else (g_bd (f_X8_copies fu v0 ((0 : Int32)) ((225 : Int32)) S) fun _ Sr8 => g_th (g_lp (fun t => b_X8_swap_74 fu v0 v1 v2 v3 v4 v5 v6 t.1 t.2) fu ((0 : Int32), Sr8)) fun e => match e with | S1 => g_bd (f_X8_ticksGo fu v0 ((225 : Int32)) v1 S1) fun r17 Sr17 => if r17 ≤ v3 then (j_X8_swap_164_in51 fu v0 v1 v2 v3 v5 v6 r17 v4 Sr17) else (j_X8_swap_164_in51 fu v0 v1 v2 v3 v5 v6 r17 ((((10 : Int32) * v5) + v6)) Sr17))
def b_X8_swap_33 (fu : Nat) (v0 : Nat) (v1 : Int32) (v2 : Int32) (v3 : Int32) (v4 : Int32) (v5 : Int32) (S : g_St) : Option ((Int32 × Int32 × Int32 × g_St) ⊕ (Int32 × Int32 × g_St)) :=
  g_ld g_KM 13 (.inr (0, 270, false)) (S.2 v0 0) fun a4 => g_ix (16 : Int32) 270 fun i5 => if (S.1 a4 i5) ≤ v5 then (some (.inr (v3, v4, S))) else (g_th (g_lp (fun t => b_X8_swap_51 fu v0 v1 v2 v5 t.1 t.2.1 t.2.2.1 t.2.2.2) fu (v3, v4, (v5 + (1 : Int32)), S)) fun e => match e with | (w3_2, w4_2, S2) => some (.inl (w3_2, w4_2, (v5 + 1), S2)))
def j_X8_swap_202 (fu : Nat) (v4 : Int32) (S : g_St) : Option (Int32 × g_St) :=
  some (v4, S)
def f_X8_swap (fu : Nat) (o : Nat) (p0 : Int32) (p1 : Int32) (S : g_St) : Option (Int32 × g_St) :=
  g_bd (f_X8_isLong fu p0 S) fun r1 Sr1 => if r1 = 0 then (some ((-1 : Int32), Sr1)) else (g_bd (f_X8_in fu ((Int32.toInt64 p1)) ((0 : Int64)) ((1 : Int64)) Sr1) fun r2 Sr2 => if r2 = 0 then (some ((-1 : Int32), Sr2)) else (g_bd (f_X8_ticksGo fu o ((0 : Int32)) p0 Sr2) fun r3 Sr3 => g_th (g_lp (fun t => b_X8_swap_33 fu o p0 p1 t.1 t.2.1 t.2.2.1 t.2.2.2) fu (r3, (-4 : Int32), (0 : Int32), Sr3)) fun e => match e with | (w3_3, w4_3, S3) => if w4_3 = (-4 : Int32) then (j_X8_swap_202 fu w4_3 S3) else (if p1 = 0 then (j_X8_swap_202 fu w4_3 S3) else (some (w3_3, S3)))))
set_option maxRecDepth 100000 in
set_option maxHeartbeats 400000 in
theorem vb_X8_swap_74 {x : g_CX} {z : Int32 × g_St} {fu : Nat} (X : g_X 13 x cX8_swap RX8 8 wsX8_swap rm_X8_swap (some .int)) (v0 : Nat) (v1 : Int32) (v2 : Int32) (v3 : Int32) (v4 : Int32) (v5 : Int32) (v6 : Int32) (v7 : Int32) (hk_v0 : v0 < 13 ∧ g_KM v0 = g_kX8) (S : g_St) {r : (Int32 × g_St) ⊕ (g_St)} (h : b_X8_swap_74 fu v0 v1 v2 v3 v4 v5 v6 v7 S = some r) (hc : Sum.elim (fun t : Int32 × g_St => g_V g_KM 13 x 8 (g_qi g_KM 13 x z) t.2 74 [(0, .ref (g_ad x v0)), (1, .int (v1)), (2, .int (v2)), (3, .int (v3)), (4, .int (v4)), (5, .int (v5)), (6, .int (v6)), (7, .int (t.1))] []) (fun e : g_St => g_V g_KM 13 x 8 (g_qi g_KM 13 x z) e 135 [(0, .ref (g_ad x v0)), (1, .int (v1)), (2, .int (v2)), (3, .int (v3)), (4, .int (v4)), (5, .int (v5)), (6, .int (v6))] []) r) : g_V g_KM 13 x 8 (g_qi g_KM 13 x z) S 74 [(0, .ref (g_ad x v0)), (1, .int (v1)), (2, .int (v2)), (3, .int (v3)), (4, .int (v4)), (5, .int (v5)), (6, .int (v6)), (7, .int (v7))] [] := by
  unfold b_X8_swap_74 at h
  refine g_iload X dX8_swap_74 7 rfl ?_
  refine g_bipush X (v := (16)) dX8_swap_76 (by decide) ?_
  refine g_icmp_ge X 135 dX8_swap_78 (by decide) h (fun c_78 h => ?_) (fun c_78 h => ?_)
  · skip
    cases h
    exact g_sub [0, 1, 2, 3, 4, 5, 6] _ rfl hc
  · skip
    refine g_aload_n X dX8_swap_81 0 rfl ?_
    refine g_getr X g_cX8 w_X8_swap_inX8 0 (by decide) w_X8_swap_7 hk_v0 rfl dX8_swap_82 h (fun a9 hk_a9 h => ?_)
    refine g_sipush X (v := (225)) dX8_swap_85 (by decide) ?_
    refine g_iload X dX8_swap_88 7 rfl ?_
    refine g_iadd X dX8_swap_90 ?_
    refine g_iload X dX8_swap_91 5 rfl ?_
    refine g_iadd X dX8_swap_93 ?_
    refine g_aload_n X dX8_swap_94 0 rfl ?_
    refine g_getr X g_cX8 w_X8_swap_inX8 0 (by decide) w_X8_swap_7 hk_v0 rfl dX8_swap_95 h (fun a10 hk_a10 h => ?_)
    refine g_iload X dX8_swap_98 7 rfl ?_
    refine g_iload X dX8_swap_100 6 rfl ?_
    refine g_iadd X dX8_swap_102 ?_
    refine g_iald X hk_a10 dX8_swap_103 h (fun i11 _ h => ?_)
    refine g_iast X hk_a9 dX8_swap_104 h (fun i12 _ h => ?_)
    refine g_aload_n X dX8_swap_105 0 rfl ?_
    refine g_getr X g_cX8 w_X8_swap_inX8 0 (by decide) w_X8_swap_7 hk_v0 rfl dX8_swap_106 h (fun a13 hk_a13 h => ?_)
    refine g_sipush X (v := (225)) dX8_swap_109 (by decide) ?_
    refine g_iload X dX8_swap_112 7 rfl ?_
    refine g_iadd X dX8_swap_114 ?_
    refine g_iload X dX8_swap_115 6 rfl ?_
    refine g_iadd X dX8_swap_117 ?_
    refine g_aload_n X dX8_swap_118 0 rfl ?_
    refine g_getr X g_cX8 w_X8_swap_inX8 0 (by decide) w_X8_swap_7 hk_v0 rfl dX8_swap_119 h (fun a14 hk_a14 h => ?_)
    refine g_iload X dX8_swap_122 7 rfl ?_
    refine g_iload X dX8_swap_124 5 rfl ?_
    refine g_iadd X dX8_swap_126 ?_
    refine g_iald X hk_a14 dX8_swap_127 h (fun i15 _ h => ?_)
    refine g_iast X hk_a13 dX8_swap_128 h (fun i16 _ h => ?_)
    refine g_iinc X [(7, _), (0, _), (1, _), (2, _), (3, _), (4, _), (5, _), (6, _)] dX8_swap_129 7 rfl rfl (by decide) rfl ?_
    refine g_goto X 74 dX8_swap_132 (by decide) ?_
    cases h
    exact g_sub [1, 2, 3, 4, 5, 6, 7, 0] _ rfl hc
set_option maxRecDepth 100000 in
set_option maxHeartbeats 400000 in
theorem vj_X8_swap_178_in51 {x : g_CX} {z : Int32 × g_St} {fu : Nat} (X : g_X 13 x cX8_swap RX8 8 wsX8_swap rm_X8_swap (some .int)) (v0 : Nat) (v1 : Int32) (v2 : Int32) (v4 : Int32) (v5 : Int32) (v6 : Int32) (s0 : Int32) (hk_v0 : v0 < 13 ∧ g_KM v0 = g_kX8) (S : g_St) {r : (Int32 × Int32 × Int32 × g_St) ⊕ (Int32 × Int32 × g_St)} (h : j_X8_swap_178_in51 fu v0 v1 v2 v4 v5 v6 s0 S = some r) (hc : Sum.elim (fun t : Int32 × Int32 × Int32 × g_St => g_V g_KM 13 x 8 (g_qi g_KM 13 x z) t.2.2.2 51 [(0, .ref (g_ad x v0)), (1, .int (v1)), (2, .int (v2)), (3, .int (t.1)), (4, .int (t.2.1)), (5, .int (v5)), (6, .int (t.2.2.1))] []) (fun e : Int32 × Int32 × g_St => g_V g_KM 13 x 8 (g_qi g_KM 13 x z) e.2.2 185 [(0, .ref (g_ad x v0)), (1, .int (v1)), (2, .int (v2)), (3, .int (e.1)), (4, .int (e.2.1)), (5, .int (v5))] []) r) : g_V g_KM 13 x 8 (g_qi g_KM 13 x z) S 178 [(0, .ref (g_ad x v0)), (1, .int (v1)), (2, .int (v2)), (4, .int (v4)), (5, .int (v5)), (6, .int (v6))] [.int (s0)] := by
  unfold j_X8_swap_178_in51 at h
  refine g_istore_n X [(3, _), (0, _), (1, _), (2, _), (4, _), (5, _), (6, _)] dX8_swap_178 (by decide) rfl ?_
  refine g_iinc X [(6, _), (3, _), (0, _), (1, _), (2, _), (4, _), (5, _)] dX8_swap_179 6 rfl rfl (by decide) rfl ?_
  refine g_goto X 51 dX8_swap_182 (by decide) ?_
  cases h
  exact g_sub [2, 3, 4, 1, 5, 6, 0] _ rfl hc
set_option maxRecDepth 100000 in
set_option maxHeartbeats 400000 in
theorem vj_X8_swap_164_in51 {x : g_CX} {z : Int32 × g_St} {fu : Nat} (X : g_X 13 x cX8_swap RX8 8 wsX8_swap rm_X8_swap (some .int)) (v0 : Nat) (v1 : Int32) (v2 : Int32) (v3 : Int32) (v5 : Int32) (v6 : Int32) (v7 : Int32) (s0 : Int32) (hk_v0 : v0 < 13 ∧ g_KM v0 = g_kX8) (S : g_St) {r : (Int32 × Int32 × Int32 × g_St) ⊕ (Int32 × Int32 × g_St)} (h : j_X8_swap_164_in51 fu v0 v1 v2 v3 v5 v6 v7 s0 S = some r) (hc : Sum.elim (fun t : Int32 × Int32 × Int32 × g_St => g_V g_KM 13 x 8 (g_qi g_KM 13 x z) t.2.2.2 51 [(0, .ref (g_ad x v0)), (1, .int (v1)), (2, .int (v2)), (3, .int (t.1)), (4, .int (t.2.1)), (5, .int (v5)), (6, .int (t.2.2.1))] []) (fun e : Int32 × Int32 × g_St => g_V g_KM 13 x 8 (g_qi g_KM 13 x z) e.2.2 185 [(0, .ref (g_ad x v0)), (1, .int (v1)), (2, .int (v2)), (3, .int (e.1)), (4, .int (e.2.1)), (5, .int (v5))] []) r) : g_V g_KM 13 x 8 (g_qi g_KM 13 x z) S 164 [(0, .ref (g_ad x v0)), (1, .int (v1)), (2, .int (v2)), (3, .int (v3)), (5, .int (v5)), (6, .int (v6)), (7, .int (v7))] [.int (s0)] := by
  unfold j_X8_swap_164_in51 at h
  refine g_istore X [(4, _), (0, _), (1, _), (2, _), (3, _), (5, _), (6, _), (7, _)] dX8_swap_164 (by decide) rfl ?_
  refine g_iload X dX8_swap_166 7 rfl ?_
  refine g_iload_n X dX8_swap_168 4 rfl ?_
  refine g_icmp_le X 177 dX8_swap_169 (by decide) h (fun c_169 h => ?_) (fun c_169 h => ?_)
  · skip
    refine g_iload_n X dX8_swap_177 4 rfl ?_
    refine g_sub [1, 2, 3, 0, 5, 6] _ rfl ?_
    exact vj_X8_swap_178_in51 X v0 v1 v2 s0 v5 v6 v3 hk_v0 _ h hc
  · skip
    refine g_iload X dX8_swap_172 7 rfl ?_
    refine g_goto X 178 dX8_swap_174 (by decide) ?_
    refine g_sub [1, 2, 3, 0, 5, 6] _ rfl ?_
    exact vj_X8_swap_178_in51 X v0 v1 v2 s0 v5 v6 v7 hk_v0 _ h hc
set_option maxRecDepth 100000 in
set_option maxHeartbeats 400000 in
theorem vb_X8_swap_51 {x : g_CX} {z : Int32 × g_St} {fu : Nat} (X : g_X 13 x cX8_swap RX8 8 wsX8_swap rm_X8_swap (some .int)) (v0 : Nat) (v1 : Int32) (v2 : Int32) (v5 : Int32) (v3 : Int32) (v4 : Int32) (v6 : Int32) (hk_v0 : v0 < 13 ∧ g_KM v0 = g_kX8) (S : g_St) {r : (Int32 × Int32 × Int32 × g_St) ⊕ (Int32 × Int32 × g_St)} (h : b_X8_swap_51 fu v0 v1 v2 v5 v3 v4 v6 S = some r) (hc : Sum.elim (fun t : Int32 × Int32 × Int32 × g_St => g_V g_KM 13 x 8 (g_qi g_KM 13 x z) t.2.2.2 51 [(0, .ref (g_ad x v0)), (1, .int (v1)), (2, .int (v2)), (3, .int (t.1)), (4, .int (t.2.1)), (5, .int (v5)), (6, .int (t.2.2.1))] []) (fun e : Int32 × Int32 × g_St => g_V g_KM 13 x 8 (g_qi g_KM 13 x z) e.2.2 185 [(0, .ref (g_ad x v0)), (1, .int (v1)), (2, .int (v2)), (3, .int (e.1)), (4, .int (e.2.1)), (5, .int (v5))] []) r) : g_V g_KM 13 x 8 (g_qi g_KM 13 x z) S 51 [(0, .ref (g_ad x v0)), (1, .int (v1)), (2, .int (v2)), (3, .int (v3)), (4, .int (v4)), (5, .int (v5)), (6, .int (v6))] [] := by
  unfold b_X8_swap_51 at h
  refine g_iload X dX8_swap_51 6 rfl ?_
  refine g_aload_n X dX8_swap_53 0 rfl ?_
  refine g_getr X g_cX8 w_X8_swap_inX8 0 (by decide) w_X8_swap_7 hk_v0 rfl dX8_swap_54 h (fun a6 hk_a6 h => ?_)
  refine g_bipush X (v := (16)) dX8_swap_57 (by decide) ?_
  refine g_iald X hk_a6 dX8_swap_59 h (fun i7 _ h => ?_)
  refine g_icmp_ge X 185 dX8_swap_60 (by decide) h (fun c_60 h => ?_) (fun c_60 h => ?_)
  · skip
    cases h
    exact g_sub [0, 1, 2, 3, 4, 5] _ rfl hc
  · skip
    refine g_aload_n X dX8_swap_63 0 rfl ?_
    refine g_iconst X (v := 0) dX8_swap_64 (by decide) ?_
    refine g_sipush X (v := (225)) dX8_swap_65 (by decide) ?_
    refine g_callVv X g_cX8 hk_v0 [.int ((0 : Int32)), .int ((225 : Int32))] rfl (cwV 2 X.2.2.2.2.1 gX8_swap_X8_copies rfl rfl rfl hd_X8_copies ⟨Nat.le_of_ble_eq_true rfl, Nat.le_of_ble_eq_true rfl⟩) (Nat.le_of_ble_eq_true rfl) dX8_swap_68 h (fun q hq => ct_X8_copies X.2.2.2.2.2.2.1 v0 ((0 : Int32)) ((225 : Int32)) hk_v0 _ hq) (fun _ Sr8 h => ?_)
    refine g_iconst X (v := 0) dX8_swap_71 (by decide) ?_
    refine g_istore X [(7, _), (0, _), (1, _), (2, _), (3, _), (4, _), (5, _), (6, _)] dX8_swap_72 (by decide) rfl ?_
    obtain ⟨e, he, h⟩ := g_th_s h
    refine g_sub [1, 2, 3, 4, 5, 6, 7, 0] _ rfl ?_
    refine g_lp_w (body := (fun t => b_X8_swap_74 fu v0 v1 v2 v3 v4 v5 v6 t.1 t.2)) (P := fun t : Int32 × g_St => g_V g_KM 13 x 8 (g_qi g_KM 13 x z) t.2 74 [(0, .ref (g_ad x v0)), (1, .int (v1)), (2, .int (v2)), (3, .int (v3)), (4, .int (v4)), (5, .int (v5)), (6, .int (v6)), (7, .int (t.1))] []) (E := (fun e : g_St => g_V g_KM 13 x 8 (g_qi g_KM 13 x z) e 135 [(0, .ref (g_ad x v0)), (1, .int (v1)), (2, .int (v2)), (3, .int (v3)), (4, .int (v4)), (5, .int (v5)), (6, .int (v6))] [])) (fun t r hb hc => vb_X8_swap_74 X v0 v1 v2 v3 v4 v5 v6 t.1 hk_v0 t.2 hb hc) fu ((0 : Int32), Sr8) e he ?_
    obtain ⟨S1, rfl⟩ : ∃ q, q = e := ⟨_, rfl⟩
    show g_V g_KM 13 x 8 (g_qi g_KM 13 x z) S1 135 [(0, .ref (g_ad x v0)), (1, .int (v1)), (2, .int (v2)), (3, .int (v3)), (4, .int (v4)), (5, .int (v5)), (6, .int (v6))] []
    refine g_aload_n X dX8_swap_135 0 rfl ?_
    refine g_sipush X (v := (225)) dX8_swap_136 (by decide) ?_
    refine g_iload_n X dX8_swap_139 1 rfl ?_
    refine g_callVi X g_cX8 hk_v0 [.int ((225 : Int32)), .int (v1)] rfl (cwV 2 X.2.2.2.2.1 gX8_swap_X8_ticksGo rfl rfl rfl hd_X8_ticksGo ⟨Nat.le_of_ble_eq_true rfl, Nat.le_of_ble_eq_true rfl⟩) (Nat.le_of_ble_eq_true rfl) dX8_swap_140 h (fun q hq => ct_X8_ticksGo X.2.2.2.2.2.2.1 v0 ((225 : Int32)) v1 hk_v0 _ hq) (fun r17 Sr17 h => ?_)
    refine g_istore X [(7, _), (0, _), (1, _), (2, _), (3, _), (4, _), (5, _), (6, _)] dX8_swap_143 (by decide) rfl ?_
    refine g_iload X dX8_swap_145 0 rfl ?_
    refine g_iload_n X dX8_swap_147 4 rfl ?_
    refine g_icmp_le X 162 dX8_swap_148 (by decide) h (fun c_148 h => ?_) (fun c_148 h => ?_)
    · skip
      refine g_iload X dX8_swap_162 5 rfl ?_
      refine g_sub [1, 2, 3, 4, 6, 7, 0] _ rfl ?_
      exact vj_X8_swap_164_in51 X v0 v1 v2 v3 v5 v6 r17 v4 hk_v0 _ h hc
    · skip
      refine g_bipush X (v := (10)) dX8_swap_151 (by decide) ?_
      refine g_iload X dX8_swap_153 6 rfl ?_
      refine g_imul X dX8_swap_155 ?_
      refine g_iload X dX8_swap_156 7 rfl ?_
      refine g_iadd X dX8_swap_158 ?_
      refine g_goto X 164 dX8_swap_159 (by decide) ?_
      refine g_sub [1, 2, 3, 4, 6, 7, 0] _ rfl ?_
      exact vj_X8_swap_164_in51 X v0 v1 v2 v3 v5 v6 r17 ((((10 : Int32) * v5) + v6)) hk_v0 _ h hc
set_option maxRecDepth 100000 in
set_option maxHeartbeats 400000 in
theorem vb_X8_swap_33 {x : g_CX} {z : Int32 × g_St} {fu : Nat} (X : g_X 13 x cX8_swap RX8 8 wsX8_swap rm_X8_swap (some .int)) (v0 : Nat) (v1 : Int32) (v2 : Int32) (v3 : Int32) (v4 : Int32) (v5 : Int32) (hk_v0 : v0 < 13 ∧ g_KM v0 = g_kX8) (S : g_St) {r : (Int32 × Int32 × Int32 × g_St) ⊕ (Int32 × Int32 × g_St)} (h : b_X8_swap_33 fu v0 v1 v2 v3 v4 v5 S = some r) (hc : Sum.elim (fun t : Int32 × Int32 × Int32 × g_St => g_V g_KM 13 x 8 (g_qi g_KM 13 x z) t.2.2.2 33 [(0, .ref (g_ad x v0)), (1, .int (v1)), (2, .int (v2)), (3, .int (t.1)), (4, .int (t.2.1)), (5, .int (t.2.2.1))] []) (fun e : Int32 × Int32 × g_St => g_V g_KM 13 x 8 (g_qi g_KM 13 x z) e.2.2 191 [(2, .int (v2)), (3, .int (e.1)), (4, .int (e.2.1))] []) r) : g_V g_KM 13 x 8 (g_qi g_KM 13 x z) S 33 [(0, .ref (g_ad x v0)), (1, .int (v1)), (2, .int (v2)), (3, .int (v3)), (4, .int (v4)), (5, .int (v5))] [] := by
  unfold b_X8_swap_33 at h
  refine g_iload X dX8_swap_33 5 rfl ?_
  refine g_aload_n X dX8_swap_35 0 rfl ?_
  refine g_getr X g_cX8 w_X8_swap_inX8 0 (by decide) w_X8_swap_7 hk_v0 rfl dX8_swap_36 h (fun a4 hk_a4 h => ?_)
  refine g_bipush X (v := (16)) dX8_swap_39 (by decide) ?_
  refine g_iald X hk_a4 dX8_swap_41 h (fun i5 _ h => ?_)
  refine g_icmp_ge X 191 dX8_swap_42 (by decide) h (fun c_42 h => ?_) (fun c_42 h => ?_)
  · skip
    cases h
    exact g_sub [2, 3, 4] _ rfl hc
  · skip
    refine g_iload X dX8_swap_45 5 rfl ?_
    refine g_iconst X (v := 1) dX8_swap_47 (by decide) ?_
    refine g_iadd X dX8_swap_48 ?_
    refine g_istore X [(6, _), (0, _), (1, _), (2, _), (3, _), (4, _), (5, _)] dX8_swap_49 (by decide) rfl ?_
    obtain ⟨e, he, h⟩ := g_th_s h
    refine g_sub [1, 2, 3, 4, 5, 6, 0] _ rfl ?_
    refine g_lp_w (body := (fun t => b_X8_swap_51 fu v0 v1 v2 v5 t.1 t.2.1 t.2.2.1 t.2.2.2)) (P := fun t : Int32 × Int32 × Int32 × g_St => g_V g_KM 13 x 8 (g_qi g_KM 13 x z) t.2.2.2 51 [(0, .ref (g_ad x v0)), (1, .int (v1)), (2, .int (v2)), (3, .int (t.1)), (4, .int (t.2.1)), (5, .int (v5)), (6, .int (t.2.2.1))] []) (E := (fun e : Int32 × Int32 × g_St => g_V g_KM 13 x 8 (g_qi g_KM 13 x z) e.2.2 185 [(0, .ref (g_ad x v0)), (1, .int (v1)), (2, .int (v2)), (3, .int (e.1)), (4, .int (e.2.1)), (5, .int (v5))] [])) (fun t r hb hc => vb_X8_swap_51 X v0 v1 v2 v5 t.1 t.2.1 t.2.2.1 hk_v0 t.2.2.2 hb hc) fu (v3, v4, (v5 + (1 : Int32)), S) e he ?_
    obtain ⟨w3_2, w4_2, S2⟩ := e
    show g_V g_KM 13 x 8 (g_qi g_KM 13 x z) S2 185 [(0, .ref (g_ad x v0)), (1, .int (v1)), (2, .int (v2)), (3, .int (w3_2)), (4, .int (w4_2)), (5, .int (v5))] []
    refine g_iinc X [(5, _), (0, _), (1, _), (2, _), (3, _), (4, _)] dX8_swap_185 5 rfl rfl (by decide) rfl ?_
    refine g_goto X 33 dX8_swap_188 (by decide) ?_
    cases h
    exact g_sub [1, 2, 3, 4, 5, 0] _ rfl hc
set_option maxRecDepth 100000 in
set_option maxHeartbeats 400000 in
theorem vj_X8_swap_202 {x : g_CX} {z : Int32 × g_St} {fu : Nat} (X : g_X 13 x cX8_swap RX8 8 wsX8_swap rm_X8_swap (some .int)) (v4 : Int32)  (S : g_St) (h : j_X8_swap_202 fu v4 S = some z) : g_V g_KM 13 x 8 (g_qi g_KM 13 x z) S 202 [(4, .int (v4))] [] := by
  unfold j_X8_swap_202 at h
  refine g_iload X dX8_swap_202 0 rfl ?_
  refine g_goto X 208 dX8_swap_204 (by decide) ?_
  exact g_iret X h dX8_swap_208
set_option maxRecDepth 100000 in
set_option maxHeartbeats 400000 in
theorem ct_X8_swap {l : Launch} {D : va_G} {ad : Nat → Nat} {cy : Nat → ClassId} {zz : (Nat → Nat) × (Nat → Nat)} (hinj : ∀ i j, i < 13 → j < 13 → ad i = ad j → i = j) {fu : Nat} (o : Nat) (p0 : Int32) (p1 : Int32) (hk_o : o < 13 ∧ g_KM o = g_kX8) {S : g_St} (z : Int32 × g_St) (h : f_X8_swap fu o p0 p1 S = some z) : g_Mi l g_KM 13 D ad cy zz yX8_swap wsX8_swap rm_X8_swap [.ref (ad o), .int (p0), .int (p1)] S z := by
  refine g_ofi hinj (cc := cX8_swap) (maxL := 8) (ret := (some .int)) (lv := [(0, .ref (ad o)), (1, .int (p0)), (2, .int (p1))]) (by decide) rfl (Nat.le_of_ble_eq_true rfl) rfl ?_
  intro x X hl hD ha hy hz
  subst hl hD ha hy hz
  unfold f_X8_swap at h
  refine g_iload_n X dX8_swap_0 1 rfl ?_
  refine g_callSi X [.int (p0)] rfl (va_cwS 1 X.2.2.2.2.1 gX8_swap_X8_isLong rfl rfl rfl hd_X8_isLong ⟨Nat.le_of_ble_eq_true rfl, Nat.le_of_ble_eq_true rfl⟩) (Nat.le_of_ble_eq_true rfl) dX8_swap_1 h (fun q hq => ct_X8_isLong X.2.2.2.2.2.2.1 p0  _ hq) (fun r1 Sr1 h => ?_)
  refine g_if_eq X 17 dX8_swap_4 (by decide) h (fun c_4 h => ?_) (fun c_4 h => ?_)
  · skip
    refine g_iconst X (v := (-1)) dX8_swap_17 (by decide) ?_
    exact g_iret X h dX8_swap_18
  · skip
    refine g_iload_n X dX8_swap_7 2 rfl ?_
    refine g_i2l X dX8_swap_8 ?_
    refine g_lconst X (v := 0) dX8_swap_9 (by decide) ?_
    refine g_lconst X (v := 1) dX8_swap_10 (by decide) ?_
    refine g_callSi X [.long ((Int32.toInt64 p1)), .long ((0 : Int64)), .long ((1 : Int64))] rfl (va_cwS 3 X.2.2.2.2.1 gX8_swap_X8_in rfl rfl rfl hd_X8_in ⟨Nat.le_of_ble_eq_true rfl, Nat.le_of_ble_eq_true rfl⟩) (Nat.le_of_ble_eq_true rfl) dX8_swap_11 h (fun q hq => ct_X8_in X.2.2.2.2.2.2.1 ((Int32.toInt64 p1)) ((0 : Int64)) ((1 : Int64))  _ hq) (fun r2 Sr2 h => ?_)
    refine g_if_ne X 19 dX8_swap_14 (by decide) h (fun c_14 h => ?_) (fun c_14 h => ?_)
    · skip
      refine g_aload_n X dX8_swap_19 0 rfl ?_
      refine g_iconst X (v := 0) dX8_swap_20 (by decide) ?_
      refine g_iload_n X dX8_swap_21 1 rfl ?_
      refine g_callVi X g_cX8 hk_o [.int ((0 : Int32)), .int (p0)] rfl (cwV 2 X.2.2.2.2.1 gX8_swap_X8_ticksGo rfl rfl rfl hd_X8_ticksGo ⟨Nat.le_of_ble_eq_true rfl, Nat.le_of_ble_eq_true rfl⟩) (Nat.le_of_ble_eq_true rfl) dX8_swap_22 h (fun q hq => ct_X8_ticksGo X.2.2.2.2.2.2.1 o ((0 : Int32)) p0 hk_o _ hq) (fun r3 Sr3 h => ?_)
      refine g_istore_n X [(3, _), (0, _), (1, _), (2, _)] dX8_swap_25 (by decide) rfl ?_
      refine g_bipush X (v := (-4)) dX8_swap_26 (by decide) ?_
      refine g_istore X [(4, _), (3, _), (0, _), (1, _), (2, _)] dX8_swap_28 (by decide) rfl ?_
      refine g_iconst X (v := 0) dX8_swap_30 (by decide) ?_
      refine g_istore X [(5, _), (4, _), (3, _), (0, _), (1, _), (2, _)] dX8_swap_31 (by decide) rfl ?_
      obtain ⟨e, he, h⟩ := g_th_s h
      refine g_sub [3, 4, 5, 2, 1, 0] _ rfl ?_
      refine g_lp_w (body := (fun t => b_X8_swap_33 fu o p0 p1 t.1 t.2.1 t.2.2.1 t.2.2.2)) (P := fun t : Int32 × Int32 × Int32 × g_St => g_V g_KM 13 x 8 (g_qi g_KM 13 x z) t.2.2.2 33 [(0, .ref (g_ad x o)), (1, .int (p0)), (2, .int (p1)), (3, .int (t.1)), (4, .int (t.2.1)), (5, .int (t.2.2.1))] []) (E := (fun e : Int32 × Int32 × g_St => g_V g_KM 13 x 8 (g_qi g_KM 13 x z) e.2.2 191 [(2, .int (p1)), (3, .int (e.1)), (4, .int (e.2.1))] [])) (fun t r hb hc => vb_X8_swap_33 X o p0 p1 t.1 t.2.1 t.2.2.1 hk_o t.2.2.2 hb hc) fu (r3, (-4 : Int32), (0 : Int32), Sr3) e he ?_
      obtain ⟨w3_3, w4_3, S3⟩ := e
      show g_V g_KM 13 x 8 (g_qi g_KM 13 x z) S3 191 [(2, .int (p1)), (3, .int (w3_3)), (4, .int (w4_3))] []
      refine g_iload X dX8_swap_191 2 rfl ?_
      refine g_bipush X (v := (-4)) dX8_swap_193 (by decide) ?_
      refine g_icmp_eq X 202 dX8_swap_195 (by decide) h (fun c_195 h => ?_) (fun c_195 h => ?_)
      · skip
        refine g_sub [2] _ rfl ?_
        exact vj_X8_swap_202 X w4_3  _ h
      · skip
        refine g_iload_n X dX8_swap_198 0 rfl ?_
        refine g_if_ne X 207 dX8_swap_199 (by decide) h (fun c_199 h => ?_) (fun c_199 h => ?_)
        · skip
          refine g_iload_n X dX8_swap_207 1 rfl ?_
          exact g_iret X h dX8_swap_208
        · skip
          refine g_sub [2] _ rfl ?_
          exact vj_X8_swap_202 X w4_3  _ h
    · skip
      refine g_iconst X (v := (-1)) dX8_swap_17 (by decide) ?_
      exact g_iret X h dX8_swap_18
abbrev rm_X8_open : Room := { frames := 5, cells := 0, slots := 0, locals := 114 }
theorem hd_X8_open : yX8_open.cls = RX8 ∧ yX8_open.cls ≠ "java/lang/invoke/MethodHandle" ∧ yX8_open.cls ≠ "java/lang/invoke/VarHandle" ∧ (parseMethodDescriptor yX8_open.desc).map (fun d => d.parameters.length) = some 2 := by decide +kernel
theorem w_X8_open_7 : Cond.fieldLink RX8 7 "TokenDoorsModel" "state" "[I" ∈ wsX8_open := by decide +kernel
theorem w_X8_open_inX8 : ∀ w ∈ wsX80, w ∈ wsX8_open := by decide +kernel
theorem w_X8_open_25 : Cond.fieldLink RX8 25 "TokenDoorsModel" "opened" "I" ∈ wsX8_open := by decide +kernel
def j_X8_open_92_in33 (fu : Nat) (v0 : Nat) (v1 : Int32) (v2 : Int32) (v4 : Int32) (v5 : Int32) (s0 : Int32) (S : g_St) : Option ((Int32 × Int32 × Int32 × g_St) ⊕ (Int32 × Int32 × g_St)) :=
  some (.inl (s0, v4, (v5 + 1), S))
def j_X8_open_78_in33 (fu : Nat) (v0 : Nat) (v1 : Int32) (v2 : Int32) (v3 : Int32) (v5 : Int32) (v6 : Int32) (s0 : Int32) (S : g_St) : Option ((Int32 × Int32 × Int32 × g_St) ⊕ (Int32 × Int32 × g_St)) :=
  if v6 ≤ v3 then (j_X8_open_92_in33 fu v0 v1 v2 s0 v5 v3 S) else (j_X8_open_92_in33 fu v0 v1 v2 s0 v5 v6 S)
def b_X8_open_33 (fu : Nat) (v0 : Nat) (v1 : Int32) (v2 : Int32) (v3 : Int32) (v4 : Int32) (v5 : Int32) (S : g_St) : Option ((Int32 × Int32 × Int32 × g_St) ⊕ (Int32 × Int32 × g_St)) :=
  g_ld g_KM 13 (.inr (0, 270, false)) (S.2 v0 0) fun a4 => g_ix (16 : Int32) 270 fun i5 => if (S.1 a4 i5) ≤ v5 then (some (.inr (v3, v4, S))) else (g_bd (f_X8_ticksGo fu v0 ((0 : Int32)) v1 (g_u S.1 v0 13 v5, S.2)) fun r6 Sr6 => if r6 ≤ v3 then (j_X8_open_78_in33 fu v0 v1 v2 v3 v5 r6 v4 (g_u Sr6.1 v0 13 (-4 : Int32), Sr6.2)) else (j_X8_open_78_in33 fu v0 v1 v2 v3 v5 r6 v5 (g_u Sr6.1 v0 13 (-4 : Int32), Sr6.2)))
def j_X8_open_110 (fu : Nat) (v4 : Int32) (S : g_St) : Option (Int32 × g_St) :=
  some (v4, S)
def f_X8_open (fu : Nat) (o : Nat) (p0 : Int32) (p1 : Int32) (S : g_St) : Option (Int32 × g_St) :=
  g_bd (f_X8_isLong fu p0 S) fun r1 Sr1 => if r1 = 0 then (some ((-1 : Int32), Sr1)) else (g_bd (f_X8_in fu ((Int32.toInt64 p1)) ((0 : Int64)) ((1 : Int64)) Sr1) fun r2 Sr2 => if r2 = 0 then (some ((-1 : Int32), Sr2)) else (g_bd (f_X8_ticksGo fu o ((0 : Int32)) p0 Sr2) fun r3 Sr3 => g_th (g_lp (fun t => b_X8_open_33 fu o p0 p1 t.1 t.2.1 t.2.2.1 t.2.2.2) fu (r3, (-4 : Int32), (0 : Int32), Sr3)) fun e => match e with | (w3_1, w4_1, S1) => if w4_1 = (-4 : Int32) then (j_X8_open_110 fu w4_1 S1) else (if p1 = 0 then (j_X8_open_110 fu w4_1 S1) else (some (w3_1, S1)))))
set_option maxRecDepth 100000 in
set_option maxHeartbeats 400000 in
theorem vj_X8_open_92_in33 {x : g_CX} {z : Int32 × g_St} {fu : Nat} (X : g_X 13 x cX8_open RX8 7 wsX8_open rm_X8_open (some .int)) (v0 : Nat) (v1 : Int32) (v2 : Int32) (v4 : Int32) (v5 : Int32) (s0 : Int32) (hk_v0 : v0 < 13 ∧ g_KM v0 = g_kX8) (S : g_St) {r : (Int32 × Int32 × Int32 × g_St) ⊕ (Int32 × Int32 × g_St)} (h : j_X8_open_92_in33 fu v0 v1 v2 v4 v5 s0 S = some r) (hc : Sum.elim (fun t : Int32 × Int32 × Int32 × g_St => g_V g_KM 13 x 7 (g_qi g_KM 13 x z) t.2.2.2 33 [(0, .ref (g_ad x v0)), (1, .int (v1)), (2, .int (v2)), (3, .int (t.1)), (4, .int (t.2.1)), (5, .int (t.2.2.1))] []) (fun e : Int32 × Int32 × g_St => g_V g_KM 13 x 7 (g_qi g_KM 13 x z) e.2.2 99 [(2, .int (v2)), (3, .int (e.1)), (4, .int (e.2.1))] []) r) : g_V g_KM 13 x 7 (g_qi g_KM 13 x z) S 92 [(0, .ref (g_ad x v0)), (1, .int (v1)), (2, .int (v2)), (4, .int (v4)), (5, .int (v5))] [.int (s0)] := by
  unfold j_X8_open_92_in33 at h
  refine g_istore_n X [(3, _), (0, _), (1, _), (2, _), (4, _), (5, _)] dX8_open_92 (by decide) rfl ?_
  refine g_iinc X [(5, _), (3, _), (0, _), (1, _), (2, _), (4, _)] dX8_open_93 5 rfl rfl (by decide) rfl ?_
  refine g_goto X 33 dX8_open_96 (by decide) ?_
  cases h
  exact g_sub [2, 3, 4, 1, 5, 0] _ rfl hc
set_option maxRecDepth 100000 in
set_option maxHeartbeats 400000 in
theorem vj_X8_open_78_in33 {x : g_CX} {z : Int32 × g_St} {fu : Nat} (X : g_X 13 x cX8_open RX8 7 wsX8_open rm_X8_open (some .int)) (v0 : Nat) (v1 : Int32) (v2 : Int32) (v3 : Int32) (v5 : Int32) (v6 : Int32) (s0 : Int32) (hk_v0 : v0 < 13 ∧ g_KM v0 = g_kX8) (S : g_St) {r : (Int32 × Int32 × Int32 × g_St) ⊕ (Int32 × Int32 × g_St)} (h : j_X8_open_78_in33 fu v0 v1 v2 v3 v5 v6 s0 S = some r) (hc : Sum.elim (fun t : Int32 × Int32 × Int32 × g_St => g_V g_KM 13 x 7 (g_qi g_KM 13 x z) t.2.2.2 33 [(0, .ref (g_ad x v0)), (1, .int (v1)), (2, .int (v2)), (3, .int (t.1)), (4, .int (t.2.1)), (5, .int (t.2.2.1))] []) (fun e : Int32 × Int32 × g_St => g_V g_KM 13 x 7 (g_qi g_KM 13 x z) e.2.2 99 [(2, .int (v2)), (3, .int (e.1)), (4, .int (e.2.1))] []) r) : g_V g_KM 13 x 7 (g_qi g_KM 13 x z) S 78 [(0, .ref (g_ad x v0)), (1, .int (v1)), (2, .int (v2)), (3, .int (v3)), (5, .int (v5)), (6, .int (v6))] [.int (s0)] := by
  unfold j_X8_open_78_in33 at h
  refine g_istore X [(4, _), (0, _), (1, _), (2, _), (3, _), (5, _), (6, _)] dX8_open_78 (by decide) rfl ?_
  refine g_iload X dX8_open_80 6 rfl ?_
  refine g_iload_n X dX8_open_82 4 rfl ?_
  refine g_icmp_le X 91 dX8_open_83 (by decide) h (fun c_83 h => ?_) (fun c_83 h => ?_)
  · skip
    refine g_iload_n X dX8_open_91 4 rfl ?_
    refine g_sub [1, 2, 3, 0, 5] _ rfl ?_
    exact vj_X8_open_92_in33 X v0 v1 v2 s0 v5 v3 hk_v0 _ h hc
  · skip
    refine g_iload X dX8_open_86 6 rfl ?_
    refine g_goto X 92 dX8_open_88 (by decide) ?_
    refine g_sub [1, 2, 3, 0, 5] _ rfl ?_
    exact vj_X8_open_92_in33 X v0 v1 v2 s0 v5 v6 hk_v0 _ h hc
set_option maxRecDepth 100000 in
set_option maxHeartbeats 400000 in
theorem vb_X8_open_33 {x : g_CX} {z : Int32 × g_St} {fu : Nat} (X : g_X 13 x cX8_open RX8 7 wsX8_open rm_X8_open (some .int)) (v0 : Nat) (v1 : Int32) (v2 : Int32) (v3 : Int32) (v4 : Int32) (v5 : Int32) (hk_v0 : v0 < 13 ∧ g_KM v0 = g_kX8) (S : g_St) {r : (Int32 × Int32 × Int32 × g_St) ⊕ (Int32 × Int32 × g_St)} (h : b_X8_open_33 fu v0 v1 v2 v3 v4 v5 S = some r) (hc : Sum.elim (fun t : Int32 × Int32 × Int32 × g_St => g_V g_KM 13 x 7 (g_qi g_KM 13 x z) t.2.2.2 33 [(0, .ref (g_ad x v0)), (1, .int (v1)), (2, .int (v2)), (3, .int (t.1)), (4, .int (t.2.1)), (5, .int (t.2.2.1))] []) (fun e : Int32 × Int32 × g_St => g_V g_KM 13 x 7 (g_qi g_KM 13 x z) e.2.2 99 [(2, .int (v2)), (3, .int (e.1)), (4, .int (e.2.1))] []) r) : g_V g_KM 13 x 7 (g_qi g_KM 13 x z) S 33 [(0, .ref (g_ad x v0)), (1, .int (v1)), (2, .int (v2)), (3, .int (v3)), (4, .int (v4)), (5, .int (v5))] [] := by
  unfold b_X8_open_33 at h
  refine g_iload X dX8_open_33 5 rfl ?_
  refine g_aload_n X dX8_open_35 0 rfl ?_
  refine g_getr X g_cX8 w_X8_open_inX8 0 (by decide) w_X8_open_7 hk_v0 rfl dX8_open_36 h (fun a4 hk_a4 h => ?_)
  refine g_bipush X (v := (16)) dX8_open_39 (by decide) ?_
  refine g_iald X hk_a4 dX8_open_41 h (fun i5 _ h => ?_)
  refine g_icmp_ge X 99 dX8_open_42 (by decide) h (fun c_42 h => ?_) (fun c_42 h => ?_)
  · skip
    cases h
    exact g_sub [2, 3, 4] _ rfl hc
  · skip
    refine g_aload_n X dX8_open_45 0 rfl ?_
    refine g_iload X dX8_open_46 5 rfl ?_
    refine g_puti X g_cX8 w_X8_open_inX8 13 (by decide) w_X8_open_25 hk_v0 rfl rfl (t := .int) (by decide +kernel) rfl rfl dX8_open_48 ?_
    refine g_aload_n X dX8_open_51 0 rfl ?_
    refine g_iconst X (v := 0) dX8_open_52 (by decide) ?_
    refine g_iload_n X dX8_open_53 1 rfl ?_
    refine g_callVi X g_cX8 hk_v0 [.int ((0 : Int32)), .int (v1)] rfl (cwV 2 X.2.2.2.2.1 gX8_open_X8_ticksGo rfl rfl rfl hd_X8_ticksGo ⟨Nat.le_of_ble_eq_true rfl, Nat.le_of_ble_eq_true rfl⟩) (Nat.le_of_ble_eq_true rfl) dX8_open_54 h (fun q hq => ct_X8_ticksGo X.2.2.2.2.2.2.1 v0 ((0 : Int32)) v1 hk_v0 _ hq) (fun r6 Sr6 h => ?_)
    refine g_istore X [(6, _), (0, _), (1, _), (2, _), (3, _), (4, _), (5, _)] dX8_open_57 (by decide) rfl ?_
    refine g_aload_n X dX8_open_59 1 rfl ?_
    refine g_bipush X (v := (-4)) dX8_open_60 (by decide) ?_
    refine g_puti X g_cX8 w_X8_open_inX8 13 (by decide) w_X8_open_25 hk_v0 rfl rfl (t := .int) (by decide +kernel) rfl rfl dX8_open_62 ?_
    refine g_iload X dX8_open_65 0 rfl ?_
    refine g_iload_n X dX8_open_67 4 rfl ?_
    refine g_icmp_le X 76 dX8_open_68 (by decide) h (fun c_68 h => ?_) (fun c_68 h => ?_)
    · skip
      refine g_iload X dX8_open_76 5 rfl ?_
      refine g_sub [1, 2, 3, 4, 6, 0] _ rfl ?_
      exact vj_X8_open_78_in33 X v0 v1 v2 v3 v5 r6 v4 hk_v0 _ h hc
    · skip
      refine g_iload X dX8_open_71 6 rfl ?_
      refine g_goto X 78 dX8_open_73 (by decide) ?_
      refine g_sub [1, 2, 3, 4, 6, 0] _ rfl ?_
      exact vj_X8_open_78_in33 X v0 v1 v2 v3 v5 r6 v5 hk_v0 _ h hc
set_option maxRecDepth 100000 in
set_option maxHeartbeats 400000 in
theorem vj_X8_open_110 {x : g_CX} {z : Int32 × g_St} {fu : Nat} (X : g_X 13 x cX8_open RX8 7 wsX8_open rm_X8_open (some .int)) (v4 : Int32)  (S : g_St) (h : j_X8_open_110 fu v4 S = some z) : g_V g_KM 13 x 7 (g_qi g_KM 13 x z) S 110 [(4, .int (v4))] [] := by
  unfold j_X8_open_110 at h
  refine g_iload X dX8_open_110 0 rfl ?_
  refine g_goto X 116 dX8_open_112 (by decide) ?_
  exact g_iret X h dX8_open_116
set_option maxRecDepth 100000 in
set_option maxHeartbeats 400000 in
theorem ct_X8_open {l : Launch} {D : va_G} {ad : Nat → Nat} {cy : Nat → ClassId} {zz : (Nat → Nat) × (Nat → Nat)} (hinj : ∀ i j, i < 13 → j < 13 → ad i = ad j → i = j) {fu : Nat} (o : Nat) (p0 : Int32) (p1 : Int32) (hk_o : o < 13 ∧ g_KM o = g_kX8) {S : g_St} (z : Int32 × g_St) (h : f_X8_open fu o p0 p1 S = some z) : g_Mi l g_KM 13 D ad cy zz yX8_open wsX8_open rm_X8_open [.ref (ad o), .int (p0), .int (p1)] S z := by
  refine g_ofi hinj (cc := cX8_open) (maxL := 7) (ret := (some .int)) (lv := [(0, .ref (ad o)), (1, .int (p0)), (2, .int (p1))]) (by decide) rfl (Nat.le_of_ble_eq_true rfl) rfl ?_
  intro x X hl hD ha hy hz
  subst hl hD ha hy hz
  unfold f_X8_open at h
  refine g_iload_n X dX8_open_0 1 rfl ?_
  refine g_callSi X [.int (p0)] rfl (va_cwS 1 X.2.2.2.2.1 gX8_open_X8_isLong rfl rfl rfl hd_X8_isLong ⟨Nat.le_of_ble_eq_true rfl, Nat.le_of_ble_eq_true rfl⟩) (Nat.le_of_ble_eq_true rfl) dX8_open_1 h (fun q hq => ct_X8_isLong X.2.2.2.2.2.2.1 p0  _ hq) (fun r1 Sr1 h => ?_)
  refine g_if_eq X 17 dX8_open_4 (by decide) h (fun c_4 h => ?_) (fun c_4 h => ?_)
  · skip
    refine g_iconst X (v := (-1)) dX8_open_17 (by decide) ?_
    exact g_iret X h dX8_open_18
  · skip
    refine g_iload_n X dX8_open_7 2 rfl ?_
    refine g_i2l X dX8_open_8 ?_
    refine g_lconst X (v := 0) dX8_open_9 (by decide) ?_
    refine g_lconst X (v := 1) dX8_open_10 (by decide) ?_
    refine g_callSi X [.long ((Int32.toInt64 p1)), .long ((0 : Int64)), .long ((1 : Int64))] rfl (va_cwS 3 X.2.2.2.2.1 gX8_open_X8_in rfl rfl rfl hd_X8_in ⟨Nat.le_of_ble_eq_true rfl, Nat.le_of_ble_eq_true rfl⟩) (Nat.le_of_ble_eq_true rfl) dX8_open_11 h (fun q hq => ct_X8_in X.2.2.2.2.2.2.1 ((Int32.toInt64 p1)) ((0 : Int64)) ((1 : Int64))  _ hq) (fun r2 Sr2 h => ?_)
    refine g_if_ne X 19 dX8_open_14 (by decide) h (fun c_14 h => ?_) (fun c_14 h => ?_)
    · skip
      refine g_aload_n X dX8_open_19 0 rfl ?_
      refine g_iconst X (v := 0) dX8_open_20 (by decide) ?_
      refine g_iload_n X dX8_open_21 1 rfl ?_
      refine g_callVi X g_cX8 hk_o [.int ((0 : Int32)), .int (p0)] rfl (cwV 2 X.2.2.2.2.1 gX8_open_X8_ticksGo rfl rfl rfl hd_X8_ticksGo ⟨Nat.le_of_ble_eq_true rfl, Nat.le_of_ble_eq_true rfl⟩) (Nat.le_of_ble_eq_true rfl) dX8_open_22 h (fun q hq => ct_X8_ticksGo X.2.2.2.2.2.2.1 o ((0 : Int32)) p0 hk_o _ hq) (fun r3 Sr3 h => ?_)
      refine g_istore_n X [(3, _), (0, _), (1, _), (2, _)] dX8_open_25 (by decide) rfl ?_
      refine g_bipush X (v := (-4)) dX8_open_26 (by decide) ?_
      refine g_istore X [(4, _), (3, _), (0, _), (1, _), (2, _)] dX8_open_28 (by decide) rfl ?_
      refine g_iconst X (v := 0) dX8_open_30 (by decide) ?_
      refine g_istore X [(5, _), (4, _), (3, _), (0, _), (1, _), (2, _)] dX8_open_31 (by decide) rfl ?_
      obtain ⟨e, he, h⟩ := g_th_s h
      refine g_sub [3, 4, 5, 2, 1, 0] _ rfl ?_
      refine g_lp_w (body := (fun t => b_X8_open_33 fu o p0 p1 t.1 t.2.1 t.2.2.1 t.2.2.2)) (P := fun t : Int32 × Int32 × Int32 × g_St => g_V g_KM 13 x 7 (g_qi g_KM 13 x z) t.2.2.2 33 [(0, .ref (g_ad x o)), (1, .int (p0)), (2, .int (p1)), (3, .int (t.1)), (4, .int (t.2.1)), (5, .int (t.2.2.1))] []) (E := (fun e : Int32 × Int32 × g_St => g_V g_KM 13 x 7 (g_qi g_KM 13 x z) e.2.2 99 [(2, .int (p1)), (3, .int (e.1)), (4, .int (e.2.1))] [])) (fun t r hb hc => vb_X8_open_33 X o p0 p1 t.1 t.2.1 t.2.2.1 hk_o t.2.2.2 hb hc) fu (r3, (-4 : Int32), (0 : Int32), Sr3) e he ?_
      obtain ⟨w3_1, w4_1, S1⟩ := e
      show g_V g_KM 13 x 7 (g_qi g_KM 13 x z) S1 99 [(2, .int (p1)), (3, .int (w3_1)), (4, .int (w4_1))] []
      refine g_iload X dX8_open_99 2 rfl ?_
      refine g_bipush X (v := (-4)) dX8_open_101 (by decide) ?_
      refine g_icmp_eq X 110 dX8_open_103 (by decide) h (fun c_103 h => ?_) (fun c_103 h => ?_)
      · skip
        refine g_sub [2] _ rfl ?_
        exact vj_X8_open_110 X w4_1  _ h
      · skip
        refine g_iload_n X dX8_open_106 0 rfl ?_
        refine g_if_ne X 115 dX8_open_107 (by decide) h (fun c_107 h => ?_) (fun c_107 h => ?_)
        · skip
          refine g_iload_n X dX8_open_115 1 rfl ?_
          exact g_iret X h dX8_open_116
        · skip
          refine g_sub [2] _ rfl ?_
          exact vj_X8_open_110 X w4_1  _ h
    · skip
      refine g_iconst X (v := (-1)) dX8_open_17 (by decide) ?_
      exact g_iret X h dX8_open_18
