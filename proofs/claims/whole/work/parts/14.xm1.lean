abbrev rm_X8_in : Room := { frames := 0, cells := 0, slots := 0, locals := 0 }
theorem hd_X8_in : yX8_in.cls ≠ "java/lang/invoke/MethodHandle" ∧ yX8_in.cls ≠ "java/lang/invoke/VarHandle" ∧ (parseMethodDescriptor yX8_in.desc).map (fun d => d.parameters.length) = some 3 := by decide +kernel
def f_X8_in (fu : Nat) (p0 : Int64) (p1 : Int64) (p2 : Int64) (S : g_St) : Option (Int32 × g_St) :=
  if (lg_cmp p0 p1) < 0 then (g_zb (0 : Int32) (some ((0 : Int32), S))) else (if 0 < (lg_cmp p0 p2) then (g_zb (0 : Int32) (some ((0 : Int32), S))) else (g_zb (1 : Int32) (some ((1 : Int32), S))))
set_option maxRecDepth 100000 in
set_option maxHeartbeats 400000 in
theorem ct_X8_in {l : Launch} {D : va_G} {ad : Nat → Nat} {cy : Nat → ClassId} {zz : (Nat → Nat) × (Nat → Nat)} (hinj : ∀ i j, i < 13 → j < 13 → ad i = ad j → i = j) {fu : Nat} (p0 : Int64) (p1 : Int64) (p2 : Int64)  {S : g_St} (z : Int32 × g_St) (h : f_X8_in fu p0 p1 p2 S = some z) : g_Mi l g_KM 13 D ad cy zz yX8_in wsX8_in rm_X8_in [.long (p0), .long (p1), .long (p2)] S z := by
  refine g_ofi hinj (cc := cX8_in) (maxL := 6) (ret := (some .boolean)) (lv := [(0, .long (p0)), (2, .long (p1)), (4, .long (p2))]) (by decide) rfl (Nat.le_of_ble_eq_true rfl) rfl ?_
  intro x X hl hD ha hy hz
  subst hl hD ha hy hz
  unfold f_X8_in at h
  refine g_lload_n X dX8_in_0 0 rfl ?_
  refine g_lload_n X dX8_in_1 1 rfl ?_
  refine g_lcmp X dX8_in_2 ?_
  refine g_if_lt X 17 dX8_in_3 (by decide) h (fun c_3 h => ?_) (fun c_3 h => ?_)
  · skip
    refine g_iconst X (v := 0) dX8_in_17 (by decide) ?_
    exact g_zret X h dX8_in_18
  · skip
    refine g_lload_n X dX8_in_6 0 rfl ?_
    refine g_lload X dX8_in_7 2 rfl ?_
    refine g_lcmp X dX8_in_9 ?_
    refine g_if_gt X 17 dX8_in_10 (by decide) h (fun c_10 h => ?_) (fun c_10 h => ?_)
    · skip
      refine g_iconst X (v := 0) dX8_in_17 (by decide) ?_
      exact g_zret X h dX8_in_18
    · skip
      refine g_iconst X (v := 1) dX8_in_13 (by decide) ?_
      refine g_goto X 18 dX8_in_14 (by decide) ?_
      exact g_zret X h dX8_in_18
abbrev rm_X8_feed : Room := { frames := 1, cells := 0, slots := 0, locals := 25 }
theorem hd_X8_feed : yX8_feed.cls = RX8 ∧ yX8_feed.cls ≠ "java/lang/invoke/MethodHandle" ∧ yX8_feed.cls ≠ "java/lang/invoke/VarHandle" ∧ (parseMethodDescriptor yX8_feed.desc).map (fun d => d.parameters.length) = some 1 := by decide +kernel
theorem w_X8_feed_51 : Cond.constantLong RX8 51 (127) ∈ wsX8_feed := by decide +kernel
theorem w_X8_feed_57 : Cond.fieldLink RX8 57 "TokenDoorsModel" "taped" "I" ∈ wsX8_feed := by decide +kernel
theorem w_X8_feed_inX8 : ∀ w ∈ wsX80, w ∈ wsX8_feed := by decide +kernel
theorem w_X8_feed_16 : Cond.fieldLink RX8 16 "TokenDoorsModel" "tape" "[I" ∈ wsX8_feed := by decide +kernel
def f_X8_feed (fu : Nat) (o : Nat) (p0 : Int32) (S : g_St) : Option (Int32 × g_St) :=
  g_bd (f_X8_in fu ((Int32.toInt64 p0)) ((0 : Int64)) ((127 : Int64)) S) fun r1 Sr1 => if r1 = 0 then (some ((-1 : Int32), Sr1)) else (if (Sr1.1 o 3) = (160 : Int32) then (some ((-3 : Int32), Sr1)) else (g_ld g_KM 13 (.inr (0, 160, false)) (Sr1.2 o 2) fun a2 => g_ix (Sr1.1 o 3) 160 fun i3 => some (((g_u (g_u Sr1.1 a2 i3 p0) o 3 (((g_u Sr1.1 a2 i3 p0) o 3) + (1 : Int32))) o 3), (g_u (g_u Sr1.1 a2 i3 p0) o 3 (((g_u Sr1.1 a2 i3 p0) o 3) + (1 : Int32)), Sr1.2))))
set_option maxRecDepth 100000 in
set_option maxHeartbeats 400000 in
theorem ct_X8_feed {l : Launch} {D : va_G} {ad : Nat → Nat} {cy : Nat → ClassId} {zz : (Nat → Nat) × (Nat → Nat)} (hinj : ∀ i j, i < 13 → j < 13 → ad i = ad j → i = j) {fu : Nat} (o : Nat) (p0 : Int32) (hk_o : o < 13 ∧ g_KM o = g_kX8) {S : g_St} (z : Int32 × g_St) (h : f_X8_feed fu o p0 S = some z) : g_Mi l g_KM 13 D ad cy zz yX8_feed wsX8_feed rm_X8_feed [.ref (ad o), .int (p0)] S z := by
  refine g_ofi hinj (cc := cX8_feed) (maxL := 2) (ret := (some .int)) (lv := [(0, .ref (ad o)), (1, .int (p0))]) (by decide) rfl (Nat.le_of_ble_eq_true rfl) rfl ?_
  intro x X hl hD ha hy hz
  subst hl hD ha hy hz
  unfold f_X8_feed at h
  refine g_iload_n X dX8_feed_0 1 rfl ?_
  refine g_i2l X dX8_feed_1 ?_
  refine g_lconst X (v := 0) dX8_feed_2 (by decide) ?_
  refine g_ldc2 X w_X8_feed_51 dX8_feed_3 ?_
  refine g_callSi X [.long ((Int32.toInt64 p0)), .long ((0 : Int64)), .long ((127 : Int64))] rfl (va_cwS 3 X.2.2.2.2.1 gX8_feed_X8_in rfl rfl rfl hd_X8_in ⟨Nat.le_of_ble_eq_true rfl, Nat.le_of_ble_eq_true rfl⟩) (Nat.le_of_ble_eq_true rfl) dX8_feed_6 h (fun q hq => ct_X8_in X.2.2.2.2.2.2.1 ((Int32.toInt64 p0)) ((0 : Int64)) ((127 : Int64))  _ hq) (fun r1 Sr1 h => ?_)
  refine g_if_ne X 14 dX8_feed_9 (by decide) h (fun c_9 h => ?_) (fun c_9 h => ?_)
  · skip
    refine g_aload_n X dX8_feed_14 0 rfl ?_
    refine g_geti X g_cX8 w_X8_feed_inX8 3 (by decide) w_X8_feed_57 hk_o rfl dX8_feed_15 ?_
    refine g_sipush X (v := (160)) dX8_feed_18 (by decide) ?_
    refine g_icmp_ne X 27 dX8_feed_21 (by decide) h (fun c_21 h => ?_) (fun c_21 h => ?_)
    · skip
      refine g_aload_n X dX8_feed_27 0 rfl ?_
      refine g_getr X g_cX8 w_X8_feed_inX8 2 (by decide) w_X8_feed_16 hk_o rfl dX8_feed_28 h (fun a2 hk_a2 h => ?_)
      refine g_aload_n X dX8_feed_31 0 rfl ?_
      refine g_geti X g_cX8 w_X8_feed_inX8 3 (by decide) w_X8_feed_57 hk_o rfl dX8_feed_32 ?_
      refine g_iload_n X dX8_feed_35 1 rfl ?_
      refine g_iast X hk_a2 dX8_feed_36 h (fun i3 _ h => ?_)
      refine g_aload_n X dX8_feed_37 0 rfl ?_
      refine g_dup X dX8_feed_38 rfl ?_
      refine g_geti X g_cX8 w_X8_feed_inX8 3 (by decide) w_X8_feed_57 hk_o rfl dX8_feed_39 ?_
      refine g_iconst X (v := 1) dX8_feed_42 (by decide) ?_
      refine g_iadd X dX8_feed_43 ?_
      refine g_puti X g_cX8 w_X8_feed_inX8 3 (by decide) w_X8_feed_57 hk_o rfl rfl (t := .int) (by decide +kernel) rfl rfl dX8_feed_44 ?_
      refine g_aload_n X dX8_feed_47 0 rfl ?_
      refine g_geti X g_cX8 w_X8_feed_inX8 3 (by decide) w_X8_feed_57 hk_o rfl dX8_feed_48 ?_
      exact g_iret X h dX8_feed_51
    · skip
      refine g_bipush X (v := (-3)) dX8_feed_24 (by decide) ?_
      exact g_iret X h dX8_feed_26
  · skip
    refine g_iconst X (v := (-1)) dX8_feed_12 (by decide) ?_
    exact g_iret X h dX8_feed_13
abbrev rm_X8_end : Room := { frames := 1, cells := 0, slots := 0, locals := 25 }
theorem hd_X8_end : yX8_end.cls = RX8 ∧ yX8_end.cls ≠ "java/lang/invoke/MethodHandle" ∧ yX8_end.cls ≠ "java/lang/invoke/VarHandle" ∧ (parseMethodDescriptor yX8_end.desc).map (fun d => d.parameters.length) = some 1 := by decide +kernel
theorem w_X8_end_57 : Cond.fieldLink RX8 57 "TokenDoorsModel" "taped" "I" ∈ wsX8_end := by decide +kernel
theorem w_X8_end_inX8 : ∀ w ∈ wsX80, w ∈ wsX8_end := by decide +kernel
def f_X8_end (fu : Nat) (o : Nat) (p0 : Int32) (S : g_St) : Option (Int32 × g_St) :=
  g_bd (f_X8_in fu ((Int32.toInt64 p0)) ((0 : Int64)) ((Int32.toInt64 (S.1 o 3))) S) fun r1 Sr1 => if r1 = 0 then (some ((-1 : Int32), Sr1)) else (some ((Sr1.1 o 3), (g_u Sr1.1 o 3 p0, Sr1.2)))
set_option maxRecDepth 100000 in
set_option maxHeartbeats 400000 in
theorem ct_X8_end {l : Launch} {D : va_G} {ad : Nat → Nat} {cy : Nat → ClassId} {zz : (Nat → Nat) × (Nat → Nat)} (hinj : ∀ i j, i < 13 → j < 13 → ad i = ad j → i = j) {fu : Nat} (o : Nat) (p0 : Int32) (hk_o : o < 13 ∧ g_KM o = g_kX8) {S : g_St} (z : Int32 × g_St) (h : f_X8_end fu o p0 S = some z) : g_Mi l g_KM 13 D ad cy zz yX8_end wsX8_end rm_X8_end [.ref (ad o), .int (p0)] S z := by
  refine g_ofi hinj (cc := cX8_end) (maxL := 3) (ret := (some .int)) (lv := [(0, .ref (ad o)), (1, .int (p0))]) (by decide) rfl (Nat.le_of_ble_eq_true rfl) rfl ?_
  intro x X hl hD ha hy hz
  subst hl hD ha hy hz
  unfold f_X8_end at h
  refine g_iload_n X dX8_end_0 1 rfl ?_
  refine g_i2l X dX8_end_1 ?_
  refine g_lconst X (v := 0) dX8_end_2 (by decide) ?_
  refine g_aload_n X dX8_end_3 0 rfl ?_
  refine g_geti X g_cX8 w_X8_end_inX8 3 (by decide) w_X8_end_57 hk_o rfl dX8_end_4 ?_
  refine g_i2l X dX8_end_7 ?_
  refine g_callSi X [.long ((Int32.toInt64 p0)), .long ((0 : Int64)), .long ((Int32.toInt64 (S.1 o 3)))] rfl (va_cwS 3 X.2.2.2.2.1 gX8_end_X8_in rfl rfl rfl hd_X8_in ⟨Nat.le_of_ble_eq_true rfl, Nat.le_of_ble_eq_true rfl⟩) (Nat.le_of_ble_eq_true rfl) dX8_end_8 h (fun q hq => ct_X8_in X.2.2.2.2.2.2.1 ((Int32.toInt64 p0)) ((0 : Int64)) ((Int32.toInt64 (S.1 o 3)))  _ hq) (fun r1 Sr1 h => ?_)
  refine g_if_ne X 16 dX8_end_11 (by decide) h (fun c_11 h => ?_) (fun c_11 h => ?_)
  · skip
    refine g_aload_n X dX8_end_16 0 rfl ?_
    refine g_geti X g_cX8 w_X8_end_inX8 3 (by decide) w_X8_end_57 hk_o rfl dX8_end_17 ?_
    refine g_istore_n X [(2, _), (0, _), (1, _)] dX8_end_20 (by decide) rfl ?_
    refine g_aload_n X dX8_end_21 1 rfl ?_
    refine g_iload_n X dX8_end_22 2 rfl ?_
    refine g_puti X g_cX8 w_X8_end_inX8 3 (by decide) w_X8_end_57 hk_o rfl rfl (t := .int) (by decide +kernel) rfl rfl dX8_end_23 ?_
    refine g_iload_n X dX8_end_26 0 rfl ?_
    exact g_iret X h dX8_end_27
  · skip
    refine g_iconst X (v := (-1)) dX8_end_14 (by decide) ?_
    exact g_iret X h dX8_end_15
abbrev rm_X8_byteAt : Room := { frames := 0, cells := 0, slots := 0, locals := 0 }
theorem hd_X8_byteAt : yX8_byteAt.cls = RX8 ∧ yX8_byteAt.cls ≠ "java/lang/invoke/MethodHandle" ∧ yX8_byteAt.cls ≠ "java/lang/invoke/VarHandle" ∧ (parseMethodDescriptor yX8_byteAt.desc).map (fun d => d.parameters.length) = some 1 := by decide +kernel
theorem w_X8_byteAt_57 : Cond.fieldLink RX8 57 "TokenDoorsModel" "taped" "I" ∈ wsX8_byteAt := by decide +kernel
theorem w_X8_byteAt_inX8 : ∀ w ∈ wsX80, w ∈ wsX8_byteAt := by decide +kernel
theorem w_X8_byteAt_16 : Cond.fieldLink RX8 16 "TokenDoorsModel" "tape" "[I" ∈ wsX8_byteAt := by decide +kernel
def f_X8_byteAt (fu : Nat) (o : Nat) (p0 : Int32) (S : g_St) : Option (Int32 × g_St) :=
  if (S.1 o 3) ≤ p0 then (some ((-4 : Int32), S)) else (g_ld g_KM 13 (.inr (0, 160, false)) (S.2 o 2) fun a1 => g_ix p0 160 fun i2 => some ((S.1 a1 i2), S))
set_option maxRecDepth 100000 in
set_option maxHeartbeats 400000 in
theorem ct_X8_byteAt {l : Launch} {D : va_G} {ad : Nat → Nat} {cy : Nat → ClassId} {zz : (Nat → Nat) × (Nat → Nat)} (hinj : ∀ i j, i < 13 → j < 13 → ad i = ad j → i = j) {fu : Nat} (o : Nat) (p0 : Int32) (hk_o : o < 13 ∧ g_KM o = g_kX8) {S : g_St} (z : Int32 × g_St) (h : f_X8_byteAt fu o p0 S = some z) : g_Mi l g_KM 13 D ad cy zz yX8_byteAt wsX8_byteAt rm_X8_byteAt [.ref (ad o), .int (p0)] S z := by
  refine g_ofi hinj (cc := cX8_byteAt) (maxL := 2) (ret := (some .int)) (lv := [(0, .ref (ad o)), (1, .int (p0))]) (by decide) rfl (Nat.le_of_ble_eq_true rfl) rfl ?_
  intro x X hl hD ha hy hz
  subst hl hD ha hy hz
  unfold f_X8_byteAt at h
  refine g_iload_n X dX8_byteAt_0 1 rfl ?_
  refine g_aload_n X dX8_byteAt_1 0 rfl ?_
  refine g_geti X g_cX8 w_X8_byteAt_inX8 3 (by decide) w_X8_byteAt_57 hk_o rfl dX8_byteAt_2 ?_
  refine g_icmp_ge X 17 dX8_byteAt_5 (by decide) h (fun c_5 h => ?_) (fun c_5 h => ?_)
  · skip
    refine g_bipush X (v := (-4)) dX8_byteAt_17 (by decide) ?_
    exact g_iret X h dX8_byteAt_19
  · skip
    refine g_aload_n X dX8_byteAt_8 0 rfl ?_
    refine g_getr X g_cX8 w_X8_byteAt_inX8 2 (by decide) w_X8_byteAt_16 hk_o rfl dX8_byteAt_9 h (fun a1 hk_a1 h => ?_)
    refine g_iload_n X dX8_byteAt_12 1 rfl ?_
    refine g_iald X hk_a1 dX8_byteAt_13 h (fun i2 _ h => ?_)
    refine g_goto X 19 dX8_byteAt_14 (by decide) ?_
    exact g_iret X h dX8_byteAt_19
abbrev rm_X8_fails : Room := { frames := 0, cells := 0, slots := 0, locals := 0 }
theorem hd_X8_fails : yX8_fails.cls = RX8 ∧ yX8_fails.cls ≠ "java/lang/invoke/MethodHandle" ∧ yX8_fails.cls ≠ "java/lang/invoke/VarHandle" ∧ (parseMethodDescriptor yX8_fails.desc).map (fun d => d.parameters.length) = some 1 := by decide +kernel
theorem w_X8_fails_60 : Cond.fieldLink RX8 60 "TokenDoorsModel" "broken" "I" ∈ wsX8_fails := by decide +kernel
theorem w_X8_fails_inX8 : ∀ w ∈ wsX80, w ∈ wsX8_fails := by decide +kernel
theorem w_X8_fails_63 : Cond.fieldLink RX8 63 "TokenDoorsModel" "here" "I" ∈ wsX8_fails := by decide +kernel
theorem w_X8_fails_66 : Cond.fieldLink RX8 66 "TokenDoorsModel" "brokenAt" "I" ∈ wsX8_fails := by decide +kernel
def f_X8_fails (fu : Nat) (o : Nat) (p0 : Int32) (S : g_St) : Option (Unit × g_St) :=
  if (S.1 o 5) = 0 then (some ((), (g_u (g_u S.1 o 5 p0) o 6 ((g_u S.1 o 5 p0) o 8), S.2))) else (some ((), S))
set_option maxRecDepth 100000 in
set_option maxHeartbeats 400000 in
theorem ct_X8_fails {l : Launch} {D : va_G} {ad : Nat → Nat} {cy : Nat → ClassId} {zz : (Nat → Nat) × (Nat → Nat)} (hinj : ∀ i j, i < 13 → j < 13 → ad i = ad j → i = j) {fu : Nat} (o : Nat) (p0 : Int32) (hk_o : o < 13 ∧ g_KM o = g_kX8) {S : g_St} (z : Unit × g_St) (h : f_X8_fails fu o p0 S = some z) : g_Mv l g_KM 13 D ad cy zz yX8_fails wsX8_fails rm_X8_fails [.ref (ad o), .int (p0)] S z := by
  refine g_ofv hinj (cc := cX8_fails) (maxL := 2) (ret := none) (lv := [(0, .ref (ad o)), (1, .int (p0))]) (by decide) rfl (Nat.le_of_ble_eq_true rfl) rfl ?_
  intro x X hl hD ha hy hz
  subst hl hD ha hy hz
  unfold f_X8_fails at h
  refine g_aload_n X dX8_fails_0 0 rfl ?_
  refine g_geti X g_cX8 w_X8_fails_inX8 5 (by decide) w_X8_fails_60 hk_o rfl dX8_fails_1 ?_
  refine g_if_ne X 20 dX8_fails_4 (by decide) h (fun c_4 h => ?_) (fun c_4 h => ?_)
  · skip
    exact g_vret X h dX8_fails_20
  · skip
    refine g_aload_n X dX8_fails_7 0 rfl ?_
    refine g_iload_n X dX8_fails_8 1 rfl ?_
    refine g_puti X g_cX8 w_X8_fails_inX8 5 (by decide) w_X8_fails_60 hk_o rfl rfl (t := .int) (by decide +kernel) rfl rfl dX8_fails_9 ?_
    refine g_aload_n X dX8_fails_12 0 rfl ?_
    refine g_aload_n X dX8_fails_13 0 rfl ?_
    refine g_geti X g_cX8 w_X8_fails_inX8 8 (by decide) w_X8_fails_63 hk_o rfl dX8_fails_14 ?_
    refine g_puti X g_cX8 w_X8_fails_inX8 6 (by decide) w_X8_fails_66 hk_o rfl rfl (t := .int) (by decide +kernel) rfl rfl dX8_fails_17 ?_
    exact g_vret X h dX8_fails_20
abbrev rm_X8_nameHere : Room := { frames := 1, cells := 0, slots := 0, locals := 21 }
theorem hd_X8_nameHere : yX8_nameHere.cls = RX8 ∧ yX8_nameHere.cls ≠ "java/lang/invoke/MethodHandle" ∧ yX8_nameHere.cls ≠ "java/lang/invoke/VarHandle" ∧ (parseMethodDescriptor yX8_nameHere.desc).map (fun d => d.parameters.length) = some 0 := by decide +kernel
theorem w_X8_nameHere_69 : Cond.fieldLink RX8 69 "TokenDoorsModel" "token" "I" ∈ wsX8_nameHere := by decide +kernel
theorem w_X8_nameHere_inX8 : ∀ w ∈ wsX80, w ∈ wsX8_nameHere := by decide +kernel
theorem w_X8_nameHere_72 : Cond.fieldLink RX8 72 "TokenDoorsModel" "spot" "I" ∈ wsX8_nameHere := by decide +kernel
theorem w_X8_nameHere_63 : Cond.fieldLink RX8 63 "TokenDoorsModel" "here" "I" ∈ wsX8_nameHere := by decide +kernel
theorem w_X8_nameHere_19 : Cond.fieldLink RX8 19 "TokenDoorsModel" "ends" "[I" ∈ wsX8_nameHere := by decide +kernel
theorem w_X8_nameHere_22 : Cond.fieldLink RX8 22 "TokenDoorsModel" "letters" "[I" ∈ wsX8_nameHere := by decide +kernel
def j_X8_nameHere_98_in50 (fu : Nat) (v0 : Nat) (v1 : Int32) (v3 : Int32) (s0 : Int32) (S : g_St) : Option ((Int32 × Int32 × g_St) ⊕ (Int32 × g_St)) :=
  some (.inl (s0, (v3 + 1), S))
def b_X8_nameHere_50 (fu : Nat) (v0 : Nat) (v1 : Int32) (v2 : Int32) (v3 : Int32) (S : g_St) : Option ((Int32 × Int32 × g_St) ⊕ (Int32 × g_St)) :=
  if v2 = 0 then (some (.inr (v2, S))) else (if ((S.1 v0 7) - (S.1 v0 8)) ≤ v3 then (some (.inr (v2, S))) else (g_bd (f_X8_byteAt fu v0 (((S.1 v0 8) + v3)) S) fun r5 Sr5 => g_ld g_KM 13 (.inr (0, 24, false)) (Sr5.2 v0 12) fun a6 => g_ld g_KM 13 (.inr (0, 6, false)) (Sr5.2 v0 11) fun a7 => g_ix v1 6 fun i8 => g_ix ((Sr5.1 a7 i8) + v3) 24 fun i9 => if r5 = (Sr5.1 a6 i9) then (j_X8_nameHere_98_in50 fu v0 v1 v3 ((1 : Int32)) Sr5) else (j_X8_nameHere_98_in50 fu v0 v1 v3 ((0 : Int32)) Sr5)))
def j_X8_nameHere_47_in2 (fu : Nat) (v0 : Nat) (v1 : Int32) (s0 : Int32) (S : g_St) : Option ((Int32 × g_St) ⊕ ((g_St) ⊕ (Int32 × g_St))) :=
  g_th (g_lp (fun t => b_X8_nameHere_50 fu v0 v1 t.1 t.2.1 t.2.2) fu (s0, (0 : Int32), S)) fun e => match e with | (w2_1, S1) => if w2_1 = 0 then (some (.inl ((v1 + 1), S1))) else (some (.inr (.inr (v1, S1))))
def b_X8_nameHere_2 (fu : Nat) (v0 : Nat) (v1 : Int32) (S : g_St) : Option ((Int32 × g_St) ⊕ ((g_St) ⊕ (Int32 × g_St))) :=
  if (5 : Int32) ≤ v1 then (some (.inr (.inl S))) else (if (S.1 v0 9) = (1 : Int32) then (g_ld g_KM 13 (.inr (0, 6, false)) (S.2 v0 11) fun a1 => g_ix (v1 + (1 : Int32)) 6 fun i2 => g_ld g_KM 13 (.inr (0, 6, false)) (S.2 v0 11) fun a3 => g_ix v1 6 fun i4 => if ((S.1 v0 7) - (S.1 v0 8)) = ((S.1 a1 i2) - (S.1 a3 i4)) then (j_X8_nameHere_47_in2 fu v0 v1 ((1 : Int32)) S) else (j_X8_nameHere_47_in2 fu v0 v1 ((0 : Int32)) S)) else (some (.inr (.inl S))))
def f_X8_nameHere (fu : Nat) (o : Nat) (S : g_St) : Option (Int32 × g_St) :=
  g_th (g_lp (fun t => b_X8_nameHere_2 fu o t.1 t.2) fu ((0 : Int32), S)) fun e => match e with | .inl S2 => (some ((-4 : Int32), S2)) | .inr q => some q
set_option maxRecDepth 100000 in
set_option maxHeartbeats 400000 in
theorem vj_X8_nameHere_98_in50 {x : g_CX} {z : Int32 × g_St} {fu : Nat} (X : g_X 13 x cX8_nameHere RX8 4 wsX8_nameHere rm_X8_nameHere (some .int)) (v0 : Nat) (v1 : Int32) (v3 : Int32) (s0 : Int32) (hk_v0 : v0 < 13 ∧ g_KM v0 = g_kX8) (S : g_St) {r : (Int32 × Int32 × g_St) ⊕ (Int32 × g_St)} (h : j_X8_nameHere_98_in50 fu v0 v1 v3 s0 S = some r) (hc : Sum.elim (fun t : Int32 × Int32 × g_St => g_V g_KM 13 x 4 (g_qi g_KM 13 x z) t.2.2 50 [(0, .ref (g_ad x v0)), (1, .int (v1)), (2, .int (t.1)), (3, .int (t.2.1))] []) (fun e : Int32 × g_St => g_V g_KM 13 x 4 (g_qi g_KM 13 x z) e.2 105 [(0, .ref (g_ad x v0)), (1, .int (v1)), (2, .int (e.1))] []) r) : g_V g_KM 13 x 4 (g_qi g_KM 13 x z) S 98 [(0, .ref (g_ad x v0)), (1, .int (v1)), (3, .int (v3))] [.int (s0)] := by
  unfold j_X8_nameHere_98_in50 at h
  refine g_istore_n X [(2, _), (0, _), (1, _), (3, _)] dX8_nameHere_98 (by decide) rfl ?_
  refine g_iinc X [(3, _), (2, _), (0, _), (1, _)] dX8_nameHere_99 3 rfl rfl (by decide) rfl ?_
  refine g_goto X 50 dX8_nameHere_102 (by decide) ?_
  cases h
  exact g_sub [2, 3, 1, 0] _ rfl hc
set_option maxRecDepth 100000 in
set_option maxHeartbeats 400000 in
theorem vb_X8_nameHere_50 {x : g_CX} {z : Int32 × g_St} {fu : Nat} (X : g_X 13 x cX8_nameHere RX8 4 wsX8_nameHere rm_X8_nameHere (some .int)) (v0 : Nat) (v1 : Int32) (v2 : Int32) (v3 : Int32) (hk_v0 : v0 < 13 ∧ g_KM v0 = g_kX8) (S : g_St) {r : (Int32 × Int32 × g_St) ⊕ (Int32 × g_St)} (h : b_X8_nameHere_50 fu v0 v1 v2 v3 S = some r) (hc : Sum.elim (fun t : Int32 × Int32 × g_St => g_V g_KM 13 x 4 (g_qi g_KM 13 x z) t.2.2 50 [(0, .ref (g_ad x v0)), (1, .int (v1)), (2, .int (t.1)), (3, .int (t.2.1))] []) (fun e : Int32 × g_St => g_V g_KM 13 x 4 (g_qi g_KM 13 x z) e.2 105 [(0, .ref (g_ad x v0)), (1, .int (v1)), (2, .int (e.1))] []) r) : g_V g_KM 13 x 4 (g_qi g_KM 13 x z) S 50 [(0, .ref (g_ad x v0)), (1, .int (v1)), (2, .int (v2)), (3, .int (v3))] [] := by
  unfold b_X8_nameHere_50 at h
  refine g_iload_n X dX8_nameHere_50 2 rfl ?_
  refine g_if_eq X 105 dX8_nameHere_51 (by decide) h (fun c_51 h => ?_) (fun c_51 h => ?_)
  · skip
    cases h
    exact g_sub [0, 1, 2] _ rfl hc
  · skip
    refine g_iload_n X dX8_nameHere_54 3 rfl ?_
    refine g_aload_n X dX8_nameHere_55 0 rfl ?_
    refine g_geti X g_cX8 w_X8_nameHere_inX8 7 (by decide) w_X8_nameHere_72 hk_v0 rfl dX8_nameHere_56 ?_
    refine g_aload_n X dX8_nameHere_59 0 rfl ?_
    refine g_geti X g_cX8 w_X8_nameHere_inX8 8 (by decide) w_X8_nameHere_63 hk_v0 rfl dX8_nameHere_60 ?_
    refine g_isub X dX8_nameHere_63 ?_
    refine g_icmp_ge X 105 dX8_nameHere_64 (by decide) h (fun c_64 h => ?_) (fun c_64 h => ?_)
    · skip
      cases h
      exact g_sub [0, 1, 2] _ rfl hc
    · skip
      refine g_aload_n X dX8_nameHere_67 0 rfl ?_
      refine g_aload_n X dX8_nameHere_68 0 rfl ?_
      refine g_geti X g_cX8 w_X8_nameHere_inX8 8 (by decide) w_X8_nameHere_63 hk_v0 rfl dX8_nameHere_69 ?_
      refine g_iload_n X dX8_nameHere_72 3 rfl ?_
      refine g_iadd X dX8_nameHere_73 ?_
      refine g_callVi X g_cX8 hk_v0 [.int (((S.1 v0 8) + v3))] rfl (cwV 1 X.2.2.2.2.1 gX8_nameHere_X8_byteAt rfl rfl rfl hd_X8_byteAt ⟨Nat.le_of_ble_eq_true rfl, Nat.le_of_ble_eq_true rfl⟩) (Nat.le_of_ble_eq_true rfl) dX8_nameHere_74 h (fun q hq => ct_X8_byteAt X.2.2.2.2.2.2.1 v0 (((S.1 v0 8) + v3)) hk_v0 _ hq) (fun r5 Sr5 h => ?_)
      refine g_aload_n X dX8_nameHere_77 0 rfl ?_
      refine g_getr X g_cX8 w_X8_nameHere_inX8 12 (by decide) w_X8_nameHere_22 hk_v0 rfl dX8_nameHere_78 h (fun a6 hk_a6 h => ?_)
      refine g_aload_n X dX8_nameHere_81 0 rfl ?_
      refine g_getr X g_cX8 w_X8_nameHere_inX8 11 (by decide) w_X8_nameHere_19 hk_v0 rfl dX8_nameHere_82 h (fun a7 hk_a7 h => ?_)
      refine g_iload_n X dX8_nameHere_85 1 rfl ?_
      refine g_iald X hk_a7 dX8_nameHere_86 h (fun i8 _ h => ?_)
      refine g_iload_n X dX8_nameHere_87 3 rfl ?_
      refine g_iadd X dX8_nameHere_88 ?_
      refine g_iald X hk_a6 dX8_nameHere_89 h (fun i9 _ h => ?_)
      refine g_icmp_ne X 97 dX8_nameHere_90 (by decide) h (fun c_90 h => ?_) (fun c_90 h => ?_)
      · skip
        refine g_iconst X (v := 0) dX8_nameHere_97 (by decide) ?_
        refine g_sub [0, 1, 3] _ rfl ?_
        exact vj_X8_nameHere_98_in50 X v0 v1 v3 ((0 : Int32)) hk_v0 _ h hc
      · skip
        refine g_iconst X (v := 1) dX8_nameHere_93 (by decide) ?_
        refine g_goto X 98 dX8_nameHere_94 (by decide) ?_
        refine g_sub [0, 1, 3] _ rfl ?_
        exact vj_X8_nameHere_98_in50 X v0 v1 v3 ((1 : Int32)) hk_v0 _ h hc
set_option maxRecDepth 100000 in
set_option maxHeartbeats 400000 in
theorem vj_X8_nameHere_47_in2 {x : g_CX} {z : Int32 × g_St} {fu : Nat} (X : g_X 13 x cX8_nameHere RX8 4 wsX8_nameHere rm_X8_nameHere (some .int)) (v0 : Nat) (v1 : Int32) (s0 : Int32) (hk_v0 : v0 < 13 ∧ g_KM v0 = g_kX8) (S : g_St) {r : (Int32 × g_St) ⊕ ((g_St) ⊕ (Int32 × g_St))} (h : j_X8_nameHere_47_in2 fu v0 v1 s0 S = some r) (hc : Sum.elim (fun t : Int32 × g_St => g_V g_KM 13 x 4 (g_qi g_KM 13 x z) t.2 2 [(0, .ref (g_ad x v0)), (1, .int (t.1))] []) (fun b : (g_St) ⊕ (Int32 × g_St) => Sum.elim (fun e : g_St => g_V g_KM 13 x 4 (g_qi g_KM 13 x z) e 117 [] []) (fun q : Int32 × g_St => q = z) b) r) : g_V g_KM 13 x 4 (g_qi g_KM 13 x z) S 47 [(0, .ref (g_ad x v0)), (1, .int (v1))] [.int (s0)] := by
  unfold j_X8_nameHere_47_in2 at h
  refine g_istore_n X [(2, _), (0, _), (1, _)] dX8_nameHere_47 (by decide) rfl ?_
  refine g_iconst X (v := 0) dX8_nameHere_48 (by decide) ?_
  refine g_istore_n X [(3, _), (2, _), (0, _), (1, _)] dX8_nameHere_49 (by decide) rfl ?_
  obtain ⟨e, he, h⟩ := g_th_s h
  refine g_sub [2, 3, 1, 0] _ rfl ?_
  refine g_lp_w (body := (fun t => b_X8_nameHere_50 fu v0 v1 t.1 t.2.1 t.2.2)) (P := fun t : Int32 × Int32 × g_St => g_V g_KM 13 x 4 (g_qi g_KM 13 x z) t.2.2 50 [(0, .ref (g_ad x v0)), (1, .int (v1)), (2, .int (t.1)), (3, .int (t.2.1))] []) (E := (fun e : Int32 × g_St => g_V g_KM 13 x 4 (g_qi g_KM 13 x z) e.2 105 [(0, .ref (g_ad x v0)), (1, .int (v1)), (2, .int (e.1))] [])) (fun t r hb hc => vb_X8_nameHere_50 X v0 v1 t.1 t.2.1 hk_v0 t.2.2 hb hc) fu (s0, (0 : Int32), S) e he ?_
  obtain ⟨w2_1, S1⟩ := e
  show g_V g_KM 13 x 4 (g_qi g_KM 13 x z) S1 105 [(0, .ref (g_ad x v0)), (1, .int (v1)), (2, .int (w2_1))] []
  refine g_iload_n X dX8_nameHere_105 2 rfl ?_
  refine g_if_eq X 111 dX8_nameHere_106 (by decide) h (fun c_106 h => ?_) (fun c_106 h => ?_)
  · skip
    refine g_iinc X [(1, _), (0, _), (2, _)] dX8_nameHere_111 1 rfl rfl (by decide) rfl ?_
    refine g_goto X 2 dX8_nameHere_114 (by decide) ?_
    cases h
    exact g_sub [1, 0] _ rfl hc
  · skip
    refine g_iload_n X dX8_nameHere_109 1 rfl ?_
    cases h
    exact g_iret X (congrArg some hc) dX8_nameHere_110
set_option maxRecDepth 100000 in
set_option maxHeartbeats 400000 in
theorem vb_X8_nameHere_2 {x : g_CX} {z : Int32 × g_St} {fu : Nat} (X : g_X 13 x cX8_nameHere RX8 4 wsX8_nameHere rm_X8_nameHere (some .int)) (v0 : Nat) (v1 : Int32) (hk_v0 : v0 < 13 ∧ g_KM v0 = g_kX8) (S : g_St) {r : (Int32 × g_St) ⊕ ((g_St) ⊕ (Int32 × g_St))} (h : b_X8_nameHere_2 fu v0 v1 S = some r) (hc : Sum.elim (fun t : Int32 × g_St => g_V g_KM 13 x 4 (g_qi g_KM 13 x z) t.2 2 [(0, .ref (g_ad x v0)), (1, .int (t.1))] []) (fun b : (g_St) ⊕ (Int32 × g_St) => Sum.elim (fun e : g_St => g_V g_KM 13 x 4 (g_qi g_KM 13 x z) e 117 [] []) (fun q : Int32 × g_St => q = z) b) r) : g_V g_KM 13 x 4 (g_qi g_KM 13 x z) S 2 [(0, .ref (g_ad x v0)), (1, .int (v1))] [] := by
  unfold b_X8_nameHere_2 at h
  refine g_iload_n X dX8_nameHere_2 1 rfl ?_
  refine g_iconst X (v := 5) dX8_nameHere_3 (by decide) ?_
  refine g_icmp_ge X 117 dX8_nameHere_4 (by decide) h (fun c_4 h => ?_) (fun c_4 h => ?_)
  · skip
    cases h
    exact g_sub [] _ rfl hc
  · skip
    refine g_aload_n X dX8_nameHere_7 0 rfl ?_
    refine g_geti X g_cX8 w_X8_nameHere_inX8 9 (by decide) w_X8_nameHere_69 hk_v0 rfl dX8_nameHere_8 ?_
    refine g_iconst X (v := 1) dX8_nameHere_11 (by decide) ?_
    refine g_icmp_ne X 117 dX8_nameHere_12 (by decide) h (fun c_12 h => ?_) (fun c_12 h => ?_)
    · skip
      cases h
      exact g_sub [] _ rfl hc
    · skip
      refine g_aload_n X dX8_nameHere_15 0 rfl ?_
      refine g_geti X g_cX8 w_X8_nameHere_inX8 7 (by decide) w_X8_nameHere_72 hk_v0 rfl dX8_nameHere_16 ?_
      refine g_aload_n X dX8_nameHere_19 0 rfl ?_
      refine g_geti X g_cX8 w_X8_nameHere_inX8 8 (by decide) w_X8_nameHere_63 hk_v0 rfl dX8_nameHere_20 ?_
      refine g_isub X dX8_nameHere_23 ?_
      refine g_aload_n X dX8_nameHere_24 0 rfl ?_
      refine g_getr X g_cX8 w_X8_nameHere_inX8 11 (by decide) w_X8_nameHere_19 hk_v0 rfl dX8_nameHere_25 h (fun a1 hk_a1 h => ?_)
      refine g_iload_n X dX8_nameHere_28 1 rfl ?_
      refine g_iconst X (v := 1) dX8_nameHere_29 (by decide) ?_
      refine g_iadd X dX8_nameHere_30 ?_
      refine g_iald X hk_a1 dX8_nameHere_31 h (fun i2 _ h => ?_)
      refine g_aload_n X dX8_nameHere_32 0 rfl ?_
      refine g_getr X g_cX8 w_X8_nameHere_inX8 11 (by decide) w_X8_nameHere_19 hk_v0 rfl dX8_nameHere_33 h (fun a3 hk_a3 h => ?_)
      refine g_iload_n X dX8_nameHere_36 1 rfl ?_
      refine g_iald X hk_a3 dX8_nameHere_37 h (fun i4 _ h => ?_)
      refine g_isub X dX8_nameHere_38 ?_
      refine g_icmp_ne X 46 dX8_nameHere_39 (by decide) h (fun c_39 h => ?_) (fun c_39 h => ?_)
      · skip
        refine g_iconst X (v := 0) dX8_nameHere_46 (by decide) ?_
        refine g_sub [0, 1] _ rfl ?_
        exact vj_X8_nameHere_47_in2 X v0 v1 ((0 : Int32)) hk_v0 _ h hc
      · skip
        refine g_iconst X (v := 1) dX8_nameHere_42 (by decide) ?_
        refine g_goto X 47 dX8_nameHere_43 (by decide) ?_
        refine g_sub [0, 1] _ rfl ?_
        exact vj_X8_nameHere_47_in2 X v0 v1 ((1 : Int32)) hk_v0 _ h hc
set_option maxRecDepth 100000 in
set_option maxHeartbeats 400000 in
theorem ct_X8_nameHere {l : Launch} {D : va_G} {ad : Nat → Nat} {cy : Nat → ClassId} {zz : (Nat → Nat) × (Nat → Nat)} (hinj : ∀ i j, i < 13 → j < 13 → ad i = ad j → i = j) {fu : Nat} (o : Nat) (hk_o : o < 13 ∧ g_KM o = g_kX8) {S : g_St} (z : Int32 × g_St) (h : f_X8_nameHere fu o S = some z) : g_Mi l g_KM 13 D ad cy zz yX8_nameHere wsX8_nameHere rm_X8_nameHere [.ref (ad o)] S z := by
  refine g_ofi hinj (cc := cX8_nameHere) (maxL := 4) (ret := (some .int)) (lv := [(0, .ref (ad o))]) (by decide) rfl (Nat.le_of_ble_eq_true rfl) rfl ?_
  intro x X hl hD ha hy hz
  subst hl hD ha hy hz
  unfold f_X8_nameHere at h
  refine g_iconst X (v := 0) dX8_nameHere_0 (by decide) ?_
  refine g_istore_n X [(1, _), (0, _)] dX8_nameHere_1 (by decide) rfl ?_
  obtain ⟨e, he, h⟩ := g_th_s h
  refine g_sub [1, 0] _ rfl ?_
  refine g_lp_w (body := (fun t => b_X8_nameHere_2 fu o t.1 t.2)) (P := fun t : Int32 × g_St => g_V g_KM 13 x 4 (g_qi g_KM 13 x z) t.2 2 [(0, .ref (g_ad x o)), (1, .int (t.1))] []) (E := (fun b : (g_St) ⊕ (Int32 × g_St) => Sum.elim (fun e : g_St => g_V g_KM 13 x 4 (g_qi g_KM 13 x z) e 117 [] []) (fun q : Int32 × g_St => q = z) b)) (fun t r hb hc => vb_X8_nameHere_2 X o t.1 hk_o t.2 hb hc) fu ((0 : Int32), S) e he ?_
  rcases e with S2 | q
  · show g_V g_KM 13 x 4 (g_qi g_KM 13 x z) S2 117 [] []
    refine g_bipush X (v := (-4)) dX8_nameHere_117 (by decide) ?_
    exact g_iret X h dX8_nameHere_119
  · cases h; rfl
abbrev rm_X8_step : Room := { frames := 1, cells := 0, slots := 0, locals := 25 }
theorem hd_X8_step : yX8_step.cls = RX8 ∧ yX8_step.cls ≠ "java/lang/invoke/MethodHandle" ∧ yX8_step.cls ≠ "java/lang/invoke/VarHandle" ∧ (parseMethodDescriptor yX8_step.desc).map (fun d => d.parameters.length) = some 0 := by decide +kernel
theorem w_X8_step_60 : Cond.fieldLink RX8 60 "TokenDoorsModel" "broken" "I" ∈ wsX8_step := by decide +kernel
theorem w_X8_step_inX8 : ∀ w ∈ wsX80, w ∈ wsX8_step := by decide +kernel
theorem w_X8_step_72 : Cond.fieldLink RX8 72 "TokenDoorsModel" "spot" "I" ∈ wsX8_step := by decide +kernel
theorem w_X8_step_63 : Cond.fieldLink RX8 63 "TokenDoorsModel" "here" "I" ∈ wsX8_step := by decide +kernel
theorem w_X8_step_79 : Cond.fieldLink RX8 79 "TokenDoorsModel" "value" "I" ∈ wsX8_step := by decide +kernel
theorem w_X8_step_82 : Cond.constantLong RX8 82 (97) ∈ wsX8_step := by decide +kernel
theorem w_X8_step_84 : Cond.constantLong RX8 84 (122) ∈ wsX8_step := by decide +kernel
theorem w_X8_step_86 : Cond.constantLong RX8 86 (48) ∈ wsX8_step := by decide +kernel
theorem w_X8_step_88 : Cond.constantLong RX8 88 (57) ∈ wsX8_step := by decide +kernel
theorem w_X8_step_69 : Cond.fieldLink RX8 69 "TokenDoorsModel" "token" "I" ∈ wsX8_step := by decide +kernel
def b_X8_step_8 (fu : Nat) (v0 : Nat) (S : g_St) : Option ((g_St) ⊕ (g_St)) :=
  g_bd (f_X8_byteAt fu v0 ((S.1 v0 7)) S) fun r1 Sr1 => if r1 = (32 : Int32) then (some (.inl (g_u Sr1.1 v0 7 ((Sr1.1 v0 7) + (1 : Int32)), Sr1.2))) else (some (.inr Sr1))
def j_X8_step_201_in140 (fu : Nat) (v0 : Nat) (s0 : Nat) (s1 : Int32) (S : g_St) : Option ((g_St) ⊕ (g_St)) :=
  some (.inl (g_u (g_u S.1 s0 10 s1) v0 7 (((g_u S.1 s0 10 s1) v0 7) + (1 : Int32)), S.2))
def b_X8_step_140 (fu : Nat) (v0 : Nat) (S : g_St) : Option ((g_St) ⊕ (g_St)) :=
  g_bd (f_X8_byteAt fu v0 ((S.1 v0 7)) S) fun r6 Sr6 => g_bd (f_X8_in fu ((Int32.toInt64 r6)) ((48 : Int64)) ((57 : Int64)) Sr6) fun r7 Sr7 => if r7 = 0 then (some (.inr Sr7)) else (if (2 : Int32) ≤ ((Sr7.1 v0 7) - (Sr7.1 v0 8)) then (j_X8_step_201_in140 fu v0 v0 ((Sr7.1 v0 10)) Sr7) else (g_bd (f_X8_byteAt fu v0 ((Sr7.1 v0 7)) Sr7) fun r8 Sr8 => j_X8_step_201_in140 fu v0 v0 (((((10 : Int32) * (Sr7.1 v0 10)) + r8) - (48 : Int32))) Sr8))
def b_X8_step_84 (fu : Nat) (v0 : Nat) (S : g_St) : Option ((g_St) ⊕ (g_St)) :=
  g_bd (f_X8_byteAt fu v0 ((S.1 v0 7)) S) fun r10 Sr10 => g_bd (f_X8_in fu ((Int32.toInt64 r10)) ((97 : Int64)) ((122 : Int64)) Sr10) fun r11 Sr11 => if r11 = 0 then (some (.inr Sr11)) else (some (.inl (g_u Sr11.1 v0 7 ((Sr11.1 v0 7) + (1 : Int32)), Sr11.2)))
def f_X8_step (fu : Nat) (o : Nat) (S : g_St) : Option (Unit × g_St) :=
  if (S.1 o 5) ≤ 0 then (g_th (g_lp (fun t => b_X8_step_8 fu o t) fu S) fun e => match e with | S1 => g_bd (f_X8_byteAt fu o (((g_u S1.1 o 8 (S1.1 o 7)) o 7)) (g_u S1.1 o 8 (S1.1 o 7), S1.2)) fun r2 Sr2 => if r2 = (-4 : Int32) then (some ((), (g_u (g_u Sr2.1 o 10 (0 : Int32)) o 9 (0 : Int32), Sr2.2))) else (g_bd (f_X8_in fu ((Int32.toInt64 r2)) ((97 : Int64)) ((122 : Int64)) (g_u Sr2.1 o 10 (0 : Int32), Sr2.2)) fun r3 Sr3 => if r3 = 0 then (g_bd (f_X8_in fu ((Int32.toInt64 r2)) ((48 : Int64)) ((57 : Int64)) Sr3) fun r4 Sr4 => if r4 = 0 then (if r2 = (59 : Int32) then (some ((), (g_u (g_u Sr4.1 o 9 (3 : Int32)) o 7 (((g_u Sr4.1 o 9 (3 : Int32)) o 7) + (1 : Int32)), Sr4.2))) else (g_bd (f_X8_fails fu o ((1 : Int32)) (g_u (g_u Sr4.1 o 9 (3 : Int32)) o 7 (((g_u Sr4.1 o 9 (3 : Int32)) o 7) + (1 : Int32)), Sr4.2)) fun _ Sr5 => some ((), Sr5))) else (g_th (g_lp (fun t => b_X8_step_140 fu o t) fu Sr4) fun e => match e with | S2 => if (((g_u S2.1 o 9 (2 : Int32)) o 7) - ((g_u S2.1 o 9 (2 : Int32)) o 8)) ≤ (2 : Int32) then (some ((), (g_u S2.1 o 9 (2 : Int32), S2.2))) else (g_bd (f_X8_fails fu o ((1 : Int32)) (g_u S2.1 o 9 (2 : Int32), S2.2)) fun _ Sr9 => some ((), Sr9)))) else (g_th (g_lp (fun t => b_X8_step_84 fu o t) fu Sr3) fun e => match e with | S3 => some ((), (g_u S3.1 o 9 (1 : Int32), S3.2))))) else (some ((), S))
set_option maxRecDepth 100000 in
set_option maxHeartbeats 400000 in
theorem vb_X8_step_8 {x : g_CX} {z : Unit × g_St} {fu : Nat} (X : g_X 13 x cX8_step RX8 2 wsX8_step rm_X8_step none) (v0 : Nat) (hk_v0 : v0 < 13 ∧ g_KM v0 = g_kX8) (S : g_St) {r : (g_St) ⊕ (g_St)} (h : b_X8_step_8 fu v0 S = some r) (hc : Sum.elim (fun t : g_St => g_V g_KM 13 x 2 (g_qv g_KM 13 x z) t 8 [(0, .ref (g_ad x v0))] []) (fun e : g_St => g_V g_KM 13 x 2 (g_qv g_KM 13 x z) e 34 [(0, .ref (g_ad x v0))] []) r) : g_V g_KM 13 x 2 (g_qv g_KM 13 x z) S 8 [(0, .ref (g_ad x v0))] [] := by
  unfold b_X8_step_8 at h
  refine g_aload_n X dX8_step_8 0 rfl ?_
  refine g_aload_n X dX8_step_9 0 rfl ?_
  refine g_geti X g_cX8 w_X8_step_inX8 7 (by decide) w_X8_step_72 hk_v0 rfl dX8_step_10 ?_
  refine g_callVi X g_cX8 hk_v0 [.int ((S.1 v0 7))] rfl (cwV 1 X.2.2.2.2.1 gX8_step_X8_byteAt rfl rfl rfl hd_X8_byteAt ⟨Nat.le_of_ble_eq_true rfl, Nat.le_of_ble_eq_true rfl⟩) (Nat.le_of_ble_eq_true rfl) dX8_step_13 h (fun q hq => ct_X8_byteAt X.2.2.2.2.2.2.1 v0 ((S.1 v0 7)) hk_v0 _ hq) (fun r1 Sr1 h => ?_)
  refine g_bipush X (v := (32)) dX8_step_16 (by decide) ?_
  refine g_icmp_ne X 34 dX8_step_18 (by decide) h (fun c_18 h => ?_) (fun c_18 h => ?_)
  · skip
    cases h
    exact g_sub [0] _ rfl hc
  · skip
    refine g_aload_n X dX8_step_21 0 rfl ?_
    refine g_dup X dX8_step_22 rfl ?_
    refine g_geti X g_cX8 w_X8_step_inX8 7 (by decide) w_X8_step_72 hk_v0 rfl dX8_step_23 ?_
    refine g_iconst X (v := 1) dX8_step_26 (by decide) ?_
    refine g_iadd X dX8_step_27 ?_
    refine g_puti X g_cX8 w_X8_step_inX8 7 (by decide) w_X8_step_72 hk_v0 rfl rfl (t := .int) (by decide +kernel) rfl rfl dX8_step_28 ?_
    refine g_goto X 8 dX8_step_31 (by decide) ?_
    cases h
    exact g_sub [0] _ rfl hc
set_option maxRecDepth 100000 in
set_option maxHeartbeats 400000 in
theorem vj_X8_step_201_in140 {x : g_CX} {z : Unit × g_St} {fu : Nat} (X : g_X 13 x cX8_step RX8 2 wsX8_step rm_X8_step none) (v0 : Nat) (s0 : Nat) (s1 : Int32) (hk_v0 : v0 < 13 ∧ g_KM v0 = g_kX8) (hk_s0 : s0 < 13 ∧ g_KM s0 = g_kX8) (S : g_St) {r : (g_St) ⊕ (g_St)} (h : j_X8_step_201_in140 fu v0 s0 s1 S = some r) (hc : Sum.elim (fun t : g_St => g_V g_KM 13 x 2 (g_qv g_KM 13 x z) t 140 [(0, .ref (g_ad x v0))] []) (fun e : g_St => g_V g_KM 13 x 2 (g_qv g_KM 13 x z) e 217 [(0, .ref (g_ad x v0))] []) r) : g_V g_KM 13 x 2 (g_qv g_KM 13 x z) S 201 [(0, .ref (g_ad x v0))] [.int (s1), .ref (g_ad x s0)] := by
  unfold j_X8_step_201_in140 at h
  refine g_puti X g_cX8 w_X8_step_inX8 10 (by decide) w_X8_step_79 hk_s0 rfl rfl (t := .int) (by decide +kernel) rfl rfl dX8_step_201 ?_
  refine g_aload_n X dX8_step_204 0 rfl ?_
  refine g_dup X dX8_step_205 rfl ?_
  refine g_geti X g_cX8 w_X8_step_inX8 7 (by decide) w_X8_step_72 hk_v0 rfl dX8_step_206 ?_
  refine g_iconst X (v := 1) dX8_step_209 (by decide) ?_
  refine g_iadd X dX8_step_210 ?_
  refine g_puti X g_cX8 w_X8_step_inX8 7 (by decide) w_X8_step_72 hk_v0 rfl rfl (t := .int) (by decide +kernel) rfl rfl dX8_step_211 ?_
  refine g_goto X 140 dX8_step_214 (by decide) ?_
  cases h
  exact g_sub [0] _ rfl hc
set_option maxRecDepth 100000 in
set_option maxHeartbeats 400000 in
theorem vb_X8_step_140 {x : g_CX} {z : Unit × g_St} {fu : Nat} (X : g_X 13 x cX8_step RX8 2 wsX8_step rm_X8_step none) (v0 : Nat) (hk_v0 : v0 < 13 ∧ g_KM v0 = g_kX8) (S : g_St) {r : (g_St) ⊕ (g_St)} (h : b_X8_step_140 fu v0 S = some r) (hc : Sum.elim (fun t : g_St => g_V g_KM 13 x 2 (g_qv g_KM 13 x z) t 140 [(0, .ref (g_ad x v0))] []) (fun e : g_St => g_V g_KM 13 x 2 (g_qv g_KM 13 x z) e 217 [(0, .ref (g_ad x v0))] []) r) : g_V g_KM 13 x 2 (g_qv g_KM 13 x z) S 140 [(0, .ref (g_ad x v0))] [] := by
  unfold b_X8_step_140 at h
  refine g_aload_n X dX8_step_140 0 rfl ?_
  refine g_aload_n X dX8_step_141 0 rfl ?_
  refine g_geti X g_cX8 w_X8_step_inX8 7 (by decide) w_X8_step_72 hk_v0 rfl dX8_step_142 ?_
  refine g_callVi X g_cX8 hk_v0 [.int ((S.1 v0 7))] rfl (cwV 1 X.2.2.2.2.1 gX8_step_X8_byteAt rfl rfl rfl hd_X8_byteAt ⟨Nat.le_of_ble_eq_true rfl, Nat.le_of_ble_eq_true rfl⟩) (Nat.le_of_ble_eq_true rfl) dX8_step_145 h (fun q hq => ct_X8_byteAt X.2.2.2.2.2.2.1 v0 ((S.1 v0 7)) hk_v0 _ hq) (fun r6 Sr6 h => ?_)
  refine g_i2l X dX8_step_148 ?_
  refine g_ldc2 X w_X8_step_86 dX8_step_149 ?_
  refine g_ldc2 X w_X8_step_88 dX8_step_152 ?_
  refine g_callSi X [.long ((Int32.toInt64 r6)), .long ((48 : Int64)), .long ((57 : Int64))] rfl (va_cwS 3 X.2.2.2.2.1 gX8_step_X8_in rfl rfl rfl hd_X8_in ⟨Nat.le_of_ble_eq_true rfl, Nat.le_of_ble_eq_true rfl⟩) (Nat.le_of_ble_eq_true rfl) dX8_step_155 h (fun q hq => ct_X8_in X.2.2.2.2.2.2.1 ((Int32.toInt64 r6)) ((48 : Int64)) ((57 : Int64))  _ hq) (fun r7 Sr7 h => ?_)
  refine g_if_eq X 217 dX8_step_158 (by decide) h (fun c_158 h => ?_) (fun c_158 h => ?_)
  · skip
    cases h
    exact g_sub [0] _ rfl hc
  · skip
    refine g_aload_n X dX8_step_161 0 rfl ?_
    refine g_aload_n X dX8_step_162 0 rfl ?_
    refine g_geti X g_cX8 w_X8_step_inX8 7 (by decide) w_X8_step_72 hk_v0 rfl dX8_step_163 ?_
    refine g_aload_n X dX8_step_166 0 rfl ?_
    refine g_geti X g_cX8 w_X8_step_inX8 8 (by decide) w_X8_step_63 hk_v0 rfl dX8_step_167 ?_
    refine g_isub X dX8_step_170 ?_
    refine g_iconst X (v := 2) dX8_step_171 (by decide) ?_
    refine g_icmp_ge X 197 dX8_step_172 (by decide) h (fun c_172 h => ?_) (fun c_172 h => ?_)
    · skip
      refine g_aload_n X dX8_step_197 0 rfl ?_
      refine g_geti X g_cX8 w_X8_step_inX8 10 (by decide) w_X8_step_79 hk_v0 rfl dX8_step_198 ?_
      refine g_sub [0] _ rfl ?_
      exact vj_X8_step_201_in140 X v0 v0 ((Sr7.1 v0 10)) hk_v0 hk_v0 _ h hc
    · skip
      refine g_bipush X (v := (10)) dX8_step_175 (by decide) ?_
      refine g_aload_n X dX8_step_177 0 rfl ?_
      refine g_geti X g_cX8 w_X8_step_inX8 10 (by decide) w_X8_step_79 hk_v0 rfl dX8_step_178 ?_
      refine g_imul X dX8_step_181 ?_
      refine g_aload_n X dX8_step_182 0 rfl ?_
      refine g_aload_n X dX8_step_183 0 rfl ?_
      refine g_geti X g_cX8 w_X8_step_inX8 7 (by decide) w_X8_step_72 hk_v0 rfl dX8_step_184 ?_
      refine g_callVi X g_cX8 hk_v0 [.int ((Sr7.1 v0 7))] rfl (cwV 1 X.2.2.2.2.1 gX8_step_X8_byteAt rfl rfl rfl hd_X8_byteAt ⟨Nat.le_of_ble_eq_true rfl, Nat.le_of_ble_eq_true rfl⟩) (Nat.le_of_ble_eq_true rfl) dX8_step_187 h (fun q hq => ct_X8_byteAt X.2.2.2.2.2.2.1 v0 ((Sr7.1 v0 7)) hk_v0 _ hq) (fun r8 Sr8 h => ?_)
      refine g_iadd X dX8_step_190 ?_
      refine g_bipush X (v := (48)) dX8_step_191 (by decide) ?_
      refine g_isub X dX8_step_193 ?_
      refine g_goto X 201 dX8_step_194 (by decide) ?_
      refine g_sub [0] _ rfl ?_
      exact vj_X8_step_201_in140 X v0 v0 (((((10 : Int32) * (Sr7.1 v0 10)) + r8) - (48 : Int32))) hk_v0 hk_v0 _ h hc
set_option maxRecDepth 100000 in
set_option maxHeartbeats 400000 in
theorem vb_X8_step_84 {x : g_CX} {z : Unit × g_St} {fu : Nat} (X : g_X 13 x cX8_step RX8 2 wsX8_step rm_X8_step none) (v0 : Nat) (hk_v0 : v0 < 13 ∧ g_KM v0 = g_kX8) (S : g_St) {r : (g_St) ⊕ (g_St)} (h : b_X8_step_84 fu v0 S = some r) (hc : Sum.elim (fun t : g_St => g_V g_KM 13 x 2 (g_qv g_KM 13 x z) t 84 [(0, .ref (g_ad x v0))] []) (fun e : g_St => g_V g_KM 13 x 2 (g_qv g_KM 13 x z) e 118 [(0, .ref (g_ad x v0))] []) r) : g_V g_KM 13 x 2 (g_qv g_KM 13 x z) S 84 [(0, .ref (g_ad x v0))] [] := by
  unfold b_X8_step_84 at h
  refine g_aload_n X dX8_step_84 0 rfl ?_
  refine g_aload_n X dX8_step_85 0 rfl ?_
  refine g_geti X g_cX8 w_X8_step_inX8 7 (by decide) w_X8_step_72 hk_v0 rfl dX8_step_86 ?_
  refine g_callVi X g_cX8 hk_v0 [.int ((S.1 v0 7))] rfl (cwV 1 X.2.2.2.2.1 gX8_step_X8_byteAt rfl rfl rfl hd_X8_byteAt ⟨Nat.le_of_ble_eq_true rfl, Nat.le_of_ble_eq_true rfl⟩) (Nat.le_of_ble_eq_true rfl) dX8_step_89 h (fun q hq => ct_X8_byteAt X.2.2.2.2.2.2.1 v0 ((S.1 v0 7)) hk_v0 _ hq) (fun r10 Sr10 h => ?_)
  refine g_i2l X dX8_step_92 ?_
  refine g_ldc2 X w_X8_step_82 dX8_step_93 ?_
  refine g_ldc2 X w_X8_step_84 dX8_step_96 ?_
  refine g_callSi X [.long ((Int32.toInt64 r10)), .long ((97 : Int64)), .long ((122 : Int64))] rfl (va_cwS 3 X.2.2.2.2.1 gX8_step_X8_in rfl rfl rfl hd_X8_in ⟨Nat.le_of_ble_eq_true rfl, Nat.le_of_ble_eq_true rfl⟩) (Nat.le_of_ble_eq_true rfl) dX8_step_99 h (fun q hq => ct_X8_in X.2.2.2.2.2.2.1 ((Int32.toInt64 r10)) ((97 : Int64)) ((122 : Int64))  _ hq) (fun r11 Sr11 h => ?_)
  refine g_if_eq X 118 dX8_step_102 (by decide) h (fun c_102 h => ?_) (fun c_102 h => ?_)
  · skip
    cases h
    exact g_sub [0] _ rfl hc
  · skip
    refine g_aload_n X dX8_step_105 0 rfl ?_
    refine g_dup X dX8_step_106 rfl ?_
    refine g_geti X g_cX8 w_X8_step_inX8 7 (by decide) w_X8_step_72 hk_v0 rfl dX8_step_107 ?_
    refine g_iconst X (v := 1) dX8_step_110 (by decide) ?_
    refine g_iadd X dX8_step_111 ?_
    refine g_puti X g_cX8 w_X8_step_inX8 7 (by decide) w_X8_step_72 hk_v0 rfl rfl (t := .int) (by decide +kernel) rfl rfl dX8_step_112 ?_
    refine g_goto X 84 dX8_step_115 (by decide) ?_
    cases h
    exact g_sub [0] _ rfl hc
set_option maxRecDepth 100000 in
set_option maxHeartbeats 400000 in
theorem ct_X8_step {l : Launch} {D : va_G} {ad : Nat → Nat} {cy : Nat → ClassId} {zz : (Nat → Nat) × (Nat → Nat)} (hinj : ∀ i j, i < 13 → j < 13 → ad i = ad j → i = j) {fu : Nat} (o : Nat) (hk_o : o < 13 ∧ g_KM o = g_kX8) {S : g_St} (z : Unit × g_St) (h : f_X8_step fu o S = some z) : g_Mv l g_KM 13 D ad cy zz yX8_step wsX8_step rm_X8_step [.ref (ad o)] S z := by
  refine g_ofv hinj (cc := cX8_step) (maxL := 2) (ret := none) (lv := [(0, .ref (ad o))]) (by decide) rfl (Nat.le_of_ble_eq_true rfl) rfl ?_
  intro x X hl hD ha hy hz
  subst hl hD ha hy hz
  unfold f_X8_step at h
  refine g_aload_n X dX8_step_0 0 rfl ?_
  refine g_geti X g_cX8 w_X8_step_inX8 5 (by decide) w_X8_step_60 hk_o rfl dX8_step_1 ?_
  refine g_if_le X 8 dX8_step_4 (by decide) h (fun c_4 h => ?_) (fun c_4 h => ?_)
  · skip
    obtain ⟨e, he, h⟩ := g_th_s h
    refine g_sub [0] _ rfl ?_
    refine g_lp_w (body := (fun t => b_X8_step_8 fu o t)) (P := fun t : g_St => g_V g_KM 13 x 2 (g_qv g_KM 13 x z) t 8 [(0, .ref (g_ad x o))] []) (E := (fun e : g_St => g_V g_KM 13 x 2 (g_qv g_KM 13 x z) e 34 [(0, .ref (g_ad x o))] [])) (fun t r hb hc => vb_X8_step_8 X o  hk_o t hb hc) fu S e he ?_
    obtain ⟨S1, rfl⟩ : ∃ q, q = e := ⟨_, rfl⟩
    show g_V g_KM 13 x 2 (g_qv g_KM 13 x z) S1 34 [(0, .ref (g_ad x o))] []
    refine g_aload_n X dX8_step_34 0 rfl ?_
    refine g_aload_n X dX8_step_35 0 rfl ?_
    refine g_geti X g_cX8 w_X8_step_inX8 7 (by decide) w_X8_step_72 hk_o rfl dX8_step_36 ?_
    refine g_puti X g_cX8 w_X8_step_inX8 8 (by decide) w_X8_step_63 hk_o rfl rfl (t := .int) (by decide +kernel) rfl rfl dX8_step_39 ?_
    refine g_aload_n X dX8_step_42 0 rfl ?_
    refine g_aload_n X dX8_step_43 0 rfl ?_
    refine g_geti X g_cX8 w_X8_step_inX8 7 (by decide) w_X8_step_72 hk_o rfl dX8_step_44 ?_
    refine g_callVi X g_cX8 hk_o [.int (((g_u S1.1 o 8 (S1.1 o 7)) o 7))] rfl (cwV 1 X.2.2.2.2.1 gX8_step_X8_byteAt rfl rfl rfl hd_X8_byteAt ⟨Nat.le_of_ble_eq_true rfl, Nat.le_of_ble_eq_true rfl⟩) (Nat.le_of_ble_eq_true rfl) dX8_step_47 h (fun q hq => ct_X8_byteAt X.2.2.2.2.2.2.1 o (((g_u S1.1 o 8 (S1.1 o 7)) o 7)) hk_o _ hq) (fun r2 Sr2 h => ?_)
    refine g_istore_n X [(1, _), (0, _)] dX8_step_50 (by decide) rfl ?_
    refine g_aload_n X dX8_step_51 1 rfl ?_
    refine g_iconst X (v := 0) dX8_step_52 (by decide) ?_
    refine g_puti X g_cX8 w_X8_step_inX8 10 (by decide) w_X8_step_79 hk_o rfl rfl (t := .int) (by decide +kernel) rfl rfl dX8_step_53 ?_
    refine g_iload_n X dX8_step_56 0 rfl ?_
    refine g_bipush X (v := (-4)) dX8_step_57 (by decide) ?_
    refine g_icmp_ne X 70 dX8_step_59 (by decide) h (fun c_59 h => ?_) (fun c_59 h => ?_)
    · skip
      refine g_iload_n X dX8_step_70 0 rfl ?_
      refine g_i2l X dX8_step_71 ?_
      refine g_ldc2 X w_X8_step_82 dX8_step_72 ?_
      refine g_ldc2 X w_X8_step_84 dX8_step_75 ?_
      refine g_callSi X [.long ((Int32.toInt64 r2)), .long ((97 : Int64)), .long ((122 : Int64))] rfl (va_cwS 3 X.2.2.2.2.1 gX8_step_X8_in rfl rfl rfl hd_X8_in ⟨Nat.le_of_ble_eq_true rfl, Nat.le_of_ble_eq_true rfl⟩) (Nat.le_of_ble_eq_true rfl) dX8_step_78 h (fun q hq => ct_X8_in X.2.2.2.2.2.2.1 ((Int32.toInt64 r2)) ((97 : Int64)) ((122 : Int64))  _ hq) (fun r3 Sr3 h => ?_)
      refine g_if_eq X 126 dX8_step_81 (by decide) h (fun c_81 h => ?_) (fun c_81 h => ?_)
      · skip
        refine g_iload_n X dX8_step_126 0 rfl ?_
        refine g_i2l X dX8_step_127 ?_
        refine g_ldc2 X w_X8_step_86 dX8_step_128 ?_
        refine g_ldc2 X w_X8_step_88 dX8_step_131 ?_
        refine g_callSi X [.long ((Int32.toInt64 r2)), .long ((48 : Int64)), .long ((57 : Int64))] rfl (va_cwS 3 X.2.2.2.2.1 gX8_step_X8_in rfl rfl rfl hd_X8_in ⟨Nat.le_of_ble_eq_true rfl, Nat.le_of_ble_eq_true rfl⟩) (Nat.le_of_ble_eq_true rfl) dX8_step_134 h (fun q hq => ct_X8_in X.2.2.2.2.2.2.1 ((Int32.toInt64 r2)) ((48 : Int64)) ((57 : Int64))  _ hq) (fun r4 Sr4 h => ?_)
        refine g_if_eq X 243 dX8_step_137 (by decide) h (fun c_137 h => ?_) (fun c_137 h => ?_)
        · skip
          refine g_aload_n X dX8_step_243 1 rfl ?_
          refine g_iconst X (v := 3) dX8_step_244 (by decide) ?_
          refine g_puti X g_cX8 w_X8_step_inX8 9 (by decide) w_X8_step_69 hk_o rfl rfl (t := .int) (by decide +kernel) rfl rfl dX8_step_245 ?_
          refine g_aload_n X dX8_step_248 1 rfl ?_
          refine g_dup X dX8_step_249 rfl ?_
          refine g_geti X g_cX8 w_X8_step_inX8 7 (by decide) w_X8_step_72 hk_o rfl dX8_step_250 ?_
          refine g_iconst X (v := 1) dX8_step_253 (by decide) ?_
          refine g_iadd X dX8_step_254 ?_
          refine g_puti X g_cX8 w_X8_step_inX8 7 (by decide) w_X8_step_72 hk_o rfl rfl (t := .int) (by decide +kernel) rfl rfl dX8_step_255 ?_
          refine g_iload_n X dX8_step_258 0 rfl ?_
          refine g_bipush X (v := (59)) dX8_step_259 (by decide) ?_
          refine g_icmp_eq X 269 dX8_step_261 (by decide) h (fun c_261 h => ?_) (fun c_261 h => ?_)
          · skip
            exact g_vret X h dX8_step_269
          · skip
            refine g_aload_n X dX8_step_264 1 rfl ?_
            refine g_iconst X (v := 1) dX8_step_265 (by decide) ?_
            refine g_callVv X g_cX8 hk_o [.int ((1 : Int32))] rfl (cwV 1 X.2.2.2.2.1 gX8_step_X8_fails rfl rfl rfl hd_X8_fails ⟨Nat.le_of_ble_eq_true rfl, Nat.le_of_ble_eq_true rfl⟩) (Nat.le_of_ble_eq_true rfl) dX8_step_266 h (fun q hq => ct_X8_fails X.2.2.2.2.2.2.1 o ((1 : Int32)) hk_o _ hq) (fun _ Sr5 h => ?_)
            exact g_vret X h dX8_step_269
        · skip
          obtain ⟨e, he, h⟩ := g_th_s h
          refine g_sub [1] _ rfl ?_
          refine g_lp_w (body := (fun t => b_X8_step_140 fu o t)) (P := fun t : g_St => g_V g_KM 13 x 2 (g_qv g_KM 13 x z) t 140 [(0, .ref (g_ad x o))] []) (E := (fun e : g_St => g_V g_KM 13 x 2 (g_qv g_KM 13 x z) e 217 [(0, .ref (g_ad x o))] [])) (fun t r hb hc => vb_X8_step_140 X o  hk_o t hb hc) fu Sr4 e he ?_
          obtain ⟨S2, rfl⟩ : ∃ q, q = e := ⟨_, rfl⟩
          show g_V g_KM 13 x 2 (g_qv g_KM 13 x z) S2 217 [(0, .ref (g_ad x o))] []
          refine g_aload_n X dX8_step_217 0 rfl ?_
          refine g_iconst X (v := 2) dX8_step_218 (by decide) ?_
          refine g_puti X g_cX8 w_X8_step_inX8 9 (by decide) w_X8_step_69 hk_o rfl rfl (t := .int) (by decide +kernel) rfl rfl dX8_step_219 ?_
          refine g_aload_n X dX8_step_222 0 rfl ?_
          refine g_geti X g_cX8 w_X8_step_inX8 7 (by decide) w_X8_step_72 hk_o rfl dX8_step_223 ?_
          refine g_aload_n X dX8_step_226 0 rfl ?_
          refine g_geti X g_cX8 w_X8_step_inX8 8 (by decide) w_X8_step_63 hk_o rfl dX8_step_227 ?_
          refine g_isub X dX8_step_230 ?_
          refine g_iconst X (v := 2) dX8_step_231 (by decide) ?_
          refine g_icmp_le X 269 dX8_step_232 (by decide) h (fun c_232 h => ?_) (fun c_232 h => ?_)
          · skip
            exact g_vret X h dX8_step_269
          · skip
            refine g_aload_n X dX8_step_235 0 rfl ?_
            refine g_iconst X (v := 1) dX8_step_236 (by decide) ?_
            refine g_callVv X g_cX8 hk_o [.int ((1 : Int32))] rfl (cwV 1 X.2.2.2.2.1 gX8_step_X8_fails rfl rfl rfl hd_X8_fails ⟨Nat.le_of_ble_eq_true rfl, Nat.le_of_ble_eq_true rfl⟩) (Nat.le_of_ble_eq_true rfl) dX8_step_237 h (fun q hq => ct_X8_fails X.2.2.2.2.2.2.1 o ((1 : Int32)) hk_o _ hq) (fun _ Sr9 h => ?_)
            refine g_goto X 269 dX8_step_240 (by decide) ?_
            exact g_vret X h dX8_step_269
      · skip
        obtain ⟨e, he, h⟩ := g_th_s h
        refine g_sub [1] _ rfl ?_
        refine g_lp_w (body := (fun t => b_X8_step_84 fu o t)) (P := fun t : g_St => g_V g_KM 13 x 2 (g_qv g_KM 13 x z) t 84 [(0, .ref (g_ad x o))] []) (E := (fun e : g_St => g_V g_KM 13 x 2 (g_qv g_KM 13 x z) e 118 [(0, .ref (g_ad x o))] [])) (fun t r hb hc => vb_X8_step_84 X o  hk_o t hb hc) fu Sr3 e he ?_
        obtain ⟨S3, rfl⟩ : ∃ q, q = e := ⟨_, rfl⟩
        show g_V g_KM 13 x 2 (g_qv g_KM 13 x z) S3 118 [(0, .ref (g_ad x o))] []
        refine g_aload_n X dX8_step_118 0 rfl ?_
        refine g_iconst X (v := 1) dX8_step_119 (by decide) ?_
        refine g_puti X g_cX8 w_X8_step_inX8 9 (by decide) w_X8_step_69 hk_o rfl rfl (t := .int) (by decide +kernel) rfl rfl dX8_step_120 ?_
        refine g_goto X 269 dX8_step_123 (by decide) ?_
        exact g_vret X h dX8_step_269
    · skip
      refine g_aload_n X dX8_step_62 1 rfl ?_
      refine g_iconst X (v := 0) dX8_step_63 (by decide) ?_
      refine g_puti X g_cX8 w_X8_step_inX8 9 (by decide) w_X8_step_69 hk_o rfl rfl (t := .int) (by decide +kernel) rfl rfl dX8_step_64 ?_
      refine g_goto X 269 dX8_step_67 (by decide) ?_
      exact g_vret X h dX8_step_269
  · skip
    exact g_vret X h dX8_step_7
abbrev rm_X8_number : Room := { frames := 2, cells := 0, slots := 0, locals := 46 }
theorem hd_X8_number : yX8_number.cls = RX8 ∧ yX8_number.cls ≠ "java/lang/invoke/MethodHandle" ∧ yX8_number.cls ≠ "java/lang/invoke/VarHandle" ∧ (parseMethodDescriptor yX8_number.desc).map (fun d => d.parameters.length) = some 2 := by decide +kernel
theorem w_X8_number_60 : Cond.fieldLink RX8 60 "TokenDoorsModel" "broken" "I" ∈ wsX8_number := by decide +kernel
theorem w_X8_number_inX8 : ∀ w ∈ wsX80, w ∈ wsX8_number := by decide +kernel
theorem w_X8_number_79 : Cond.fieldLink RX8 79 "TokenDoorsModel" "value" "I" ∈ wsX8_number := by decide +kernel
theorem w_X8_number_69 : Cond.fieldLink RX8 69 "TokenDoorsModel" "token" "I" ∈ wsX8_number := by decide +kernel
def j_X8_number_62 (fu : Nat) (v0 : Nat) (s0 : Int32) (S : g_St) : Option (Int32 × g_St) :=
  g_bd (f_X8_step fu v0 S) fun _ Sr1 => some (s0, Sr1)
def j_X8_number_47 (fu : Nat) (v0 : Nat) (v1 : Int32) (S : g_St) : Option (Int32 × g_St) :=
  if (S.1 v0 5) = 0 then (j_X8_number_62 fu v0 ((S.1 v0 10)) S) else (j_X8_number_62 fu v0 v1 S)
def j_X8_number_20 (fu : Nat) (v0 : Nat) (v1 : Int32) (v2 : Int32) (S : g_St) : Option (Int32 × g_St) :=
  if (S.1 v0 5) = 0 then (g_bd (f_X8_in fu ((Int32.toInt64 (S.1 v0 10))) ((Int32.toInt64 v1)) ((Int32.toInt64 v2)) S) fun r2 Sr2 => if r2 = 0 then (g_bd (f_X8_fails fu v0 ((3 : Int32)) Sr2) fun _ Sr3 => j_X8_number_47 fu v0 v1 Sr3) else (j_X8_number_47 fu v0 v1 Sr2)) else (j_X8_number_47 fu v0 v1 S)
def f_X8_number (fu : Nat) (o : Nat) (p0 : Int32) (p1 : Int32) (S : g_St) : Option (Int32 × g_St) :=
  if (S.1 o 5) = 0 then (if (S.1 o 9) = (2 : Int32) then (j_X8_number_20 fu o p0 p1 S) else (g_bd (f_X8_fails fu o ((2 : Int32)) S) fun _ Sr4 => j_X8_number_20 fu o p0 p1 Sr4)) else (j_X8_number_20 fu o p0 p1 S)
set_option maxRecDepth 100000 in
set_option maxHeartbeats 400000 in
theorem vj_X8_number_62 {x : g_CX} {z : Int32 × g_St} {fu : Nat} (X : g_X 13 x cX8_number RX8 4 wsX8_number rm_X8_number (some .int)) (v0 : Nat) (s0 : Int32) (hk_v0 : v0 < 13 ∧ g_KM v0 = g_kX8) (S : g_St) (h : j_X8_number_62 fu v0 s0 S = some z) : g_V g_KM 13 x 4 (g_qi g_KM 13 x z) S 62 [(0, .ref (g_ad x v0))] [.int (s0)] := by
  unfold j_X8_number_62 at h
  refine g_istore_n X [(3, _), (0, _)] dX8_number_62 (by decide) rfl ?_
  refine g_aload_n X dX8_number_63 1 rfl ?_
  refine g_callVv X g_cX8 hk_v0 [] rfl (cwV 0 X.2.2.2.2.1 gX8_number_X8_step rfl rfl rfl hd_X8_step ⟨Nat.le_of_ble_eq_true rfl, Nat.le_of_ble_eq_true rfl⟩) (Nat.le_of_ble_eq_true rfl) dX8_number_64 h (fun q hq => ct_X8_step X.2.2.2.2.2.2.1 v0 hk_v0 _ hq) (fun _ Sr1 h => ?_)
  refine g_iload_n X dX8_number_67 0 rfl ?_
  exact g_iret X h dX8_number_68
set_option maxRecDepth 100000 in
set_option maxHeartbeats 400000 in
theorem vj_X8_number_47 {x : g_CX} {z : Int32 × g_St} {fu : Nat} (X : g_X 13 x cX8_number RX8 4 wsX8_number rm_X8_number (some .int)) (v0 : Nat) (v1 : Int32) (hk_v0 : v0 < 13 ∧ g_KM v0 = g_kX8) (S : g_St) (h : j_X8_number_47 fu v0 v1 S = some z) : g_V g_KM 13 x 4 (g_qi g_KM 13 x z) S 47 [(0, .ref (g_ad x v0)), (1, .int (v1))] [] := by
  unfold j_X8_number_47 at h
  refine g_aload_n X dX8_number_47 0 rfl ?_
  refine g_geti X g_cX8 w_X8_number_inX8 5 (by decide) w_X8_number_60 hk_v0 rfl dX8_number_48 ?_
  refine g_if_ne X 61 dX8_number_51 (by decide) h (fun c_51 h => ?_) (fun c_51 h => ?_)
  · skip
    refine g_iload_n X dX8_number_61 1 rfl ?_
    refine g_sub [0] _ rfl ?_
    exact vj_X8_number_62 X v0 v1 hk_v0 _ h
  · skip
    refine g_aload_n X dX8_number_54 0 rfl ?_
    refine g_geti X g_cX8 w_X8_number_inX8 10 (by decide) w_X8_number_79 hk_v0 rfl dX8_number_55 ?_
    refine g_goto X 62 dX8_number_58 (by decide) ?_
    refine g_sub [0] _ rfl ?_
    exact vj_X8_number_62 X v0 ((S.1 v0 10)) hk_v0 _ h
set_option maxRecDepth 100000 in
set_option maxHeartbeats 400000 in
theorem vj_X8_number_20 {x : g_CX} {z : Int32 × g_St} {fu : Nat} (X : g_X 13 x cX8_number RX8 4 wsX8_number rm_X8_number (some .int)) (v0 : Nat) (v1 : Int32) (v2 : Int32) (hk_v0 : v0 < 13 ∧ g_KM v0 = g_kX8) (S : g_St) (h : j_X8_number_20 fu v0 v1 v2 S = some z) : g_V g_KM 13 x 4 (g_qi g_KM 13 x z) S 20 [(0, .ref (g_ad x v0)), (1, .int (v1)), (2, .int (v2))] [] := by
  unfold j_X8_number_20 at h
  refine g_aload_n X dX8_number_20 0 rfl ?_
  refine g_geti X g_cX8 w_X8_number_inX8 5 (by decide) w_X8_number_60 hk_v0 rfl dX8_number_21 ?_
  refine g_if_ne X 47 dX8_number_24 (by decide) h (fun c_24 h => ?_) (fun c_24 h => ?_)
  · skip
    refine g_sub [0, 1] _ rfl ?_
    exact vj_X8_number_47 X v0 v1 hk_v0 _ h
  · skip
    refine g_aload_n X dX8_number_27 0 rfl ?_
    refine g_geti X g_cX8 w_X8_number_inX8 10 (by decide) w_X8_number_79 hk_v0 rfl dX8_number_28 ?_
    refine g_i2l X dX8_number_31 ?_
    refine g_iload_n X dX8_number_32 1 rfl ?_
    refine g_i2l X dX8_number_33 ?_
    refine g_iload_n X dX8_number_34 2 rfl ?_
    refine g_i2l X dX8_number_35 ?_
    refine g_callSi X [.long ((Int32.toInt64 (S.1 v0 10))), .long ((Int32.toInt64 v1)), .long ((Int32.toInt64 v2))] rfl (va_cwS 3 X.2.2.2.2.1 gX8_number_X8_in rfl rfl rfl hd_X8_in ⟨Nat.le_of_ble_eq_true rfl, Nat.le_of_ble_eq_true rfl⟩) (Nat.le_of_ble_eq_true rfl) dX8_number_36 h (fun q hq => ct_X8_in X.2.2.2.2.2.2.1 ((Int32.toInt64 (S.1 v0 10))) ((Int32.toInt64 v1)) ((Int32.toInt64 v2))  _ hq) (fun r2 Sr2 h => ?_)
    refine g_if_ne X 47 dX8_number_39 (by decide) h (fun c_39 h => ?_) (fun c_39 h => ?_)
    · skip
      refine g_sub [0, 1] _ rfl ?_
      exact vj_X8_number_47 X v0 v1 hk_v0 _ h
    · skip
      refine g_aload_n X dX8_number_42 0 rfl ?_
      refine g_iconst X (v := 3) dX8_number_43 (by decide) ?_
      refine g_callVv X g_cX8 hk_v0 [.int ((3 : Int32))] rfl (cwV 1 X.2.2.2.2.1 gX8_number_X8_fails rfl rfl rfl hd_X8_fails ⟨Nat.le_of_ble_eq_true rfl, Nat.le_of_ble_eq_true rfl⟩) (Nat.le_of_ble_eq_true rfl) dX8_number_44 h (fun q hq => ct_X8_fails X.2.2.2.2.2.2.1 v0 ((3 : Int32)) hk_v0 _ hq) (fun _ Sr3 h => ?_)
      refine g_sub [0, 1] _ rfl ?_
      exact vj_X8_number_47 X v0 v1 hk_v0 _ h
set_option maxRecDepth 100000 in
set_option maxHeartbeats 400000 in
theorem ct_X8_number {l : Launch} {D : va_G} {ad : Nat → Nat} {cy : Nat → ClassId} {zz : (Nat → Nat) × (Nat → Nat)} (hinj : ∀ i j, i < 13 → j < 13 → ad i = ad j → i = j) {fu : Nat} (o : Nat) (p0 : Int32) (p1 : Int32) (hk_o : o < 13 ∧ g_KM o = g_kX8) {S : g_St} (z : Int32 × g_St) (h : f_X8_number fu o p0 p1 S = some z) : g_Mi l g_KM 13 D ad cy zz yX8_number wsX8_number rm_X8_number [.ref (ad o), .int (p0), .int (p1)] S z := by
  refine g_ofi hinj (cc := cX8_number) (maxL := 4) (ret := (some .int)) (lv := [(0, .ref (ad o)), (1, .int (p0)), (2, .int (p1))]) (by decide) rfl (Nat.le_of_ble_eq_true rfl) rfl ?_
  intro x X hl hD ha hy hz
  subst hl hD ha hy hz
  unfold f_X8_number at h
  refine g_aload_n X dX8_number_0 0 rfl ?_
  refine g_geti X g_cX8 w_X8_number_inX8 5 (by decide) w_X8_number_60 hk_o rfl dX8_number_1 ?_
  refine g_if_ne X 20 dX8_number_4 (by decide) h (fun c_4 h => ?_) (fun c_4 h => ?_)
  · skip
    refine g_sub [0, 1, 2] _ rfl ?_
    exact vj_X8_number_20 X o p0 p1 hk_o _ h
  · skip
    refine g_aload_n X dX8_number_7 0 rfl ?_
    refine g_geti X g_cX8 w_X8_number_inX8 9 (by decide) w_X8_number_69 hk_o rfl dX8_number_8 ?_
    refine g_iconst X (v := 2) dX8_number_11 (by decide) ?_
    refine g_icmp_eq X 20 dX8_number_12 (by decide) h (fun c_12 h => ?_) (fun c_12 h => ?_)
    · skip
      refine g_sub [0, 1, 2] _ rfl ?_
      exact vj_X8_number_20 X o p0 p1 hk_o _ h
    · skip
      refine g_aload_n X dX8_number_15 0 rfl ?_
      refine g_iconst X (v := 2) dX8_number_16 (by decide) ?_
      refine g_callVv X g_cX8 hk_o [.int ((2 : Int32))] rfl (cwV 1 X.2.2.2.2.1 gX8_number_X8_fails rfl rfl rfl hd_X8_fails ⟨Nat.le_of_ble_eq_true rfl, Nat.le_of_ble_eq_true rfl⟩) (Nat.le_of_ble_eq_true rfl) dX8_number_17 h (fun q hq => ct_X8_fails X.2.2.2.2.2.2.1 o ((2 : Int32)) hk_o _ hq) (fun _ Sr4 h => ?_)
      refine g_sub [0, 1, 2] _ rfl ?_
      exact vj_X8_number_20 X o p0 p1 hk_o _ h
abbrev rm_X8_readMore : Room := { frames := 3, cells := 0, slots := 0, locals := 69 }
theorem hd_X8_readMore : yX8_readMore.cls = RX8 ∧ yX8_readMore.cls ≠ "java/lang/invoke/MethodHandle" ∧ yX8_readMore.cls ≠ "java/lang/invoke/VarHandle" ∧ (parseMethodDescriptor yX8_readMore.desc).map (fun d => d.parameters.length) = some 1 := by decide +kernel
theorem w_X8_readMore_13 : Cond.fieldLink RX8 13 "TokenDoorsModel" "readPage" "[I" ∈ wsX8_readMore := by decide +kernel
theorem w_X8_readMore_inX8 : ∀ w ∈ wsX80, w ∈ wsX8_readMore := by decide +kernel
def j_X8_readMore_75 (fu : Nat) (v0 : Nat) (s0 : Nat) (s1 : Int32) (s2 : Int32) (S : g_St) : Option (Unit × g_St) :=
  g_ix s1 45 fun i26 => g_ld g_KM 13 (.inr (0, 45, false)) (S.2 v0 1) fun a27 => g_ix (16 : Int32) 45 fun i28 => g_ix (16 : Int32) 45 fun i29 => some ((), (g_u (g_u S.1 s0 i26 s2) a27 i29 (((g_u S.1 s0 i26 s2) a27 i28) + (1 : Int32)), S.2))
def f_X8_readMore (fu : Nat) (o : Nat) (p0 : Int32) (S : g_St) : Option (Unit × g_St) :=
  if (3 : Int32) < p0 then (g_ld g_KM 13 (.inr (0, 45, false)) (S.2 o 1) fun a1 => g_ix (41 : Int32) 45 fun i2 => g_ld g_KM 13 (.inr (0, 45, false)) (S.2 o 1) fun a3 => g_bd (f_X8_number fu o ((0 : Int32)) ((99 : Int32)) S) fun r4 Sr4 => g_ix ((17 : Int32) + (S.1 a1 i2)) 45 fun i5 => g_ld g_KM 13 (.inr (0, 45, false)) (Sr4.2 o 1) fun a6 => g_bd (f_X8_number fu o ((1 : Int32)) ((9 : Int32)) (g_u Sr4.1 a3 i5 r4, Sr4.2)) fun r7 Sr7 => g_ix ((25 : Int32) + (S.1 a1 i2)) 45 fun i8 => g_ld g_KM 13 (.inr (0, 45, false)) (Sr7.2 o 1) fun a9 => g_bd (f_X8_number fu o ((0 : Int32)) ((9 : Int32)) (g_u Sr7.1 a6 i8 r7, Sr7.2)) fun r10 Sr10 => g_ix ((33 : Int32) + (S.1 a1 i2)) 45 fun i11 => g_ld g_KM 13 (.inr (0, 45, false)) (Sr10.2 o 1) fun a12 => g_ix (41 : Int32) 45 fun i13 => g_ix (41 : Int32) 45 fun i14 => some ((), (g_u (g_u Sr10.1 a9 i11 r10) a12 i14 (((g_u Sr10.1 a9 i11 r10) a12 i13) + (1 : Int32)), Sr10.2))) else (g_ld g_KM 13 (.inr (0, 45, false)) (S.2 o 1) fun a15 => g_ix (16 : Int32) 45 fun i16 => g_ld g_KM 13 (.inr (0, 45, false)) (S.2 o 1) fun a17 => g_ix (S.1 a15 i16) 45 fun i18 => g_ld g_KM 13 (.inr (0, 45, false)) (S.2 o 1) fun a19 => g_bd (f_X8_number fu o ((1 : Int32)) ((9 : Int32)) (g_u S.1 a17 i18 p0, S.2)) fun r20 Sr20 => g_ix ((4 : Int32) + (S.1 a15 i16)) 45 fun i21 => g_ld g_KM 13 (.inr (0, 45, false)) (Sr20.2 o 1) fun a22 => g_bd (f_X8_number fu o ((0 : Int32)) ((9 : Int32)) (g_u Sr20.1 a19 i21 r20, Sr20.2)) fun r23 Sr23 => g_ix ((8 : Int32) + (S.1 a15 i16)) 45 fun i24 => g_ld g_KM 13 (.inr (0, 45, false)) (Sr23.2 o 1) fun a25 => if p0 = 0 then (g_ld g_KM 13 (.inr (0, 45, false)) (Sr23.2 o 1) fun a30 => g_ix ((4 : Int32) + (S.1 a15 i16)) 45 fun i31 => j_X8_readMore_75 fu o a25 (((12 : Int32) + (S.1 a15 i16))) (((g_u Sr23.1 a22 i24 r23) a30 i31)) (g_u Sr23.1 a22 i24 r23, Sr23.2)) else (j_X8_readMore_75 fu o a25 (((12 : Int32) + (S.1 a15 i16))) ((0 : Int32)) (g_u Sr23.1 a22 i24 r23, Sr23.2)))
set_option maxRecDepth 100000 in
set_option maxHeartbeats 400000 in
theorem vj_X8_readMore_75 {x : g_CX} {z : Unit × g_St} {fu : Nat} (X : g_X 13 x cX8_readMore RX8 3 wsX8_readMore rm_X8_readMore none) (v0 : Nat) (s0 : Nat) (s1 : Int32) (s2 : Int32) (hk_v0 : v0 < 13 ∧ g_KM v0 = g_kX8) (hk_s0 : s0 < 13 ∧ g_KM s0 = (.inr (0, 45, false))) (S : g_St) (h : j_X8_readMore_75 fu v0 s0 s1 s2 S = some z) : g_V g_KM 13 x 3 (g_qv g_KM 13 x z) S 75 [(0, .ref (g_ad x v0))] [.int (s2), .int (s1), .ref (g_ad x s0)] := by
  unfold j_X8_readMore_75 at h
  refine g_iast X hk_s0 dX8_readMore_75 h (fun i26 _ h => ?_)
  refine g_aload_n X dX8_readMore_76 0 rfl ?_
  refine g_getr X g_cX8 w_X8_readMore_inX8 1 (by decide) w_X8_readMore_13 hk_v0 rfl dX8_readMore_77 h (fun a27 hk_a27 h => ?_)
  refine g_bipush X (v := (16)) dX8_readMore_80 (by decide) ?_
  refine g_dup2_11 X dX8_readMore_82 rfl rfl ?_
  refine g_iald X hk_a27 dX8_readMore_83 h (fun i28 _ h => ?_)
  refine g_iconst X (v := 1) dX8_readMore_84 (by decide) ?_
  refine g_iadd X dX8_readMore_85 ?_
  refine g_iast X hk_a27 dX8_readMore_86 h (fun i29 _ h => ?_)
  exact g_vret X h dX8_readMore_87
set_option maxRecDepth 100000 in
set_option maxHeartbeats 400000 in
theorem ct_X8_readMore {l : Launch} {D : va_G} {ad : Nat → Nat} {cy : Nat → ClassId} {zz : (Nat → Nat) × (Nat → Nat)} (hinj : ∀ i j, i < 13 → j < 13 → ad i = ad j → i = j) {fu : Nat} (o : Nat) (p0 : Int32) (hk_o : o < 13 ∧ g_KM o = g_kX8) {S : g_St} (z : Unit × g_St) (h : f_X8_readMore fu o p0 S = some z) : g_Mv l g_KM 13 D ad cy zz yX8_readMore wsX8_readMore rm_X8_readMore [.ref (ad o), .int (p0)] S z := by
  refine g_ofv hinj (cc := cX8_readMore) (maxL := 3) (ret := none) (lv := [(0, .ref (ad o)), (1, .int (p0))]) (by decide) rfl (Nat.le_of_ble_eq_true rfl) rfl ?_
  intro x X hl hD ha hy hz
  subst hl hD ha hy hz
  unfold f_X8_readMore at h
  refine g_iload_n X dX8_readMore_0 1 rfl ?_
  refine g_iconst X (v := 3) dX8_readMore_1 (by decide) ?_
  refine g_icmp_gt X 88 dX8_readMore_2 (by decide) h (fun c_2 h => ?_) (fun c_2 h => ?_)
  · skip
    refine g_aload_n X dX8_readMore_88 0 rfl ?_
    refine g_getr X g_cX8 w_X8_readMore_inX8 1 (by decide) w_X8_readMore_13 hk_o rfl dX8_readMore_89 h (fun a1 hk_a1 h => ?_)
    refine g_bipush X (v := (41)) dX8_readMore_92 (by decide) ?_
    refine g_iald X hk_a1 dX8_readMore_94 h (fun i2 _ h => ?_)
    refine g_istore_n X [(2, _), (0, _), (1, _)] dX8_readMore_95 (by decide) rfl ?_
    refine g_aload_n X dX8_readMore_96 1 rfl ?_
    refine g_getr X g_cX8 w_X8_readMore_inX8 1 (by decide) w_X8_readMore_13 hk_o rfl dX8_readMore_97 h (fun a3 hk_a3 h => ?_)
    refine g_bipush X (v := (17)) dX8_readMore_100 (by decide) ?_
    refine g_iload_n X dX8_readMore_102 0 rfl ?_
    refine g_iadd X dX8_readMore_103 ?_
    refine g_aload_n X dX8_readMore_104 1 rfl ?_
    refine g_iconst X (v := 0) dX8_readMore_105 (by decide) ?_
    refine g_bipush X (v := (99)) dX8_readMore_106 (by decide) ?_
    refine g_callVi X g_cX8 hk_o [.int ((0 : Int32)), .int ((99 : Int32))] rfl (cwV 2 X.2.2.2.2.1 gX8_readMore_X8_number rfl rfl rfl hd_X8_number ⟨Nat.le_of_ble_eq_true rfl, Nat.le_of_ble_eq_true rfl⟩) (Nat.le_of_ble_eq_true rfl) dX8_readMore_108 h (fun q hq => ct_X8_number X.2.2.2.2.2.2.1 o ((0 : Int32)) ((99 : Int32)) hk_o _ hq) (fun r4 Sr4 h => ?_)
    refine g_iast X hk_a3 dX8_readMore_111 h (fun i5 _ h => ?_)
    refine g_aload_n X dX8_readMore_112 1 rfl ?_
    refine g_getr X g_cX8 w_X8_readMore_inX8 1 (by decide) w_X8_readMore_13 hk_o rfl dX8_readMore_113 h (fun a6 hk_a6 h => ?_)
    refine g_bipush X (v := (25)) dX8_readMore_116 (by decide) ?_
    refine g_iload_n X dX8_readMore_118 0 rfl ?_
    refine g_iadd X dX8_readMore_119 ?_
    refine g_aload_n X dX8_readMore_120 1 rfl ?_
    refine g_iconst X (v := 1) dX8_readMore_121 (by decide) ?_
    refine g_bipush X (v := (9)) dX8_readMore_122 (by decide) ?_
    refine g_callVi X g_cX8 hk_o [.int ((1 : Int32)), .int ((9 : Int32))] rfl (cwV 2 X.2.2.2.2.1 gX8_readMore_X8_number rfl rfl rfl hd_X8_number ⟨Nat.le_of_ble_eq_true rfl, Nat.le_of_ble_eq_true rfl⟩) (Nat.le_of_ble_eq_true rfl) dX8_readMore_124 h (fun q hq => ct_X8_number X.2.2.2.2.2.2.1 o ((1 : Int32)) ((9 : Int32)) hk_o _ hq) (fun r7 Sr7 h => ?_)
    refine g_iast X hk_a6 dX8_readMore_127 h (fun i8 _ h => ?_)
    refine g_aload_n X dX8_readMore_128 1 rfl ?_
    refine g_getr X g_cX8 w_X8_readMore_inX8 1 (by decide) w_X8_readMore_13 hk_o rfl dX8_readMore_129 h (fun a9 hk_a9 h => ?_)
    refine g_bipush X (v := (33)) dX8_readMore_132 (by decide) ?_
    refine g_iload_n X dX8_readMore_134 0 rfl ?_
    refine g_iadd X dX8_readMore_135 ?_
    refine g_aload_n X dX8_readMore_136 1 rfl ?_
    refine g_iconst X (v := 0) dX8_readMore_137 (by decide) ?_
    refine g_bipush X (v := (9)) dX8_readMore_138 (by decide) ?_
    refine g_callVi X g_cX8 hk_o [.int ((0 : Int32)), .int ((9 : Int32))] rfl (cwV 2 X.2.2.2.2.1 gX8_readMore_X8_number rfl rfl rfl hd_X8_number ⟨Nat.le_of_ble_eq_true rfl, Nat.le_of_ble_eq_true rfl⟩) (Nat.le_of_ble_eq_true rfl) dX8_readMore_140 h (fun q hq => ct_X8_number X.2.2.2.2.2.2.1 o ((0 : Int32)) ((9 : Int32)) hk_o _ hq) (fun r10 Sr10 h => ?_)
    refine g_iast X hk_a9 dX8_readMore_143 h (fun i11 _ h => ?_)
    refine g_aload_n X dX8_readMore_144 1 rfl ?_
    refine g_getr X g_cX8 w_X8_readMore_inX8 1 (by decide) w_X8_readMore_13 hk_o rfl dX8_readMore_145 h (fun a12 hk_a12 h => ?_)
    refine g_bipush X (v := (41)) dX8_readMore_148 (by decide) ?_
    refine g_dup2_11 X dX8_readMore_150 rfl rfl ?_
    refine g_iald X hk_a12 dX8_readMore_151 h (fun i13 _ h => ?_)
    refine g_iconst X (v := 1) dX8_readMore_152 (by decide) ?_
    refine g_iadd X dX8_readMore_153 ?_
    refine g_iast X hk_a12 dX8_readMore_154 h (fun i14 _ h => ?_)
    exact g_vret X h dX8_readMore_155
  · skip
    refine g_aload_n X dX8_readMore_5 0 rfl ?_
    refine g_getr X g_cX8 w_X8_readMore_inX8 1 (by decide) w_X8_readMore_13 hk_o rfl dX8_readMore_6 h (fun a15 hk_a15 h => ?_)
    refine g_bipush X (v := (16)) dX8_readMore_9 (by decide) ?_
    refine g_iald X hk_a15 dX8_readMore_11 h (fun i16 _ h => ?_)
    refine g_istore_n X [(2, _), (0, _), (1, _)] dX8_readMore_12 (by decide) rfl ?_
    refine g_aload_n X dX8_readMore_13 1 rfl ?_
    refine g_getr X g_cX8 w_X8_readMore_inX8 1 (by decide) w_X8_readMore_13 hk_o rfl dX8_readMore_14 h (fun a17 hk_a17 h => ?_)
    refine g_iload_n X dX8_readMore_17 0 rfl ?_
    refine g_iload_n X dX8_readMore_18 2 rfl ?_
    refine g_iast X hk_a17 dX8_readMore_19 h (fun i18 _ h => ?_)
    refine g_aload_n X dX8_readMore_20 1 rfl ?_
    refine g_getr X g_cX8 w_X8_readMore_inX8 1 (by decide) w_X8_readMore_13 hk_o rfl dX8_readMore_21 h (fun a19 hk_a19 h => ?_)
    refine g_iconst X (v := 4) dX8_readMore_24 (by decide) ?_
    refine g_iload_n X dX8_readMore_25 0 rfl ?_
    refine g_iadd X dX8_readMore_26 ?_
    refine g_aload_n X dX8_readMore_27 1 rfl ?_
    refine g_iconst X (v := 1) dX8_readMore_28 (by decide) ?_
    refine g_bipush X (v := (9)) dX8_readMore_29 (by decide) ?_
    refine g_callVi X g_cX8 hk_o [.int ((1 : Int32)), .int ((9 : Int32))] rfl (cwV 2 X.2.2.2.2.1 gX8_readMore_X8_number rfl rfl rfl hd_X8_number ⟨Nat.le_of_ble_eq_true rfl, Nat.le_of_ble_eq_true rfl⟩) (Nat.le_of_ble_eq_true rfl) dX8_readMore_31 h (fun q hq => ct_X8_number X.2.2.2.2.2.2.1 o ((1 : Int32)) ((9 : Int32)) hk_o _ hq) (fun r20 Sr20 h => ?_)
    refine g_iast X hk_a19 dX8_readMore_34 h (fun i21 _ h => ?_)
    refine g_aload_n X dX8_readMore_35 1 rfl ?_
    refine g_getr X g_cX8 w_X8_readMore_inX8 1 (by decide) w_X8_readMore_13 hk_o rfl dX8_readMore_36 h (fun a22 hk_a22 h => ?_)
    refine g_bipush X (v := (8)) dX8_readMore_39 (by decide) ?_
    refine g_iload_n X dX8_readMore_41 0 rfl ?_
    refine g_iadd X dX8_readMore_42 ?_
    refine g_aload_n X dX8_readMore_43 1 rfl ?_
    refine g_iconst X (v := 0) dX8_readMore_44 (by decide) ?_
    refine g_bipush X (v := (9)) dX8_readMore_45 (by decide) ?_
    refine g_callVi X g_cX8 hk_o [.int ((0 : Int32)), .int ((9 : Int32))] rfl (cwV 2 X.2.2.2.2.1 gX8_readMore_X8_number rfl rfl rfl hd_X8_number ⟨Nat.le_of_ble_eq_true rfl, Nat.le_of_ble_eq_true rfl⟩) (Nat.le_of_ble_eq_true rfl) dX8_readMore_47 h (fun q hq => ct_X8_number X.2.2.2.2.2.2.1 o ((0 : Int32)) ((9 : Int32)) hk_o _ hq) (fun r23 Sr23 h => ?_)
    refine g_iast X hk_a22 dX8_readMore_50 h (fun i24 _ h => ?_)
    refine g_aload_n X dX8_readMore_51 1 rfl ?_
    refine g_getr X g_cX8 w_X8_readMore_inX8 1 (by decide) w_X8_readMore_13 hk_o rfl dX8_readMore_52 h (fun a25 hk_a25 h => ?_)
    refine g_bipush X (v := (12)) dX8_readMore_55 (by decide) ?_
    refine g_iload_n X dX8_readMore_57 0 rfl ?_
    refine g_iadd X dX8_readMore_58 ?_
    refine g_iload_n X dX8_readMore_59 2 rfl ?_
    refine g_if_ne X 74 dX8_readMore_60 (by decide) h (fun c_60 h => ?_) (fun c_60 h => ?_)
    · skip
      refine g_iconst X (v := 0) dX8_readMore_74 (by decide) ?_
      refine g_sub [1] _ rfl ?_
      exact vj_X8_readMore_75 X o a25 (((12 : Int32) + (S.1 a15 i16))) ((0 : Int32)) hk_o hk_a25 _ h
    · skip
      refine g_aload_n X dX8_readMore_63 1 rfl ?_
      refine g_getr X g_cX8 w_X8_readMore_inX8 1 (by decide) w_X8_readMore_13 hk_o rfl dX8_readMore_64 h (fun a30 hk_a30 h => ?_)
      refine g_iconst X (v := 4) dX8_readMore_67 (by decide) ?_
      refine g_iload_n X dX8_readMore_68 0 rfl ?_
      refine g_iadd X dX8_readMore_69 ?_
      refine g_iald X hk_a30 dX8_readMore_70 h (fun i31 _ h => ?_)
      refine g_goto X 75 dX8_readMore_71 (by decide) ?_
      refine g_sub [1] _ rfl ?_
      exact vj_X8_readMore_75 X o a25 (((12 : Int32) + (S.1 a15 i16))) (((g_u Sr23.1 a22 i24 r23) a30 i31)) hk_o hk_a25 _ h
abbrev rm_X8_readLine : Room := { frames := 4, cells := 0, slots := 0, locals := 91 }
theorem hd_X8_readLine : yX8_readLine.cls = RX8 ∧ yX8_readLine.cls ≠ "java/lang/invoke/MethodHandle" ∧ yX8_readLine.cls ≠ "java/lang/invoke/VarHandle" ∧ (parseMethodDescriptor yX8_readLine.desc).map (fun d => d.parameters.length) = some 0 := by decide +kernel
theorem w_X8_readLine_105 : Cond.constantLong RX8 105 (4) ∈ wsX8_readLine := by decide +kernel
theorem w_X8_readLine_60 : Cond.fieldLink RX8 60 "TokenDoorsModel" "broken" "I" ∈ wsX8_readLine := by decide +kernel
theorem w_X8_readLine_inX8 : ∀ w ∈ wsX80, w ∈ wsX8_readLine := by decide +kernel
theorem w_X8_readLine_69 : Cond.fieldLink RX8 69 "TokenDoorsModel" "token" "I" ∈ wsX8_readLine := by decide +kernel
theorem w_X8_readLine_13 : Cond.fieldLink RX8 13 "TokenDoorsModel" "readPage" "[I" ∈ wsX8_readLine := by decide +kernel
def j_X8_readLine_98 (fu : Nat) (v0 : Nat) (S : g_St) : Option (Unit × g_St) :=
  g_bd (f_X8_step fu v0 S) fun _ Sr5 => some ((), Sr5)
def j_X8_readLine_61 (fu : Nat) (v0 : Nat) (v1 : Int32) (S : g_St) : Option (Unit × g_St) :=
  g_bd (f_X8_step fu v0 S) fun _ Sr3 => if (Sr3.1 v0 5) ≤ 0 then (g_bd (f_X8_readMore fu v0 v1 Sr3) fun _ Sr4 => if (Sr4.1 v0 5) = 0 then (if (Sr4.1 v0 9) = (3 : Int32) then (j_X8_readLine_98 fu v0 Sr4) else (g_bd (f_X8_fails fu v0 ((2 : Int32)) Sr4) fun _ Sr6 => j_X8_readLine_98 fu v0 Sr6)) else (j_X8_readLine_98 fu v0 Sr4)) else (some ((), Sr3))
def j_X8_readLine_56 (fu : Nat) (v0 : Nat) (v1 : Int32) (S : g_St) : Option (Unit × g_St) :=
  g_bd (f_X8_fails fu v0 ((5 : Int32)) S) fun _ Sr9 => j_X8_readLine_61 fu v0 v1 Sr9
def j_X8_readLine_39 (fu : Nat) (v0 : Nat) (v1 : Int32) (S : g_St) : Option (Unit × g_St) :=
  if v1 = (4 : Int32) then (g_ld g_KM 13 (.inr (0, 45, false)) (S.2 v0 1) fun a7 => g_ix (41 : Int32) 45 fun i8 => if (S.1 a7 i8) = (8 : Int32) then (j_X8_readLine_56 fu v0 v1 S) else (j_X8_readLine_61 fu v0 v1 S)) else (j_X8_readLine_61 fu v0 v1 S)
def f_X8_readLine (fu : Nat) (o : Nat) (S : g_St) : Option (Unit × g_St) :=
  g_bd (f_X8_nameHere fu o S) fun r1 Sr1 => g_bd (f_X8_in fu ((Int32.toInt64 r1)) ((0 : Int64)) ((4 : Int64)) Sr1) fun r2 Sr2 => if r2 = 0 then (g_bd (f_X8_fails fu o ((2 : Int32)) Sr2) fun _ Sr12 => some ((), Sr12)) else (if (3 : Int32) < r1 then (j_X8_readLine_39 fu o r1 Sr2) else (g_ld g_KM 13 (.inr (0, 45, false)) (Sr2.2 o 1) fun a10 => g_ix (16 : Int32) 45 fun i11 => if (Sr2.1 a10 i11) = (4 : Int32) then (j_X8_readLine_56 fu o r1 Sr2) else (j_X8_readLine_39 fu o r1 Sr2)))
set_option maxRecDepth 100000 in
set_option maxHeartbeats 400000 in
theorem vj_X8_readLine_98 {x : g_CX} {z : Unit × g_St} {fu : Nat} (X : g_X 13 x cX8_readLine RX8 2 wsX8_readLine rm_X8_readLine none) (v0 : Nat) (hk_v0 : v0 < 13 ∧ g_KM v0 = g_kX8) (S : g_St) (h : j_X8_readLine_98 fu v0 S = some z) : g_V g_KM 13 x 2 (g_qv g_KM 13 x z) S 98 [(0, .ref (g_ad x v0))] [] := by
  unfold j_X8_readLine_98 at h
  refine g_aload_n X dX8_readLine_98 0 rfl ?_
  refine g_callVv X g_cX8 hk_v0 [] rfl (cwV 0 X.2.2.2.2.1 gX8_readLine_X8_step rfl rfl rfl hd_X8_step ⟨Nat.le_of_ble_eq_true rfl, Nat.le_of_ble_eq_true rfl⟩) (Nat.le_of_ble_eq_true rfl) dX8_readLine_99 h (fun q hq => ct_X8_step X.2.2.2.2.2.2.1 v0 hk_v0 _ hq) (fun _ Sr5 h => ?_)
  exact g_vret X h dX8_readLine_102
set_option maxRecDepth 100000 in
set_option maxHeartbeats 400000 in
theorem vj_X8_readLine_61 {x : g_CX} {z : Unit × g_St} {fu : Nat} (X : g_X 13 x cX8_readLine RX8 2 wsX8_readLine rm_X8_readLine none) (v0 : Nat) (v1 : Int32) (hk_v0 : v0 < 13 ∧ g_KM v0 = g_kX8) (S : g_St) (h : j_X8_readLine_61 fu v0 v1 S = some z) : g_V g_KM 13 x 2 (g_qv g_KM 13 x z) S 61 [(0, .ref (g_ad x v0)), (1, .int (v1))] [] := by
  unfold j_X8_readLine_61 at h
  refine g_aload_n X dX8_readLine_61 0 rfl ?_
  refine g_callVv X g_cX8 hk_v0 [] rfl (cwV 0 X.2.2.2.2.1 gX8_readLine_X8_step rfl rfl rfl hd_X8_step ⟨Nat.le_of_ble_eq_true rfl, Nat.le_of_ble_eq_true rfl⟩) (Nat.le_of_ble_eq_true rfl) dX8_readLine_62 h (fun q hq => ct_X8_step X.2.2.2.2.2.2.1 v0 hk_v0 _ hq) (fun _ Sr3 h => ?_)
  refine g_aload_n X dX8_readLine_65 0 rfl ?_
  refine g_geti X g_cX8 w_X8_readLine_inX8 5 (by decide) w_X8_readLine_60 hk_v0 rfl dX8_readLine_66 ?_
  refine g_if_le X 73 dX8_readLine_69 (by decide) h (fun c_69 h => ?_) (fun c_69 h => ?_)
  · skip
    refine g_aload_n X dX8_readLine_73 0 rfl ?_
    refine g_iload_n X dX8_readLine_74 1 rfl ?_
    refine g_callVv X g_cX8 hk_v0 [.int (v1)] rfl (cwV 1 X.2.2.2.2.1 gX8_readLine_X8_readMore rfl rfl rfl hd_X8_readMore ⟨Nat.le_of_ble_eq_true rfl, Nat.le_of_ble_eq_true rfl⟩) (Nat.le_of_ble_eq_true rfl) dX8_readLine_75 h (fun q hq => ct_X8_readMore X.2.2.2.2.2.2.1 v0 v1 hk_v0 _ hq) (fun _ Sr4 h => ?_)
    refine g_aload_n X dX8_readLine_78 0 rfl ?_
    refine g_geti X g_cX8 w_X8_readLine_inX8 5 (by decide) w_X8_readLine_60 hk_v0 rfl dX8_readLine_79 ?_
    refine g_if_ne X 98 dX8_readLine_82 (by decide) h (fun c_82 h => ?_) (fun c_82 h => ?_)
    · skip
      refine g_sub [0] _ rfl ?_
      exact vj_X8_readLine_98 X v0 hk_v0 _ h
    · skip
      refine g_aload_n X dX8_readLine_85 0 rfl ?_
      refine g_geti X g_cX8 w_X8_readLine_inX8 9 (by decide) w_X8_readLine_69 hk_v0 rfl dX8_readLine_86 ?_
      refine g_iconst X (v := 3) dX8_readLine_89 (by decide) ?_
      refine g_icmp_eq X 98 dX8_readLine_90 (by decide) h (fun c_90 h => ?_) (fun c_90 h => ?_)
      · skip
        refine g_sub [0] _ rfl ?_
        exact vj_X8_readLine_98 X v0 hk_v0 _ h
      · skip
        refine g_aload_n X dX8_readLine_93 0 rfl ?_
        refine g_iconst X (v := 2) dX8_readLine_94 (by decide) ?_
        refine g_callVv X g_cX8 hk_v0 [.int ((2 : Int32))] rfl (cwV 1 X.2.2.2.2.1 gX8_readLine_X8_fails rfl rfl rfl hd_X8_fails ⟨Nat.le_of_ble_eq_true rfl, Nat.le_of_ble_eq_true rfl⟩) (Nat.le_of_ble_eq_true rfl) dX8_readLine_95 h (fun q hq => ct_X8_fails X.2.2.2.2.2.2.1 v0 ((2 : Int32)) hk_v0 _ hq) (fun _ Sr6 h => ?_)
        refine g_sub [0] _ rfl ?_
        exact vj_X8_readLine_98 X v0 hk_v0 _ h
  · skip
    exact g_vret X h dX8_readLine_72
set_option maxRecDepth 100000 in
set_option maxHeartbeats 400000 in
theorem vj_X8_readLine_56 {x : g_CX} {z : Unit × g_St} {fu : Nat} (X : g_X 13 x cX8_readLine RX8 2 wsX8_readLine rm_X8_readLine none) (v0 : Nat) (v1 : Int32) (hk_v0 : v0 < 13 ∧ g_KM v0 = g_kX8) (S : g_St) (h : j_X8_readLine_56 fu v0 v1 S = some z) : g_V g_KM 13 x 2 (g_qv g_KM 13 x z) S 56 [(0, .ref (g_ad x v0)), (1, .int (v1))] [] := by
  unfold j_X8_readLine_56 at h
  refine g_aload_n X dX8_readLine_56 0 rfl ?_
  refine g_iconst X (v := 5) dX8_readLine_57 (by decide) ?_
  refine g_callVv X g_cX8 hk_v0 [.int ((5 : Int32))] rfl (cwV 1 X.2.2.2.2.1 gX8_readLine_X8_fails rfl rfl rfl hd_X8_fails ⟨Nat.le_of_ble_eq_true rfl, Nat.le_of_ble_eq_true rfl⟩) (Nat.le_of_ble_eq_true rfl) dX8_readLine_58 h (fun q hq => ct_X8_fails X.2.2.2.2.2.2.1 v0 ((5 : Int32)) hk_v0 _ hq) (fun _ Sr9 h => ?_)
  refine g_sub [0, 1] _ rfl ?_
  exact vj_X8_readLine_61 X v0 v1 hk_v0 _ h
set_option maxRecDepth 100000 in
set_option maxHeartbeats 400000 in
theorem vj_X8_readLine_39 {x : g_CX} {z : Unit × g_St} {fu : Nat} (X : g_X 13 x cX8_readLine RX8 2 wsX8_readLine rm_X8_readLine none) (v0 : Nat) (v1 : Int32) (hk_v0 : v0 < 13 ∧ g_KM v0 = g_kX8) (S : g_St) (h : j_X8_readLine_39 fu v0 v1 S = some z) : g_V g_KM 13 x 2 (g_qv g_KM 13 x z) S 39 [(0, .ref (g_ad x v0)), (1, .int (v1))] [] := by
  unfold j_X8_readLine_39 at h
  refine g_iload_n X dX8_readLine_39 1 rfl ?_
  refine g_iconst X (v := 4) dX8_readLine_40 (by decide) ?_
  refine g_icmp_ne X 61 dX8_readLine_41 (by decide) h (fun c_41 h => ?_) (fun c_41 h => ?_)
  · skip
    refine g_sub [0, 1] _ rfl ?_
    exact vj_X8_readLine_61 X v0 v1 hk_v0 _ h
  · skip
    refine g_aload_n X dX8_readLine_44 0 rfl ?_
    refine g_getr X g_cX8 w_X8_readLine_inX8 1 (by decide) w_X8_readLine_13 hk_v0 rfl dX8_readLine_45 h (fun a7 hk_a7 h => ?_)
    refine g_bipush X (v := (41)) dX8_readLine_48 (by decide) ?_
    refine g_iald X hk_a7 dX8_readLine_50 h (fun i8 _ h => ?_)
    refine g_bipush X (v := (8)) dX8_readLine_51 (by decide) ?_
    refine g_icmp_ne X 61 dX8_readLine_53 (by decide) h (fun c_53 h => ?_) (fun c_53 h => ?_)
    · skip
      refine g_sub [0, 1] _ rfl ?_
      exact vj_X8_readLine_61 X v0 v1 hk_v0 _ h
    · skip
      refine g_sub [0, 1] _ rfl ?_
      exact vj_X8_readLine_56 X v0 v1 hk_v0 _ h
set_option maxRecDepth 100000 in
set_option maxHeartbeats 400000 in
theorem ct_X8_readLine {l : Launch} {D : va_G} {ad : Nat → Nat} {cy : Nat → ClassId} {zz : (Nat → Nat) × (Nat → Nat)} (hinj : ∀ i j, i < 13 → j < 13 → ad i = ad j → i = j) {fu : Nat} (o : Nat) (hk_o : o < 13 ∧ g_KM o = g_kX8) {S : g_St} (z : Unit × g_St) (h : f_X8_readLine fu o S = some z) : g_Mv l g_KM 13 D ad cy zz yX8_readLine wsX8_readLine rm_X8_readLine [.ref (ad o)] S z := by
  refine g_ofv hinj (cc := cX8_readLine) (maxL := 2) (ret := none) (lv := [(0, .ref (ad o))]) (by decide) rfl (Nat.le_of_ble_eq_true rfl) rfl ?_
  intro x X hl hD ha hy hz
  subst hl hD ha hy hz
  unfold f_X8_readLine at h
  refine g_aload_n X dX8_readLine_0 0 rfl ?_
  refine g_callVi X g_cX8 hk_o [] rfl (cwV 0 X.2.2.2.2.1 gX8_readLine_X8_nameHere rfl rfl rfl hd_X8_nameHere ⟨Nat.le_of_ble_eq_true rfl, Nat.le_of_ble_eq_true rfl⟩) (Nat.le_of_ble_eq_true rfl) dX8_readLine_1 h (fun q hq => ct_X8_nameHere X.2.2.2.2.2.2.1 o hk_o _ hq) (fun r1 Sr1 h => ?_)
  refine g_istore_n X [(1, _), (0, _)] dX8_readLine_4 (by decide) rfl ?_
  refine g_iload_n X dX8_readLine_5 0 rfl ?_
  refine g_i2l X dX8_readLine_6 ?_
  refine g_lconst X (v := 0) dX8_readLine_7 (by decide) ?_
  refine g_ldc2 X w_X8_readLine_105 dX8_readLine_8 ?_
  refine g_callSi X [.long ((Int32.toInt64 r1)), .long ((0 : Int64)), .long ((4 : Int64))] rfl (va_cwS 3 X.2.2.2.2.1 gX8_readLine_X8_in rfl rfl rfl hd_X8_in ⟨Nat.le_of_ble_eq_true rfl, Nat.le_of_ble_eq_true rfl⟩) (Nat.le_of_ble_eq_true rfl) dX8_readLine_11 h (fun q hq => ct_X8_in X.2.2.2.2.2.2.1 ((Int32.toInt64 r1)) ((0 : Int64)) ((4 : Int64))  _ hq) (fun r2 Sr2 h => ?_)
  refine g_if_ne X 23 dX8_readLine_14 (by decide) h (fun c_14 h => ?_) (fun c_14 h => ?_)
  · skip
    refine g_iload_n X dX8_readLine_23 0 rfl ?_
    refine g_iconst X (v := 3) dX8_readLine_24 (by decide) ?_
    refine g_icmp_gt X 39 dX8_readLine_25 (by decide) h (fun c_25 h => ?_) (fun c_25 h => ?_)
    · skip
      refine g_sub [1, 0] _ rfl ?_
      exact vj_X8_readLine_39 X o r1 hk_o _ h
    · skip
      refine g_aload_n X dX8_readLine_28 1 rfl ?_
      refine g_getr X g_cX8 w_X8_readLine_inX8 1 (by decide) w_X8_readLine_13 hk_o rfl dX8_readLine_29 h (fun a10 hk_a10 h => ?_)
      refine g_bipush X (v := (16)) dX8_readLine_32 (by decide) ?_
      refine g_iald X hk_a10 dX8_readLine_34 h (fun i11 _ h => ?_)
      refine g_iconst X (v := 4) dX8_readLine_35 (by decide) ?_
      refine g_icmp_eq X 56 dX8_readLine_36 (by decide) h (fun c_36 h => ?_) (fun c_36 h => ?_)
      · skip
        refine g_sub [1, 0] _ rfl ?_
        exact vj_X8_readLine_56 X o r1 hk_o _ h
      · skip
        refine g_sub [1, 0] _ rfl ?_
        exact vj_X8_readLine_39 X o r1 hk_o _ h
  · skip
    refine g_aload_n X dX8_readLine_17 1 rfl ?_
    refine g_iconst X (v := 2) dX8_readLine_18 (by decide) ?_
    refine g_callVv X g_cX8 hk_o [.int ((2 : Int32))] rfl (cwV 1 X.2.2.2.2.1 gX8_readLine_X8_fails rfl rfl rfl hd_X8_fails ⟨Nat.le_of_ble_eq_true rfl, Nat.le_of_ble_eq_true rfl⟩) (Nat.le_of_ble_eq_true rfl) dX8_readLine_19 h (fun q hq => ct_X8_fails X.2.2.2.2.2.2.1 o ((2 : Int32)) hk_o _ hq) (fun _ Sr12 h => ?_)
    exact g_vret X h dX8_readLine_22
abbrev rm_X8_text : Room := { frames := 5, cells := 0, slots := 0, locals := 112 }
theorem hd_X8_text : yX8_text.cls = RX8 ∧ yX8_text.cls ≠ "java/lang/invoke/MethodHandle" ∧ yX8_text.cls ≠ "java/lang/invoke/VarHandle" ∧ (parseMethodDescriptor yX8_text.desc).map (fun d => d.parameters.length) = some 0 := by decide +kernel
theorem w_X8_text_60 : Cond.fieldLink RX8 60 "TokenDoorsModel" "broken" "I" ∈ wsX8_text := by decide +kernel
theorem w_X8_text_inX8 : ∀ w ∈ wsX80, w ∈ wsX8_text := by decide +kernel
theorem w_X8_text_72 : Cond.fieldLink RX8 72 "TokenDoorsModel" "spot" "I" ∈ wsX8_text := by decide +kernel
theorem w_X8_text_13 : Cond.fieldLink RX8 13 "TokenDoorsModel" "readPage" "[I" ∈ wsX8_text := by decide +kernel
theorem w_X8_text_69 : Cond.fieldLink RX8 69 "TokenDoorsModel" "token" "I" ∈ wsX8_text := by decide +kernel
theorem w_X8_text_57 : Cond.fieldLink RX8 57 "TokenDoorsModel" "taped" "I" ∈ wsX8_text := by decide +kernel
theorem w_X8_text_113 : Cond.fieldLink RX8 113 "TokenDoorsModel" "fault" "I" ∈ wsX8_text := by decide +kernel
theorem w_X8_text_7 : Cond.fieldLink RX8 7 "TokenDoorsModel" "state" "[I" ∈ wsX8_text := by decide +kernel
theorem w_X8_text_116 : Cond.fieldLink RX8 116 "TokenDoorsModel" "seenMany" "I" ∈ wsX8_text := by decide +kernel
theorem w_X8_text_38 : Cond.fieldLink RX8 38 "TokenDoorsModel" "isKept" "[Z" ∈ wsX8_text := by decide +kernel
theorem w_X8_text_66 : Cond.fieldLink RX8 66 "TokenDoorsModel" "brokenAt" "I" ∈ wsX8_text := by decide +kernel
def b_X8_text_14 (fu : Nat) (v0 : Nat) (v1 : Int32) (v2 : Int32) (S : g_St) : Option ((Int32 × g_St) ⊕ (g_St)) :=
  if (45 : Int32) ≤ v2 then (some (.inr S)) else (g_ld g_KM 13 (.inr (0, 45, false)) (S.2 v0 1) fun a1 => g_ix v2 45 fun i2 => some (.inl ((v2 + 1), (g_u S.1 a1 i2 (0 : Int32), S.2))))
def b_X8_text_37 (fu : Nat) (v0 : Nat) (v1 : Int32) (S : g_St) : Option ((Int32 × g_St) ⊕ (Int32 × g_St)) :=
  if (S.1 v0 5) = 0 then (if (S.1 v0 9) = 0 then (some (.inr (v1, S))) else (g_bd (f_X8_readLine fu v0 S) fun _ Sr4 => some (.inl ((v1 + 1), Sr4)))) else (some (.inr (v1, S)))
def b_X8_text_91 (fu : Nat) (v0 : Nat) (v1 : Int32) (v2 : Int32) (S : g_St) : Option ((Int32 × g_St) ⊕ (g_St)) :=
  if (45 : Int32) ≤ v2 then (some (.inr S)) else (g_ld g_KM 13 (.inr (0, 270, false)) (S.2 v0 0) fun a5 => g_ld g_KM 13 (.inr (0, 45, false)) (S.2 v0 1) fun a6 => g_ix v2 45 fun i7 => g_ix v2 270 fun i8 => some (.inl ((v2 + 1), (g_u S.1 a5 i8 (S.1 a6 i7), S.2))))
def f_X8_text (fu : Nat) (o : Nat) (S : g_St) : Option (Int32 × g_St) :=
  g_th (g_lp (fun t => b_X8_text_14 fu o ((0 : Int32)) t.1 t.2) fu ((0 : Int32), (g_u (g_u S.1 o 5 (0 : Int32)) o 7 (0 : Int32), S.2))) fun e => match e with | S1 => g_bd (f_X8_step fu o S1) fun _ Sr3 => g_th (g_lp (fun t => b_X8_text_37 fu o t.1 t.2) fu ((0 : Int32), Sr3)) fun e => match e with | (w1_2, S2) => if ((g_u (g_u S2.1 o 3 (0 : Int32)) o 4 ((g_u S2.1 o 3 (0 : Int32)) o 5)) o 5) ≤ 0 then (g_th (g_lp (fun t => b_X8_text_91 fu o w1_2 t.1 t.2) fu ((0 : Int32), (g_u (g_u S2.1 o 3 (0 : Int32)) o 4 ((g_u S2.1 o 3 (0 : Int32)) o 5), S2.2))) fun e => match e with | S3 => g_ld g_KM 13 (.inr (2, 2, false)) (S3.2 o 22) fun a9 => g_ix (0 : Int32) 2 fun i10 => g_ld g_KM 13 (.inr (2, 2, false)) (S3.2 o 22) fun a11 => g_ix (1 : Int32) 2 fun i12 => some (w1_2, (g_u (g_u (g_u S3.1 o 20 (0 : Int32)) a9 i10 (vp_nar .boolean (0 : Int32))) a11 i12 (vp_nar .boolean (0 : Int32)), S3.2))) else (some (((-10 : Int32) - ((g_u (g_u S2.1 o 3 (0 : Int32)) o 4 ((g_u S2.1 o 3 (0 : Int32)) o 5)) o 6)), (g_u (g_u S2.1 o 3 (0 : Int32)) o 4 ((g_u S2.1 o 3 (0 : Int32)) o 5), S2.2)))
set_option maxRecDepth 100000 in
set_option maxHeartbeats 400000 in
theorem vb_X8_text_14 {x : g_CX} {z : Int32 × g_St} {fu : Nat} (X : g_X 13 x cX8_text RX8 3 wsX8_text rm_X8_text (some .int)) (v0 : Nat) (v1 : Int32) (v2 : Int32) (hk_v0 : v0 < 13 ∧ g_KM v0 = g_kX8) (S : g_St) {r : (Int32 × g_St) ⊕ (g_St)} (h : b_X8_text_14 fu v0 v1 v2 S = some r) (hc : Sum.elim (fun t : Int32 × g_St => g_V g_KM 13 x 3 (g_qi g_KM 13 x z) t.2 14 [(0, .ref (g_ad x v0)), (1, .int (v1)), (2, .int (t.1))] []) (fun e : g_St => g_V g_KM 13 x 3 (g_qi g_KM 13 x z) e 33 [(0, .ref (g_ad x v0)), (1, .int (v1))] []) r) : g_V g_KM 13 x 3 (g_qi g_KM 13 x z) S 14 [(0, .ref (g_ad x v0)), (1, .int (v1)), (2, .int (v2))] [] := by
  unfold b_X8_text_14 at h
  refine g_iload_n X dX8_text_14 2 rfl ?_
  refine g_bipush X (v := (45)) dX8_text_15 (by decide) ?_
  refine g_icmp_ge X 33 dX8_text_17 (by decide) h (fun c_17 h => ?_) (fun c_17 h => ?_)
  · skip
    cases h
    exact g_sub [0, 1] _ rfl hc
  · skip
    refine g_aload_n X dX8_text_20 0 rfl ?_
    refine g_getr X g_cX8 w_X8_text_inX8 1 (by decide) w_X8_text_13 hk_v0 rfl dX8_text_21 h (fun a1 hk_a1 h => ?_)
    refine g_iload_n X dX8_text_24 2 rfl ?_
    refine g_iconst X (v := 0) dX8_text_25 (by decide) ?_
    refine g_iast X hk_a1 dX8_text_26 h (fun i2 _ h => ?_)
    refine g_iinc X [(2, _), (0, _), (1, _)] dX8_text_27 2 rfl rfl (by decide) rfl ?_
    refine g_goto X 14 dX8_text_30 (by decide) ?_
    cases h
    exact g_sub [1, 2, 0] _ rfl hc
set_option maxRecDepth 100000 in
set_option maxHeartbeats 400000 in
theorem vb_X8_text_37 {x : g_CX} {z : Int32 × g_St} {fu : Nat} (X : g_X 13 x cX8_text RX8 3 wsX8_text rm_X8_text (some .int)) (v0 : Nat) (v1 : Int32) (hk_v0 : v0 < 13 ∧ g_KM v0 = g_kX8) (S : g_St) {r : (Int32 × g_St) ⊕ (Int32 × g_St)} (h : b_X8_text_37 fu v0 v1 S = some r) (hc : Sum.elim (fun t : Int32 × g_St => g_V g_KM 13 x 3 (g_qi g_KM 13 x z) t.2 37 [(0, .ref (g_ad x v0)), (1, .int (t.1))] []) (fun e : Int32 × g_St => g_V g_KM 13 x 3 (g_qi g_KM 13 x z) e.2 61 [(0, .ref (g_ad x v0)), (1, .int (e.1))] []) r) : g_V g_KM 13 x 3 (g_qi g_KM 13 x z) S 37 [(0, .ref (g_ad x v0)), (1, .int (v1))] [] := by
  unfold b_X8_text_37 at h
  refine g_aload_n X dX8_text_37 0 rfl ?_
  refine g_geti X g_cX8 w_X8_text_inX8 5 (by decide) w_X8_text_60 hk_v0 rfl dX8_text_38 ?_
  refine g_if_ne X 61 dX8_text_41 (by decide) h (fun c_41 h => ?_) (fun c_41 h => ?_)
  · skip
    cases h
    exact g_sub [0, 1] _ rfl hc
  · skip
    refine g_aload_n X dX8_text_44 0 rfl ?_
    refine g_geti X g_cX8 w_X8_text_inX8 9 (by decide) w_X8_text_69 hk_v0 rfl dX8_text_45 ?_
    refine g_if_eq X 61 dX8_text_48 (by decide) h (fun c_48 h => ?_) (fun c_48 h => ?_)
    · skip
      cases h
      exact g_sub [0, 1] _ rfl hc
    · skip
      refine g_aload_n X dX8_text_51 0 rfl ?_
      refine g_callVv X g_cX8 hk_v0 [] rfl (cwV 0 X.2.2.2.2.1 gX8_text_X8_readLine rfl rfl rfl hd_X8_readLine ⟨Nat.le_of_ble_eq_true rfl, Nat.le_of_ble_eq_true rfl⟩) (Nat.le_of_ble_eq_true rfl) dX8_text_52 h (fun q hq => ct_X8_readLine X.2.2.2.2.2.2.1 v0 hk_v0 _ hq) (fun _ Sr4 h => ?_)
      refine g_iinc X [(1, _), (0, _)] dX8_text_55 1 rfl rfl (by decide) rfl ?_
      refine g_goto X 37 dX8_text_58 (by decide) ?_
      cases h
      exact g_sub [1, 0] _ rfl hc
set_option maxRecDepth 100000 in
set_option maxHeartbeats 400000 in
theorem vb_X8_text_91 {x : g_CX} {z : Int32 × g_St} {fu : Nat} (X : g_X 13 x cX8_text RX8 3 wsX8_text rm_X8_text (some .int)) (v0 : Nat) (v1 : Int32) (v2 : Int32) (hk_v0 : v0 < 13 ∧ g_KM v0 = g_kX8) (S : g_St) {r : (Int32 × g_St) ⊕ (g_St)} (h : b_X8_text_91 fu v0 v1 v2 S = some r) (hc : Sum.elim (fun t : Int32 × g_St => g_V g_KM 13 x 3 (g_qi g_KM 13 x z) t.2 91 [(0, .ref (g_ad x v0)), (1, .int (v1)), (2, .int (t.1))] []) (fun e : g_St => g_V g_KM 13 x 3 (g_qi g_KM 13 x z) e 115 [(0, .ref (g_ad x v0)), (1, .int (v1))] []) r) : g_V g_KM 13 x 3 (g_qi g_KM 13 x z) S 91 [(0, .ref (g_ad x v0)), (1, .int (v1)), (2, .int (v2))] [] := by
  unfold b_X8_text_91 at h
  refine g_iload_n X dX8_text_91 2 rfl ?_
  refine g_bipush X (v := (45)) dX8_text_92 (by decide) ?_
  refine g_icmp_ge X 115 dX8_text_94 (by decide) h (fun c_94 h => ?_) (fun c_94 h => ?_)
  · skip
    cases h
    exact g_sub [0, 1] _ rfl hc
  · skip
    refine g_aload_n X dX8_text_97 0 rfl ?_
    refine g_getr X g_cX8 w_X8_text_inX8 0 (by decide) w_X8_text_7 hk_v0 rfl dX8_text_98 h (fun a5 hk_a5 h => ?_)
    refine g_iload_n X dX8_text_101 2 rfl ?_
    refine g_aload_n X dX8_text_102 0 rfl ?_
    refine g_getr X g_cX8 w_X8_text_inX8 1 (by decide) w_X8_text_13 hk_v0 rfl dX8_text_103 h (fun a6 hk_a6 h => ?_)
    refine g_iload_n X dX8_text_106 2 rfl ?_
    refine g_iald X hk_a6 dX8_text_107 h (fun i7 _ h => ?_)
    refine g_iast X hk_a5 dX8_text_108 h (fun i8 _ h => ?_)
    refine g_iinc X [(2, _), (0, _), (1, _)] dX8_text_109 2 rfl rfl (by decide) rfl ?_
    refine g_goto X 91 dX8_text_112 (by decide) ?_
    cases h
    exact g_sub [1, 2, 0] _ rfl hc
set_option maxRecDepth 100000 in
set_option maxHeartbeats 400000 in
theorem ct_X8_text {l : Launch} {D : va_G} {ad : Nat → Nat} {cy : Nat → ClassId} {zz : (Nat → Nat) × (Nat → Nat)} (hinj : ∀ i j, i < 13 → j < 13 → ad i = ad j → i = j) {fu : Nat} (o : Nat) (hk_o : o < 13 ∧ g_KM o = g_kX8) {S : g_St} (z : Int32 × g_St) (h : f_X8_text fu o S = some z) : g_Mi l g_KM 13 D ad cy zz yX8_text wsX8_text rm_X8_text [.ref (ad o)] S z := by
  refine g_ofi hinj (cc := cX8_text) (maxL := 3) (ret := (some .int)) (lv := [(0, .ref (ad o))]) (by decide) rfl (Nat.le_of_ble_eq_true rfl) rfl ?_
  intro x X hl hD ha hy hz
  subst hl hD ha hy hz
  unfold f_X8_text at h
  refine g_aload_n X dX8_text_0 0 rfl ?_
  refine g_iconst X (v := 0) dX8_text_1 (by decide) ?_
  refine g_puti X g_cX8 w_X8_text_inX8 5 (by decide) w_X8_text_60 hk_o rfl rfl (t := .int) (by decide +kernel) rfl rfl dX8_text_2 ?_
  refine g_aload_n X dX8_text_5 0 rfl ?_
  refine g_iconst X (v := 0) dX8_text_6 (by decide) ?_
  refine g_puti X g_cX8 w_X8_text_inX8 7 (by decide) w_X8_text_72 hk_o rfl rfl (t := .int) (by decide +kernel) rfl rfl dX8_text_7 ?_
  refine g_iconst X (v := 0) dX8_text_10 (by decide) ?_
  refine g_istore_n X [(1, _), (0, _)] dX8_text_11 (by decide) rfl ?_
  refine g_iconst X (v := 0) dX8_text_12 (by decide) ?_
  refine g_istore_n X [(2, _), (1, _), (0, _)] dX8_text_13 (by decide) rfl ?_
  obtain ⟨e, he, h⟩ := g_th_s h
  refine g_sub [2, 1, 0] _ rfl ?_
  refine g_lp_w (body := (fun t => b_X8_text_14 fu o ((0 : Int32)) t.1 t.2)) (P := fun t : Int32 × g_St => g_V g_KM 13 x 3 (g_qi g_KM 13 x z) t.2 14 [(0, .ref (g_ad x o)), (1, .int ((0 : Int32))), (2, .int (t.1))] []) (E := (fun e : g_St => g_V g_KM 13 x 3 (g_qi g_KM 13 x z) e 33 [(0, .ref (g_ad x o)), (1, .int ((0 : Int32)))] [])) (fun t r hb hc => vb_X8_text_14 X o ((0 : Int32)) t.1 hk_o t.2 hb hc) fu ((0 : Int32), (g_u (g_u S.1 o 5 (0 : Int32)) o 7 (0 : Int32), S.2)) e he ?_
  obtain ⟨S1, rfl⟩ : ∃ q, q = e := ⟨_, rfl⟩
  show g_V g_KM 13 x 3 (g_qi g_KM 13 x z) S1 33 [(0, .ref (g_ad x o)), (1, .int ((0 : Int32)))] []
  refine g_aload_n X dX8_text_33 0 rfl ?_
  refine g_callVv X g_cX8 hk_o [] rfl (cwV 0 X.2.2.2.2.1 gX8_text_X8_step rfl rfl rfl hd_X8_step ⟨Nat.le_of_ble_eq_true rfl, Nat.le_of_ble_eq_true rfl⟩) (Nat.le_of_ble_eq_true rfl) dX8_text_34 h (fun q hq => ct_X8_step X.2.2.2.2.2.2.1 o hk_o _ hq) (fun _ Sr3 h => ?_)
  obtain ⟨e, he, h⟩ := g_th_s h
  refine g_sub [0, 1] _ rfl ?_
  refine g_lp_w (body := (fun t => b_X8_text_37 fu o t.1 t.2)) (P := fun t : Int32 × g_St => g_V g_KM 13 x 3 (g_qi g_KM 13 x z) t.2 37 [(0, .ref (g_ad x o)), (1, .int (t.1))] []) (E := (fun e : Int32 × g_St => g_V g_KM 13 x 3 (g_qi g_KM 13 x z) e.2 61 [(0, .ref (g_ad x o)), (1, .int (e.1))] [])) (fun t r hb hc => vb_X8_text_37 X o t.1 hk_o t.2 hb hc) fu ((0 : Int32), Sr3) e he ?_
  obtain ⟨w1_2, S2⟩ := e
  show g_V g_KM 13 x 3 (g_qi g_KM 13 x z) S2 61 [(0, .ref (g_ad x o)), (1, .int (w1_2))] []
  refine g_aload_n X dX8_text_61 0 rfl ?_
  refine g_iconst X (v := 0) dX8_text_62 (by decide) ?_
  refine g_puti X g_cX8 w_X8_text_inX8 3 (by decide) w_X8_text_57 hk_o rfl rfl (t := .int) (by decide +kernel) rfl rfl dX8_text_63 ?_
  refine g_aload_n X dX8_text_66 0 rfl ?_
  refine g_aload_n X dX8_text_67 0 rfl ?_
  refine g_geti X g_cX8 w_X8_text_inX8 5 (by decide) w_X8_text_60 hk_o rfl dX8_text_68 ?_
  refine g_puti X g_cX8 w_X8_text_inX8 4 (by decide) w_X8_text_113 hk_o rfl rfl (t := .int) (by decide +kernel) rfl rfl dX8_text_71 ?_
  refine g_aload_n X dX8_text_74 0 rfl ?_
  refine g_geti X g_cX8 w_X8_text_inX8 5 (by decide) w_X8_text_60 hk_o rfl dX8_text_75 ?_
  refine g_if_le X 89 dX8_text_78 (by decide) h (fun c_78 h => ?_) (fun c_78 h => ?_)
  · skip
    refine g_iconst X (v := 0) dX8_text_89 (by decide) ?_
    refine g_istore_n X [(2, _), (0, _), (1, _)] dX8_text_90 (by decide) rfl ?_
    obtain ⟨e, he, h⟩ := g_th_s h
    refine g_sub [1, 2, 0] _ rfl ?_
    refine g_lp_w (body := (fun t => b_X8_text_91 fu o w1_2 t.1 t.2)) (P := fun t : Int32 × g_St => g_V g_KM 13 x 3 (g_qi g_KM 13 x z) t.2 91 [(0, .ref (g_ad x o)), (1, .int (w1_2)), (2, .int (t.1))] []) (E := (fun e : g_St => g_V g_KM 13 x 3 (g_qi g_KM 13 x z) e 115 [(0, .ref (g_ad x o)), (1, .int (w1_2))] [])) (fun t r hb hc => vb_X8_text_91 X o w1_2 t.1 hk_o t.2 hb hc) fu ((0 : Int32), (g_u (g_u S2.1 o 3 (0 : Int32)) o 4 ((g_u S2.1 o 3 (0 : Int32)) o 5), S2.2)) e he ?_
    obtain ⟨S3, rfl⟩ : ∃ q, q = e := ⟨_, rfl⟩
    show g_V g_KM 13 x 3 (g_qi g_KM 13 x z) S3 115 [(0, .ref (g_ad x o)), (1, .int (w1_2))] []
    refine g_aload_n X dX8_text_115 0 rfl ?_
    refine g_iconst X (v := 0) dX8_text_116 (by decide) ?_
    refine g_puti X g_cX8 w_X8_text_inX8 20 (by decide) w_X8_text_116 hk_o rfl rfl (t := .int) (by decide +kernel) rfl rfl dX8_text_117 ?_
    refine g_aload_n X dX8_text_120 0 rfl ?_
    refine g_getr X g_cX8 w_X8_text_inX8 22 (by decide) w_X8_text_38 hk_o rfl dX8_text_121 h (fun a9 hk_a9 h => ?_)
    refine g_iconst X (v := 0) dX8_text_124 (by decide) ?_
    refine g_iconst X (v := 0) dX8_text_125 (by decide) ?_
    refine g_zast X hk_a9 dX8_text_126 h (fun i10 _ h => ?_)
    refine g_aload_n X dX8_text_127 0 rfl ?_
    refine g_getr X g_cX8 w_X8_text_inX8 22 (by decide) w_X8_text_38 hk_o rfl dX8_text_128 h (fun a11 hk_a11 h => ?_)
    refine g_iconst X (v := 1) dX8_text_131 (by decide) ?_
    refine g_iconst X (v := 0) dX8_text_132 (by decide) ?_
    refine g_zast X hk_a11 dX8_text_133 h (fun i12 _ h => ?_)
    refine g_iload_n X dX8_text_134 1 rfl ?_
    exact g_iret X h dX8_text_135
  · skip
    refine g_bipush X (v := (-10)) dX8_text_81 (by decide) ?_
    refine g_aload_n X dX8_text_83 0 rfl ?_
    refine g_geti X g_cX8 w_X8_text_inX8 6 (by decide) w_X8_text_66 hk_o rfl dX8_text_84 ?_
    refine g_isub X dX8_text_87 ?_
    exact g_iret X h dX8_text_88
abbrev rm_X8_fault : Room := { frames := 0, cells := 0, slots := 0, locals := 0 }
theorem hd_X8_fault : yX8_fault.cls = RX8 ∧ yX8_fault.cls ≠ "java/lang/invoke/MethodHandle" ∧ yX8_fault.cls ≠ "java/lang/invoke/VarHandle" ∧ (parseMethodDescriptor yX8_fault.desc).map (fun d => d.parameters.length) = some 0 := by decide +kernel
theorem w_X8_fault_113 : Cond.fieldLink RX8 113 "TokenDoorsModel" "fault" "I" ∈ wsX8_fault := by decide +kernel
theorem w_X8_fault_inX8 : ∀ w ∈ wsX80, w ∈ wsX8_fault := by decide +kernel
def f_X8_fault (fu : Nat) (o : Nat) (S : g_St) : Option (Int32 × g_St) :=
  some ((S.1 o 4), S)
set_option maxRecDepth 100000 in
set_option maxHeartbeats 400000 in
theorem ct_X8_fault {l : Launch} {D : va_G} {ad : Nat → Nat} {cy : Nat → ClassId} {zz : (Nat → Nat) × (Nat → Nat)} (hinj : ∀ i j, i < 13 → j < 13 → ad i = ad j → i = j) {fu : Nat} (o : Nat) (hk_o : o < 13 ∧ g_KM o = g_kX8) {S : g_St} (z : Int32 × g_St) (h : f_X8_fault fu o S = some z) : g_Mi l g_KM 13 D ad cy zz yX8_fault wsX8_fault rm_X8_fault [.ref (ad o)] S z := by
  refine g_ofi hinj (cc := cX8_fault) (maxL := 1) (ret := (some .int)) (lv := [(0, .ref (ad o))]) (by decide) rfl (Nat.le_of_ble_eq_true rfl) rfl ?_
  intro x X hl hD ha hy hz
  subst hl hD ha hy hz
  unfold f_X8_fault at h
  refine g_aload_n X dX8_fault_0 0 rfl ?_
  refine g_geti X g_cX8 w_X8_fault_inX8 4 (by decide) w_X8_fault_113 hk_o rfl dX8_fault_1 ?_
  exact g_iret X h dX8_fault_4
abbrev rm_X8_isDoor : Room := { frames := 1, cells := 0, slots := 0, locals := 25 }
theorem hd_X8_isDoor : yX8_isDoor.cls = RX8 ∧ yX8_isDoor.cls ≠ "java/lang/invoke/MethodHandle" ∧ yX8_isDoor.cls ≠ "java/lang/invoke/VarHandle" ∧ (parseMethodDescriptor yX8_isDoor.desc).map (fun d => d.parameters.length) = some 1 := by decide +kernel
theorem w_X8_isDoor_7 : Cond.fieldLink RX8 7 "TokenDoorsModel" "state" "[I" ∈ wsX8_isDoor := by decide +kernel
theorem w_X8_isDoor_inX8 : ∀ w ∈ wsX80, w ∈ wsX8_isDoor := by decide +kernel
def f_X8_isDoor (fu : Nat) (o : Nat) (p0 : Int32) (S : g_St) : Option (Int32 × g_St) :=
  g_ld g_KM 13 (.inr (0, 270, false)) (S.2 o 0) fun a1 => g_ix (16 : Int32) 270 fun i2 => g_bd (f_X8_in fu ((Int32.toInt64 p0)) ((0 : Int64)) ((Int32.toInt64 ((S.1 a1 i2) - (1 : Int32)))) S) fun r3 Sr3 => g_zb r3 (some (r3, Sr3))
set_option maxRecDepth 100000 in
set_option maxHeartbeats 400000 in
theorem ct_X8_isDoor {l : Launch} {D : va_G} {ad : Nat → Nat} {cy : Nat → ClassId} {zz : (Nat → Nat) × (Nat → Nat)} (hinj : ∀ i j, i < 13 → j < 13 → ad i = ad j → i = j) {fu : Nat} (o : Nat) (p0 : Int32) (hk_o : o < 13 ∧ g_KM o = g_kX8) {S : g_St} (z : Int32 × g_St) (h : f_X8_isDoor fu o p0 S = some z) : g_Mi l g_KM 13 D ad cy zz yX8_isDoor wsX8_isDoor rm_X8_isDoor [.ref (ad o), .int (p0)] S z := by
  refine g_ofi hinj (cc := cX8_isDoor) (maxL := 2) (ret := (some .boolean)) (lv := [(0, .ref (ad o)), (1, .int (p0))]) (by decide) rfl (Nat.le_of_ble_eq_true rfl) rfl ?_
  intro x X hl hD ha hy hz
  subst hl hD ha hy hz
  unfold f_X8_isDoor at h
  refine g_iload_n X dX8_isDoor_0 1 rfl ?_
  refine g_i2l X dX8_isDoor_1 ?_
  refine g_lconst X (v := 0) dX8_isDoor_2 (by decide) ?_
  refine g_aload_n X dX8_isDoor_3 0 rfl ?_
  refine g_getr X g_cX8 w_X8_isDoor_inX8 0 (by decide) w_X8_isDoor_7 hk_o rfl dX8_isDoor_4 h (fun a1 hk_a1 h => ?_)
  refine g_bipush X (v := (16)) dX8_isDoor_7 (by decide) ?_
  refine g_iald X hk_a1 dX8_isDoor_9 h (fun i2 _ h => ?_)
  refine g_iconst X (v := 1) dX8_isDoor_10 (by decide) ?_
  refine g_isub X dX8_isDoor_11 ?_
  refine g_i2l X dX8_isDoor_12 ?_
  refine g_callSi X [.long ((Int32.toInt64 p0)), .long ((0 : Int64)), .long ((Int32.toInt64 ((S.1 a1 i2) - (1 : Int32))))] rfl (va_cwS 3 X.2.2.2.2.1 gX8_isDoor_X8_in rfl rfl rfl hd_X8_in ⟨Nat.le_of_ble_eq_true rfl, Nat.le_of_ble_eq_true rfl⟩) (Nat.le_of_ble_eq_true rfl) dX8_isDoor_13 h (fun q hq => ct_X8_in X.2.2.2.2.2.2.1 ((Int32.toInt64 p0)) ((0 : Int64)) ((Int32.toInt64 ((S.1 a1 i2) - (1 : Int32))))  _ hq) (fun r3 Sr3 h => ?_)
  exact g_zret X h dX8_isDoor_16
abbrev rm_X8_isCrowd : Room := { frames := 1, cells := 0, slots := 0, locals := 25 }
theorem hd_X8_isCrowd : yX8_isCrowd.cls = RX8 ∧ yX8_isCrowd.cls ≠ "java/lang/invoke/MethodHandle" ∧ yX8_isCrowd.cls ≠ "java/lang/invoke/VarHandle" ∧ (parseMethodDescriptor yX8_isCrowd.desc).map (fun d => d.parameters.length) = some 1 := by decide +kernel
theorem w_X8_isCrowd_7 : Cond.fieldLink RX8 7 "TokenDoorsModel" "state" "[I" ∈ wsX8_isCrowd := by decide +kernel
theorem w_X8_isCrowd_inX8 : ∀ w ∈ wsX80, w ∈ wsX8_isCrowd := by decide +kernel
def f_X8_isCrowd (fu : Nat) (o : Nat) (p0 : Int32) (S : g_St) : Option (Int32 × g_St) :=
  g_ld g_KM 13 (.inr (0, 270, false)) (S.2 o 0) fun a1 => g_ix (41 : Int32) 270 fun i2 => g_bd (f_X8_in fu ((Int32.toInt64 p0)) ((0 : Int64)) ((Int32.toInt64 ((S.1 a1 i2) - (1 : Int32)))) S) fun r3 Sr3 => g_zb r3 (some (r3, Sr3))
set_option maxRecDepth 100000 in
set_option maxHeartbeats 400000 in
theorem ct_X8_isCrowd {l : Launch} {D : va_G} {ad : Nat → Nat} {cy : Nat → ClassId} {zz : (Nat → Nat) × (Nat → Nat)} (hinj : ∀ i j, i < 13 → j < 13 → ad i = ad j → i = j) {fu : Nat} (o : Nat) (p0 : Int32) (hk_o : o < 13 ∧ g_KM o = g_kX8) {S : g_St} (z : Int32 × g_St) (h : f_X8_isCrowd fu o p0 S = some z) : g_Mi l g_KM 13 D ad cy zz yX8_isCrowd wsX8_isCrowd rm_X8_isCrowd [.ref (ad o), .int (p0)] S z := by
  refine g_ofi hinj (cc := cX8_isCrowd) (maxL := 2) (ret := (some .boolean)) (lv := [(0, .ref (ad o)), (1, .int (p0))]) (by decide) rfl (Nat.le_of_ble_eq_true rfl) rfl ?_
  intro x X hl hD ha hy hz
  subst hl hD ha hy hz
  unfold f_X8_isCrowd at h
  refine g_iload_n X dX8_isCrowd_0 1 rfl ?_
  refine g_i2l X dX8_isCrowd_1 ?_
  refine g_lconst X (v := 0) dX8_isCrowd_2 (by decide) ?_
  refine g_aload_n X dX8_isCrowd_3 0 rfl ?_
  refine g_getr X g_cX8 w_X8_isCrowd_inX8 0 (by decide) w_X8_isCrowd_7 hk_o rfl dX8_isCrowd_4 h (fun a1 hk_a1 h => ?_)
  refine g_bipush X (v := (41)) dX8_isCrowd_7 (by decide) ?_
  refine g_iald X hk_a1 dX8_isCrowd_9 h (fun i2 _ h => ?_)
  refine g_iconst X (v := 1) dX8_isCrowd_10 (by decide) ?_
  refine g_isub X dX8_isCrowd_11 ?_
  refine g_i2l X dX8_isCrowd_12 ?_
  refine g_callSi X [.long ((Int32.toInt64 p0)), .long ((0 : Int64)), .long ((Int32.toInt64 ((S.1 a1 i2) - (1 : Int32))))] rfl (va_cwS 3 X.2.2.2.2.1 gX8_isCrowd_X8_in rfl rfl rfl hd_X8_in ⟨Nat.le_of_ble_eq_true rfl, Nat.le_of_ble_eq_true rfl⟩) (Nat.le_of_ble_eq_true rfl) dX8_isCrowd_13 h (fun q hq => ct_X8_in X.2.2.2.2.2.2.1 ((Int32.toInt64 p0)) ((0 : Int64)) ((Int32.toInt64 ((S.1 a1 i2) - (1 : Int32))))  _ hq) (fun r3 Sr3 h => ?_)
  exact g_zret X h dX8_isCrowd_16
abbrev rm_X8_isLong : Room := { frames := 1, cells := 0, slots := 0, locals := 25 }
theorem hd_X8_isLong : yX8_isLong.cls ≠ "java/lang/invoke/MethodHandle" ∧ yX8_isLong.cls ≠ "java/lang/invoke/VarHandle" ∧ (parseMethodDescriptor yX8_isLong.desc).map (fun d => d.parameters.length) = some 1 := by decide +kernel
theorem w_X8_isLong_119 : Cond.constantLong RX8 119 (100) ∈ wsX8_isLong := by decide +kernel
def f_X8_isLong (fu : Nat) (p0 : Int32) (S : g_St) : Option (Int32 × g_St) :=
  g_bd (f_X8_in fu ((Int32.toInt64 p0)) ((0 : Int64)) ((100 : Int64)) S) fun r1 Sr1 => g_zb r1 (some (r1, Sr1))
set_option maxRecDepth 100000 in
set_option maxHeartbeats 400000 in
theorem ct_X8_isLong {l : Launch} {D : va_G} {ad : Nat → Nat} {cy : Nat → ClassId} {zz : (Nat → Nat) × (Nat → Nat)} (hinj : ∀ i j, i < 13 → j < 13 → ad i = ad j → i = j) {fu : Nat} (p0 : Int32)  {S : g_St} (z : Int32 × g_St) (h : f_X8_isLong fu p0 S = some z) : g_Mi l g_KM 13 D ad cy zz yX8_isLong wsX8_isLong rm_X8_isLong [.int (p0)] S z := by
  refine g_ofi hinj (cc := cX8_isLong) (maxL := 1) (ret := (some .boolean)) (lv := [(0, .int (p0))]) (by decide) rfl (Nat.le_of_ble_eq_true rfl) rfl ?_
  intro x X hl hD ha hy hz
  subst hl hD ha hy hz
  unfold f_X8_isLong at h
  refine g_iload_n X dX8_isLong_0 0 rfl ?_
  refine g_i2l X dX8_isLong_1 ?_
  refine g_lconst X (v := 0) dX8_isLong_2 (by decide) ?_
  refine g_ldc2 X w_X8_isLong_119 dX8_isLong_3 ?_
  refine g_callSi X [.long ((Int32.toInt64 p0)), .long ((0 : Int64)), .long ((100 : Int64))] rfl (va_cwS 3 X.2.2.2.2.1 gX8_isLong_X8_in rfl rfl rfl hd_X8_in ⟨Nat.le_of_ble_eq_true rfl, Nat.le_of_ble_eq_true rfl⟩) (Nat.le_of_ble_eq_true rfl) dX8_isLong_6 h (fun q hq => ct_X8_in X.2.2.2.2.2.2.1 ((Int32.toInt64 p0)) ((0 : Int64)) ((100 : Int64))  _ hq) (fun r1 Sr1 h => ?_)
  exact g_zret X h dX8_isLong_9
abbrev rm_X8_roomOn : Room := { frames := 0, cells := 0, slots := 0, locals := 0 }
theorem hd_X8_roomOn : yX8_roomOn.cls = RX8 ∧ yX8_roomOn.cls ≠ "java/lang/invoke/MethodHandle" ∧ yX8_roomOn.cls ≠ "java/lang/invoke/VarHandle" ∧ (parseMethodDescriptor yX8_roomOn.desc).map (fun d => d.parameters.length) = some 2 := by decide +kernel
theorem w_X8_roomOn_7 : Cond.fieldLink RX8 7 "TokenDoorsModel" "state" "[I" ∈ wsX8_roomOn := by decide +kernel
theorem w_X8_roomOn_inX8 : ∀ w ∈ wsX80, w ∈ wsX8_roomOn := by decide +kernel
def f_X8_roomOn (fu : Nat) (o : Nat) (p0 : Int32) (p1 : Int32) (S : g_St) : Option (Int32 × g_St) :=
  g_ld g_KM 13 (.inr (0, 270, false)) (S.2 o 0) fun a1 => g_ix ((p0 + (12 : Int32)) + p1) 270 fun i2 => g_ld g_KM 13 (.inr (0, 270, false)) (S.2 o 0) fun a3 => g_ix (p0 + p1) 270 fun i4 => if (S.1 a3 i4) = 0 then (some ((S.1 a1 i2), S)) else (g_ld g_KM 13 (.inr (0, 270, false)) (S.2 o 0) fun a5 => g_ix ((p0 + (4 : Int32)) + p1) 270 fun i6 => some (((S.1 a5 i6) - (S.1 a1 i2)), S))
set_option maxRecDepth 100000 in
set_option maxHeartbeats 400000 in
theorem ct_X8_roomOn {l : Launch} {D : va_G} {ad : Nat → Nat} {cy : Nat → ClassId} {zz : (Nat → Nat) × (Nat → Nat)} (hinj : ∀ i j, i < 13 → j < 13 → ad i = ad j → i = j) {fu : Nat} (o : Nat) (p0 : Int32) (p1 : Int32) (hk_o : o < 13 ∧ g_KM o = g_kX8) {S : g_St} (z : Int32 × g_St) (h : f_X8_roomOn fu o p0 p1 S = some z) : g_Mi l g_KM 13 D ad cy zz yX8_roomOn wsX8_roomOn rm_X8_roomOn [.ref (ad o), .int (p0), .int (p1)] S z := by
  refine g_ofi hinj (cc := cX8_roomOn) (maxL := 4) (ret := (some .int)) (lv := [(0, .ref (ad o)), (1, .int (p0)), (2, .int (p1))]) (by decide) rfl (Nat.le_of_ble_eq_true rfl) rfl ?_
  intro x X hl hD ha hy hz
  subst hl hD ha hy hz
  unfold f_X8_roomOn at h
  refine g_aload_n X dX8_roomOn_0 0 rfl ?_
  refine g_getr X g_cX8 w_X8_roomOn_inX8 0 (by decide) w_X8_roomOn_7 hk_o rfl dX8_roomOn_1 h (fun a1 hk_a1 h => ?_)
  refine g_iload_n X dX8_roomOn_4 1 rfl ?_
  refine g_bipush X (v := (12)) dX8_roomOn_5 (by decide) ?_
  refine g_iadd X dX8_roomOn_7 ?_
  refine g_iload_n X dX8_roomOn_8 2 rfl ?_
  refine g_iadd X dX8_roomOn_9 ?_
  refine g_iald X hk_a1 dX8_roomOn_10 h (fun i2 _ h => ?_)
  refine g_istore_n X [(3, _), (0, _), (1, _), (2, _)] dX8_roomOn_11 (by decide) rfl ?_
  refine g_aload_n X dX8_roomOn_12 1 rfl ?_
  refine g_getr X g_cX8 w_X8_roomOn_inX8 0 (by decide) w_X8_roomOn_7 hk_o rfl dX8_roomOn_13 h (fun a3 hk_a3 h => ?_)
  refine g_iload_n X dX8_roomOn_16 2 rfl ?_
  refine g_iload_n X dX8_roomOn_17 3 rfl ?_
  refine g_iadd X dX8_roomOn_18 ?_
  refine g_iald X hk_a3 dX8_roomOn_19 h (fun i4 _ h => ?_)
  refine g_if_ne X 27 dX8_roomOn_20 (by decide) h (fun c_20 h => ?_) (fun c_20 h => ?_)
  · skip
    refine g_aload_n X dX8_roomOn_27 1 rfl ?_
    refine g_getr X g_cX8 w_X8_roomOn_inX8 0 (by decide) w_X8_roomOn_7 hk_o rfl dX8_roomOn_28 h (fun a5 hk_a5 h => ?_)
    refine g_iload_n X dX8_roomOn_31 2 rfl ?_
    refine g_iconst X (v := 4) dX8_roomOn_32 (by decide) ?_
    refine g_iadd X dX8_roomOn_33 ?_
    refine g_iload_n X dX8_roomOn_34 3 rfl ?_
    refine g_iadd X dX8_roomOn_35 ?_
    refine g_iald X hk_a5 dX8_roomOn_36 h (fun i6 _ h => ?_)
    refine g_iload_n X dX8_roomOn_37 0 rfl ?_
    refine g_isub X dX8_roomOn_38 ?_
    exact g_iret X h dX8_roomOn_39
  · skip
    refine g_iload_n X dX8_roomOn_23 0 rfl ?_
    refine g_goto X 39 dX8_roomOn_24 (by decide) ?_
    exact g_iret X h dX8_roomOn_39
abbrev rm_X8_starts : Room := { frames := 0, cells := 0, slots := 0, locals := 0 }
theorem hd_X8_starts : yX8_starts.cls = RX8 ∧ yX8_starts.cls ≠ "java/lang/invoke/MethodHandle" ∧ yX8_starts.cls ≠ "java/lang/invoke/VarHandle" ∧ (parseMethodDescriptor yX8_starts.desc).map (fun d => d.parameters.length) = some 0 := by decide +kernel
theorem w_X8_starts_121 : Cond.fieldLink RX8 121 "TokenDoorsModel" "let" "I" ∈ wsX8_starts := by decide +kernel
theorem w_X8_starts_inX8 : ∀ w ∈ wsX80, w ∈ wsX8_starts := by decide +kernel
theorem w_X8_starts_124 : Cond.fieldLink RX8 124 "TokenDoorsModel" "turned" "I" ∈ wsX8_starts := by decide +kernel
theorem w_X8_starts_127 : Cond.fieldLink RX8 127 "TokenDoorsModel" "badTicks" "I" ∈ wsX8_starts := by decide +kernel
theorem w_X8_starts_130 : Cond.fieldLink RX8 130 "TokenDoorsModel" "worstTick" "I" ∈ wsX8_starts := by decide +kernel
theorem w_X8_starts_29 : Cond.fieldLink RX8 29 "TokenDoorsModel" "turnedBy" "[I" ∈ wsX8_starts := by decide +kernel
def b_X8_starts_22 (fu : Nat) (v0 : Nat) (v1 : Int32) (S : g_St) : Option ((Int32 × g_St) ⊕ (g_St)) :=
  if (4 : Int32) ≤ v1 then (some (.inr S)) else (g_ld g_KM 13 (.inr (0, 4, false)) (S.2 v0 18) fun a1 => g_ix v1 4 fun i2 => some (.inl ((v1 + 1), (g_u S.1 a1 i2 (0 : Int32), S.2))))
def f_X8_starts (fu : Nat) (o : Nat) (S : g_St) : Option (Unit × g_St) :=
  g_th (g_lp (fun t => b_X8_starts_22 fu o t.1 t.2) fu ((0 : Int32), (g_u (g_u (g_u (g_u S.1 o 14 (0 : Int32)) o 15 (0 : Int32)) o 16 (0 : Int32)) o 17 (0 : Int32), S.2))) fun e => match e with | S1 => some ((), S1)
set_option maxRecDepth 100000 in
set_option maxHeartbeats 400000 in
theorem vb_X8_starts_22 {x : g_CX} {z : Unit × g_St} {fu : Nat} (X : g_X 13 x cX8_starts RX8 2 wsX8_starts rm_X8_starts none) (v0 : Nat) (v1 : Int32) (hk_v0 : v0 < 13 ∧ g_KM v0 = g_kX8) (S : g_St) {r : (Int32 × g_St) ⊕ (g_St)} (h : b_X8_starts_22 fu v0 v1 S = some r) (hc : Sum.elim (fun t : Int32 × g_St => g_V g_KM 13 x 2 (g_qv g_KM 13 x z) t.2 22 [(0, .ref (g_ad x v0)), (1, .int (t.1))] []) (fun e : g_St => g_V g_KM 13 x 2 (g_qv g_KM 13 x z) e 40 [] []) r) : g_V g_KM 13 x 2 (g_qv g_KM 13 x z) S 22 [(0, .ref (g_ad x v0)), (1, .int (v1))] [] := by
  unfold b_X8_starts_22 at h
  refine g_iload_n X dX8_starts_22 1 rfl ?_
  refine g_iconst X (v := 4) dX8_starts_23 (by decide) ?_
  refine g_icmp_ge X 40 dX8_starts_24 (by decide) h (fun c_24 h => ?_) (fun c_24 h => ?_)
  · skip
    cases h
    exact g_sub [] _ rfl hc
  · skip
    refine g_aload_n X dX8_starts_27 0 rfl ?_
    refine g_getr X g_cX8 w_X8_starts_inX8 18 (by decide) w_X8_starts_29 hk_v0 rfl dX8_starts_28 h (fun a1 hk_a1 h => ?_)
    refine g_iload_n X dX8_starts_31 1 rfl ?_
    refine g_iconst X (v := 0) dX8_starts_32 (by decide) ?_
    refine g_iast X hk_a1 dX8_starts_33 h (fun i2 _ h => ?_)
    refine g_iinc X [(1, _), (0, _)] dX8_starts_34 1 rfl rfl (by decide) rfl ?_
    refine g_goto X 22 dX8_starts_37 (by decide) ?_
    cases h
    exact g_sub [1, 0] _ rfl hc
set_option maxRecDepth 100000 in
set_option maxHeartbeats 400000 in
theorem ct_X8_starts {l : Launch} {D : va_G} {ad : Nat → Nat} {cy : Nat → ClassId} {zz : (Nat → Nat) × (Nat → Nat)} (hinj : ∀ i j, i < 13 → j < 13 → ad i = ad j → i = j) {fu : Nat} (o : Nat) (hk_o : o < 13 ∧ g_KM o = g_kX8) {S : g_St} (z : Unit × g_St) (h : f_X8_starts fu o S = some z) : g_Mv l g_KM 13 D ad cy zz yX8_starts wsX8_starts rm_X8_starts [.ref (ad o)] S z := by
  refine g_ofv hinj (cc := cX8_starts) (maxL := 2) (ret := none) (lv := [(0, .ref (ad o))]) (by decide) rfl (Nat.le_of_ble_eq_true rfl) rfl ?_
  intro x X hl hD ha hy hz
  subst hl hD ha hy hz
  unfold f_X8_starts at h
  refine g_aload_n X dX8_starts_0 0 rfl ?_
  refine g_iconst X (v := 0) dX8_starts_1 (by decide) ?_
  refine g_puti X g_cX8 w_X8_starts_inX8 14 (by decide) w_X8_starts_121 hk_o rfl rfl (t := .int) (by decide +kernel) rfl rfl dX8_starts_2 ?_
  refine g_aload_n X dX8_starts_5 0 rfl ?_
  refine g_iconst X (v := 0) dX8_starts_6 (by decide) ?_
  refine g_puti X g_cX8 w_X8_starts_inX8 15 (by decide) w_X8_starts_124 hk_o rfl rfl (t := .int) (by decide +kernel) rfl rfl dX8_starts_7 ?_
  refine g_aload_n X dX8_starts_10 0 rfl ?_
  refine g_iconst X (v := 0) dX8_starts_11 (by decide) ?_
  refine g_puti X g_cX8 w_X8_starts_inX8 16 (by decide) w_X8_starts_127 hk_o rfl rfl (t := .int) (by decide +kernel) rfl rfl dX8_starts_12 ?_
  refine g_aload_n X dX8_starts_15 0 rfl ?_
  refine g_iconst X (v := 0) dX8_starts_16 (by decide) ?_
  refine g_puti X g_cX8 w_X8_starts_inX8 17 (by decide) w_X8_starts_130 hk_o rfl rfl (t := .int) (by decide +kernel) rfl rfl dX8_starts_17 ?_
  refine g_iconst X (v := 0) dX8_starts_20 (by decide) ?_
  refine g_istore_n X [(1, _), (0, _)] dX8_starts_21 (by decide) rfl ?_
  obtain ⟨e, he, h⟩ := g_th_s h
  refine g_sub [1, 0] _ rfl ?_
  refine g_lp_w (body := (fun t => b_X8_starts_22 fu o t.1 t.2)) (P := fun t : Int32 × g_St => g_V g_KM 13 x 2 (g_qv g_KM 13 x z) t.2 22 [(0, .ref (g_ad x o)), (1, .int (t.1))] []) (E := (fun e : g_St => g_V g_KM 13 x 2 (g_qv g_KM 13 x z) e 40 [] [])) (fun t r hb hc => vb_X8_starts_22 X o t.1 hk_o t.2 hb hc) fu ((0 : Int32), (g_u (g_u (g_u (g_u S.1 o 14 (0 : Int32)) o 15 (0 : Int32)) o 16 (0 : Int32)) o 17 (0 : Int32), S.2)) e he ?_
  obtain ⟨S1, rfl⟩ : ∃ q, q = e := ⟨_, rfl⟩
  show g_V g_KM 13 x 2 (g_qv g_KM 13 x z) S1 40 [] []
  exact g_vret X h dX8_starts_40
abbrev rm_X8_passOn : Room := { frames := 1, cells := 0, slots := 0, locals := 23 }
theorem hd_X8_passOn : yX8_passOn.cls = RX8 ∧ yX8_passOn.cls ≠ "java/lang/invoke/MethodHandle" ∧ yX8_passOn.cls ≠ "java/lang/invoke/VarHandle" ∧ (parseMethodDescriptor yX8_passOn.desc).map (fun d => d.parameters.length) = some 1 := by decide +kernel
theorem w_X8_passOn_7 : Cond.fieldLink RX8 7 "TokenDoorsModel" "state" "[I" ∈ wsX8_passOn := by decide +kernel
theorem w_X8_passOn_inX8 : ∀ w ∈ wsX80, w ∈ wsX8_passOn := by decide +kernel
theorem w_X8_passOn_25 : Cond.fieldLink RX8 25 "TokenDoorsModel" "opened" "I" ∈ wsX8_passOn := by decide +kernel
theorem w_X8_passOn_124 : Cond.fieldLink RX8 124 "TokenDoorsModel" "turned" "I" ∈ wsX8_passOn := by decide +kernel
theorem w_X8_passOn_29 : Cond.fieldLink RX8 29 "TokenDoorsModel" "turnedBy" "[I" ∈ wsX8_passOn := by decide +kernel
theorem w_X8_passOn_136 : Cond.constant RX8 136 (99999) ∈ wsX8_passOn := by decide +kernel
theorem w_X8_passOn_121 : Cond.fieldLink RX8 121 "TokenDoorsModel" "let" "I" ∈ wsX8_passOn := by decide +kernel
def j_X8_passOn_115_in2 (fu : Nat) (v0 : Nat) (v1 : Int32) (v2 : Int32) (S : g_St) : Option ((Int32 × g_St) ⊕ ((g_St) ⊕ (Int32 × g_St))) :=
  some (.inl ((v2 + 1), S))
def j_X8_passOn_113_in2 (fu : Nat) (v0 : Nat) (v1 : Int32) (v2 : Int32) (s0 : Nat) (s1 : Int32) (s2 : Int32) (s3 : Int32) (S : g_St) : Option ((Int32 × g_St) ⊕ ((g_St) ⊕ (Int32 × g_St))) :=
  g_ix s1 270 fun i8 => j_X8_passOn_115_in2 fu v0 v1 v2 (g_u S.1 s0 i8 (s2 + s3), S.2)
def j_X8_passOn_81_in2 (fu : Nat) (v0 : Nat) (v1 : Int32) (v2 : Int32) (s0 : Nat) (s1 : Int32) (s2 : Int32) (s3 : Int32) (S : g_St) : Option ((Int32 × g_St) ⊕ ((g_St) ⊕ (Int32 × g_St))) :=
  g_ix s1 270 fun i16 => some (.inr (.inr (v2, (g_u S.1 s0 i16 (s2 + s3), S.2))))
def b_X8_passOn_2 (fu : Nat) (v0 : Nat) (v1 : Int32) (v2 : Int32) (S : g_St) : Option ((Int32 × g_St) ⊕ ((g_St) ⊕ (Int32 × g_St))) :=
  g_ld g_KM 13 (.inr (0, 270, false)) (S.2 v0 0) fun a1 => g_ix (v1 + (16 : Int32)) 270 fun i2 => if (S.1 a1 i2) ≤ v2 then (some (.inr (.inl S))) else (if v2 = (S.1 v0 13) then (j_X8_passOn_115_in2 fu v0 v1 v2 S) else (g_bd (f_X8_roomOn fu v0 v1 v2 S) fun r3 Sr3 => if r3 = 0 then (g_ld g_KM 13 (.inr (0, 4, false)) (Sr3.2 v0 18) fun a9 => g_ix v2 4 fun i10 => g_ix v2 4 fun i11 => g_ld g_KM 13 (.inr (0, 270, false)) (Sr3.2 v0 0) fun a12 => g_ix (v1 + (44 : Int32)) 270 fun i13 => g_ld g_KM 13 (.inr (0, 270, false)) (Sr3.2 v0 0) fun a14 => g_ix (v1 + (44 : Int32)) 270 fun i15 => if (99999 : Int32) ≤ ((g_u (g_u Sr3.1 v0 15 ((Sr3.1 v0 15) + (1 : Int32))) a9 i11 (((g_u Sr3.1 v0 15 ((Sr3.1 v0 15) + (1 : Int32))) a9 i10) + (1 : Int32))) a14 i15) then (j_X8_passOn_81_in2 fu v0 v1 v2 a12 ((v1 + (44 : Int32))) (((g_u (g_u Sr3.1 v0 15 ((Sr3.1 v0 15) + (1 : Int32))) a9 i11 (((g_u Sr3.1 v0 15 ((Sr3.1 v0 15) + (1 : Int32))) a9 i10) + (1 : Int32))) a12 i13)) ((0 : Int32)) (g_u (g_u Sr3.1 v0 15 ((Sr3.1 v0 15) + (1 : Int32))) a9 i11 (((g_u Sr3.1 v0 15 ((Sr3.1 v0 15) + (1 : Int32))) a9 i10) + (1 : Int32)), Sr3.2)) else (j_X8_passOn_81_in2 fu v0 v1 v2 a12 ((v1 + (44 : Int32))) (((g_u (g_u Sr3.1 v0 15 ((Sr3.1 v0 15) + (1 : Int32))) a9 i11 (((g_u Sr3.1 v0 15 ((Sr3.1 v0 15) + (1 : Int32))) a9 i10) + (1 : Int32))) a12 i13)) ((1 : Int32)) (g_u (g_u Sr3.1 v0 15 ((Sr3.1 v0 15) + (1 : Int32))) a9 i11 (((g_u Sr3.1 v0 15 ((Sr3.1 v0 15) + (1 : Int32))) a9 i10) + (1 : Int32)), Sr3.2))) else (g_ld g_KM 13 (.inr (0, 270, false)) (Sr3.2 v0 0) fun a4 => g_ix ((v1 + (12 : Int32)) + v2) 270 fun i5 => g_ld g_KM 13 (.inr (0, 270, false)) (Sr3.2 v0 0) fun a6 => g_ix (v1 + v2) 270 fun i7 => if (Sr3.1 a6 i7) = 0 then (j_X8_passOn_113_in2 fu v0 v1 v2 a4 (((v1 + (12 : Int32)) + v2)) ((Sr3.1 a4 i5)) ((-1 : Int32)) Sr3) else (j_X8_passOn_113_in2 fu v0 v1 v2 a4 (((v1 + (12 : Int32)) + v2)) ((Sr3.1 a4 i5)) ((1 : Int32)) Sr3))))
def j_X8_passOn_160 (fu : Nat) (s0 : Nat) (s1 : Int32) (s2 : Int32) (s3 : Int32) (S : g_St) : Option (Int32 × g_St) :=
  g_ix s1 270 fun i21 => some ((-4 : Int32), (g_u S.1 s0 i21 (s2 + s3), S.2))
def f_X8_passOn (fu : Nat) (o : Nat) (p0 : Int32) (S : g_St) : Option (Int32 × g_St) :=
  g_th (g_lp (fun t => b_X8_passOn_2 fu o p0 t.1 t.2) fu ((0 : Int32), S)) fun e => match e with | .inl S1 => (g_ld g_KM 13 (.inr (0, 270, false)) (S1.2 o 0) fun a17 => g_ix (p0 + (43 : Int32)) 270 fun i18 => g_ld g_KM 13 (.inr (0, 270, false)) (S1.2 o 0) fun a19 => g_ix (p0 + (43 : Int32)) 270 fun i20 => if (99999 : Int32) ≤ ((g_u S1.1 o 14 ((S1.1 o 14) + (1 : Int32))) a19 i20) then (j_X8_passOn_160 fu a17 ((p0 + (43 : Int32))) (((g_u S1.1 o 14 ((S1.1 o 14) + (1 : Int32))) a17 i18)) ((0 : Int32)) (g_u S1.1 o 14 ((S1.1 o 14) + (1 : Int32)), S1.2)) else (j_X8_passOn_160 fu a17 ((p0 + (43 : Int32))) (((g_u S1.1 o 14 ((S1.1 o 14) + (1 : Int32))) a17 i18)) ((1 : Int32)) (g_u S1.1 o 14 ((S1.1 o 14) + (1 : Int32)), S1.2))) | .inr q => some q
set_option maxRecDepth 100000 in
set_option maxHeartbeats 400000 in
theorem vj_X8_passOn_115_in2 {x : g_CX} {z : Int32 × g_St} {fu : Nat} (X : g_X 13 x cX8_passOn RX8 3 wsX8_passOn rm_X8_passOn (some .int)) (v0 : Nat) (v1 : Int32) (v2 : Int32) (hk_v0 : v0 < 13 ∧ g_KM v0 = g_kX8) (S : g_St) {r : (Int32 × g_St) ⊕ ((g_St) ⊕ (Int32 × g_St))} (h : j_X8_passOn_115_in2 fu v0 v1 v2 S = some r) (hc : Sum.elim (fun t : Int32 × g_St => g_V g_KM 13 x 3 (g_qi g_KM 13 x z) t.2 2 [(0, .ref (g_ad x v0)), (1, .int (v1)), (2, .int (t.1))] []) (fun b : (g_St) ⊕ (Int32 × g_St) => Sum.elim (fun e : g_St => g_V g_KM 13 x 3 (g_qi g_KM 13 x z) e 121 [(0, .ref (g_ad x v0)), (1, .int (v1))] []) (fun q : Int32 × g_St => q = z) b) r) : g_V g_KM 13 x 3 (g_qi g_KM 13 x z) S 115 [(0, .ref (g_ad x v0)), (1, .int (v1)), (2, .int (v2))] [] := by
  unfold j_X8_passOn_115_in2 at h
  refine g_iinc X [(2, _), (0, _), (1, _)] dX8_passOn_115 2 rfl rfl (by decide) rfl ?_
  refine g_goto X 2 dX8_passOn_118 (by decide) ?_
  cases h
  exact g_sub [1, 2, 0] _ rfl hc
set_option maxRecDepth 100000 in
set_option maxHeartbeats 400000 in
theorem vj_X8_passOn_113_in2 {x : g_CX} {z : Int32 × g_St} {fu : Nat} (X : g_X 13 x cX8_passOn RX8 3 wsX8_passOn rm_X8_passOn (some .int)) (v0 : Nat) (v1 : Int32) (v2 : Int32) (s0 : Nat) (s1 : Int32) (s2 : Int32) (s3 : Int32) (hk_v0 : v0 < 13 ∧ g_KM v0 = g_kX8) (hk_s0 : s0 < 13 ∧ g_KM s0 = (.inr (0, 270, false))) (S : g_St) {r : (Int32 × g_St) ⊕ ((g_St) ⊕ (Int32 × g_St))} (h : j_X8_passOn_113_in2 fu v0 v1 v2 s0 s1 s2 s3 S = some r) (hc : Sum.elim (fun t : Int32 × g_St => g_V g_KM 13 x 3 (g_qi g_KM 13 x z) t.2 2 [(0, .ref (g_ad x v0)), (1, .int (v1)), (2, .int (t.1))] []) (fun b : (g_St) ⊕ (Int32 × g_St) => Sum.elim (fun e : g_St => g_V g_KM 13 x 3 (g_qi g_KM 13 x z) e 121 [(0, .ref (g_ad x v0)), (1, .int (v1))] []) (fun q : Int32 × g_St => q = z) b) r) : g_V g_KM 13 x 3 (g_qi g_KM 13 x z) S 113 [(0, .ref (g_ad x v0)), (1, .int (v1)), (2, .int (v2))] [.int (s3), .int (s2), .int (s1), .ref (g_ad x s0)] := by
  unfold j_X8_passOn_113_in2 at h
  refine g_iadd X dX8_passOn_113 ?_
  refine g_iast X hk_s0 dX8_passOn_114 h (fun i8 _ h => ?_)
  refine g_sub [0, 1, 2] _ rfl ?_
  exact vj_X8_passOn_115_in2 X v0 v1 v2 hk_v0 _ h hc
set_option maxRecDepth 100000 in
set_option maxHeartbeats 400000 in
theorem vj_X8_passOn_81_in2 {x : g_CX} {z : Int32 × g_St} {fu : Nat} (X : g_X 13 x cX8_passOn RX8 3 wsX8_passOn rm_X8_passOn (some .int)) (v0 : Nat) (v1 : Int32) (v2 : Int32) (s0 : Nat) (s1 : Int32) (s2 : Int32) (s3 : Int32) (hk_v0 : v0 < 13 ∧ g_KM v0 = g_kX8) (hk_s0 : s0 < 13 ∧ g_KM s0 = (.inr (0, 270, false))) (S : g_St) {r : (Int32 × g_St) ⊕ ((g_St) ⊕ (Int32 × g_St))} (h : j_X8_passOn_81_in2 fu v0 v1 v2 s0 s1 s2 s3 S = some r) (hc : Sum.elim (fun t : Int32 × g_St => g_V g_KM 13 x 3 (g_qi g_KM 13 x z) t.2 2 [(0, .ref (g_ad x v0)), (1, .int (v1)), (2, .int (t.1))] []) (fun b : (g_St) ⊕ (Int32 × g_St) => Sum.elim (fun e : g_St => g_V g_KM 13 x 3 (g_qi g_KM 13 x z) e 121 [(0, .ref (g_ad x v0)), (1, .int (v1))] []) (fun q : Int32 × g_St => q = z) b) r) : g_V g_KM 13 x 3 (g_qi g_KM 13 x z) S 81 [(0, .ref (g_ad x v0)), (1, .int (v1)), (2, .int (v2))] [.int (s3), .int (s2), .int (s1), .ref (g_ad x s0)] := by
  unfold j_X8_passOn_81_in2 at h
  refine g_iadd X dX8_passOn_81 ?_
  refine g_iast X hk_s0 dX8_passOn_82 h (fun i16 _ h => ?_)
  refine g_iload_n X dX8_passOn_83 2 rfl ?_
  cases h
  exact g_iret X (congrArg some hc) dX8_passOn_84
set_option maxRecDepth 100000 in
set_option maxHeartbeats 400000 in
theorem vb_X8_passOn_2 {x : g_CX} {z : Int32 × g_St} {fu : Nat} (X : g_X 13 x cX8_passOn RX8 3 wsX8_passOn rm_X8_passOn (some .int)) (v0 : Nat) (v1 : Int32) (v2 : Int32) (hk_v0 : v0 < 13 ∧ g_KM v0 = g_kX8) (S : g_St) {r : (Int32 × g_St) ⊕ ((g_St) ⊕ (Int32 × g_St))} (h : b_X8_passOn_2 fu v0 v1 v2 S = some r) (hc : Sum.elim (fun t : Int32 × g_St => g_V g_KM 13 x 3 (g_qi g_KM 13 x z) t.2 2 [(0, .ref (g_ad x v0)), (1, .int (v1)), (2, .int (t.1))] []) (fun b : (g_St) ⊕ (Int32 × g_St) => Sum.elim (fun e : g_St => g_V g_KM 13 x 3 (g_qi g_KM 13 x z) e 121 [(0, .ref (g_ad x v0)), (1, .int (v1))] []) (fun q : Int32 × g_St => q = z) b) r) : g_V g_KM 13 x 3 (g_qi g_KM 13 x z) S 2 [(0, .ref (g_ad x v0)), (1, .int (v1)), (2, .int (v2))] [] := by
  unfold b_X8_passOn_2 at h
  refine g_iload_n X dX8_passOn_2 2 rfl ?_
  refine g_aload_n X dX8_passOn_3 0 rfl ?_
  refine g_getr X g_cX8 w_X8_passOn_inX8 0 (by decide) w_X8_passOn_7 hk_v0 rfl dX8_passOn_4 h (fun a1 hk_a1 h => ?_)
  refine g_iload_n X dX8_passOn_7 1 rfl ?_
  refine g_bipush X (v := (16)) dX8_passOn_8 (by decide) ?_
  refine g_iadd X dX8_passOn_10 ?_
  refine g_iald X hk_a1 dX8_passOn_11 h (fun i2 _ h => ?_)
  refine g_icmp_ge X 121 dX8_passOn_12 (by decide) h (fun c_12 h => ?_) (fun c_12 h => ?_)
  · skip
    cases h
    exact g_sub [0, 1] _ rfl hc
  · skip
    refine g_iload_n X dX8_passOn_15 2 rfl ?_
    refine g_aload_n X dX8_passOn_16 0 rfl ?_
    refine g_geti X g_cX8 w_X8_passOn_inX8 13 (by decide) w_X8_passOn_25 hk_v0 rfl dX8_passOn_17 ?_
    refine g_icmp_eq X 115 dX8_passOn_20 (by decide) h (fun c_20 h => ?_) (fun c_20 h => ?_)
    · skip
      refine g_sub [0, 1, 2] _ rfl ?_
      exact vj_X8_passOn_115_in2 X v0 v1 v2 hk_v0 _ h hc
    · skip
      refine g_aload_n X dX8_passOn_23 0 rfl ?_
      refine g_iload_n X dX8_passOn_24 1 rfl ?_
      refine g_iload_n X dX8_passOn_25 2 rfl ?_
      refine g_callVi X g_cX8 hk_v0 [.int (v1), .int (v2)] rfl (cwV 2 X.2.2.2.2.1 gX8_passOn_X8_roomOn rfl rfl rfl hd_X8_roomOn ⟨Nat.le_of_ble_eq_true rfl, Nat.le_of_ble_eq_true rfl⟩) (Nat.le_of_ble_eq_true rfl) dX8_passOn_26 h (fun q hq => ct_X8_roomOn X.2.2.2.2.2.2.1 v0 v1 v2 hk_v0 _ hq) (fun r3 Sr3 h => ?_)
      refine g_if_ne X 85 dX8_passOn_29 (by decide) h (fun c_29 h => ?_) (fun c_29 h => ?_)
      · skip
        refine g_aload_n X dX8_passOn_85 0 rfl ?_
        refine g_getr X g_cX8 w_X8_passOn_inX8 0 (by decide) w_X8_passOn_7 hk_v0 rfl dX8_passOn_86 h (fun a4 hk_a4 h => ?_)
        refine g_iload_n X dX8_passOn_89 1 rfl ?_
        refine g_bipush X (v := (12)) dX8_passOn_90 (by decide) ?_
        refine g_iadd X dX8_passOn_92 ?_
        refine g_iload_n X dX8_passOn_93 2 rfl ?_
        refine g_iadd X dX8_passOn_94 ?_
        refine g_dup2_11 X dX8_passOn_95 rfl rfl ?_
        refine g_iald X hk_a4 dX8_passOn_96 h (fun i5 _ h => ?_)
        refine g_aload_n X dX8_passOn_97 0 rfl ?_
        refine g_getr X g_cX8 w_X8_passOn_inX8 0 (by decide) w_X8_passOn_7 hk_v0 rfl dX8_passOn_98 h (fun a6 hk_a6 h => ?_)
        refine g_iload_n X dX8_passOn_101 1 rfl ?_
        refine g_iload_n X dX8_passOn_102 2 rfl ?_
        refine g_iadd X dX8_passOn_103 ?_
        refine g_iald X hk_a6 dX8_passOn_104 h (fun i7 _ h => ?_)
        refine g_if_ne X 112 dX8_passOn_105 (by decide) h (fun c_105 h => ?_) (fun c_105 h => ?_)
        · skip
          refine g_iconst X (v := 1) dX8_passOn_112 (by decide) ?_
          refine g_sub [0, 1, 2] _ rfl ?_
          exact vj_X8_passOn_113_in2 X v0 v1 v2 a4 (((v1 + (12 : Int32)) + v2)) ((Sr3.1 a4 i5)) ((1 : Int32)) hk_v0 hk_a4 _ h hc
        · skip
          refine g_iconst X (v := (-1)) dX8_passOn_108 (by decide) ?_
          refine g_goto X 113 dX8_passOn_109 (by decide) ?_
          refine g_sub [0, 1, 2] _ rfl ?_
          exact vj_X8_passOn_113_in2 X v0 v1 v2 a4 (((v1 + (12 : Int32)) + v2)) ((Sr3.1 a4 i5)) ((-1 : Int32)) hk_v0 hk_a4 _ h hc
      · skip
        refine g_aload_n X dX8_passOn_32 0 rfl ?_
        refine g_dup X dX8_passOn_33 rfl ?_
        refine g_geti X g_cX8 w_X8_passOn_inX8 15 (by decide) w_X8_passOn_124 hk_v0 rfl dX8_passOn_34 ?_
        refine g_iconst X (v := 1) dX8_passOn_37 (by decide) ?_
        refine g_iadd X dX8_passOn_38 ?_
        refine g_puti X g_cX8 w_X8_passOn_inX8 15 (by decide) w_X8_passOn_124 hk_v0 rfl rfl (t := .int) (by decide +kernel) rfl rfl dX8_passOn_39 ?_
        refine g_aload_n X dX8_passOn_42 0 rfl ?_
        refine g_getr X g_cX8 w_X8_passOn_inX8 18 (by decide) w_X8_passOn_29 hk_v0 rfl dX8_passOn_43 h (fun a9 hk_a9 h => ?_)
        refine g_iload_n X dX8_passOn_46 2 rfl ?_
        refine g_dup2_11 X dX8_passOn_47 rfl rfl ?_
        refine g_iald X hk_a9 dX8_passOn_48 h (fun i10 _ h => ?_)
        refine g_iconst X (v := 1) dX8_passOn_49 (by decide) ?_
        refine g_iadd X dX8_passOn_50 ?_
        refine g_iast X hk_a9 dX8_passOn_51 h (fun i11 _ h => ?_)
        refine g_aload_n X dX8_passOn_52 0 rfl ?_
        refine g_getr X g_cX8 w_X8_passOn_inX8 0 (by decide) w_X8_passOn_7 hk_v0 rfl dX8_passOn_53 h (fun a12 hk_a12 h => ?_)
        refine g_iload_n X dX8_passOn_56 1 rfl ?_
        refine g_bipush X (v := (44)) dX8_passOn_57 (by decide) ?_
        refine g_iadd X dX8_passOn_59 ?_
        refine g_dup2_11 X dX8_passOn_60 rfl rfl ?_
        refine g_iald X hk_a12 dX8_passOn_61 h (fun i13 _ h => ?_)
        refine g_aload_n X dX8_passOn_62 0 rfl ?_
        refine g_getr X g_cX8 w_X8_passOn_inX8 0 (by decide) w_X8_passOn_7 hk_v0 rfl dX8_passOn_63 h (fun a14 hk_a14 h => ?_)
        refine g_iload_n X dX8_passOn_66 1 rfl ?_
        refine g_bipush X (v := (44)) dX8_passOn_67 (by decide) ?_
        refine g_iadd X dX8_passOn_69 ?_
        refine g_iald X hk_a14 dX8_passOn_70 h (fun i15 _ h => ?_)
        refine g_ldc X w_X8_passOn_136 dX8_passOn_71 ?_
        refine g_icmp_ge X 80 dX8_passOn_73 (by decide) h (fun c_73 h => ?_) (fun c_73 h => ?_)
        · skip
          refine g_iconst X (v := 0) dX8_passOn_80 (by decide) ?_
          refine g_sub [0, 1, 2] _ rfl ?_
          exact vj_X8_passOn_81_in2 X v0 v1 v2 a12 ((v1 + (44 : Int32))) (((g_u (g_u Sr3.1 v0 15 ((Sr3.1 v0 15) + (1 : Int32))) a9 i11 (((g_u Sr3.1 v0 15 ((Sr3.1 v0 15) + (1 : Int32))) a9 i10) + (1 : Int32))) a12 i13)) ((0 : Int32)) hk_v0 hk_a12 _ h hc
        · skip
          refine g_iconst X (v := 1) dX8_passOn_76 (by decide) ?_
          refine g_goto X 81 dX8_passOn_77 (by decide) ?_
          refine g_sub [0, 1, 2] _ rfl ?_
          exact vj_X8_passOn_81_in2 X v0 v1 v2 a12 ((v1 + (44 : Int32))) (((g_u (g_u Sr3.1 v0 15 ((Sr3.1 v0 15) + (1 : Int32))) a9 i11 (((g_u Sr3.1 v0 15 ((Sr3.1 v0 15) + (1 : Int32))) a9 i10) + (1 : Int32))) a12 i13)) ((1 : Int32)) hk_v0 hk_a12 _ h hc
set_option maxRecDepth 100000 in
set_option maxHeartbeats 400000 in
theorem vj_X8_passOn_160 {x : g_CX} {z : Int32 × g_St} {fu : Nat} (X : g_X 13 x cX8_passOn RX8 3 wsX8_passOn rm_X8_passOn (some .int)) (s0 : Nat) (s1 : Int32) (s2 : Int32) (s3 : Int32) (hk_s0 : s0 < 13 ∧ g_KM s0 = (.inr (0, 270, false))) (S : g_St) (h : j_X8_passOn_160 fu s0 s1 s2 s3 S = some z) : g_V g_KM 13 x 3 (g_qi g_KM 13 x z) S 160 [] [.int (s3), .int (s2), .int (s1), .ref (g_ad x s0)] := by
  unfold j_X8_passOn_160 at h
  refine g_iadd X dX8_passOn_160 ?_
  refine g_iast X hk_s0 dX8_passOn_161 h (fun i21 _ h => ?_)
  refine g_bipush X (v := (-4)) dX8_passOn_162 (by decide) ?_
  exact g_iret X h dX8_passOn_164
set_option maxRecDepth 100000 in
set_option maxHeartbeats 400000 in
theorem ct_X8_passOn {l : Launch} {D : va_G} {ad : Nat → Nat} {cy : Nat → ClassId} {zz : (Nat → Nat) × (Nat → Nat)} (hinj : ∀ i j, i < 13 → j < 13 → ad i = ad j → i = j) {fu : Nat} (o : Nat) (p0 : Int32) (hk_o : o < 13 ∧ g_KM o = g_kX8) {S : g_St} (z : Int32 × g_St) (h : f_X8_passOn fu o p0 S = some z) : g_Mi l g_KM 13 D ad cy zz yX8_passOn wsX8_passOn rm_X8_passOn [.ref (ad o), .int (p0)] S z := by
  refine g_ofi hinj (cc := cX8_passOn) (maxL := 3) (ret := (some .int)) (lv := [(0, .ref (ad o)), (1, .int (p0))]) (by decide) rfl (Nat.le_of_ble_eq_true rfl) rfl ?_
  intro x X hl hD ha hy hz
  subst hl hD ha hy hz
  unfold f_X8_passOn at h
  refine g_iconst X (v := 0) dX8_passOn_0 (by decide) ?_
  refine g_istore_n X [(2, _), (0, _), (1, _)] dX8_passOn_1 (by decide) rfl ?_
  obtain ⟨e, he, h⟩ := g_th_s h
  refine g_sub [1, 2, 0] _ rfl ?_
  refine g_lp_w (body := (fun t => b_X8_passOn_2 fu o p0 t.1 t.2)) (P := fun t : Int32 × g_St => g_V g_KM 13 x 3 (g_qi g_KM 13 x z) t.2 2 [(0, .ref (g_ad x o)), (1, .int (p0)), (2, .int (t.1))] []) (E := (fun b : (g_St) ⊕ (Int32 × g_St) => Sum.elim (fun e : g_St => g_V g_KM 13 x 3 (g_qi g_KM 13 x z) e 121 [(0, .ref (g_ad x o)), (1, .int (p0))] []) (fun q : Int32 × g_St => q = z) b)) (fun t r hb hc => vb_X8_passOn_2 X o p0 t.1 hk_o t.2 hb hc) fu ((0 : Int32), S) e he ?_
  rcases e with S1 | q
  · show g_V g_KM 13 x 3 (g_qi g_KM 13 x z) S1 121 [(0, .ref (g_ad x o)), (1, .int (p0))] []
    refine g_aload_n X dX8_passOn_121 0 rfl ?_
    refine g_dup X dX8_passOn_122 rfl ?_
    refine g_geti X g_cX8 w_X8_passOn_inX8 14 (by decide) w_X8_passOn_121 hk_o rfl dX8_passOn_123 ?_
    refine g_iconst X (v := 1) dX8_passOn_126 (by decide) ?_
    refine g_iadd X dX8_passOn_127 ?_
    refine g_puti X g_cX8 w_X8_passOn_inX8 14 (by decide) w_X8_passOn_121 hk_o rfl rfl (t := .int) (by decide +kernel) rfl rfl dX8_passOn_128 ?_
    refine g_aload_n X dX8_passOn_131 0 rfl ?_
    refine g_getr X g_cX8 w_X8_passOn_inX8 0 (by decide) w_X8_passOn_7 hk_o rfl dX8_passOn_132 h (fun a17 hk_a17 h => ?_)
    refine g_iload_n X dX8_passOn_135 1 rfl ?_
    refine g_bipush X (v := (43)) dX8_passOn_136 (by decide) ?_
    refine g_iadd X dX8_passOn_138 ?_
    refine g_dup2_11 X dX8_passOn_139 rfl rfl ?_
    refine g_iald X hk_a17 dX8_passOn_140 h (fun i18 _ h => ?_)
    refine g_aload_n X dX8_passOn_141 0 rfl ?_
    refine g_getr X g_cX8 w_X8_passOn_inX8 0 (by decide) w_X8_passOn_7 hk_o rfl dX8_passOn_142 h (fun a19 hk_a19 h => ?_)
    refine g_iload_n X dX8_passOn_145 1 rfl ?_
    refine g_bipush X (v := (43)) dX8_passOn_146 (by decide) ?_
    refine g_iadd X dX8_passOn_148 ?_
    refine g_iald X hk_a19 dX8_passOn_149 h (fun i20 _ h => ?_)
    refine g_ldc X w_X8_passOn_136 dX8_passOn_150 ?_
    refine g_icmp_ge X 159 dX8_passOn_152 (by decide) h (fun c_152 h => ?_) (fun c_152 h => ?_)
    · skip
      refine g_iconst X (v := 0) dX8_passOn_159 (by decide) ?_
      refine g_sub [] _ rfl ?_
      exact vj_X8_passOn_160 X a17 ((p0 + (43 : Int32))) (((g_u S1.1 o 14 ((S1.1 o 14) + (1 : Int32))) a17 i18)) ((0 : Int32)) hk_a17 _ h
    · skip
      refine g_iconst X (v := 1) dX8_passOn_155 (by decide) ?_
      refine g_goto X 160 dX8_passOn_156 (by decide) ?_
      refine g_sub [] _ rfl ?_
      exact vj_X8_passOn_160 X a17 ((p0 + (43 : Int32))) (((g_u S1.1 o 14 ((S1.1 o 14) + (1 : Int32))) a17 i18)) ((1 : Int32)) hk_a17 _ h
  · cases h; rfl
abbrev rm_X8_comeOn : Room := { frames := 0, cells := 0, slots := 0, locals := 0 }
theorem hd_X8_comeOn : yX8_comeOn.cls = RX8 ∧ yX8_comeOn.cls ≠ "java/lang/invoke/MethodHandle" ∧ yX8_comeOn.cls ≠ "java/lang/invoke/VarHandle" ∧ (parseMethodDescriptor yX8_comeOn.desc).map (fun d => d.parameters.length) = some 1 := by decide +kernel
theorem w_X8_comeOn_7 : Cond.fieldLink RX8 7 "TokenDoorsModel" "state" "[I" ∈ wsX8_comeOn := by decide +kernel
theorem w_X8_comeOn_inX8 : ∀ w ∈ wsX80, w ∈ wsX8_comeOn := by decide +kernel
def j_X8_comeOn_92_in4 (fu : Nat) (v0 : Nat) (v1 : Int32) (v3 : Int32) (s0 : Int32) (s1 : Int32) (S : g_St) : Option ((Int32 × Int32 × g_St) ⊕ (Int32 × g_St)) :=
  some (.inl ((s0 + s1), (v3 + 1), S))
def j_X8_comeOn_77_in4 (fu : Nat) (v0 : Nat) (v1 : Int32) (v3 : Int32) (s0 : Int32) (S : g_St) : Option ((Int32 × Int32 × g_St) ⊕ (Int32 × g_St)) :=
  g_ld g_KM 13 (.inr (0, 270, false)) (S.2 v0 0) fun a9 => g_ix ((v1 + (25 : Int32)) + v3) 270 fun i10 => j_X8_comeOn_92_in4 fu v0 v1 v3 s0 ((S.1 a9 i10)) S
def j_X8_comeOn_91_in4 (fu : Nat) (v0 : Nat) (v1 : Int32) (v3 : Int32) (s0 : Int32) (S : g_St) : Option ((Int32 × Int32 × g_St) ⊕ (Int32 × g_St)) :=
  j_X8_comeOn_92_in4 fu v0 v1 v3 s0 ((0 : Int32)) S
def b_X8_comeOn_4 (fu : Nat) (v0 : Nat) (v1 : Int32) (v2 : Int32) (v3 : Int32) (S : g_St) : Option ((Int32 × Int32 × g_St) ⊕ (Int32 × g_St)) :=
  g_ld g_KM 13 (.inr (0, 270, false)) (S.2 v0 0) fun a1 => g_ix (v1 + (41 : Int32)) 270 fun i2 => if (S.1 a1 i2) ≤ v3 then (some (.inr (v2, S))) else (g_ld g_KM 13 (.inr (0, 270, false)) (S.2 v0 0) fun a3 => g_ix (v1 + (42 : Int32)) 270 fun i4 => g_ld g_KM 13 (.inr (0, 270, false)) (S.2 v0 0) fun a5 => g_ix ((v1 + (17 : Int32)) + v3) 270 fun i6 => g_ld g_KM 13 (.inr (0, 270, false)) (S.2 v0 0) fun a7 => g_ix ((v1 + (33 : Int32)) + v3) 270 fun i8 => if ((S.1 a3 i4) - (S.1 a5 i6)) = 0 then (j_X8_comeOn_77_in4 fu v0 v1 v3 v2 S) else (if ((S.1 a3 i4) - (S.1 a5 i6)) ≤ 0 then (j_X8_comeOn_91_in4 fu v0 v1 v3 v2 S) else (if (S.1 a7 i8) ≤ 0 then (j_X8_comeOn_91_in4 fu v0 v1 v3 v2 S) else (g_nz (S.1 a7 i8) (if (((S.1 a3 i4) - (S.1 a5 i6)) - ((S.1 a3 i4) - (S.1 a5 i6)) / (S.1 a7 i8) * (S.1 a7 i8)) = 0 then (j_X8_comeOn_77_in4 fu v0 v1 v3 v2 S) else (j_X8_comeOn_91_in4 fu v0 v1 v3 v2 S))))))
def f_X8_comeOn (fu : Nat) (o : Nat) (p0 : Int32) (S : g_St) : Option (Int32 × g_St) :=
  g_th (g_lp (fun t => b_X8_comeOn_4 fu o p0 t.1 t.2.1 t.2.2) fu ((0 : Int32), (0 : Int32), S)) fun e => match e with | (w2_1, S1) => some (w2_1, S1)
set_option maxRecDepth 100000 in
set_option maxHeartbeats 400000 in
theorem vj_X8_comeOn_92_in4 {x : g_CX} {z : Int32 × g_St} {fu : Nat} (X : g_X 13 x cX8_comeOn RX8 6 wsX8_comeOn rm_X8_comeOn (some .int)) (v0 : Nat) (v1 : Int32) (v3 : Int32) (s0 : Int32) (s1 : Int32) (hk_v0 : v0 < 13 ∧ g_KM v0 = g_kX8) (S : g_St) {r : (Int32 × Int32 × g_St) ⊕ (Int32 × g_St)} (h : j_X8_comeOn_92_in4 fu v0 v1 v3 s0 s1 S = some r) (hc : Sum.elim (fun t : Int32 × Int32 × g_St => g_V g_KM 13 x 6 (g_qi g_KM 13 x z) t.2.2 4 [(0, .ref (g_ad x v0)), (1, .int (v1)), (2, .int (t.1)), (3, .int (t.2.1))] []) (fun e : Int32 × g_St => g_V g_KM 13 x 6 (g_qi g_KM 13 x z) e.2 100 [(2, .int (e.1))] []) r) : g_V g_KM 13 x 6 (g_qi g_KM 13 x z) S 92 [(0, .ref (g_ad x v0)), (1, .int (v1)), (3, .int (v3))] [.int (s1), .int (s0)] := by
  unfold j_X8_comeOn_92_in4 at h
  refine g_iadd X dX8_comeOn_92 ?_
  refine g_istore_n X [(2, _), (0, _), (1, _), (3, _)] dX8_comeOn_93 (by decide) rfl ?_
  refine g_iinc X [(3, _), (2, _), (0, _), (1, _)] dX8_comeOn_94 3 rfl rfl (by decide) rfl ?_
  refine g_goto X 4 dX8_comeOn_97 (by decide) ?_
  cases h
  exact g_sub [2, 3, 1, 0] _ rfl hc
set_option maxRecDepth 100000 in
set_option maxHeartbeats 400000 in
theorem vj_X8_comeOn_77_in4 {x : g_CX} {z : Int32 × g_St} {fu : Nat} (X : g_X 13 x cX8_comeOn RX8 6 wsX8_comeOn rm_X8_comeOn (some .int)) (v0 : Nat) (v1 : Int32) (v3 : Int32) (s0 : Int32) (hk_v0 : v0 < 13 ∧ g_KM v0 = g_kX8) (S : g_St) {r : (Int32 × Int32 × g_St) ⊕ (Int32 × g_St)} (h : j_X8_comeOn_77_in4 fu v0 v1 v3 s0 S = some r) (hc : Sum.elim (fun t : Int32 × Int32 × g_St => g_V g_KM 13 x 6 (g_qi g_KM 13 x z) t.2.2 4 [(0, .ref (g_ad x v0)), (1, .int (v1)), (2, .int (t.1)), (3, .int (t.2.1))] []) (fun e : Int32 × g_St => g_V g_KM 13 x 6 (g_qi g_KM 13 x z) e.2 100 [(2, .int (e.1))] []) r) : g_V g_KM 13 x 6 (g_qi g_KM 13 x z) S 77 [(0, .ref (g_ad x v0)), (1, .int (v1)), (3, .int (v3))] [.int (s0)] := by
  unfold j_X8_comeOn_77_in4 at h
  refine g_aload_n X dX8_comeOn_77 0 rfl ?_
  refine g_getr X g_cX8 w_X8_comeOn_inX8 0 (by decide) w_X8_comeOn_7 hk_v0 rfl dX8_comeOn_78 h (fun a9 hk_a9 h => ?_)
  refine g_iload_n X dX8_comeOn_81 1 rfl ?_
  refine g_bipush X (v := (25)) dX8_comeOn_82 (by decide) ?_
  refine g_iadd X dX8_comeOn_84 ?_
  refine g_iload_n X dX8_comeOn_85 2 rfl ?_
  refine g_iadd X dX8_comeOn_86 ?_
  refine g_iald X hk_a9 dX8_comeOn_87 h (fun i10 _ h => ?_)
  refine g_goto X 92 dX8_comeOn_88 (by decide) ?_
  refine g_sub [0, 1, 2] _ rfl ?_
  exact vj_X8_comeOn_92_in4 X v0 v1 v3 s0 ((S.1 a9 i10)) hk_v0 _ h hc
set_option maxRecDepth 100000 in
set_option maxHeartbeats 400000 in
theorem vj_X8_comeOn_91_in4 {x : g_CX} {z : Int32 × g_St} {fu : Nat} (X : g_X 13 x cX8_comeOn RX8 6 wsX8_comeOn rm_X8_comeOn (some .int)) (v0 : Nat) (v1 : Int32) (v3 : Int32) (s0 : Int32) (hk_v0 : v0 < 13 ∧ g_KM v0 = g_kX8) (S : g_St) {r : (Int32 × Int32 × g_St) ⊕ (Int32 × g_St)} (h : j_X8_comeOn_91_in4 fu v0 v1 v3 s0 S = some r) (hc : Sum.elim (fun t : Int32 × Int32 × g_St => g_V g_KM 13 x 6 (g_qi g_KM 13 x z) t.2.2 4 [(0, .ref (g_ad x v0)), (1, .int (v1)), (2, .int (t.1)), (3, .int (t.2.1))] []) (fun e : Int32 × g_St => g_V g_KM 13 x 6 (g_qi g_KM 13 x z) e.2 100 [(2, .int (e.1))] []) r) : g_V g_KM 13 x 6 (g_qi g_KM 13 x z) S 91 [(0, .ref (g_ad x v0)), (1, .int (v1)), (3, .int (v3))] [.int (s0)] := by
  unfold j_X8_comeOn_91_in4 at h
  refine g_iconst X (v := 0) dX8_comeOn_91 (by decide) ?_
  refine g_sub [0, 1, 2] _ rfl ?_
  exact vj_X8_comeOn_92_in4 X v0 v1 v3 s0 ((0 : Int32)) hk_v0 _ h hc
set_option maxRecDepth 100000 in
set_option maxHeartbeats 400000 in
theorem vb_X8_comeOn_4 {x : g_CX} {z : Int32 × g_St} {fu : Nat} (X : g_X 13 x cX8_comeOn RX8 6 wsX8_comeOn rm_X8_comeOn (some .int)) (v0 : Nat) (v1 : Int32) (v2 : Int32) (v3 : Int32) (hk_v0 : v0 < 13 ∧ g_KM v0 = g_kX8) (S : g_St) {r : (Int32 × Int32 × g_St) ⊕ (Int32 × g_St)} (h : b_X8_comeOn_4 fu v0 v1 v2 v3 S = some r) (hc : Sum.elim (fun t : Int32 × Int32 × g_St => g_V g_KM 13 x 6 (g_qi g_KM 13 x z) t.2.2 4 [(0, .ref (g_ad x v0)), (1, .int (v1)), (2, .int (t.1)), (3, .int (t.2.1))] []) (fun e : Int32 × g_St => g_V g_KM 13 x 6 (g_qi g_KM 13 x z) e.2 100 [(2, .int (e.1))] []) r) : g_V g_KM 13 x 6 (g_qi g_KM 13 x z) S 4 [(0, .ref (g_ad x v0)), (1, .int (v1)), (2, .int (v2)), (3, .int (v3))] [] := by
  unfold b_X8_comeOn_4 at h
  refine g_iload_n X dX8_comeOn_4 3 rfl ?_
  refine g_aload_n X dX8_comeOn_5 0 rfl ?_
  refine g_getr X g_cX8 w_X8_comeOn_inX8 0 (by decide) w_X8_comeOn_7 hk_v0 rfl dX8_comeOn_6 h (fun a1 hk_a1 h => ?_)
  refine g_iload_n X dX8_comeOn_9 1 rfl ?_
  refine g_bipush X (v := (41)) dX8_comeOn_10 (by decide) ?_
  refine g_iadd X dX8_comeOn_12 ?_
  refine g_iald X hk_a1 dX8_comeOn_13 h (fun i2 _ h => ?_)
  refine g_icmp_ge X 100 dX8_comeOn_14 (by decide) h (fun c_14 h => ?_) (fun c_14 h => ?_)
  · skip
    cases h
    exact g_sub [2] _ rfl hc
  · skip
    refine g_aload_n X dX8_comeOn_17 0 rfl ?_
    refine g_getr X g_cX8 w_X8_comeOn_inX8 0 (by decide) w_X8_comeOn_7 hk_v0 rfl dX8_comeOn_18 h (fun a3 hk_a3 h => ?_)
    refine g_iload_n X dX8_comeOn_21 1 rfl ?_
    refine g_bipush X (v := (42)) dX8_comeOn_22 (by decide) ?_
    refine g_iadd X dX8_comeOn_24 ?_
    refine g_iald X hk_a3 dX8_comeOn_25 h (fun i4 _ h => ?_)
    refine g_aload_n X dX8_comeOn_26 0 rfl ?_
    refine g_getr X g_cX8 w_X8_comeOn_inX8 0 (by decide) w_X8_comeOn_7 hk_v0 rfl dX8_comeOn_27 h (fun a5 hk_a5 h => ?_)
    refine g_iload_n X dX8_comeOn_30 1 rfl ?_
    refine g_bipush X (v := (17)) dX8_comeOn_31 (by decide) ?_
    refine g_iadd X dX8_comeOn_33 ?_
    refine g_iload_n X dX8_comeOn_34 3 rfl ?_
    refine g_iadd X dX8_comeOn_35 ?_
    refine g_iald X hk_a5 dX8_comeOn_36 h (fun i6 _ h => ?_)
    refine g_isub X dX8_comeOn_37 ?_
    refine g_istore X [(4, _), (0, _), (1, _), (2, _), (3, _)] dX8_comeOn_38 (by decide) rfl ?_
    refine g_aload_n X dX8_comeOn_40 1 rfl ?_
    refine g_getr X g_cX8 w_X8_comeOn_inX8 0 (by decide) w_X8_comeOn_7 hk_v0 rfl dX8_comeOn_41 h (fun a7 hk_a7 h => ?_)
    refine g_iload_n X dX8_comeOn_44 2 rfl ?_
    refine g_bipush X (v := (33)) dX8_comeOn_45 (by decide) ?_
    refine g_iadd X dX8_comeOn_47 ?_
    refine g_iload_n X dX8_comeOn_48 4 rfl ?_
    refine g_iadd X dX8_comeOn_49 ?_
    refine g_iald X hk_a7 dX8_comeOn_50 h (fun i8 _ h => ?_)
    refine g_istore X [(5, _), (4, _), (0, _), (1, _), (2, _), (3, _)] dX8_comeOn_51 (by decide) rfl ?_
    refine g_iload_n X dX8_comeOn_53 4 rfl ?_
    refine g_iload X dX8_comeOn_54 1 rfl ?_
    refine g_if_eq X 77 dX8_comeOn_56 (by decide) h (fun c_56 h => ?_) (fun c_56 h => ?_)
    · skip
      refine g_sub [2, 3, 5] _ rfl ?_
      exact vj_X8_comeOn_77_in4 X v0 v1 v3 v2 hk_v0 _ h hc
    · skip
      refine g_iload X dX8_comeOn_59 1 rfl ?_
      refine g_if_le X 91 dX8_comeOn_61 (by decide) h (fun c_61 h => ?_) (fun c_61 h => ?_)
      · skip
        refine g_sub [2, 3, 5] _ rfl ?_
        exact vj_X8_comeOn_91_in4 X v0 v1 v3 v2 hk_v0 _ h hc
      · skip
        refine g_iload X dX8_comeOn_64 0 rfl ?_
        refine g_if_le X 91 dX8_comeOn_66 (by decide) h (fun c_66 h => ?_) (fun c_66 h => ?_)
        · skip
          refine g_sub [2, 3, 5] _ rfl ?_
          exact vj_X8_comeOn_91_in4 X v0 v1 v3 v2 hk_v0 _ h hc
        · skip
          refine g_iload X dX8_comeOn_69 1 rfl ?_
          refine g_iload X dX8_comeOn_71 0 rfl ?_
          refine g_irem X dX8_comeOn_73 h (fun h => ?_)
          refine g_if_ne X 91 dX8_comeOn_74 (by decide) h (fun c_74 h => ?_) (fun c_74 h => ?_)
          · skip
            refine g_sub [2, 3, 5] _ rfl ?_
            exact vj_X8_comeOn_91_in4 X v0 v1 v3 v2 hk_v0 _ h hc
          · skip
            refine g_sub [2, 3, 5] _ rfl ?_
            exact vj_X8_comeOn_77_in4 X v0 v1 v3 v2 hk_v0 _ h hc
set_option maxRecDepth 100000 in
set_option maxHeartbeats 400000 in
theorem ct_X8_comeOn {l : Launch} {D : va_G} {ad : Nat → Nat} {cy : Nat → ClassId} {zz : (Nat → Nat) × (Nat → Nat)} (hinj : ∀ i j, i < 13 → j < 13 → ad i = ad j → i = j) {fu : Nat} (o : Nat) (p0 : Int32) (hk_o : o < 13 ∧ g_KM o = g_kX8) {S : g_St} (z : Int32 × g_St) (h : f_X8_comeOn fu o p0 S = some z) : g_Mi l g_KM 13 D ad cy zz yX8_comeOn wsX8_comeOn rm_X8_comeOn [.ref (ad o), .int (p0)] S z := by
  refine g_ofi hinj (cc := cX8_comeOn) (maxL := 6) (ret := (some .int)) (lv := [(0, .ref (ad o)), (1, .int (p0))]) (by decide) rfl (Nat.le_of_ble_eq_true rfl) rfl ?_
  intro x X hl hD ha hy hz
  subst hl hD ha hy hz
  unfold f_X8_comeOn at h
  refine g_iconst X (v := 0) dX8_comeOn_0 (by decide) ?_
  refine g_istore_n X [(2, _), (0, _), (1, _)] dX8_comeOn_1 (by decide) rfl ?_
  refine g_iconst X (v := 0) dX8_comeOn_2 (by decide) ?_
  refine g_istore_n X [(3, _), (2, _), (0, _), (1, _)] dX8_comeOn_3 (by decide) rfl ?_
  obtain ⟨e, he, h⟩ := g_th_s h
  refine g_sub [2, 3, 1, 0] _ rfl ?_
  refine g_lp_w (body := (fun t => b_X8_comeOn_4 fu o p0 t.1 t.2.1 t.2.2)) (P := fun t : Int32 × Int32 × g_St => g_V g_KM 13 x 6 (g_qi g_KM 13 x z) t.2.2 4 [(0, .ref (g_ad x o)), (1, .int (p0)), (2, .int (t.1)), (3, .int (t.2.1))] []) (E := (fun e : Int32 × g_St => g_V g_KM 13 x 6 (g_qi g_KM 13 x z) e.2 100 [(2, .int (e.1))] [])) (fun t r hb hc => vb_X8_comeOn_4 X o p0 t.1 t.2.1 hk_o t.2.2 hb hc) fu ((0 : Int32), (0 : Int32), S) e he ?_
  obtain ⟨w2_1, S1⟩ := e
  show g_V g_KM 13 x 6 (g_qi g_KM 13 x z) S1 100 [(2, .int (w2_1))] []
  refine g_iload_n X dX8_comeOn_100 0 rfl ?_
  exact g_iret X h dX8_comeOn_101
abbrev rm_X8_settlesOn : Room := { frames := 0, cells := 0, slots := 0, locals := 0 }
theorem hd_X8_settlesOn : yX8_settlesOn.cls = RX8 ∧ yX8_settlesOn.cls ≠ "java/lang/invoke/MethodHandle" ∧ yX8_settlesOn.cls ≠ "java/lang/invoke/VarHandle" ∧ (parseMethodDescriptor yX8_settlesOn.desc).map (fun d => d.parameters.length) = some 2 := by decide +kernel
theorem w_X8_settlesOn_7 : Cond.fieldLink RX8 7 "TokenDoorsModel" "state" "[I" ∈ wsX8_settlesOn := by decide +kernel
theorem w_X8_settlesOn_inX8 : ∀ w ∈ wsX80, w ∈ wsX8_settlesOn := by decide +kernel
def j_X8_settlesOn_139 (fu : Nat) (v0 : Nat) (v1 : Int32) (v2 : Int32) (v5 : Int32) (S : g_St) : Option (Unit × g_St) :=
  g_ld g_KM 13 (.inr (0, 270, false)) (S.2 v0 0) fun a9 => g_ix ((v1 + (12 : Int32)) + v2) 270 fun i10 => some ((), (g_u S.1 a9 i10 v5, S.2))
def j_X8_settlesOn_137 (fu : Nat) (v0 : Nat) (v1 : Int32) (v2 : Int32) (s0 : Int32) (S : g_St) : Option (Unit × g_St) :=
  j_X8_settlesOn_139 fu v0 v1 v2 s0 S
def j_X8_settlesOn_97 (fu : Nat) (v0 : Nat) (v1 : Int32) (v2 : Int32) (s0 : Int32) (S : g_St) : Option (Unit × g_St) :=
  j_X8_settlesOn_139 fu v0 v1 v2 s0 S
def j_X8_settlesOn_71 (fu : Nat) (v0 : Nat) (v1 : Int32) (v2 : Int32) (s0 : Int32) (S : g_St) : Option (Unit × g_St) :=
  j_X8_settlesOn_139 fu v0 v1 v2 s0 S
def f_X8_settlesOn (fu : Nat) (o : Nat) (p0 : Int32) (p1 : Int32) (S : g_St) : Option (Unit × g_St) :=
  g_ld g_KM 13 (.inr (0, 270, false)) (S.2 o 0) fun a1 => g_ix (p0 + p1) 270 fun i2 => g_ld g_KM 13 (.inr (0, 270, false)) (S.2 o 0) fun a3 => g_ix ((p0 + (8 : Int32)) + p1) 270 fun i4 => g_ld g_KM 13 (.inr (0, 270, false)) (S.2 o 0) fun a5 => g_ix ((p0 + (12 : Int32)) + p1) 270 fun i6 => g_ld g_KM 13 (.inr (0, 270, false)) (S.2 o 0) fun a7 => g_ix ((p0 + (4 : Int32)) + p1) 270 fun i8 => if (S.1 a1 i2) = 0 then (if ((S.1 a5 i6) + (S.1 a3 i4)) ≤ (S.1 a7 i8) then (j_X8_settlesOn_71 fu o p0 p1 (((S.1 a5 i6) + (S.1 a3 i4))) S) else (j_X8_settlesOn_71 fu o p0 p1 ((S.1 a7 i8)) S)) else (if (S.1 a1 i2) = (1 : Int32) then (if (S.1 a5 i6) ≤ (S.1 a3 i4) then (j_X8_settlesOn_97 fu o p0 p1 ((0 : Int32)) S) else (j_X8_settlesOn_97 fu o p0 p1 (((S.1 a5 i6) - (S.1 a3 i4))) S)) else (if (S.1 a3 i4) ≤ 0 then (j_X8_settlesOn_139 fu o p0 p1 ((S.1 a5 i6)) S) else (g_ld g_KM 13 (.inr (0, 270, false)) (S.2 o 0) fun a11 => g_ix (p0 + (42 : Int32)) 270 fun i12 => g_nz (S.1 a3 i4) (if (((S.1 a11 i12) + (1 : Int32)) - ((S.1 a11 i12) + (1 : Int32)) / (S.1 a3 i4) * (S.1 a3 i4)) = 0 then (if (S.1 a1 i2) = (2 : Int32) then (j_X8_settlesOn_137 fu o p0 p1 ((0 : Int32)) S) else (g_nz (2 : Int32) (j_X8_settlesOn_137 fu o p0 p1 (((S.1 a5 i6) / (2 : Int32))) S))) else (j_X8_settlesOn_139 fu o p0 p1 ((S.1 a5 i6)) S)))))
set_option maxRecDepth 100000 in
set_option maxHeartbeats 400000 in
theorem vj_X8_settlesOn_139 {x : g_CX} {z : Unit × g_St} {fu : Nat} (X : g_X 13 x cX8_settlesOn RX8 7 wsX8_settlesOn rm_X8_settlesOn none) (v0 : Nat) (v1 : Int32) (v2 : Int32) (v5 : Int32) (hk_v0 : v0 < 13 ∧ g_KM v0 = g_kX8) (S : g_St) (h : j_X8_settlesOn_139 fu v0 v1 v2 v5 S = some z) : g_V g_KM 13 x 7 (g_qv g_KM 13 x z) S 139 [(0, .ref (g_ad x v0)), (1, .int (v1)), (2, .int (v2)), (5, .int (v5))] [] := by
  unfold j_X8_settlesOn_139 at h
  refine g_aload_n X dX8_settlesOn_139 0 rfl ?_
  refine g_getr X g_cX8 w_X8_settlesOn_inX8 0 (by decide) w_X8_settlesOn_7 hk_v0 rfl dX8_settlesOn_140 h (fun a9 hk_a9 h => ?_)
  refine g_iload_n X dX8_settlesOn_143 1 rfl ?_
  refine g_bipush X (v := (12)) dX8_settlesOn_144 (by decide) ?_
  refine g_iadd X dX8_settlesOn_146 ?_
  refine g_iload_n X dX8_settlesOn_147 2 rfl ?_
  refine g_iadd X dX8_settlesOn_148 ?_
  refine g_iload X dX8_settlesOn_149 3 rfl ?_
  refine g_iast X hk_a9 dX8_settlesOn_151 h (fun i10 _ h => ?_)
  exact g_vret X h dX8_settlesOn_152
set_option maxRecDepth 100000 in
set_option maxHeartbeats 400000 in
theorem vj_X8_settlesOn_137 {x : g_CX} {z : Unit × g_St} {fu : Nat} (X : g_X 13 x cX8_settlesOn RX8 7 wsX8_settlesOn rm_X8_settlesOn none) (v0 : Nat) (v1 : Int32) (v2 : Int32) (s0 : Int32) (hk_v0 : v0 < 13 ∧ g_KM v0 = g_kX8) (S : g_St) (h : j_X8_settlesOn_137 fu v0 v1 v2 s0 S = some z) : g_V g_KM 13 x 7 (g_qv g_KM 13 x z) S 137 [(0, .ref (g_ad x v0)), (1, .int (v1)), (2, .int (v2))] [.int (s0)] := by
  unfold j_X8_settlesOn_137 at h
  refine g_istore X [(5, _), (0, _), (1, _), (2, _)] dX8_settlesOn_137 (by decide) rfl ?_
  refine g_sub [1, 2, 3, 0] _ rfl ?_
  exact vj_X8_settlesOn_139 X v0 v1 v2 s0 hk_v0 _ h
set_option maxRecDepth 100000 in
set_option maxHeartbeats 400000 in
theorem vj_X8_settlesOn_97 {x : g_CX} {z : Unit × g_St} {fu : Nat} (X : g_X 13 x cX8_settlesOn RX8 7 wsX8_settlesOn rm_X8_settlesOn none) (v0 : Nat) (v1 : Int32) (v2 : Int32) (s0 : Int32) (hk_v0 : v0 < 13 ∧ g_KM v0 = g_kX8) (S : g_St) (h : j_X8_settlesOn_97 fu v0 v1 v2 s0 S = some z) : g_V g_KM 13 x 7 (g_qv g_KM 13 x z) S 97 [(0, .ref (g_ad x v0)), (1, .int (v1)), (2, .int (v2))] [.int (s0)] := by
  unfold j_X8_settlesOn_97 at h
  refine g_istore X [(5, _), (0, _), (1, _), (2, _)] dX8_settlesOn_97 (by decide) rfl ?_
  refine g_goto X 139 dX8_settlesOn_99 (by decide) ?_
  refine g_sub [1, 2, 3, 0] _ rfl ?_
  exact vj_X8_settlesOn_139 X v0 v1 v2 s0 hk_v0 _ h
set_option maxRecDepth 100000 in
set_option maxHeartbeats 400000 in
theorem vj_X8_settlesOn_71 {x : g_CX} {z : Unit × g_St} {fu : Nat} (X : g_X 13 x cX8_settlesOn RX8 7 wsX8_settlesOn rm_X8_settlesOn none) (v0 : Nat) (v1 : Int32) (v2 : Int32) (s0 : Int32) (hk_v0 : v0 < 13 ∧ g_KM v0 = g_kX8) (S : g_St) (h : j_X8_settlesOn_71 fu v0 v1 v2 s0 S = some z) : g_V g_KM 13 x 7 (g_qv g_KM 13 x z) S 71 [(0, .ref (g_ad x v0)), (1, .int (v1)), (2, .int (v2))] [.int (s0)] := by
  unfold j_X8_settlesOn_71 at h
  refine g_istore X [(5, _), (0, _), (1, _), (2, _)] dX8_settlesOn_71 (by decide) rfl ?_
  refine g_goto X 139 dX8_settlesOn_73 (by decide) ?_
  refine g_sub [1, 2, 3, 0] _ rfl ?_
  exact vj_X8_settlesOn_139 X v0 v1 v2 s0 hk_v0 _ h
set_option maxRecDepth 100000 in
set_option maxHeartbeats 400000 in
theorem ct_X8_settlesOn {l : Launch} {D : va_G} {ad : Nat → Nat} {cy : Nat → ClassId} {zz : (Nat → Nat) × (Nat → Nat)} (hinj : ∀ i j, i < 13 → j < 13 → ad i = ad j → i = j) {fu : Nat} (o : Nat) (p0 : Int32) (p1 : Int32) (hk_o : o < 13 ∧ g_KM o = g_kX8) {S : g_St} (z : Unit × g_St) (h : f_X8_settlesOn fu o p0 p1 S = some z) : g_Mv l g_KM 13 D ad cy zz yX8_settlesOn wsX8_settlesOn rm_X8_settlesOn [.ref (ad o), .int (p0), .int (p1)] S z := by
  refine g_ofv hinj (cc := cX8_settlesOn) (maxL := 7) (ret := none) (lv := [(0, .ref (ad o)), (1, .int (p0)), (2, .int (p1))]) (by decide) rfl (Nat.le_of_ble_eq_true rfl) rfl ?_
  intro x X hl hD ha hy hz
  subst hl hD ha hy hz
  unfold f_X8_settlesOn at h
  refine g_aload_n X dX8_settlesOn_0 0 rfl ?_
  refine g_getr X g_cX8 w_X8_settlesOn_inX8 0 (by decide) w_X8_settlesOn_7 hk_o rfl dX8_settlesOn_1 h (fun a1 hk_a1 h => ?_)
  refine g_iload_n X dX8_settlesOn_4 1 rfl ?_
  refine g_iload_n X dX8_settlesOn_5 2 rfl ?_
  refine g_iadd X dX8_settlesOn_6 ?_
  refine g_iald X hk_a1 dX8_settlesOn_7 h (fun i2 _ h => ?_)
  refine g_istore_n X [(3, _), (0, _), (1, _), (2, _)] dX8_settlesOn_8 (by decide) rfl ?_
  refine g_aload_n X dX8_settlesOn_9 1 rfl ?_
  refine g_getr X g_cX8 w_X8_settlesOn_inX8 0 (by decide) w_X8_settlesOn_7 hk_o rfl dX8_settlesOn_10 h (fun a3 hk_a3 h => ?_)
  refine g_iload_n X dX8_settlesOn_13 2 rfl ?_
  refine g_bipush X (v := (8)) dX8_settlesOn_14 (by decide) ?_
  refine g_iadd X dX8_settlesOn_16 ?_
  refine g_iload_n X dX8_settlesOn_17 3 rfl ?_
  refine g_iadd X dX8_settlesOn_18 ?_
  refine g_iald X hk_a3 dX8_settlesOn_19 h (fun i4 _ h => ?_)
  refine g_istore X [(4, _), (3, _), (0, _), (1, _), (2, _)] dX8_settlesOn_20 (by decide) rfl ?_
  refine g_aload_n X dX8_settlesOn_22 2 rfl ?_
  refine g_getr X g_cX8 w_X8_settlesOn_inX8 0 (by decide) w_X8_settlesOn_7 hk_o rfl dX8_settlesOn_23 h (fun a5 hk_a5 h => ?_)
  refine g_iload_n X dX8_settlesOn_26 3 rfl ?_
  refine g_bipush X (v := (12)) dX8_settlesOn_27 (by decide) ?_
  refine g_iadd X dX8_settlesOn_29 ?_
  refine g_iload_n X dX8_settlesOn_30 4 rfl ?_
  refine g_iadd X dX8_settlesOn_31 ?_
  refine g_iald X hk_a5 dX8_settlesOn_32 h (fun i6 _ h => ?_)
  refine g_istore X [(5, _), (4, _), (3, _), (0, _), (1, _), (2, _)] dX8_settlesOn_33 (by decide) rfl ?_
  refine g_aload_n X dX8_settlesOn_35 3 rfl ?_
  refine g_getr X g_cX8 w_X8_settlesOn_inX8 0 (by decide) w_X8_settlesOn_7 hk_o rfl dX8_settlesOn_36 h (fun a7 hk_a7 h => ?_)
  refine g_iload_n X dX8_settlesOn_39 4 rfl ?_
  refine g_iconst X (v := 4) dX8_settlesOn_40 (by decide) ?_
  refine g_iadd X dX8_settlesOn_41 ?_
  refine g_iload_n X dX8_settlesOn_42 5 rfl ?_
  refine g_iadd X dX8_settlesOn_43 ?_
  refine g_iald X hk_a7 dX8_settlesOn_44 h (fun i8 _ h => ?_)
  refine g_istore X [(6, _), (5, _), (4, _), (3, _), (0, _), (1, _), (2, _)] dX8_settlesOn_45 (by decide) rfl ?_
  refine g_iload_n X dX8_settlesOn_47 3 rfl ?_
  refine g_if_ne X 76 dX8_settlesOn_48 (by decide) h (fun c_48 h => ?_) (fun c_48 h => ?_)
  · skip
    refine g_iload_n X dX8_settlesOn_76 3 rfl ?_
    refine g_iconst X (v := 1) dX8_settlesOn_77 (by decide) ?_
    refine g_icmp_ne X 102 dX8_settlesOn_78 (by decide) h (fun c_78 h => ?_) (fun c_78 h => ?_)
    · skip
      refine g_iload X dX8_settlesOn_102 2 rfl ?_
      refine g_if_le X 139 dX8_settlesOn_104 (by decide) h (fun c_104 h => ?_) (fun c_104 h => ?_)
      · skip
        refine g_sub [4, 5, 6, 1] _ rfl ?_
        exact vj_X8_settlesOn_139 X o p0 p1 ((S.1 a5 i6)) hk_o _ h
      · skip
        refine g_aload_n X dX8_settlesOn_107 4 rfl ?_
        refine g_getr X g_cX8 w_X8_settlesOn_inX8 0 (by decide) w_X8_settlesOn_7 hk_o rfl dX8_settlesOn_108 h (fun a11 hk_a11 h => ?_)
        refine g_iload_n X dX8_settlesOn_111 5 rfl ?_
        refine g_bipush X (v := (42)) dX8_settlesOn_112 (by decide) ?_
        refine g_iadd X dX8_settlesOn_114 ?_
        refine g_iald X hk_a11 dX8_settlesOn_115 h (fun i12 _ h => ?_)
        refine g_iconst X (v := 1) dX8_settlesOn_116 (by decide) ?_
        refine g_iadd X dX8_settlesOn_117 ?_
        refine g_iload X dX8_settlesOn_118 2 rfl ?_
        refine g_irem X dX8_settlesOn_120 h (fun h => ?_)
        refine g_if_ne X 139 dX8_settlesOn_121 (by decide) h (fun c_121 h => ?_) (fun c_121 h => ?_)
        · skip
          refine g_sub [4, 5, 6, 1] _ rfl ?_
          exact vj_X8_settlesOn_139 X o p0 p1 ((S.1 a5 i6)) hk_o _ h
        · skip
          refine g_iload_n X dX8_settlesOn_124 3 rfl ?_
          refine g_iconst X (v := 2) dX8_settlesOn_125 (by decide) ?_
          refine g_icmp_ne X 133 dX8_settlesOn_126 (by decide) h (fun c_126 h => ?_) (fun c_126 h => ?_)
          · skip
            refine g_iload X dX8_settlesOn_133 1 rfl ?_
            refine g_iconst X (v := 2) dX8_settlesOn_135 (by decide) ?_
            refine g_idiv X dX8_settlesOn_136 h (fun h => ?_)
            refine g_sub [4, 5, 6] _ rfl ?_
            exact vj_X8_settlesOn_137 X o p0 p1 (((S.1 a5 i6) / (2 : Int32))) hk_o _ h
          · skip
            refine g_iconst X (v := 0) dX8_settlesOn_129 (by decide) ?_
            refine g_goto X 137 dX8_settlesOn_130 (by decide) ?_
            refine g_sub [4, 5, 6] _ rfl ?_
            exact vj_X8_settlesOn_137 X o p0 p1 ((0 : Int32)) hk_o _ h
    · skip
      refine g_iload X dX8_settlesOn_81 1 rfl ?_
      refine g_iload X dX8_settlesOn_83 2 rfl ?_
      refine g_icmp_le X 96 dX8_settlesOn_85 (by decide) h (fun c_85 h => ?_) (fun c_85 h => ?_)
      · skip
        refine g_iconst X (v := 0) dX8_settlesOn_96 (by decide) ?_
        refine g_sub [4, 5, 6] _ rfl ?_
        exact vj_X8_settlesOn_97 X o p0 p1 ((0 : Int32)) hk_o _ h
      · skip
        refine g_iload X dX8_settlesOn_88 1 rfl ?_
        refine g_iload X dX8_settlesOn_90 2 rfl ?_
        refine g_isub X dX8_settlesOn_92 ?_
        refine g_goto X 97 dX8_settlesOn_93 (by decide) ?_
        refine g_sub [4, 5, 6] _ rfl ?_
        exact vj_X8_settlesOn_97 X o p0 p1 (((S.1 a5 i6) - (S.1 a3 i4))) hk_o _ h
  · skip
    refine g_iload X dX8_settlesOn_51 1 rfl ?_
    refine g_iload X dX8_settlesOn_53 2 rfl ?_
    refine g_iadd X dX8_settlesOn_55 ?_
    refine g_iload X dX8_settlesOn_56 0 rfl ?_
    refine g_icmp_le X 66 dX8_settlesOn_58 (by decide) h (fun c_58 h => ?_) (fun c_58 h => ?_)
    · skip
      refine g_iload X dX8_settlesOn_66 1 rfl ?_
      refine g_iload X dX8_settlesOn_68 2 rfl ?_
      refine g_iadd X dX8_settlesOn_70 ?_
      refine g_sub [4, 5, 6] _ rfl ?_
      exact vj_X8_settlesOn_71 X o p0 p1 (((S.1 a5 i6) + (S.1 a3 i4))) hk_o _ h
    · skip
      refine g_iload X dX8_settlesOn_61 0 rfl ?_
      refine g_goto X 71 dX8_settlesOn_63 (by decide) ?_
      refine g_sub [4, 5, 6] _ rfl ?_
      exact vj_X8_settlesOn_71 X o p0 p1 ((S.1 a7 i8)) hk_o _ h
abbrev rm_X8_tickOn : Room := { frames := 2, cells := 0, slots := 0, locals := 45 }
theorem hd_X8_tickOn : yX8_tickOn.cls = RX8 ∧ yX8_tickOn.cls ≠ "java/lang/invoke/MethodHandle" ∧ yX8_tickOn.cls ≠ "java/lang/invoke/VarHandle" ∧ (parseMethodDescriptor yX8_tickOn.desc).map (fun d => d.parameters.length) = some 2 := by decide +kernel
theorem w_X8_tickOn_121 : Cond.fieldLink RX8 121 "TokenDoorsModel" "let" "I" ∈ wsX8_tickOn := by decide +kernel
theorem w_X8_tickOn_inX8 : ∀ w ∈ wsX80, w ∈ wsX8_tickOn := by decide +kernel
theorem w_X8_tickOn_124 : Cond.fieldLink RX8 124 "TokenDoorsModel" "turned" "I" ∈ wsX8_tickOn := by decide +kernel
theorem w_X8_tickOn_7 : Cond.fieldLink RX8 7 "TokenDoorsModel" "state" "[I" ∈ wsX8_tickOn := by decide +kernel
theorem w_X8_tickOn_25 : Cond.fieldLink RX8 25 "TokenDoorsModel" "opened" "I" ∈ wsX8_tickOn := by decide +kernel
theorem w_X8_tickOn_127 : Cond.fieldLink RX8 127 "TokenDoorsModel" "badTicks" "I" ∈ wsX8_tickOn := by decide +kernel
theorem w_X8_tickOn_130 : Cond.fieldLink RX8 130 "TokenDoorsModel" "worstTick" "I" ∈ wsX8_tickOn := by decide +kernel
def b_X8_tickOn_14 (fu : Nat) (v0 : Nat) (v1 : Int32) (v2 : Int32) (v3 : Int32) (v4 : Int32) (v5 : Int32) (S : g_St) : Option ((Int32 × g_St) ⊕ (g_St)) :=
  if v2 ≤ v5 then (some (.inr S)) else (g_bd (f_X8_passOn fu v0 v1 S) fun r1 Sr1 => some (.inl ((v5 + 1), Sr1)))
def j_X8_tickOn_65_in35 (fu : Nat) (v0 : Nat) (v1 : Int32) (v3 : Int32) (v4 : Int32) (v5 : Int32) (S : g_St) : Option ((Int32 × g_St) ⊕ (g_St)) :=
  some (.inl ((v5 + 1), S))
def b_X8_tickOn_35 (fu : Nat) (v0 : Nat) (v1 : Int32) (v3 : Int32) (v4 : Int32) (v5 : Int32) (S : g_St) : Option ((Int32 × g_St) ⊕ (g_St)) :=
  g_ld g_KM 13 (.inr (0, 270, false)) (S.2 v0 0) fun a2 => g_ix (v1 + (16 : Int32)) 270 fun i3 => if (S.1 a2 i3) ≤ v5 then (some (.inr S)) else (if v5 = (S.1 v0 13) then (j_X8_tickOn_65_in35 fu v0 v1 v3 v4 v5 S) else (g_bd (f_X8_settlesOn fu v0 v1 v5 S) fun _ Sr4 => j_X8_tickOn_65_in35 fu v0 v1 v3 v4 v5 Sr4))
def j_X8_tickOn_118 (fu : Nat) (v0 : Nat) (v1 : Int32) (v3 : Int32) (s0 : Nat) (s1 : Int32) (S : g_St) : Option (Int32 × g_St) :=
  g_ld g_KM 13 (.inr (0, 270, false)) (S.2 v0 0) fun a5 => g_ix (v1 + (42 : Int32)) 270 fun i6 => g_ix (v1 + (42 : Int32)) 270 fun i7 => some ((((g_u (g_u S.1 s0 17 s1) a5 i7 (((g_u S.1 s0 17 s1) a5 i6) + (1 : Int32))) v0 14) - v3), (g_u (g_u S.1 s0 17 s1) a5 i7 (((g_u S.1 s0 17 s1) a5 i6) + (1 : Int32)), S.2))
def j_X8_tickOn_95 (fu : Nat) (v0 : Nat) (v1 : Int32) (v3 : Int32) (v5 : Int32) (s0 : Nat) (s1 : Int32) (s2 : Int32) (S : g_St) : Option (Int32 × g_St) :=
  if v5 ≤ ((g_u S.1 s0 16 (s1 + s2)) v0 17) then (j_X8_tickOn_118 fu v0 v1 v3 v0 (((g_u S.1 s0 16 (s1 + s2)) v0 17)) (g_u S.1 s0 16 (s1 + s2), S.2)) else (j_X8_tickOn_118 fu v0 v1 v3 v0 v5 (g_u S.1 s0 16 (s1 + s2), S.2))
def f_X8_tickOn (fu : Nat) (o : Nat) (p0 : Int32) (p1 : Int32) (S : g_St) : Option (Int32 × g_St) :=
  g_th (g_lp (fun t => b_X8_tickOn_14 fu o p0 p1 ((S.1 o 14)) ((S.1 o 15)) t.1 t.2) fu ((0 : Int32), S)) fun e => match e with | S1 => g_th (g_lp (fun t => b_X8_tickOn_35 fu o p0 ((S.1 o 14)) ((S.1 o 15)) t.1 t.2) fu ((0 : Int32), S1)) fun e => match e with | S2 => if ((S2.1 o 15) - (S.1 o 15)) ≤ 0 then (j_X8_tickOn_95 fu o p0 ((S.1 o 14)) (((S2.1 o 15) - (S.1 o 15))) o ((S2.1 o 16)) ((0 : Int32)) S2) else (j_X8_tickOn_95 fu o p0 ((S.1 o 14)) (((S2.1 o 15) - (S.1 o 15))) o ((S2.1 o 16)) ((1 : Int32)) S2)
set_option maxRecDepth 100000 in
set_option maxHeartbeats 400000 in
theorem vb_X8_tickOn_14 {x : g_CX} {z : Int32 × g_St} {fu : Nat} (X : g_X 13 x cX8_tickOn RX8 6 wsX8_tickOn rm_X8_tickOn (some .int)) (v0 : Nat) (v1 : Int32) (v2 : Int32) (v3 : Int32) (v4 : Int32) (v5 : Int32) (hk_v0 : v0 < 13 ∧ g_KM v0 = g_kX8) (S : g_St) {r : (Int32 × g_St) ⊕ (g_St)} (h : b_X8_tickOn_14 fu v0 v1 v2 v3 v4 v5 S = some r) (hc : Sum.elim (fun t : Int32 × g_St => g_V g_KM 13 x 6 (g_qi g_KM 13 x z) t.2 14 [(0, .ref (g_ad x v0)), (1, .int (v1)), (2, .int (v2)), (3, .int (v3)), (4, .int (v4)), (5, .int (t.1))] []) (fun e : g_St => g_V g_KM 13 x 6 (g_qi g_KM 13 x z) e 32 [(0, .ref (g_ad x v0)), (1, .int (v1)), (3, .int (v3)), (4, .int (v4))] []) r) : g_V g_KM 13 x 6 (g_qi g_KM 13 x z) S 14 [(0, .ref (g_ad x v0)), (1, .int (v1)), (2, .int (v2)), (3, .int (v3)), (4, .int (v4)), (5, .int (v5))] [] := by
  unfold b_X8_tickOn_14 at h
  refine g_iload X dX8_tickOn_14 5 rfl ?_
  refine g_iload_n X dX8_tickOn_16 2 rfl ?_
  refine g_icmp_ge X 32 dX8_tickOn_17 (by decide) h (fun c_17 h => ?_) (fun c_17 h => ?_)
  · skip
    cases h
    exact g_sub [0, 1, 3, 4] _ rfl hc
  · skip
    refine g_aload_n X dX8_tickOn_20 0 rfl ?_
    refine g_iload_n X dX8_tickOn_21 1 rfl ?_
    refine g_callVi X g_cX8 hk_v0 [.int (v1)] rfl (cwV 1 X.2.2.2.2.1 gX8_tickOn_X8_passOn rfl rfl rfl hd_X8_passOn ⟨Nat.le_of_ble_eq_true rfl, Nat.le_of_ble_eq_true rfl⟩) (Nat.le_of_ble_eq_true rfl) dX8_tickOn_22 h (fun q hq => ct_X8_passOn X.2.2.2.2.2.2.1 v0 v1 hk_v0 _ hq) (fun r1 Sr1 h => ?_)
    refine g_pop X dX8_tickOn_25 rfl ?_
    refine g_iinc X [(5, _), (0, _), (1, _), (2, _), (3, _), (4, _)] dX8_tickOn_26 5 rfl rfl (by decide) rfl ?_
    refine g_goto X 14 dX8_tickOn_29 (by decide) ?_
    cases h
    exact g_sub [1, 2, 3, 4, 5, 0] _ rfl hc
set_option maxRecDepth 100000 in
set_option maxHeartbeats 400000 in
theorem vj_X8_tickOn_65_in35 {x : g_CX} {z : Int32 × g_St} {fu : Nat} (X : g_X 13 x cX8_tickOn RX8 6 wsX8_tickOn rm_X8_tickOn (some .int)) (v0 : Nat) (v1 : Int32) (v3 : Int32) (v4 : Int32) (v5 : Int32) (hk_v0 : v0 < 13 ∧ g_KM v0 = g_kX8) (S : g_St) {r : (Int32 × g_St) ⊕ (g_St)} (h : j_X8_tickOn_65_in35 fu v0 v1 v3 v4 v5 S = some r) (hc : Sum.elim (fun t : Int32 × g_St => g_V g_KM 13 x 6 (g_qi g_KM 13 x z) t.2 35 [(0, .ref (g_ad x v0)), (1, .int (v1)), (3, .int (v3)), (4, .int (v4)), (5, .int (t.1))] []) (fun e : g_St => g_V g_KM 13 x 6 (g_qi g_KM 13 x z) e 71 [(0, .ref (g_ad x v0)), (1, .int (v1)), (3, .int (v3)), (4, .int (v4))] []) r) : g_V g_KM 13 x 6 (g_qi g_KM 13 x z) S 65 [(0, .ref (g_ad x v0)), (1, .int (v1)), (3, .int (v3)), (4, .int (v4)), (5, .int (v5))] [] := by
  unfold j_X8_tickOn_65_in35 at h
  refine g_iinc X [(5, _), (0, _), (1, _), (3, _), (4, _)] dX8_tickOn_65 4 rfl rfl (by decide) rfl ?_
  refine g_goto X 35 dX8_tickOn_68 (by decide) ?_
  cases h
  exact g_sub [1, 2, 3, 4, 0] _ rfl hc
set_option maxRecDepth 100000 in
set_option maxHeartbeats 400000 in
theorem vb_X8_tickOn_35 {x : g_CX} {z : Int32 × g_St} {fu : Nat} (X : g_X 13 x cX8_tickOn RX8 6 wsX8_tickOn rm_X8_tickOn (some .int)) (v0 : Nat) (v1 : Int32) (v3 : Int32) (v4 : Int32) (v5 : Int32) (hk_v0 : v0 < 13 ∧ g_KM v0 = g_kX8) (S : g_St) {r : (Int32 × g_St) ⊕ (g_St)} (h : b_X8_tickOn_35 fu v0 v1 v3 v4 v5 S = some r) (hc : Sum.elim (fun t : Int32 × g_St => g_V g_KM 13 x 6 (g_qi g_KM 13 x z) t.2 35 [(0, .ref (g_ad x v0)), (1, .int (v1)), (3, .int (v3)), (4, .int (v4)), (5, .int (t.1))] []) (fun e : g_St => g_V g_KM 13 x 6 (g_qi g_KM 13 x z) e 71 [(0, .ref (g_ad x v0)), (1, .int (v1)), (3, .int (v3)), (4, .int (v4))] []) r) : g_V g_KM 13 x 6 (g_qi g_KM 13 x z) S 35 [(0, .ref (g_ad x v0)), (1, .int (v1)), (3, .int (v3)), (4, .int (v4)), (5, .int (v5))] [] := by
  unfold b_X8_tickOn_35 at h
  refine g_iload X dX8_tickOn_35 4 rfl ?_
  refine g_aload_n X dX8_tickOn_37 0 rfl ?_
  refine g_getr X g_cX8 w_X8_tickOn_inX8 0 (by decide) w_X8_tickOn_7 hk_v0 rfl dX8_tickOn_38 h (fun a2 hk_a2 h => ?_)
  refine g_iload_n X dX8_tickOn_41 1 rfl ?_
  refine g_bipush X (v := (16)) dX8_tickOn_42 (by decide) ?_
  refine g_iadd X dX8_tickOn_44 ?_
  refine g_iald X hk_a2 dX8_tickOn_45 h (fun i3 _ h => ?_)
  refine g_icmp_ge X 71 dX8_tickOn_46 (by decide) h (fun c_46 h => ?_) (fun c_46 h => ?_)
  · skip
    cases h
    exact g_sub [0, 1, 2, 3] _ rfl hc
  · skip
    refine g_iload X dX8_tickOn_49 4 rfl ?_
    refine g_aload_n X dX8_tickOn_51 0 rfl ?_
    refine g_geti X g_cX8 w_X8_tickOn_inX8 13 (by decide) w_X8_tickOn_25 hk_v0 rfl dX8_tickOn_52 ?_
    refine g_icmp_eq X 65 dX8_tickOn_55 (by decide) h (fun c_55 h => ?_) (fun c_55 h => ?_)
    · skip
      refine g_sub [0, 1, 2, 3, 4] _ rfl ?_
      exact vj_X8_tickOn_65_in35 X v0 v1 v3 v4 v5 hk_v0 _ h hc
    · skip
      refine g_aload_n X dX8_tickOn_58 0 rfl ?_
      refine g_iload_n X dX8_tickOn_59 1 rfl ?_
      refine g_iload X dX8_tickOn_60 4 rfl ?_
      refine g_callVv X g_cX8 hk_v0 [.int (v1), .int (v5)] rfl (cwV 2 X.2.2.2.2.1 gX8_tickOn_X8_settlesOn rfl rfl rfl hd_X8_settlesOn ⟨Nat.le_of_ble_eq_true rfl, Nat.le_of_ble_eq_true rfl⟩) (Nat.le_of_ble_eq_true rfl) dX8_tickOn_62 h (fun q hq => ct_X8_settlesOn X.2.2.2.2.2.2.1 v0 v1 v5 hk_v0 _ hq) (fun _ Sr4 h => ?_)
      refine g_sub [0, 1, 2, 3, 4] _ rfl ?_
      exact vj_X8_tickOn_65_in35 X v0 v1 v3 v4 v5 hk_v0 _ h hc
set_option maxRecDepth 100000 in
set_option maxHeartbeats 400000 in
theorem vj_X8_tickOn_118 {x : g_CX} {z : Int32 × g_St} {fu : Nat} (X : g_X 13 x cX8_tickOn RX8 6 wsX8_tickOn rm_X8_tickOn (some .int)) (v0 : Nat) (v1 : Int32) (v3 : Int32) (s0 : Nat) (s1 : Int32) (hk_v0 : v0 < 13 ∧ g_KM v0 = g_kX8) (hk_s0 : s0 < 13 ∧ g_KM s0 = g_kX8) (S : g_St) (h : j_X8_tickOn_118 fu v0 v1 v3 s0 s1 S = some z) : g_V g_KM 13 x 6 (g_qi g_KM 13 x z) S 118 [(0, .ref (g_ad x v0)), (1, .int (v1)), (3, .int (v3))] [.int (s1), .ref (g_ad x s0)] := by
  unfold j_X8_tickOn_118 at h
  refine g_puti X g_cX8 w_X8_tickOn_inX8 17 (by decide) w_X8_tickOn_130 hk_s0 rfl rfl (t := .int) (by decide +kernel) rfl rfl dX8_tickOn_118 ?_
  refine g_aload_n X dX8_tickOn_121 0 rfl ?_
  refine g_getr X g_cX8 w_X8_tickOn_inX8 0 (by decide) w_X8_tickOn_7 hk_v0 rfl dX8_tickOn_122 h (fun a5 hk_a5 h => ?_)
  refine g_iload_n X dX8_tickOn_125 1 rfl ?_
  refine g_bipush X (v := (42)) dX8_tickOn_126 (by decide) ?_
  refine g_iadd X dX8_tickOn_128 ?_
  refine g_dup2_11 X dX8_tickOn_129 rfl rfl ?_
  refine g_iald X hk_a5 dX8_tickOn_130 h (fun i6 _ h => ?_)
  refine g_iconst X (v := 1) dX8_tickOn_131 (by decide) ?_
  refine g_iadd X dX8_tickOn_132 ?_
  refine g_iast X hk_a5 dX8_tickOn_133 h (fun i7 _ h => ?_)
  refine g_aload_n X dX8_tickOn_134 0 rfl ?_
  refine g_geti X g_cX8 w_X8_tickOn_inX8 14 (by decide) w_X8_tickOn_121 hk_v0 rfl dX8_tickOn_135 ?_
  refine g_iload_n X dX8_tickOn_138 2 rfl ?_
  refine g_isub X dX8_tickOn_139 ?_
  exact g_iret X h dX8_tickOn_140
set_option maxRecDepth 100000 in
set_option maxHeartbeats 400000 in
theorem vj_X8_tickOn_95 {x : g_CX} {z : Int32 × g_St} {fu : Nat} (X : g_X 13 x cX8_tickOn RX8 6 wsX8_tickOn rm_X8_tickOn (some .int)) (v0 : Nat) (v1 : Int32) (v3 : Int32) (v5 : Int32) (s0 : Nat) (s1 : Int32) (s2 : Int32) (hk_v0 : v0 < 13 ∧ g_KM v0 = g_kX8) (hk_s0 : s0 < 13 ∧ g_KM s0 = g_kX8) (S : g_St) (h : j_X8_tickOn_95 fu v0 v1 v3 v5 s0 s1 s2 S = some z) : g_V g_KM 13 x 6 (g_qi g_KM 13 x z) S 95 [(0, .ref (g_ad x v0)), (1, .int (v1)), (3, .int (v3)), (5, .int (v5))] [.int (s2), .int (s1), .ref (g_ad x s0)] := by
  unfold j_X8_tickOn_95 at h
  refine g_iadd X dX8_tickOn_95 ?_
  refine g_puti X g_cX8 w_X8_tickOn_inX8 16 (by decide) w_X8_tickOn_127 hk_s0 rfl rfl (t := .int) (by decide +kernel) rfl rfl dX8_tickOn_96 ?_
  refine g_aload_n X dX8_tickOn_99 0 rfl ?_
  refine g_iload X dX8_tickOn_100 3 rfl ?_
  refine g_aload_n X dX8_tickOn_102 0 rfl ?_
  refine g_geti X g_cX8 w_X8_tickOn_inX8 17 (by decide) w_X8_tickOn_130 hk_v0 rfl dX8_tickOn_103 ?_
  refine g_icmp_le X 114 dX8_tickOn_106 (by decide) h (fun c_106 h => ?_) (fun c_106 h => ?_)
  · skip
    refine g_aload_n X dX8_tickOn_114 0 rfl ?_
    refine g_geti X g_cX8 w_X8_tickOn_inX8 17 (by decide) w_X8_tickOn_130 hk_v0 rfl dX8_tickOn_115 ?_
    refine g_sub [0, 1, 2] _ rfl ?_
    exact vj_X8_tickOn_118 X v0 v1 v3 v0 (((g_u S.1 s0 16 (s1 + s2)) v0 17)) hk_v0 hk_v0 _ h
  · skip
    refine g_iload X dX8_tickOn_109 3 rfl ?_
    refine g_goto X 118 dX8_tickOn_111 (by decide) ?_
    refine g_sub [0, 1, 2] _ rfl ?_
    exact vj_X8_tickOn_118 X v0 v1 v3 v0 v5 hk_v0 hk_v0 _ h
set_option maxRecDepth 100000 in
set_option maxHeartbeats 400000 in
theorem ct_X8_tickOn {l : Launch} {D : va_G} {ad : Nat → Nat} {cy : Nat → ClassId} {zz : (Nat → Nat) × (Nat → Nat)} (hinj : ∀ i j, i < 13 → j < 13 → ad i = ad j → i = j) {fu : Nat} (o : Nat) (p0 : Int32) (p1 : Int32) (hk_o : o < 13 ∧ g_KM o = g_kX8) {S : g_St} (z : Int32 × g_St) (h : f_X8_tickOn fu o p0 p1 S = some z) : g_Mi l g_KM 13 D ad cy zz yX8_tickOn wsX8_tickOn rm_X8_tickOn [.ref (ad o), .int (p0), .int (p1)] S z := by
  refine g_ofi hinj (cc := cX8_tickOn) (maxL := 6) (ret := (some .int)) (lv := [(0, .ref (ad o)), (1, .int (p0)), (2, .int (p1))]) (by decide) rfl (Nat.le_of_ble_eq_true rfl) rfl ?_
  intro x X hl hD ha hy hz
  subst hl hD ha hy hz
  unfold f_X8_tickOn at h
  refine g_aload_n X dX8_tickOn_0 0 rfl ?_
  refine g_geti X g_cX8 w_X8_tickOn_inX8 14 (by decide) w_X8_tickOn_121 hk_o rfl dX8_tickOn_1 ?_
  refine g_istore_n X [(3, _), (0, _), (1, _), (2, _)] dX8_tickOn_4 (by decide) rfl ?_
  refine g_aload_n X dX8_tickOn_5 1 rfl ?_
  refine g_geti X g_cX8 w_X8_tickOn_inX8 15 (by decide) w_X8_tickOn_124 hk_o rfl dX8_tickOn_6 ?_
  refine g_istore X [(4, _), (3, _), (0, _), (1, _), (2, _)] dX8_tickOn_9 (by decide) rfl ?_
  refine g_iconst X (v := 0) dX8_tickOn_11 (by decide) ?_
  refine g_istore X [(5, _), (4, _), (3, _), (0, _), (1, _), (2, _)] dX8_tickOn_12 (by decide) rfl ?_
  obtain ⟨e, he, h⟩ := g_th_s h
  refine g_sub [3, 4, 5, 2, 1, 0] _ rfl ?_
  refine g_lp_w (body := (fun t => b_X8_tickOn_14 fu o p0 p1 ((S.1 o 14)) ((S.1 o 15)) t.1 t.2)) (P := fun t : Int32 × g_St => g_V g_KM 13 x 6 (g_qi g_KM 13 x z) t.2 14 [(0, .ref (g_ad x o)), (1, .int (p0)), (2, .int (p1)), (3, .int ((S.1 o 14))), (4, .int ((S.1 o 15))), (5, .int (t.1))] []) (E := (fun e : g_St => g_V g_KM 13 x 6 (g_qi g_KM 13 x z) e 32 [(0, .ref (g_ad x o)), (1, .int (p0)), (3, .int ((S.1 o 14))), (4, .int ((S.1 o 15)))] [])) (fun t r hb hc => vb_X8_tickOn_14 X o p0 p1 ((S.1 o 14)) ((S.1 o 15)) t.1 hk_o t.2 hb hc) fu ((0 : Int32), S) e he ?_
  obtain ⟨S1, rfl⟩ : ∃ q, q = e := ⟨_, rfl⟩
  show g_V g_KM 13 x 6 (g_qi g_KM 13 x z) S1 32 [(0, .ref (g_ad x o)), (1, .int (p0)), (3, .int ((S.1 o 14))), (4, .int ((S.1 o 15)))] []
  refine g_iconst X (v := 0) dX8_tickOn_32 (by decide) ?_
  refine g_istore X [(5, _), (0, _), (1, _), (3, _), (4, _)] dX8_tickOn_33 (by decide) rfl ?_
  obtain ⟨e, he, h⟩ := g_th_s h
  refine g_sub [1, 2, 3, 4, 0] _ rfl ?_
  refine g_lp_w (body := (fun t => b_X8_tickOn_35 fu o p0 ((S.1 o 14)) ((S.1 o 15)) t.1 t.2)) (P := fun t : Int32 × g_St => g_V g_KM 13 x 6 (g_qi g_KM 13 x z) t.2 35 [(0, .ref (g_ad x o)), (1, .int (p0)), (3, .int ((S.1 o 14))), (4, .int ((S.1 o 15))), (5, .int (t.1))] []) (E := (fun e : g_St => g_V g_KM 13 x 6 (g_qi g_KM 13 x z) e 71 [(0, .ref (g_ad x o)), (1, .int (p0)), (3, .int ((S.1 o 14))), (4, .int ((S.1 o 15)))] [])) (fun t r hb hc => vb_X8_tickOn_35 X o p0 ((S.1 o 14)) ((S.1 o 15)) t.1 hk_o t.2 hb hc) fu ((0 : Int32), S1) e he ?_
  obtain ⟨S2, rfl⟩ : ∃ q, q = e := ⟨_, rfl⟩
  show g_V g_KM 13 x 6 (g_qi g_KM 13 x z) S2 71 [(0, .ref (g_ad x o)), (1, .int (p0)), (3, .int ((S.1 o 14))), (4, .int ((S.1 o 15)))] []
  refine g_aload_n X dX8_tickOn_71 0 rfl ?_
  refine g_geti X g_cX8 w_X8_tickOn_inX8 15 (by decide) w_X8_tickOn_124 hk_o rfl dX8_tickOn_72 ?_
  refine g_iload X dX8_tickOn_75 3 rfl ?_
  refine g_isub X dX8_tickOn_77 ?_
  refine g_istore X [(5, _), (0, _), (1, _), (3, _), (4, _)] dX8_tickOn_78 (by decide) rfl ?_
  refine g_aload_n X dX8_tickOn_80 1 rfl ?_
  refine g_dup X dX8_tickOn_81 rfl ?_
  refine g_geti X g_cX8 w_X8_tickOn_inX8 16 (by decide) w_X8_tickOn_127 hk_o rfl dX8_tickOn_82 ?_
  refine g_iload X dX8_tickOn_85 0 rfl ?_
  refine g_if_le X 94 dX8_tickOn_87 (by decide) h (fun c_87 h => ?_) (fun c_87 h => ?_)
  · skip
    refine g_iconst X (v := 0) dX8_tickOn_94 (by decide) ?_
    refine g_sub [1, 2, 3, 0] _ rfl ?_
    exact vj_X8_tickOn_95 X o p0 ((S.1 o 14)) (((S2.1 o 15) - (S.1 o 15))) o ((S2.1 o 16)) ((0 : Int32)) hk_o hk_o _ h
  · skip
    refine g_iconst X (v := 1) dX8_tickOn_90 (by decide) ?_
    refine g_goto X 95 dX8_tickOn_91 (by decide) ?_
    refine g_sub [1, 2, 3, 0] _ rfl ?_
    exact vj_X8_tickOn_95 X o p0 ((S.1 o 14)) (((S2.1 o 15) - (S.1 o 15))) o ((S2.1 o 16)) ((1 : Int32)) hk_o hk_o _ h
abbrev rm_X8_goesOn : Room := { frames := 3, cells := 0, slots := 0, locals := 70 }
theorem hd_X8_goesOn : yX8_goesOn.cls = RX8 ∧ yX8_goesOn.cls ≠ "java/lang/invoke/MethodHandle" ∧ yX8_goesOn.cls ≠ "java/lang/invoke/VarHandle" ∧ (parseMethodDescriptor yX8_goesOn.desc).map (fun d => d.parameters.length) = some 1 := by decide +kernel
def f_X8_goesOn (fu : Nat) (o : Nat) (p0 : Int32) (S : g_St) : Option (Int32 × g_St) :=
  g_bd (f_X8_comeOn fu o p0 S) fun r1 Sr1 => g_bd (f_X8_tickOn fu o p0 r1 Sr1) fun r2 Sr2 => some (r2, Sr2)
set_option maxRecDepth 100000 in
set_option maxHeartbeats 400000 in
theorem ct_X8_goesOn {l : Launch} {D : va_G} {ad : Nat → Nat} {cy : Nat → ClassId} {zz : (Nat → Nat) × (Nat → Nat)} (hinj : ∀ i j, i < 13 → j < 13 → ad i = ad j → i = j) {fu : Nat} (o : Nat) (p0 : Int32) (hk_o : o < 13 ∧ g_KM o = g_kX8) {S : g_St} (z : Int32 × g_St) (h : f_X8_goesOn fu o p0 S = some z) : g_Mi l g_KM 13 D ad cy zz yX8_goesOn wsX8_goesOn rm_X8_goesOn [.ref (ad o), .int (p0)] S z := by
  refine g_ofi hinj (cc := cX8_goesOn) (maxL := 2) (ret := (some .int)) (lv := [(0, .ref (ad o)), (1, .int (p0))]) (by decide) rfl (Nat.le_of_ble_eq_true rfl) rfl ?_
  intro x X hl hD ha hy hz
  subst hl hD ha hy hz
  unfold f_X8_goesOn at h
  refine g_aload_n X dX8_goesOn_0 0 rfl ?_
  refine g_iload_n X dX8_goesOn_1 1 rfl ?_
  refine g_aload_n X dX8_goesOn_2 0 rfl ?_
  refine g_iload_n X dX8_goesOn_3 1 rfl ?_
  refine g_callVi X g_cX8 hk_o [.int (p0)] rfl (cwV 1 X.2.2.2.2.1 gX8_goesOn_X8_comeOn rfl rfl rfl hd_X8_comeOn ⟨Nat.le_of_ble_eq_true rfl, Nat.le_of_ble_eq_true rfl⟩) (Nat.le_of_ble_eq_true rfl) dX8_goesOn_4 h (fun q hq => ct_X8_comeOn X.2.2.2.2.2.2.1 o p0 hk_o _ hq) (fun r1 Sr1 h => ?_)
  refine g_callVi X g_cX8 hk_o [.int (p0), .int (r1)] rfl (cwV 2 X.2.2.2.2.1 gX8_goesOn_X8_tickOn rfl rfl rfl hd_X8_tickOn ⟨Nat.le_of_ble_eq_true rfl, Nat.le_of_ble_eq_true rfl⟩) (Nat.le_of_ble_eq_true rfl) dX8_goesOn_7 h (fun q hq => ct_X8_tickOn X.2.2.2.2.2.2.1 o p0 r1 hk_o _ hq) (fun r2 Sr2 h => ?_)
  exact g_iret X h dX8_goesOn_10
abbrev rm_X8_holdOn : Room := { frames := 0, cells := 0, slots := 0, locals := 0 }
theorem hd_X8_holdOn : yX8_holdOn.cls = RX8 ∧ yX8_holdOn.cls ≠ "java/lang/invoke/MethodHandle" ∧ yX8_holdOn.cls ≠ "java/lang/invoke/VarHandle" ∧ (parseMethodDescriptor yX8_holdOn.desc).map (fun d => d.parameters.length) = some 1 := by decide +kernel
theorem w_X8_holdOn_7 : Cond.fieldLink RX8 7 "TokenDoorsModel" "state" "[I" ∈ wsX8_holdOn := by decide +kernel
theorem w_X8_holdOn_inX8 : ∀ w ∈ wsX80, w ∈ wsX8_holdOn := by decide +kernel
def b_X8_holdOn_4 (fu : Nat) (v0 : Nat) (v1 : Int32) (v2 : Int32) (v3 : Int32) (S : g_St) : Option ((Int32 × Int32 × g_St) ⊕ (Int32 × g_St)) :=
  g_ld g_KM 13 (.inr (0, 270, false)) (S.2 v0 0) fun a1 => g_ix (v1 + (16 : Int32)) 270 fun i2 => if (S.1 a1 i2) ≤ v3 then (some (.inr (v2, S))) else (g_ld g_KM 13 (.inr (0, 270, false)) (S.2 v0 0) fun a3 => g_ix ((v1 + (12 : Int32)) + v3) 270 fun i4 => some (.inl ((v2 + (S.1 a3 i4)), (v3 + 1), S)))
def f_X8_holdOn (fu : Nat) (o : Nat) (p0 : Int32) (S : g_St) : Option (Int32 × g_St) :=
  g_th (g_lp (fun t => b_X8_holdOn_4 fu o p0 t.1 t.2.1 t.2.2) fu ((0 : Int32), (0 : Int32), S)) fun e => match e with | (w2_1, S1) => some (w2_1, S1)
set_option maxRecDepth 100000 in
set_option maxHeartbeats 400000 in
theorem vb_X8_holdOn_4 {x : g_CX} {z : Int32 × g_St} {fu : Nat} (X : g_X 13 x cX8_holdOn RX8 4 wsX8_holdOn rm_X8_holdOn (some .int)) (v0 : Nat) (v1 : Int32) (v2 : Int32) (v3 : Int32) (hk_v0 : v0 < 13 ∧ g_KM v0 = g_kX8) (S : g_St) {r : (Int32 × Int32 × g_St) ⊕ (Int32 × g_St)} (h : b_X8_holdOn_4 fu v0 v1 v2 v3 S = some r) (hc : Sum.elim (fun t : Int32 × Int32 × g_St => g_V g_KM 13 x 4 (g_qi g_KM 13 x z) t.2.2 4 [(0, .ref (g_ad x v0)), (1, .int (v1)), (2, .int (t.1)), (3, .int (t.2.1))] []) (fun e : Int32 × g_St => g_V g_KM 13 x 4 (g_qi g_KM 13 x z) e.2 37 [(2, .int (e.1))] []) r) : g_V g_KM 13 x 4 (g_qi g_KM 13 x z) S 4 [(0, .ref (g_ad x v0)), (1, .int (v1)), (2, .int (v2)), (3, .int (v3))] [] := by
  unfold b_X8_holdOn_4 at h
  refine g_iload_n X dX8_holdOn_4 3 rfl ?_
  refine g_aload_n X dX8_holdOn_5 0 rfl ?_
  refine g_getr X g_cX8 w_X8_holdOn_inX8 0 (by decide) w_X8_holdOn_7 hk_v0 rfl dX8_holdOn_6 h (fun a1 hk_a1 h => ?_)
  refine g_iload_n X dX8_holdOn_9 1 rfl ?_
  refine g_bipush X (v := (16)) dX8_holdOn_10 (by decide) ?_
  refine g_iadd X dX8_holdOn_12 ?_
  refine g_iald X hk_a1 dX8_holdOn_13 h (fun i2 _ h => ?_)
  refine g_icmp_ge X 37 dX8_holdOn_14 (by decide) h (fun c_14 h => ?_) (fun c_14 h => ?_)
  · skip
    cases h
    exact g_sub [2] _ rfl hc
  · skip
    refine g_iload_n X dX8_holdOn_17 2 rfl ?_
    refine g_aload_n X dX8_holdOn_18 0 rfl ?_
    refine g_getr X g_cX8 w_X8_holdOn_inX8 0 (by decide) w_X8_holdOn_7 hk_v0 rfl dX8_holdOn_19 h (fun a3 hk_a3 h => ?_)
    refine g_iload_n X dX8_holdOn_22 1 rfl ?_
    refine g_bipush X (v := (12)) dX8_holdOn_23 (by decide) ?_
    refine g_iadd X dX8_holdOn_25 ?_
    refine g_iload_n X dX8_holdOn_26 3 rfl ?_
    refine g_iadd X dX8_holdOn_27 ?_
    refine g_iald X hk_a3 dX8_holdOn_28 h (fun i4 _ h => ?_)
    refine g_iadd X dX8_holdOn_29 ?_
    refine g_istore_n X [(2, _), (0, _), (1, _), (3, _)] dX8_holdOn_30 (by decide) rfl ?_
    refine g_iinc X [(3, _), (2, _), (0, _), (1, _)] dX8_holdOn_31 3 rfl rfl (by decide) rfl ?_
    refine g_goto X 4 dX8_holdOn_34 (by decide) ?_
    cases h
    exact g_sub [2, 3, 1, 0] _ rfl hc
set_option maxRecDepth 100000 in
set_option maxHeartbeats 400000 in
theorem ct_X8_holdOn {l : Launch} {D : va_G} {ad : Nat → Nat} {cy : Nat → ClassId} {zz : (Nat → Nat) × (Nat → Nat)} (hinj : ∀ i j, i < 13 → j < 13 → ad i = ad j → i = j) {fu : Nat} (o : Nat) (p0 : Int32) (hk_o : o < 13 ∧ g_KM o = g_kX8) {S : g_St} (z : Int32 × g_St) (h : f_X8_holdOn fu o p0 S = some z) : g_Mi l g_KM 13 D ad cy zz yX8_holdOn wsX8_holdOn rm_X8_holdOn [.ref (ad o), .int (p0)] S z := by
  refine g_ofi hinj (cc := cX8_holdOn) (maxL := 4) (ret := (some .int)) (lv := [(0, .ref (ad o)), (1, .int (p0))]) (by decide) rfl (Nat.le_of_ble_eq_true rfl) rfl ?_
  intro x X hl hD ha hy hz
  subst hl hD ha hy hz
  unfold f_X8_holdOn at h
  refine g_iconst X (v := 0) dX8_holdOn_0 (by decide) ?_
  refine g_istore_n X [(2, _), (0, _), (1, _)] dX8_holdOn_1 (by decide) rfl ?_
  refine g_iconst X (v := 0) dX8_holdOn_2 (by decide) ?_
  refine g_istore_n X [(3, _), (2, _), (0, _), (1, _)] dX8_holdOn_3 (by decide) rfl ?_
  obtain ⟨e, he, h⟩ := g_th_s h
  refine g_sub [2, 3, 1, 0] _ rfl ?_
  refine g_lp_w (body := (fun t => b_X8_holdOn_4 fu o p0 t.1 t.2.1 t.2.2)) (P := fun t : Int32 × Int32 × g_St => g_V g_KM 13 x 4 (g_qi g_KM 13 x z) t.2.2 4 [(0, .ref (g_ad x o)), (1, .int (p0)), (2, .int (t.1)), (3, .int (t.2.1))] []) (E := (fun e : Int32 × g_St => g_V g_KM 13 x 4 (g_qi g_KM 13 x z) e.2 37 [(2, .int (e.1))] [])) (fun t r hb hc => vb_X8_holdOn_4 X o p0 t.1 t.2.1 hk_o t.2.2 hb hc) fu ((0 : Int32), (0 : Int32), S) e he ?_
  obtain ⟨w2_1, S1⟩ := e
  show g_V g_KM 13 x 4 (g_qi g_KM 13 x z) S1 37 [(2, .int (w2_1))] []
  refine g_iload_n X dX8_holdOn_37 0 rfl ?_
  exact g_iret X h dX8_holdOn_38
