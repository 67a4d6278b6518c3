abbrev rm_X0_make : Room := { frames := 0, cells := 0, slots := 0, locals := 0 }
theorem hd_X0_make : yX0_make.cls = RX0 ∧ yX0_make.cls ≠ "java/lang/invoke/MethodHandle" ∧ yX0_make.cls ≠ "java/lang/invoke/VarHandle" ∧ (parseMethodDescriptor yX0_make.desc).map (fun d => d.parameters.length) = some 3 := by decide +kernel
theorem w_X0_make_7 : Cond.fieldLink RX0 7 "TokenDoors$Crowd" "start" "I" ∈ wsX0_make := by decide +kernel
theorem w_X0_make_inX0 : ∀ w ∈ wsX00, w ∈ wsX0_make := by decide +kernel
theorem w_X0_make_13 : Cond.fieldLink RX0 13 "TokenDoors$Crowd" "many" "I" ∈ wsX0_make := by decide +kernel
theorem w_X0_make_16 : Cond.fieldLink RX0 16 "TokenDoors$Crowd" "every" "I" ∈ wsX0_make := by decide +kernel
def f_X0_make (fu : Nat) (o : Nat) (p0 : Int32) (p1 : Int32) (p2 : Int32) (S : g_St) : Option (Unit × g_St) :=
  some ((), (g_u (g_u (g_u S.1 o 0 p0) o 1 p1) o 2 p2, S.2))
set_option maxRecDepth 100000 in
set_option maxHeartbeats 400000 in
theorem ct_X0_make {l : Launch} {D : va_G} {ad : Nat → Nat} {cy : Nat → ClassId} {zz : (Nat → Nat) × (Nat → Nat)} (hinj : ∀ i j, i < 90 → j < 90 → ad i = ad j → i = j) {fu : Nat} (o : Nat) (p0 : Int32) (p1 : Int32) (p2 : Int32) (hk_o : o < 90 ∧ g_KC o = g_kX0) {S : g_St} (z : Unit × g_St) (h : f_X0_make fu o p0 p1 p2 S = some z) : g_Mv l g_KC 90 D ad cy zz yX0_make wsX0_make rm_X0_make [.ref (ad o), .int (p0), .int (p1), .int (p2)] S z := by
  refine g_ofv hinj (cc := cX0_make) (maxL := 4) (ret := none) (lv := [(0, .ref (ad o)), (1, .int (p0)), (2, .int (p1)), (3, .int (p2))]) (by decide) rfl (Nat.le_of_ble_eq_true rfl) rfl ?_
  intro x X hl hD ha hy hz
  subst hl hD ha hy hz
  unfold f_X0_make at h
  refine g_aload_n X dX0_make_0 0 rfl ?_
  refine g_iload_n X dX0_make_1 1 rfl ?_
  refine g_puti X g_cX0 w_X0_make_inX0 0 (by decide) w_X0_make_7 hk_o rfl rfl (t := .int) (by decide +kernel) rfl rfl dX0_make_2 ?_
  refine g_aload_n X dX0_make_5 0 rfl ?_
  refine g_iload_n X dX0_make_6 2 rfl ?_
  refine g_puti X g_cX0 w_X0_make_inX0 1 (by decide) w_X0_make_13 hk_o rfl rfl (t := .int) (by decide +kernel) rfl rfl dX0_make_7 ?_
  refine g_aload_n X dX0_make_10 0 rfl ?_
  refine g_iload_n X dX0_make_11 3 rfl ?_
  refine g_puti X g_cX0 w_X0_make_inX0 2 (by decide) w_X0_make_16 hk_o rfl rfl (t := .int) (by decide +kernel) rfl rfl dX0_make_12 ?_
  exact g_vret X h dX0_make_15
abbrev rm_X0_comesAt : Room := { frames := 0, cells := 0, slots := 0, locals := 0 }
theorem hd_X0_comesAt : yX0_comesAt.cls = RX0 ∧ yX0_comesAt.cls ≠ "java/lang/invoke/MethodHandle" ∧ yX0_comesAt.cls ≠ "java/lang/invoke/VarHandle" ∧ (parseMethodDescriptor yX0_comesAt.desc).map (fun d => d.parameters.length) = some 1 := by decide +kernel
theorem w_X0_comesAt_7 : Cond.fieldLink RX0 7 "TokenDoors$Crowd" "start" "I" ∈ wsX0_comesAt := by decide +kernel
theorem w_X0_comesAt_inX0 : ∀ w ∈ wsX00, w ∈ wsX0_comesAt := by decide +kernel
theorem w_X0_comesAt_16 : Cond.fieldLink RX0 16 "TokenDoors$Crowd" "every" "I" ∈ wsX0_comesAt := by decide +kernel
def f_X0_comesAt (fu : Nat) (o : Nat) (p0 : Int32) (S : g_St) : Option (Int32 × g_St) :=
  if p0 = (S.1 o 0) then (g_zb (1 : Int32) (some ((1 : Int32), S))) else (if (S.1 o 2) ≤ 0 then (g_zb (0 : Int32) (some ((0 : Int32), S))) else (if p0 ≤ (S.1 o 0) then (g_zb (0 : Int32) (some ((0 : Int32), S))) else (g_nz (S.1 o 2) (if ((p0 - (S.1 o 0)) - (p0 - (S.1 o 0)) / (S.1 o 2) * (S.1 o 2)) = 0 then (g_zb (1 : Int32) (some ((1 : Int32), S))) else (g_zb (0 : Int32) (some ((0 : Int32), S)))))))
set_option maxRecDepth 100000 in
set_option maxHeartbeats 400000 in
theorem ct_X0_comesAt {l : Launch} {D : va_G} {ad : Nat → Nat} {cy : Nat → ClassId} {zz : (Nat → Nat) × (Nat → Nat)} (hinj : ∀ i j, i < 90 → j < 90 → ad i = ad j → i = j) {fu : Nat} (o : Nat) (p0 : Int32) (hk_o : o < 90 ∧ g_KC o = g_kX0) {S : g_St} (z : Int32 × g_St) (h : f_X0_comesAt fu o p0 S = some z) : g_Mi l g_KC 90 D ad cy zz yX0_comesAt wsX0_comesAt rm_X0_comesAt [.ref (ad o), .int (p0)] S z := by
  refine g_ofi hinj (cc := cX0_comesAt) (maxL := 2) (ret := (some .boolean)) (lv := [(0, .ref (ad o)), (1, .int (p0))]) (by decide) rfl (Nat.le_of_ble_eq_true rfl) rfl ?_
  intro x X hl hD ha hy hz
  subst hl hD ha hy hz
  unfold f_X0_comesAt at h
  refine g_iload_n X dX0_comesAt_0 1 rfl ?_
  refine g_aload_n X dX0_comesAt_1 0 rfl ?_
  refine g_geti X g_cX0 w_X0_comesAt_inX0 0 (by decide) w_X0_comesAt_7 hk_o rfl dX0_comesAt_2 ?_
  refine g_icmp_ne X 10 dX0_comesAt_5 (by decide) h (fun c_5 h => ?_) (fun c_5 h => ?_)
  · skip
    refine g_aload_n X dX0_comesAt_10 0 rfl ?_
    refine g_geti X g_cX0 w_X0_comesAt_inX0 2 (by decide) w_X0_comesAt_16 hk_o rfl dX0_comesAt_11 ?_
    refine g_if_le X 43 dX0_comesAt_14 (by decide) h (fun c_14 h => ?_) (fun c_14 h => ?_)
    · skip
      refine g_iconst X (v := 0) dX0_comesAt_43 (by decide) ?_
      exact g_zret X h dX0_comesAt_44
    · skip
      refine g_iload_n X dX0_comesAt_17 1 rfl ?_
      refine g_aload_n X dX0_comesAt_18 0 rfl ?_
      refine g_geti X g_cX0 w_X0_comesAt_inX0 0 (by decide) w_X0_comesAt_7 hk_o rfl dX0_comesAt_19 ?_
      refine g_icmp_le X 43 dX0_comesAt_22 (by decide) h (fun c_22 h => ?_) (fun c_22 h => ?_)
      · skip
        refine g_iconst X (v := 0) dX0_comesAt_43 (by decide) ?_
        exact g_zret X h dX0_comesAt_44
      · skip
        refine g_iload_n X dX0_comesAt_25 1 rfl ?_
        refine g_aload_n X dX0_comesAt_26 0 rfl ?_
        refine g_geti X g_cX0 w_X0_comesAt_inX0 0 (by decide) w_X0_comesAt_7 hk_o rfl dX0_comesAt_27 ?_
        refine g_isub X dX0_comesAt_30 ?_
        refine g_aload_n X dX0_comesAt_31 0 rfl ?_
        refine g_geti X g_cX0 w_X0_comesAt_inX0 2 (by decide) w_X0_comesAt_16 hk_o rfl dX0_comesAt_32 ?_
        refine g_irem X dX0_comesAt_35 h (fun h => ?_)
        refine g_if_ne X 43 dX0_comesAt_36 (by decide) h (fun c_36 h => ?_) (fun c_36 h => ?_)
        · skip
          refine g_iconst X (v := 0) dX0_comesAt_43 (by decide) ?_
          exact g_zret X h dX0_comesAt_44
        · skip
          refine g_iconst X (v := 1) dX0_comesAt_39 (by decide) ?_
          refine g_goto X 44 dX0_comesAt_40 (by decide) ?_
          exact g_zret X h dX0_comesAt_44
  · skip
    refine g_iconst X (v := 1) dX0_comesAt_8 (by decide) ?_
    exact g_zret X h dX0_comesAt_9
abbrev rm_X1_make : Room := { frames := 0, cells := 0, slots := 0, locals := 0 }
theorem hd_X1_make : yX1_make.cls = RX1 ∧ yX1_make.cls ≠ "java/lang/invoke/MethodHandle" ∧ yX1_make.cls ≠ "java/lang/invoke/VarHandle" ∧ (parseMethodDescriptor yX1_make.desc).map (fun d => d.parameters.length) = some 3 := by decide +kernel
theorem w_X1_make_9 : Cond.fieldLink RX1 9 "TokenDoors$Door" "kind" "I" ∈ wsX1_make := by decide +kernel
theorem w_X1_make_inX1 : ∀ w ∈ wsX10, w ∈ wsX1_make := by decide +kernel
theorem w_X1_make_15 : Cond.fieldLink RX1 15 "TokenDoors$Door" "depth" "I" ∈ wsX1_make := by decide +kernel
theorem w_X1_make_18 : Cond.fieldLink RX1 18 "TokenDoors$Door" "rate" "I" ∈ wsX1_make := by decide +kernel
theorem w_X1_make_21 : Cond.fieldLink RX1 21 "TokenDoors$Door" "holds" "I" ∈ wsX1_make := by decide +kernel
def f_X1_make (fu : Nat) (o : Nat) (p0 : Int32) (p1 : Int32) (p2 : Int32) (S : g_St) : Option (Unit × g_St) :=
  if p0 = 0 then (some ((), (g_u (g_u (g_u (g_u S.1 o 0 p0) o 1 p1) o 2 p2) o 3 p1, S.2))) else (some ((), (g_u (g_u (g_u (g_u S.1 o 0 p0) o 1 p1) o 2 p2) o 3 (0 : Int32), S.2)))
set_option maxRecDepth 100000 in
set_option maxHeartbeats 400000 in
theorem ct_X1_make {l : Launch} {D : va_G} {ad : Nat → Nat} {cy : Nat → ClassId} {zz : (Nat → Nat) × (Nat → Nat)} (hinj : ∀ i j, i < 90 → j < 90 → ad i = ad j → i = j) {fu : Nat} (o : Nat) (p0 : Int32) (p1 : Int32) (p2 : Int32) (hk_o : o < 90 ∧ g_KC o = g_kX1) {S : g_St} (z : Unit × g_St) (h : f_X1_make fu o p0 p1 p2 S = some z) : g_Mv l g_KC 90 D ad cy zz yX1_make wsX1_make rm_X1_make [.ref (ad o), .int (p0), .int (p1), .int (p2)] S z := by
  refine g_ofv hinj (cc := cX1_make) (maxL := 4) (ret := none) (lv := [(0, .ref (ad o)), (1, .int (p0)), (2, .int (p1)), (3, .int (p2))]) (by decide) rfl (Nat.le_of_ble_eq_true rfl) rfl ?_
  intro x X hl hD ha hy hz
  subst hl hD ha hy hz
  unfold f_X1_make at h
  refine g_aload_n X dX1_make_0 0 rfl ?_
  refine g_iload_n X dX1_make_1 1 rfl ?_
  refine g_puti X g_cX1 w_X1_make_inX1 0 (by decide) w_X1_make_9 hk_o rfl rfl (t := .int) (by decide +kernel) rfl rfl dX1_make_2 ?_
  refine g_aload_n X dX1_make_5 0 rfl ?_
  refine g_iload_n X dX1_make_6 2 rfl ?_
  refine g_puti X g_cX1 w_X1_make_inX1 1 (by decide) w_X1_make_15 hk_o rfl rfl (t := .int) (by decide +kernel) rfl rfl dX1_make_7 ?_
  refine g_aload_n X dX1_make_10 0 rfl ?_
  refine g_iload_n X dX1_make_11 3 rfl ?_
  refine g_puti X g_cX1 w_X1_make_inX1 2 (by decide) w_X1_make_18 hk_o rfl rfl (t := .int) (by decide +kernel) rfl rfl dX1_make_12 ?_
  refine g_aload_n X dX1_make_15 0 rfl ?_
  refine g_iload_n X dX1_make_16 1 rfl ?_
  refine g_if_ne X 24 dX1_make_17 (by decide) h (fun c_17 h => ?_) (fun c_17 h => ?_)
  · skip
    refine g_iconst X (v := 0) dX1_make_24 (by decide) ?_
    refine g_puti X g_cX1 w_X1_make_inX1 3 (by decide) w_X1_make_21 hk_o rfl rfl (t := .int) (by decide +kernel) rfl rfl dX1_make_25 ?_
    exact g_vret X h dX1_make_28
  · skip
    refine g_iload_n X dX1_make_20 2 rfl ?_
    refine g_goto X 25 dX1_make_21 (by decide) ?_
    refine g_puti X g_cX1 w_X1_make_inX1 3 (by decide) w_X1_make_21 hk_o rfl rfl (t := .int) (by decide +kernel) rfl rfl dX1_make_25 ?_
    exact g_vret X h dX1_make_28
abbrev rm_X1_become : Room := { frames := 0, cells := 0, slots := 0, locals := 0 }
theorem hd_X1_become : yX1_become.cls = RX1 ∧ yX1_become.cls ≠ "java/lang/invoke/MethodHandle" ∧ yX1_become.cls ≠ "java/lang/invoke/VarHandle" ∧ (parseMethodDescriptor yX1_become.desc).map (fun d => d.parameters.length) = some 1 := by decide +kernel
theorem w_X1_become_9 : Cond.fieldLink RX1 9 "TokenDoors$Door" "kind" "I" ∈ wsX1_become := by decide +kernel
theorem w_X1_become_inX1 : ∀ w ∈ wsX10, w ∈ wsX1_become := by decide +kernel
theorem w_X1_become_15 : Cond.fieldLink RX1 15 "TokenDoors$Door" "depth" "I" ∈ wsX1_become := by decide +kernel
theorem w_X1_become_18 : Cond.fieldLink RX1 18 "TokenDoors$Door" "rate" "I" ∈ wsX1_become := by decide +kernel
theorem w_X1_become_21 : Cond.fieldLink RX1 21 "TokenDoors$Door" "holds" "I" ∈ wsX1_become := by decide +kernel
def f_X1_become (fu : Nat) (o : Nat) (p0 : Nat) (S : g_St) : Option (Unit × g_St) :=
  some ((), (g_u (g_u (g_u (g_u S.1 o 0 (S.1 p0 0)) o 1 ((g_u S.1 o 0 (S.1 p0 0)) p0 1)) o 2 ((g_u (g_u S.1 o 0 (S.1 p0 0)) o 1 ((g_u S.1 o 0 (S.1 p0 0)) p0 1)) p0 2)) o 3 ((g_u (g_u (g_u S.1 o 0 (S.1 p0 0)) o 1 ((g_u S.1 o 0 (S.1 p0 0)) p0 1)) o 2 ((g_u (g_u S.1 o 0 (S.1 p0 0)) o 1 ((g_u S.1 o 0 (S.1 p0 0)) p0 1)) p0 2)) p0 3), S.2))
set_option maxRecDepth 100000 in
set_option maxHeartbeats 400000 in
theorem ct_X1_become {l : Launch} {D : va_G} {ad : Nat → Nat} {cy : Nat → ClassId} {zz : (Nat → Nat) × (Nat → Nat)} (hinj : ∀ i j, i < 90 → j < 90 → ad i = ad j → i = j) {fu : Nat} (o : Nat) (p0 : Nat) (hk_o : o < 90 ∧ g_KC o = g_kX1) (hk_p0 : p0 < 90 ∧ g_KC p0 = g_kX1) {S : g_St} (z : Unit × g_St) (h : f_X1_become fu o p0 S = some z) : g_Mv l g_KC 90 D ad cy zz yX1_become wsX1_become rm_X1_become [.ref (ad o), .ref (ad p0)] S z := by
  refine g_ofv hinj (cc := cX1_become) (maxL := 2) (ret := none) (lv := [(0, .ref (ad o)), (1, .ref (ad p0))]) (by decide) rfl (Nat.le_of_ble_eq_true rfl) rfl ?_
  intro x X hl hD ha hy hz
  subst hl hD ha hy hz
  unfold f_X1_become at h
  refine g_aload_n X dX1_become_0 0 rfl ?_
  refine g_aload_n X dX1_become_1 1 rfl ?_
  refine g_geti X g_cX1 w_X1_become_inX1 0 (by decide) w_X1_become_9 hk_p0 rfl dX1_become_2 ?_
  refine g_puti X g_cX1 w_X1_become_inX1 0 (by decide) w_X1_become_9 hk_o rfl rfl (t := .int) (by decide +kernel) rfl rfl dX1_become_5 ?_
  refine g_aload_n X dX1_become_8 0 rfl ?_
  refine g_aload_n X dX1_become_9 1 rfl ?_
  refine g_geti X g_cX1 w_X1_become_inX1 1 (by decide) w_X1_become_15 hk_p0 rfl dX1_become_10 ?_
  refine g_puti X g_cX1 w_X1_become_inX1 1 (by decide) w_X1_become_15 hk_o rfl rfl (t := .int) (by decide +kernel) rfl rfl dX1_become_13 ?_
  refine g_aload_n X dX1_become_16 0 rfl ?_
  refine g_aload_n X dX1_become_17 1 rfl ?_
  refine g_geti X g_cX1 w_X1_become_inX1 2 (by decide) w_X1_become_18 hk_p0 rfl dX1_become_18 ?_
  refine g_puti X g_cX1 w_X1_become_inX1 2 (by decide) w_X1_become_18 hk_o rfl rfl (t := .int) (by decide +kernel) rfl rfl dX1_become_21 ?_
  refine g_aload_n X dX1_become_24 0 rfl ?_
  refine g_aload_n X dX1_become_25 1 rfl ?_
  refine g_geti X g_cX1 w_X1_become_inX1 3 (by decide) w_X1_become_21 hk_p0 rfl dX1_become_26 ?_
  refine g_puti X g_cX1 w_X1_become_inX1 3 (by decide) w_X1_become_21 hk_o rfl rfl (t := .int) (by decide +kernel) rfl rfl dX1_become_29 ?_
  exact g_vret X h dX1_become_32
abbrev rm_X1_countAnew : Room := { frames := 0, cells := 0, slots := 0, locals := 0 }
theorem hd_X1_countAnew : yX1_countAnew.cls = RX1 ∧ yX1_countAnew.cls ≠ "java/lang/invoke/MethodHandle" ∧ yX1_countAnew.cls ≠ "java/lang/invoke/VarHandle" ∧ (parseMethodDescriptor yX1_countAnew.desc).map (fun d => d.parameters.length) = some 0 := by decide +kernel
theorem w_X1_countAnew_24 : Cond.fieldLink RX1 24 "TokenDoors$Door" "refused" "I" ∈ wsX1_countAnew := by decide +kernel
theorem w_X1_countAnew_inX1 : ∀ w ∈ wsX10, w ∈ wsX1_countAnew := by decide +kernel
theorem w_X1_countAnew_27 : Cond.fieldLink RX1 27 "TokenDoors$Door" "standsOpen" "Z" ∈ wsX1_countAnew := by decide +kernel
def f_X1_countAnew (fu : Nat) (o : Nat) (S : g_St) : Option (Unit × g_St) :=
  some ((), (g_u (g_u S.1 o 4 (0 : Int32)) o 5 (0 : Int32), S.2))
set_option maxRecDepth 100000 in
set_option maxHeartbeats 400000 in
theorem ct_X1_countAnew {l : Launch} {D : va_G} {ad : Nat → Nat} {cy : Nat → ClassId} {zz : (Nat → Nat) × (Nat → Nat)} (hinj : ∀ i j, i < 90 → j < 90 → ad i = ad j → i = j) {fu : Nat} (o : Nat) (hk_o : o < 90 ∧ g_KC o = g_kX1) {S : g_St} (z : Unit × g_St) (h : f_X1_countAnew fu o S = some z) : g_Mv l g_KC 90 D ad cy zz yX1_countAnew wsX1_countAnew rm_X1_countAnew [.ref (ad o)] S z := by
  refine g_ofv hinj (cc := cX1_countAnew) (maxL := 1) (ret := none) (lv := [(0, .ref (ad o))]) (by decide) rfl (Nat.le_of_ble_eq_true rfl) rfl ?_
  intro x X hl hD ha hy hz
  subst hl hD ha hy hz
  unfold f_X1_countAnew at h
  refine g_aload_n X dX1_countAnew_0 0 rfl ?_
  refine g_iconst X (v := 0) dX1_countAnew_1 (by decide) ?_
  refine g_puti X g_cX1 w_X1_countAnew_inX1 4 (by decide) w_X1_countAnew_24 hk_o rfl rfl (t := .int) (by decide +kernel) rfl rfl dX1_countAnew_2 ?_
  refine g_aload_n X dX1_countAnew_5 0 rfl ?_
  refine g_iconst X (v := 0) dX1_countAnew_6 (by decide) ?_
  refine g_puti X g_cX1 w_X1_countAnew_inX1 5 (by decide) w_X1_countAnew_27 hk_o rfl rfl (t := .boolean) (by decide +kernel) rfl rfl dX1_countAnew_7 ?_
  exact g_vret X h dX1_countAnew_10
abbrev rm_X1_told : Room := { frames := 0, cells := 0, slots := 0, locals := 0 }
theorem hd_X1_told : yX1_told.cls = RX1 ∧ yX1_told.cls ≠ "java/lang/invoke/MethodHandle" ∧ yX1_told.cls ≠ "java/lang/invoke/VarHandle" ∧ (parseMethodDescriptor yX1_told.desc).map (fun d => d.parameters.length) = some 1 := by decide +kernel
theorem w_X1_told_9 : Cond.fieldLink RX1 9 "TokenDoors$Door" "kind" "I" ∈ wsX1_told := by decide +kernel
theorem w_X1_told_inX1 : ∀ w ∈ wsX10, w ∈ wsX1_told := by decide +kernel
theorem w_X1_told_15 : Cond.fieldLink RX1 15 "TokenDoors$Door" "depth" "I" ∈ wsX1_told := by decide +kernel
theorem w_X1_told_18 : Cond.fieldLink RX1 18 "TokenDoors$Door" "rate" "I" ∈ wsX1_told := by decide +kernel
theorem w_X1_told_21 : Cond.fieldLink RX1 21 "TokenDoors$Door" "holds" "I" ∈ wsX1_told := by decide +kernel
def f_X1_told (fu : Nat) (o : Nat) (p0 : Int32) (S : g_St) : Option (Int32 × g_St) :=
  if p0 = 0 then (some ((S.1 o 0), S)) else (if p0 = 1 then (some ((S.1 o 1), S)) else (if p0 = 2 then (some ((S.1 o 2), S)) else (some ((S.1 o 3), S))))
set_option maxRecDepth 100000 in
set_option maxHeartbeats 400000 in
theorem ct_X1_told {l : Launch} {D : va_G} {ad : Nat → Nat} {cy : Nat → ClassId} {zz : (Nat → Nat) × (Nat → Nat)} (hinj : ∀ i j, i < 90 → j < 90 → ad i = ad j → i = j) {fu : Nat} (o : Nat) (p0 : Int32) (hk_o : o < 90 ∧ g_KC o = g_kX1) {S : g_St} (z : Int32 × g_St) (h : f_X1_told fu o p0 S = some z) : g_Mi l g_KC 90 D ad cy zz yX1_told wsX1_told rm_X1_told [.ref (ad o), .int (p0)] S z := by
  refine g_ofi hinj (cc := cX1_told) (maxL := 2) (ret := (some .int)) (lv := [(0, .ref (ad o)), (1, .int (p0))]) (by decide) rfl (Nat.le_of_ble_eq_true rfl) rfl ?_
  intro x X hl hD ha hy hz
  subst hl hD ha hy hz
  unfold f_X1_told at h
  refine g_iload_n X dX1_told_0 1 rfl ?_
  refine g_ifs h (fun c_1_0 h => ?_) (fun c_1_0 h => ?_)
  · refine g_tableIn X 28 (off := 27) dX1_told_1 (by rw [c_1_0]; decide) (by rw [c_1_0]; decide) (by rw [c_1_0]; rfl) (by decide) ?_
    refine g_aload_n X dX1_told_28 0 rfl ?_
    refine g_geti X g_cX1 w_X1_told_inX1 0 (by decide) w_X1_told_9 hk_o rfl dX1_told_29 ?_
    exact g_iret X h dX1_told_32
  refine g_ifs h (fun c_1_1 h => ?_) (fun c_1_1 h => ?_)
  · refine g_tableIn X 33 (off := 32) dX1_told_1 (by rw [c_1_1]; decide) (by rw [c_1_1]; decide) (by rw [c_1_1]; rfl) (by decide) ?_
    refine g_aload_n X dX1_told_33 0 rfl ?_
    refine g_geti X g_cX1 w_X1_told_inX1 1 (by decide) w_X1_told_15 hk_o rfl dX1_told_34 ?_
    exact g_iret X h dX1_told_37
  refine g_ifs h (fun c_1_2 h => ?_) (fun c_1_2 h => ?_)
  · refine g_tableIn X 38 (off := 37) dX1_told_1 (by rw [c_1_2]; decide) (by rw [c_1_2]; decide) (by rw [c_1_2]; rfl) (by decide) ?_
    refine g_aload_n X dX1_told_38 0 rfl ?_
    refine g_geti X g_cX1 w_X1_told_inX1 2 (by decide) w_X1_told_18 hk_o rfl dX1_told_39 ?_
    exact g_iret X h dX1_told_42
  refine g_tableOut X 43 dX1_told_1 (g_sw_out (n := 2) (by decide) rfl (fun k hk => by rcases (show k = 0 ∨ k = 1 ∨ k = 2 by omega) with rfl | rfl | rfl <;> first | exact c_1_0 | exact c_1_1 | exact c_1_2)) (by decide) ?_
  refine g_aload_n X dX1_told_43 0 rfl ?_
  refine g_geti X g_cX1 w_X1_told_inX1 3 (by decide) w_X1_told_21 hk_o rfl dX1_told_44 ?_
  exact g_iret X h dX1_told_47
abbrev rm_X1_change : Room := { frames := 1, cells := 0, slots := 0, locals := 23 }
theorem hd_X1_change : yX1_change.cls = RX1 ∧ yX1_change.cls ≠ "java/lang/invoke/MethodHandle" ∧ yX1_change.cls ≠ "java/lang/invoke/VarHandle" ∧ (parseMethodDescriptor yX1_change.desc).map (fun d => d.parameters.length) = some 2 := by decide +kernel
theorem w_X1_change_9 : Cond.fieldLink RX1 9 "TokenDoors$Door" "kind" "I" ∈ wsX1_change := by decide +kernel
theorem w_X1_change_inX1 : ∀ w ∈ wsX10, w ∈ wsX1_change := by decide +kernel
theorem w_X1_change_21 : Cond.fieldLink RX1 21 "TokenDoors$Door" "holds" "I" ∈ wsX1_change := by decide +kernel
theorem w_X1_change_15 : Cond.fieldLink RX1 15 "TokenDoors$Door" "depth" "I" ∈ wsX1_change := by decide +kernel
theorem w_X1_change_31 : Cond.methodLink RX1 31 Lib.Math.min.name ∈ wsX1_change := by decide +kernel
theorem w_X1_change_stmmin : Cond.static Lib.Math.min.name ∈ wsX1_change := by decide +kernel
theorem w_X1_change_inMath : Cond.initialized "java/lang/Math" ∈ wsX1_change := by decide +kernel
theorem w_X1_change_commin : Cond.code Lib.Math.min.name Lib.Math.min.code 2 (some .int) ∈ wsX1_change := by decide +kernel
theorem w_X1_change_18 : Cond.fieldLink RX1 18 "TokenDoors$Door" "rate" "I" ∈ wsX1_change := by decide +kernel
def j_X1_change_57 (fu : Nat) (v0 : Nat) (S : g_St) : Option (Unit × g_St) :=
  some ((), (g_u S.1 v0 3 (if (S.1 v0 1) < (S.1 v0 3) then (S.1 v0 1) else (S.1 v0 3)), S.2))
def f_X1_change (fu : Nat) (o : Nat) (p0 : Int32) (p1 : Int32) (S : g_St) : Option (Unit × g_St) :=
  if p0 = 0 then (j_X1_change_57 fu o (g_u S.1 o 0 p1, S.2)) else (if p0 = 1 then (j_X1_change_57 fu o (g_u S.1 o 1 p1, S.2)) else (if p0 = 2 then (j_X1_change_57 fu o (g_u S.1 o 2 p1, S.2)) else (j_X1_change_57 fu o (g_u S.1 o 3 p1, S.2))))
set_option maxRecDepth 100000 in
set_option maxHeartbeats 400000 in
theorem vj_X1_change_57 {x : g_CX} {z : Unit × g_St} {fu : Nat} (X : g_X 90 x cX1_change RX1 3 wsX1_change rm_X1_change none) (v0 : Nat) (hk_v0 : v0 < 90 ∧ g_KC v0 = g_kX1) (S : g_St) (h : j_X1_change_57 fu v0 S = some z) : g_V g_KC 90 x 3 (g_qv g_KC 90 x z) S 57 [(0, .ref (g_ad x v0))] [] := by
  unfold j_X1_change_57 at h
  refine g_aload_n X dX1_change_57 0 rfl ?_
  refine g_aload_n X dX1_change_58 0 rfl ?_
  refine g_geti X g_cX1 w_X1_change_inX1 3 (by decide) w_X1_change_21 hk_v0 rfl dX1_change_59 ?_
  refine g_aload_n X dX1_change_62 0 rfl ?_
  refine g_geti X g_cX1 w_X1_change_inX1 1 (by decide) w_X1_change_15 hk_v0 rfl dX1_change_63 ?_
  refine g_mmin X w_X1_change_31 w_X1_change_stmmin w_X1_change_inMath w_X1_change_commin (by decide) (Nat.le_of_ble_eq_true rfl) dX1_change_66 ?_
  refine g_puti X g_cX1 w_X1_change_inX1 3 (by decide) w_X1_change_21 hk_v0 rfl rfl (t := .int) (by decide +kernel) rfl rfl dX1_change_69 ?_
  exact g_vret X h dX1_change_72
set_option maxRecDepth 100000 in
set_option maxHeartbeats 400000 in
theorem ct_X1_change {l : Launch} {D : va_G} {ad : Nat → Nat} {cy : Nat → ClassId} {zz : (Nat → Nat) × (Nat → Nat)} (hinj : ∀ i j, i < 90 → j < 90 → ad i = ad j → i = j) {fu : Nat} (o : Nat) (p0 : Int32) (p1 : Int32) (hk_o : o < 90 ∧ g_KC o = g_kX1) {S : g_St} (z : Unit × g_St) (h : f_X1_change fu o p0 p1 S = some z) : g_Mv l g_KC 90 D ad cy zz yX1_change wsX1_change rm_X1_change [.ref (ad o), .int (p0), .int (p1)] S z := by
  refine g_ofv hinj (cc := cX1_change) (maxL := 3) (ret := none) (lv := [(0, .ref (ad o)), (1, .int (p0)), (2, .int (p1))]) (by decide) rfl (Nat.le_of_ble_eq_true rfl) rfl ?_
  intro x X hl hD ha hy hz
  subst hl hD ha hy hz
  unfold f_X1_change at h
  refine g_iload_n X dX1_change_0 1 rfl ?_
  refine g_ifs h (fun c_1_0 h => ?_) (fun c_1_0 h => ?_)
  · refine g_tableIn X 28 (off := 27) dX1_change_1 (by rw [c_1_0]; decide) (by rw [c_1_0]; decide) (by rw [c_1_0]; rfl) (by decide) ?_
    refine g_aload_n X dX1_change_28 0 rfl ?_
    refine g_iload_n X dX1_change_29 2 rfl ?_
    refine g_puti X g_cX1 w_X1_change_inX1 0 (by decide) w_X1_change_9 hk_o rfl rfl (t := .int) (by decide +kernel) rfl rfl dX1_change_30 ?_
    refine g_goto X 57 dX1_change_33 (by decide) ?_
    refine g_sub [0] _ rfl ?_
    exact vj_X1_change_57 X o hk_o _ h
  refine g_ifs h (fun c_1_1 h => ?_) (fun c_1_1 h => ?_)
  · refine g_tableIn X 36 (off := 35) dX1_change_1 (by rw [c_1_1]; decide) (by rw [c_1_1]; decide) (by rw [c_1_1]; rfl) (by decide) ?_
    refine g_aload_n X dX1_change_36 0 rfl ?_
    refine g_iload_n X dX1_change_37 2 rfl ?_
    refine g_puti X g_cX1 w_X1_change_inX1 1 (by decide) w_X1_change_15 hk_o rfl rfl (t := .int) (by decide +kernel) rfl rfl dX1_change_38 ?_
    refine g_goto X 57 dX1_change_41 (by decide) ?_
    refine g_sub [0] _ rfl ?_
    exact vj_X1_change_57 X o hk_o _ h
  refine g_ifs h (fun c_1_2 h => ?_) (fun c_1_2 h => ?_)
  · refine g_tableIn X 44 (off := 43) dX1_change_1 (by rw [c_1_2]; decide) (by rw [c_1_2]; decide) (by rw [c_1_2]; rfl) (by decide) ?_
    refine g_aload_n X dX1_change_44 0 rfl ?_
    refine g_iload_n X dX1_change_45 2 rfl ?_
    refine g_puti X g_cX1 w_X1_change_inX1 2 (by decide) w_X1_change_18 hk_o rfl rfl (t := .int) (by decide +kernel) rfl rfl dX1_change_46 ?_
    refine g_goto X 57 dX1_change_49 (by decide) ?_
    refine g_sub [0] _ rfl ?_
    exact vj_X1_change_57 X o hk_o _ h
  refine g_tableOut X 52 dX1_change_1 (g_sw_out (n := 2) (by decide) rfl (fun k hk => by rcases (show k = 0 ∨ k = 1 ∨ k = 2 by omega) with rfl | rfl | rfl <;> first | exact c_1_0 | exact c_1_1 | exact c_1_2)) (by decide) ?_
  refine g_aload_n X dX1_change_52 0 rfl ?_
  refine g_iload_n X dX1_change_53 2 rfl ?_
  refine g_puti X g_cX1 w_X1_change_inX1 3 (by decide) w_X1_change_21 hk_o rfl rfl (t := .int) (by decide +kernel) rfl rfl dX1_change_54 ?_
  refine g_sub [0] _ rfl ?_
  exact vj_X1_change_57 X o hk_o _ h
abbrev rm_X1_room : Room := { frames := 0, cells := 0, slots := 0, locals := 0 }
theorem hd_X1_room : yX1_room.cls = RX1 ∧ yX1_room.cls ≠ "java/lang/invoke/MethodHandle" ∧ yX1_room.cls ≠ "java/lang/invoke/VarHandle" ∧ (parseMethodDescriptor yX1_room.desc).map (fun d => d.parameters.length) = some 0 := by decide +kernel
theorem w_X1_room_9 : Cond.fieldLink RX1 9 "TokenDoors$Door" "kind" "I" ∈ wsX1_room := by decide +kernel
theorem w_X1_room_inX1 : ∀ w ∈ wsX10, w ∈ wsX1_room := by decide +kernel
theorem w_X1_room_15 : Cond.fieldLink RX1 15 "TokenDoors$Door" "depth" "I" ∈ wsX1_room := by decide +kernel
theorem w_X1_room_21 : Cond.fieldLink RX1 21 "TokenDoors$Door" "holds" "I" ∈ wsX1_room := by decide +kernel
def f_X1_room (fu : Nat) (o : Nat) (S : g_St) : Option (Int32 × g_St) :=
  if (S.1 o 0) = 0 then (some ((S.1 o 3), S)) else (some (((S.1 o 1) - (S.1 o 3)), S))
set_option maxRecDepth 100000 in
set_option maxHeartbeats 400000 in
theorem ct_X1_room {l : Launch} {D : va_G} {ad : Nat → Nat} {cy : Nat → ClassId} {zz : (Nat → Nat) × (Nat → Nat)} (hinj : ∀ i j, i < 90 → j < 90 → ad i = ad j → i = j) {fu : Nat} (o : Nat) (hk_o : o < 90 ∧ g_KC o = g_kX1) {S : g_St} (z : Int32 × g_St) (h : f_X1_room fu o S = some z) : g_Mi l g_KC 90 D ad cy zz yX1_room wsX1_room rm_X1_room [.ref (ad o)] S z := by
  refine g_ofi hinj (cc := cX1_room) (maxL := 1) (ret := (some .int)) (lv := [(0, .ref (ad o))]) (by decide) rfl (Nat.le_of_ble_eq_true rfl) rfl ?_
  intro x X hl hD ha hy hz
  subst hl hD ha hy hz
  unfold f_X1_room at h
  refine g_aload_n X dX1_room_0 0 rfl ?_
  refine g_geti X g_cX1 w_X1_room_inX1 0 (by decide) w_X1_room_9 hk_o rfl dX1_room_1 ?_
  refine g_if_ne X 14 dX1_room_4 (by decide) h (fun c_4 h => ?_) (fun c_4 h => ?_)
  · skip
    refine g_aload_n X dX1_room_14 0 rfl ?_
    refine g_geti X g_cX1 w_X1_room_inX1 1 (by decide) w_X1_room_15 hk_o rfl dX1_room_15 ?_
    refine g_aload_n X dX1_room_18 0 rfl ?_
    refine g_geti X g_cX1 w_X1_room_inX1 3 (by decide) w_X1_room_21 hk_o rfl dX1_room_19 ?_
    refine g_isub X dX1_room_22 ?_
    exact g_iret X h dX1_room_23
  · skip
    refine g_aload_n X dX1_room_7 0 rfl ?_
    refine g_geti X g_cX1 w_X1_room_inX1 3 (by decide) w_X1_room_21 hk_o rfl dX1_room_8 ?_
    refine g_goto X 23 dX1_room_11 (by decide) ?_
    exact g_iret X h dX1_room_23
abbrev rm_X1_admit : Room := { frames := 1, cells := 0, slots := 0, locals := 23 }
theorem hd_X1_admit : yX1_admit.cls = RX1 ∧ yX1_admit.cls ≠ "java/lang/invoke/MethodHandle" ∧ yX1_admit.cls ≠ "java/lang/invoke/VarHandle" ∧ (parseMethodDescriptor yX1_admit.desc).map (fun d => d.parameters.length) = some 1 := by decide +kernel
theorem w_X1_admit_27 : Cond.fieldLink RX1 27 "TokenDoors$Door" "standsOpen" "Z" ∈ wsX1_admit := by decide +kernel
theorem w_X1_admit_inX1 : ∀ w ∈ wsX10, w ∈ wsX1_admit := by decide +kernel
theorem w_X1_admit_31 : Cond.methodLink RX1 31 Lib.Math.min.name ∈ wsX1_admit := by decide +kernel
theorem w_X1_admit_stmmin : Cond.static Lib.Math.min.name ∈ wsX1_admit := by decide +kernel
theorem w_X1_admit_inMath : Cond.initialized "java/lang/Math" ∈ wsX1_admit := by decide +kernel
theorem w_X1_admit_commin : Cond.code Lib.Math.min.name Lib.Math.min.code 2 (some .int) ∈ wsX1_admit := by decide +kernel
theorem w_X1_admit_21 : Cond.fieldLink RX1 21 "TokenDoors$Door" "holds" "I" ∈ wsX1_admit := by decide +kernel
theorem w_X1_admit_9 : Cond.fieldLink RX1 9 "TokenDoors$Door" "kind" "I" ∈ wsX1_admit := by decide +kernel
theorem w_X1_admit_24 : Cond.fieldLink RX1 24 "TokenDoors$Door" "refused" "I" ∈ wsX1_admit := by decide +kernel
def j_X1_admit_36 (fu : Nat) (v0 : Nat) (v1 : Int32) (v2 : Int32) (s0 : Nat) (s1 : Int32) (s2 : Int32) (S : g_St) : Option (Int32 × g_St) :=
  some (v2, (g_u (g_u S.1 s0 3 (s1 + s2)) v0 4 (((g_u S.1 s0 3 (s1 + s2)) v0 4) + (v1 - v2)), S.2))
def f_X1_admit (fu : Nat) (o : Nat) (p0 : Int32) (S : g_St) : Option (Int32 × g_St) :=
  if (S.1 o 5) = 0 then (g_bd (f_X1_room fu o S) fun r1 Sr1 => if (Sr1.1 o 0) = 0 then (j_X1_admit_36 fu o p0 ((if r1 < p0 then r1 else p0)) o ((Sr1.1 o 3)) ((-(if r1 < p0 then r1 else p0))) Sr1) else (j_X1_admit_36 fu o p0 ((if r1 < p0 then r1 else p0)) o ((Sr1.1 o 3)) ((if r1 < p0 then r1 else p0)) Sr1)) else (some (p0, S))
set_option maxRecDepth 100000 in
set_option maxHeartbeats 400000 in
theorem vj_X1_admit_36 {x : g_CX} {z : Int32 × g_St} {fu : Nat} (X : g_X 90 x cX1_admit RX1 3 wsX1_admit rm_X1_admit (some .int)) (v0 : Nat) (v1 : Int32) (v2 : Int32) (s0 : Nat) (s1 : Int32) (s2 : Int32) (hk_v0 : v0 < 90 ∧ g_KC v0 = g_kX1) (hk_s0 : s0 < 90 ∧ g_KC s0 = g_kX1) (S : g_St) (h : j_X1_admit_36 fu v0 v1 v2 s0 s1 s2 S = some z) : g_V g_KC 90 x 3 (g_qi g_KC 90 x z) S 36 [(0, .ref (g_ad x v0)), (1, .int (v1)), (2, .int (v2))] [.int (s2), .int (s1), .ref (g_ad x s0)] := by
  unfold j_X1_admit_36 at h
  refine g_iadd X dX1_admit_36 ?_
  refine g_puti X g_cX1 w_X1_admit_inX1 3 (by decide) w_X1_admit_21 hk_s0 rfl rfl (t := .int) (by decide +kernel) rfl rfl dX1_admit_37 ?_
  refine g_aload_n X dX1_admit_40 0 rfl ?_
  refine g_dup X dX1_admit_41 rfl ?_
  refine g_geti X g_cX1 w_X1_admit_inX1 4 (by decide) w_X1_admit_24 hk_v0 rfl dX1_admit_42 ?_
  refine g_iload_n X dX1_admit_45 1 rfl ?_
  refine g_iload_n X dX1_admit_46 2 rfl ?_
  refine g_isub X dX1_admit_47 ?_
  refine g_iadd X dX1_admit_48 ?_
  refine g_puti X g_cX1 w_X1_admit_inX1 4 (by decide) w_X1_admit_24 hk_v0 rfl rfl (t := .int) (by decide +kernel) rfl rfl dX1_admit_49 ?_
  refine g_iload_n X dX1_admit_52 2 rfl ?_
  exact g_iret X h dX1_admit_53
set_option maxRecDepth 100000 in
set_option maxHeartbeats 400000 in
theorem ct_X1_admit {l : Launch} {D : va_G} {ad : Nat → Nat} {cy : Nat → ClassId} {zz : (Nat → Nat) × (Nat → Nat)} (hinj : ∀ i j, i < 90 → j < 90 → ad i = ad j → i = j) {fu : Nat} (o : Nat) (p0 : Int32) (hk_o : o < 90 ∧ g_KC o = g_kX1) {S : g_St} (z : Int32 × g_St) (h : f_X1_admit fu o p0 S = some z) : g_Mi l g_KC 90 D ad cy zz yX1_admit wsX1_admit rm_X1_admit [.ref (ad o), .int (p0)] S z := by
  refine g_ofi hinj (cc := cX1_admit) (maxL := 3) (ret := (some .int)) (lv := [(0, .ref (ad o)), (1, .int (p0))]) (by decide) rfl (Nat.le_of_ble_eq_true rfl) rfl ?_
  intro x X hl hD ha hy hz
  subst hl hD ha hy hz
  unfold f_X1_admit at h
  refine g_aload_n X dX1_admit_0 0 rfl ?_
  refine g_geti X g_cX1 w_X1_admit_inX1 5 (by decide) w_X1_admit_27 hk_o rfl dX1_admit_1 ?_
  refine g_if_eq X 9 dX1_admit_4 (by decide) h (fun c_4 h => ?_) (fun c_4 h => ?_)
  · skip
    refine g_iload_n X dX1_admit_9 1 rfl ?_
    refine g_aload_n X dX1_admit_10 0 rfl ?_
    refine g_callVi X g_cX1 hk_o [] rfl (cwV 0 X.2.2.2.2.1 gX1_admit_X1_room rfl rfl rfl hd_X1_room ⟨Nat.le_of_ble_eq_true rfl, Nat.le_of_ble_eq_true rfl⟩) (Nat.le_of_ble_eq_true rfl) dX1_admit_11 h (fun q hq => ct_X1_room X.2.2.2.2.2.2.1 o hk_o _ hq) (fun r1 Sr1 h => ?_)
    refine g_mmin X w_X1_admit_31 w_X1_admit_stmmin w_X1_admit_inMath w_X1_admit_commin (by decide) (Nat.le_of_ble_eq_true rfl) dX1_admit_14 ?_
    refine g_istore_n X [(2, _), (0, _), (1, _)] dX1_admit_17 (by decide) rfl ?_
    refine g_aload_n X dX1_admit_18 1 rfl ?_
    refine g_dup X dX1_admit_19 rfl ?_
    refine g_geti X g_cX1 w_X1_admit_inX1 3 (by decide) w_X1_admit_21 hk_o rfl dX1_admit_20 ?_
    refine g_aload_n X dX1_admit_23 1 rfl ?_
    refine g_geti X g_cX1 w_X1_admit_inX1 0 (by decide) w_X1_admit_9 hk_o rfl dX1_admit_24 ?_
    refine g_if_ne X 35 dX1_admit_27 (by decide) h (fun c_27 h => ?_) (fun c_27 h => ?_)
    · skip
      refine g_iload_n X dX1_admit_35 0 rfl ?_
      refine g_sub [1, 2, 0] _ rfl ?_
      exact vj_X1_admit_36 X o p0 ((if r1 < p0 then r1 else p0)) o ((Sr1.1 o 3)) ((if r1 < p0 then r1 else p0)) hk_o hk_o _ h
    · skip
      refine g_iload_n X dX1_admit_30 0 rfl ?_
      refine g_ineg X dX1_admit_31 ?_
      refine g_goto X 36 dX1_admit_32 (by decide) ?_
      refine g_sub [1, 2, 0] _ rfl ?_
      exact vj_X1_admit_36 X o p0 ((if r1 < p0 then r1 else p0)) o ((Sr1.1 o 3)) ((-(if r1 < p0 then r1 else p0))) hk_o hk_o _ h
  · skip
    refine g_iload_n X dX1_admit_7 1 rfl ?_
    exact g_iret X h dX1_admit_8
abbrev rm_X1_settle : Room := { frames := 1, cells := 0, slots := 0, locals := 23 }
theorem hd_X1_settle : yX1_settle.cls = RX1 ∧ yX1_settle.cls ≠ "java/lang/invoke/MethodHandle" ∧ yX1_settle.cls ≠ "java/lang/invoke/VarHandle" ∧ (parseMethodDescriptor yX1_settle.desc).map (fun d => d.parameters.length) = some 1 := by decide +kernel
theorem w_X1_settle_27 : Cond.fieldLink RX1 27 "TokenDoors$Door" "standsOpen" "Z" ∈ wsX1_settle := by decide +kernel
theorem w_X1_settle_inX1 : ∀ w ∈ wsX10, w ∈ wsX1_settle := by decide +kernel
theorem w_X1_settle_9 : Cond.fieldLink RX1 9 "TokenDoors$Door" "kind" "I" ∈ wsX1_settle := by decide +kernel
theorem w_X1_settle_18 : Cond.fieldLink RX1 18 "TokenDoors$Door" "rate" "I" ∈ wsX1_settle := by decide +kernel
theorem w_X1_settle_21 : Cond.fieldLink RX1 21 "TokenDoors$Door" "holds" "I" ∈ wsX1_settle := by decide +kernel
theorem w_X1_settle_41 : Cond.methodLink RX1 41 Lib.Math.max.name ∈ wsX1_settle := by decide +kernel
theorem w_X1_settle_stmmax : Cond.static Lib.Math.max.name ∈ wsX1_settle := by decide +kernel
theorem w_X1_settle_inMath : Cond.initialized "java/lang/Math" ∈ wsX1_settle := by decide +kernel
theorem w_X1_settle_commax : Cond.code Lib.Math.max.name Lib.Math.max.code 2 (some .int) ∈ wsX1_settle := by decide +kernel
theorem w_X1_settle_15 : Cond.fieldLink RX1 15 "TokenDoors$Door" "depth" "I" ∈ wsX1_settle := by decide +kernel
theorem w_X1_settle_31 : Cond.methodLink RX1 31 Lib.Math.min.name ∈ wsX1_settle := by decide +kernel
theorem w_X1_settle_stmmin : Cond.static Lib.Math.min.name ∈ wsX1_settle := by decide +kernel
theorem w_X1_settle_commin : Cond.code Lib.Math.min.name Lib.Math.min.code 2 (some .int) ∈ wsX1_settle := by decide +kernel
def f_X1_settle (fu : Nat) (o : Nat) (p0 : Int32) (S : g_St) : Option (Unit × g_St) :=
  if (S.1 o 5) = 0 then (if (S.1 o 0) = 0 then (some ((), (g_u S.1 o 3 (if ((S.1 o 3) + (S.1 o 2)) < (S.1 o 1) then ((S.1 o 3) + (S.1 o 2)) else (S.1 o 1)), S.2))) else (if (S.1 o 0) = (1 : Int32) then (some ((), (g_u S.1 o 3 (if (0 : Int32) < ((S.1 o 3) - (S.1 o 2)) then ((S.1 o 3) - (S.1 o 2)) else (0 : Int32)), S.2))) else (if (S.1 o 2) ≤ 0 then (some ((), S)) else (g_nz (S.1 o 2) (if ((p0 + (1 : Int32)) - (p0 + (1 : Int32)) / (S.1 o 2) * (S.1 o 2)) = 0 then (if (S.1 o 0) = (2 : Int32) then (some ((), (g_u S.1 o 3 (0 : Int32), S.2))) else (g_nz (2 : Int32) (some ((), (g_u S.1 o 3 ((S.1 o 3) / (2 : Int32)), S.2))))) else (some ((), S))))))) else (some ((), S))
set_option maxRecDepth 100000 in
set_option maxHeartbeats 400000 in
theorem ct_X1_settle {l : Launch} {D : va_G} {ad : Nat → Nat} {cy : Nat → ClassId} {zz : (Nat → Nat) × (Nat → Nat)} (hinj : ∀ i j, i < 90 → j < 90 → ad i = ad j → i = j) {fu : Nat} (o : Nat) (p0 : Int32) (hk_o : o < 90 ∧ g_KC o = g_kX1) {S : g_St} (z : Unit × g_St) (h : f_X1_settle fu o p0 S = some z) : g_Mv l g_KC 90 D ad cy zz yX1_settle wsX1_settle rm_X1_settle [.ref (ad o), .int (p0)] S z := by
  refine g_ofv hinj (cc := cX1_settle) (maxL := 2) (ret := none) (lv := [(0, .ref (ad o)), (1, .int (p0))]) (by decide) rfl (Nat.le_of_ble_eq_true rfl) rfl ?_
  intro x X hl hD ha hy hz
  subst hl hD ha hy hz
  unfold f_X1_settle at h
  refine g_aload_n X dX1_settle_0 0 rfl ?_
  refine g_geti X g_cX1 w_X1_settle_inX1 5 (by decide) w_X1_settle_27 hk_o rfl dX1_settle_1 ?_
  refine g_if_eq X 8 dX1_settle_4 (by decide) h (fun c_4 h => ?_) (fun c_4 h => ?_)
  · skip
    refine g_aload_n X dX1_settle_8 0 rfl ?_
    refine g_geti X g_cX1 w_X1_settle_inX1 0 (by decide) w_X1_settle_9 hk_o rfl dX1_settle_9 ?_
    refine g_if_ne X 38 dX1_settle_12 (by decide) h (fun c_12 h => ?_) (fun c_12 h => ?_)
    · skip
      refine g_aload_n X dX1_settle_38 0 rfl ?_
      refine g_geti X g_cX1 w_X1_settle_inX1 0 (by decide) w_X1_settle_9 hk_o rfl dX1_settle_39 ?_
      refine g_iconst X (v := 1) dX1_settle_42 (by decide) ?_
      refine g_icmp_ne X 66 dX1_settle_43 (by decide) h (fun c_43 h => ?_) (fun c_43 h => ?_)
      · skip
        refine g_aload_n X dX1_settle_66 0 rfl ?_
        refine g_geti X g_cX1 w_X1_settle_inX1 2 (by decide) w_X1_settle_18 hk_o rfl dX1_settle_67 ?_
        refine g_if_le X 106 dX1_settle_70 (by decide) h (fun c_70 h => ?_) (fun c_70 h => ?_)
        · skip
          exact g_vret X h dX1_settle_106
        · skip
          refine g_iload_n X dX1_settle_73 1 rfl ?_
          refine g_iconst X (v := 1) dX1_settle_74 (by decide) ?_
          refine g_iadd X dX1_settle_75 ?_
          refine g_aload_n X dX1_settle_76 0 rfl ?_
          refine g_geti X g_cX1 w_X1_settle_inX1 2 (by decide) w_X1_settle_18 hk_o rfl dX1_settle_77 ?_
          refine g_irem X dX1_settle_80 h (fun h => ?_)
          refine g_if_ne X 106 dX1_settle_81 (by decide) h (fun c_81 h => ?_) (fun c_81 h => ?_)
          · skip
            exact g_vret X h dX1_settle_106
          · skip
            refine g_aload_n X dX1_settle_84 0 rfl ?_
            refine g_aload_n X dX1_settle_85 0 rfl ?_
            refine g_geti X g_cX1 w_X1_settle_inX1 0 (by decide) w_X1_settle_9 hk_o rfl dX1_settle_86 ?_
            refine g_iconst X (v := 2) dX1_settle_89 (by decide) ?_
            refine g_icmp_ne X 97 dX1_settle_90 (by decide) h (fun c_90 h => ?_) (fun c_90 h => ?_)
            · skip
              refine g_aload_n X dX1_settle_97 0 rfl ?_
              refine g_geti X g_cX1 w_X1_settle_inX1 3 (by decide) w_X1_settle_21 hk_o rfl dX1_settle_98 ?_
              refine g_iconst X (v := 2) dX1_settle_101 (by decide) ?_
              refine g_idiv X dX1_settle_102 h (fun h => ?_)
              refine g_puti X g_cX1 w_X1_settle_inX1 3 (by decide) w_X1_settle_21 hk_o rfl rfl (t := .int) (by decide +kernel) rfl rfl dX1_settle_103 ?_
              exact g_vret X h dX1_settle_106
            · skip
              refine g_iconst X (v := 0) dX1_settle_93 (by decide) ?_
              refine g_goto X 103 dX1_settle_94 (by decide) ?_
              refine g_puti X g_cX1 w_X1_settle_inX1 3 (by decide) w_X1_settle_21 hk_o rfl rfl (t := .int) (by decide +kernel) rfl rfl dX1_settle_103 ?_
              exact g_vret X h dX1_settle_106
      · skip
        refine g_aload_n X dX1_settle_46 0 rfl ?_
        refine g_iconst X (v := 0) dX1_settle_47 (by decide) ?_
        refine g_aload_n X dX1_settle_48 0 rfl ?_
        refine g_geti X g_cX1 w_X1_settle_inX1 3 (by decide) w_X1_settle_21 hk_o rfl dX1_settle_49 ?_
        refine g_aload_n X dX1_settle_52 0 rfl ?_
        refine g_geti X g_cX1 w_X1_settle_inX1 2 (by decide) w_X1_settle_18 hk_o rfl dX1_settle_53 ?_
        refine g_isub X dX1_settle_56 ?_
        refine g_mmax X w_X1_settle_41 w_X1_settle_stmmax w_X1_settle_inMath w_X1_settle_commax (by decide) (Nat.le_of_ble_eq_true rfl) dX1_settle_57 ?_
        refine g_puti X g_cX1 w_X1_settle_inX1 3 (by decide) w_X1_settle_21 hk_o rfl rfl (t := .int) (by decide +kernel) rfl rfl dX1_settle_60 ?_
        refine g_goto X 106 dX1_settle_63 (by decide) ?_
        exact g_vret X h dX1_settle_106
    · skip
      refine g_aload_n X dX1_settle_15 0 rfl ?_
      refine g_aload_n X dX1_settle_16 0 rfl ?_
      refine g_geti X g_cX1 w_X1_settle_inX1 1 (by decide) w_X1_settle_15 hk_o rfl dX1_settle_17 ?_
      refine g_aload_n X dX1_settle_20 0 rfl ?_
      refine g_geti X g_cX1 w_X1_settle_inX1 3 (by decide) w_X1_settle_21 hk_o rfl dX1_settle_21 ?_
      refine g_aload_n X dX1_settle_24 0 rfl ?_
      refine g_geti X g_cX1 w_X1_settle_inX1 2 (by decide) w_X1_settle_18 hk_o rfl dX1_settle_25 ?_
      refine g_iadd X dX1_settle_28 ?_
      refine g_mmin X w_X1_settle_31 w_X1_settle_stmmin w_X1_settle_inMath w_X1_settle_commin (by decide) (Nat.le_of_ble_eq_true rfl) dX1_settle_29 ?_
      refine g_puti X g_cX1 w_X1_settle_inX1 3 (by decide) w_X1_settle_21 hk_o rfl rfl (t := .int) (by decide +kernel) rfl rfl dX1_settle_32 ?_
      refine g_goto X 106 dX1_settle_35 (by decide) ?_
      exact g_vret X h dX1_settle_106
  · skip
    exact g_vret X h dX1_settle_7
