abbrev rm_X6_fail : Room := { frames := 0, cells := 0, slots := 0, locals := 0 }
theorem hd_X6_fail : yX6_fail.cls = RX6 ∧ yX6_fail.cls ≠ "java/lang/invoke/MethodHandle" ∧ yX6_fail.cls ≠ "java/lang/invoke/VarHandle" ∧ (parseMethodDescriptor yX6_fail.desc).map (fun d => d.parameters.length) = some 1 := by decide +kernel
theorem w_X6_fail_24 : Cond.fieldLink RX6 24 "TokenDoors$Teller" "found" "I" ∈ wsX6_fail := by decide +kernel
theorem w_X6_fail_inX6 : ∀ w ∈ wsX60, w ∈ wsX6_fail := by decide +kernel
def f_X6_fail (fu : Nat) (o : Nat) (p0 : Int32) (S : g_St) : Option (Int32 × g_St) :=
  g_zb (0 : Int32) (some ((0 : Int32), (g_u S.1 o 2 p0, S.2)))
set_option maxRecDepth 100000 in
set_option maxHeartbeats 400000 in
theorem ct_X6_fail {l : Launch} {D : va_G} {ad : Nat → Nat} {cy : Nat → ClassId} {zz : (Nat → Nat) × (Nat → Nat)} (hinj : ∀ i j, i < 90 → j < 90 → ad i = ad j → i = j) {fu : Nat} (o : Nat) (p0 : Int32) (hk_o : o < 90 ∧ g_KC o = g_kX6) {S : g_St} (z : Int32 × g_St) (h : f_X6_fail fu o p0 S = some z) : g_Mi l g_KC 90 D ad cy zz yX6_fail wsX6_fail rm_X6_fail [.ref (ad o), .int (p0)] S z := by
  refine g_ofi hinj (cc := cX6_fail) (maxL := 2) (ret := (some .boolean)) (lv := [(0, .ref (ad o)), (1, .int (p0))]) (by decide) rfl (Nat.le_of_ble_eq_true rfl) rfl ?_
  intro x X hl hD ha hy hz
  subst hl hD ha hy hz
  unfold f_X6_fail at h
  refine g_aload_n X dX6_fail_0 0 rfl ?_
  refine g_iload_n X dX6_fail_1 1 rfl ?_
  refine g_puti X g_cX6 w_X6_fail_inX6 2 (by decide) w_X6_fail_24 hk_o rfl rfl (t := .int) (by decide +kernel) rfl rfl dX6_fail_2 ?_
  refine g_iconst X (v := 0) dX6_fail_5 (by decide) ?_
  exact g_zret X h dX6_fail_6
abbrev rm_X6_expect : Room := { frames := 1, cells := 0, slots := 0, locals := 21 }
theorem hd_X6_expect : yX6_expect.cls = RX6 ∧ yX6_expect.cls ≠ "java/lang/invoke/MethodHandle" ∧ yX6_expect.cls ≠ "java/lang/invoke/VarHandle" ∧ (parseMethodDescriptor yX6_expect.desc).map (fun d => d.parameters.length) = some 2 := by decide +kernel
def j_X6_expect_24 (fu : Nat)  (S : g_St) : Option (Int32 × g_St) :=
  g_zb (1 : Int32) (some ((1 : Int32), S))
def f_X6_expect (fu : Nat) (o : Nat) (p0 : Int32) (p1 : Int32) (S : g_St) : Option (Int32 × g_St) :=
  if p0 = (4 : Int32) then (g_bd (f_X6_fail fu o ((1 : Int32)) S) fun r2 Sr2 => g_zb r2 (some (r2, Sr2))) else (if p0 = p1 then (j_X6_expect_24 fu  S) else (g_bd (f_X6_fail fu o ((2 : Int32)) S) fun r1 Sr1 => if r1 = 0 then (g_zb (0 : Int32) (some ((0 : Int32), Sr1))) else (j_X6_expect_24 fu  Sr1)))
set_option maxRecDepth 100000 in
set_option maxHeartbeats 400000 in
theorem vj_X6_expect_24 {x : g_CX} {z : Int32 × g_St} {fu : Nat} (X : g_X 90 x cX6_expect RX6 3 wsX6_expect rm_X6_expect (some .boolean))   (S : g_St) (h : j_X6_expect_24 fu  S = some z) : g_V g_KC 90 x 3 (g_qi g_KC 90 x z) S 24 [] [] := by
  unfold j_X6_expect_24 at h
  refine g_iconst X (v := 1) dX6_expect_24 (by decide) ?_
  refine g_goto X 29 dX6_expect_25 (by decide) ?_
  exact g_zret X h dX6_expect_29
set_option maxRecDepth 100000 in
set_option maxHeartbeats 400000 in
theorem ct_X6_expect {l : Launch} {D : va_G} {ad : Nat → Nat} {cy : Nat → ClassId} {zz : (Nat → Nat) × (Nat → Nat)} (hinj : ∀ i j, i < 90 → j < 90 → ad i = ad j → i = j) {fu : Nat} (o : Nat) (p0 : Int32) (p1 : Int32) (hk_o : o < 90 ∧ g_KC o = g_kX6) {S : g_St} (z : Int32 × g_St) (h : f_X6_expect fu o p0 p1 S = some z) : g_Mi l g_KC 90 D ad cy zz yX6_expect wsX6_expect rm_X6_expect [.ref (ad o), .int (p0), .int (p1)] S z := by
  refine g_ofi hinj (cc := cX6_expect) (maxL := 3) (ret := (some .boolean)) (lv := [(0, .ref (ad o)), (1, .int (p0)), (2, .int (p1))]) (by decide) rfl (Nat.le_of_ble_eq_true rfl) rfl ?_
  intro x X hl hD ha hy hz
  subst hl hD ha hy hz
  unfold f_X6_expect at h
  refine g_iload_n X dX6_expect_0 1 rfl ?_
  refine g_iconst X (v := 4) dX6_expect_1 (by decide) ?_
  refine g_icmp_ne X 11 dX6_expect_2 (by decide) h (fun c_2 h => ?_) (fun c_2 h => ?_)
  · skip
    refine g_iload_n X dX6_expect_11 1 rfl ?_
    refine g_iload_n X dX6_expect_12 2 rfl ?_
    refine g_icmp_eq X 24 dX6_expect_13 (by decide) h (fun c_13 h => ?_) (fun c_13 h => ?_)
    · skip
      refine g_sub [] _ rfl ?_
      exact vj_X6_expect_24 X   _ h
    · skip
      refine g_aload_n X dX6_expect_16 0 rfl ?_
      refine g_iconst X (v := 2) dX6_expect_17 (by decide) ?_
      refine g_callVi X g_cX6 hk_o [.int ((2 : Int32))] rfl (cwV 1 X.2.2.2.2.1 gX6_expect_X6_fail rfl rfl rfl hd_X6_fail ⟨Nat.le_of_ble_eq_true rfl, Nat.le_of_ble_eq_true rfl⟩) (Nat.le_of_ble_eq_true rfl) dX6_expect_18 h (fun q hq => ct_X6_fail X.2.2.2.2.2.2.1 o ((2 : Int32)) hk_o _ hq) (fun r1 Sr1 h => ?_)
      refine g_if_eq X 28 dX6_expect_21 (by decide) h (fun c_21 h => ?_) (fun c_21 h => ?_)
      · skip
        refine g_iconst X (v := 0) dX6_expect_28 (by decide) ?_
        exact g_zret X h dX6_expect_29
      · skip
        refine g_sub [] _ rfl ?_
        exact vj_X6_expect_24 X   _ h
  · skip
    refine g_aload_n X dX6_expect_5 0 rfl ?_
    refine g_iconst X (v := 1) dX6_expect_6 (by decide) ?_
    refine g_callVi X g_cX6 hk_o [.int ((1 : Int32))] rfl (cwV 1 X.2.2.2.2.1 gX6_expect_X6_fail rfl rfl rfl hd_X6_fail ⟨Nat.le_of_ble_eq_true rfl, Nat.le_of_ble_eq_true rfl⟩) (Nat.le_of_ble_eq_true rfl) dX6_expect_7 h (fun q hq => ct_X6_fail X.2.2.2.2.2.2.1 o ((1 : Int32)) hk_o _ hq) (fun r2 Sr2 h => ?_)
    exact g_zret X h dX6_expect_10
abbrev rm_X6_lineBegun : Room := { frames := 5, cells := 0, slots := 0, locals := 107 }
theorem hd_X6_lineBegun : yX6_lineBegun.cls = RX6 ∧ yX6_lineBegun.cls ≠ "java/lang/invoke/MethodHandle" ∧ yX6_lineBegun.cls ≠ "java/lang/invoke/VarHandle" ∧ (parseMethodDescriptor yX6_lineBegun.desc).map (fun d => d.parameters.length) = some 0 := by decide +kernel
theorem w_X6_lineBegun_9 : Cond.fieldLink RX6 9 "TokenDoors$Teller" "tape" "LTokenDoors$Tape;" ∈ wsX6_lineBegun := by decide +kernel
theorem w_X6_lineBegun_inX6 : ∀ w ∈ wsX60, w ∈ wsX6_lineBegun := by decide +kernel
def f_X6_lineBegun (fu : Nat) (o : Nat) (S : g_St) : Option (Int32 × g_St) :=
  g_ld g_KC 90 g_kX5 (S.2 o 0) fun a1 => g_bd (f_X5_nameIs fu a1 0 S) fun r2 Sr2 => if r2 = 0 then (g_ld g_KC 90 g_kX5 (Sr2.2 o 0) fun a3 => g_bd (f_X5_nameIs fu a3 1 Sr2) fun r4 Sr4 => if r4 = 0 then (g_ld g_KC 90 g_kX5 (Sr4.2 o 0) fun a5 => g_bd (f_X5_nameIs fu a5 2 Sr4) fun r6 Sr6 => if r6 = 0 then (g_ld g_KC 90 g_kX5 (Sr6.2 o 0) fun a7 => g_bd (f_X5_nameIs fu a7 3 Sr6) fun r8 Sr8 => if r8 = 0 then (g_ld g_KC 90 g_kX5 (Sr8.2 o 0) fun a9 => g_bd (f_X5_nameIs fu a9 4 Sr8) fun r10 Sr10 => if r10 = 0 then (some ((5 : Int32), Sr10)) else (some ((4 : Int32), Sr10))) else (some ((3 : Int32), Sr8))) else (some ((2 : Int32), Sr6))) else (some ((1 : Int32), Sr4))) else (some ((0 : Int32), Sr2))
set_option maxRecDepth 100000 in
set_option maxHeartbeats 400000 in
theorem ct_X6_lineBegun {l : Launch} {D : va_G} {ad : Nat → Nat} {cy : Nat → ClassId} {zz : (Nat → Nat) × (Nat → Nat)} (hinj : ∀ i j, i < 90 → j < 90 → ad i = ad j → i = j) {fu : Nat} (o : Nat) (hk_o : o < 90 ∧ g_KC o = g_kX6) {S : g_St} (z : Int32 × g_St) (h : f_X6_lineBegun fu o S = some z) : g_Mi l g_KC 90 D ad cy zz yX6_lineBegun wsX6_lineBegun rm_X6_lineBegun [.ref (ad o)] S z := by
  refine g_ofi hinj (cc := cX6_lineBegun) (maxL := 1) (ret := (some .int)) (lv := [(0, .ref (ad o))]) (by decide) rfl (Nat.le_of_ble_eq_true rfl) rfl ?_
  intro x X hl hD ha hy hz
  subst hl hD ha hy hz
  unfold f_X6_lineBegun at h
  refine g_aload_n X dX6_lineBegun_0 0 rfl ?_
  refine g_getr X g_cX6 w_X6_lineBegun_inX6 0 (by decide) w_X6_lineBegun_9 hk_o rfl dX6_lineBegun_1 h (fun a1 hk_a1 h => ?_)
  refine g_ldcS X 0 (by decide) rfl dX6_lineBegun_4 ?_
  refine g_callVi X g_cX5 hk_a1 [.ref ((g_zz x).1 0)] rfl (cwV 1 X.2.2.2.2.1 gX6_lineBegun_X5_nameIs rfl rfl rfl hd_X5_nameIs ⟨Nat.le_of_ble_eq_true rfl, Nat.le_of_ble_eq_true rfl⟩) (Nat.le_of_ble_eq_true rfl) dX6_lineBegun_6 h (fun q hq => ct_X5_nameIs X.2.2.2.2.2.2.1 a1 0 hk_a1 (by decide) _ hq) (fun r2 Sr2 h => ?_)
  refine g_if_eq X 14 dX6_lineBegun_9 (by decide) h (fun c_9 h => ?_) (fun c_9 h => ?_)
  · skip
    refine g_aload_n X dX6_lineBegun_14 0 rfl ?_
    refine g_getr X g_cX6 w_X6_lineBegun_inX6 0 (by decide) w_X6_lineBegun_9 hk_o rfl dX6_lineBegun_15 h (fun a3 hk_a3 h => ?_)
    refine g_ldcS X 1 (by decide) rfl dX6_lineBegun_18 ?_
    refine g_callVi X g_cX5 hk_a3 [.ref ((g_zz x).1 1)] rfl (cwV 1 X.2.2.2.2.1 gX6_lineBegun_X5_nameIs rfl rfl rfl hd_X5_nameIs ⟨Nat.le_of_ble_eq_true rfl, Nat.le_of_ble_eq_true rfl⟩) (Nat.le_of_ble_eq_true rfl) dX6_lineBegun_20 h (fun q hq => ct_X5_nameIs X.2.2.2.2.2.2.1 a3 1 hk_a3 (by decide) _ hq) (fun r4 Sr4 h => ?_)
    refine g_if_eq X 28 dX6_lineBegun_23 (by decide) h (fun c_23 h => ?_) (fun c_23 h => ?_)
    · skip
      refine g_aload_n X dX6_lineBegun_28 0 rfl ?_
      refine g_getr X g_cX6 w_X6_lineBegun_inX6 0 (by decide) w_X6_lineBegun_9 hk_o rfl dX6_lineBegun_29 h (fun a5 hk_a5 h => ?_)
      refine g_ldcS X 2 (by decide) rfl dX6_lineBegun_32 ?_
      refine g_callVi X g_cX5 hk_a5 [.ref ((g_zz x).1 2)] rfl (cwV 1 X.2.2.2.2.1 gX6_lineBegun_X5_nameIs rfl rfl rfl hd_X5_nameIs ⟨Nat.le_of_ble_eq_true rfl, Nat.le_of_ble_eq_true rfl⟩) (Nat.le_of_ble_eq_true rfl) dX6_lineBegun_34 h (fun q hq => ct_X5_nameIs X.2.2.2.2.2.2.1 a5 2 hk_a5 (by decide) _ hq) (fun r6 Sr6 h => ?_)
      refine g_if_eq X 42 dX6_lineBegun_37 (by decide) h (fun c_37 h => ?_) (fun c_37 h => ?_)
      · skip
        refine g_aload_n X dX6_lineBegun_42 0 rfl ?_
        refine g_getr X g_cX6 w_X6_lineBegun_inX6 0 (by decide) w_X6_lineBegun_9 hk_o rfl dX6_lineBegun_43 h (fun a7 hk_a7 h => ?_)
        refine g_ldcS X 3 (by decide) rfl dX6_lineBegun_46 ?_
        refine g_callVi X g_cX5 hk_a7 [.ref ((g_zz x).1 3)] rfl (cwV 1 X.2.2.2.2.1 gX6_lineBegun_X5_nameIs rfl rfl rfl hd_X5_nameIs ⟨Nat.le_of_ble_eq_true rfl, Nat.le_of_ble_eq_true rfl⟩) (Nat.le_of_ble_eq_true rfl) dX6_lineBegun_48 h (fun q hq => ct_X5_nameIs X.2.2.2.2.2.2.1 a7 3 hk_a7 (by decide) _ hq) (fun r8 Sr8 h => ?_)
        refine g_if_eq X 56 dX6_lineBegun_51 (by decide) h (fun c_51 h => ?_) (fun c_51 h => ?_)
        · skip
          refine g_aload_n X dX6_lineBegun_56 0 rfl ?_
          refine g_getr X g_cX6 w_X6_lineBegun_inX6 0 (by decide) w_X6_lineBegun_9 hk_o rfl dX6_lineBegun_57 h (fun a9 hk_a9 h => ?_)
          refine g_ldcS X 4 (by decide) rfl dX6_lineBegun_60 ?_
          refine g_callVi X g_cX5 hk_a9 [.ref ((g_zz x).1 4)] rfl (cwV 1 X.2.2.2.2.1 gX6_lineBegun_X5_nameIs rfl rfl rfl hd_X5_nameIs ⟨Nat.le_of_ble_eq_true rfl, Nat.le_of_ble_eq_true rfl⟩) (Nat.le_of_ble_eq_true rfl) dX6_lineBegun_62 h (fun q hq => ct_X5_nameIs X.2.2.2.2.2.2.1 a9 4 hk_a9 (by decide) _ hq) (fun r10 Sr10 h => ?_)
          refine g_if_eq X 72 dX6_lineBegun_65 (by decide) h (fun c_65 h => ?_) (fun c_65 h => ?_)
          · skip
            refine g_iconst X (v := 5) dX6_lineBegun_72 (by decide) ?_
            exact g_iret X h dX6_lineBegun_73
          · skip
            refine g_iconst X (v := 4) dX6_lineBegun_68 (by decide) ?_
            refine g_goto X 73 dX6_lineBegun_69 (by decide) ?_
            exact g_iret X h dX6_lineBegun_73
        · skip
          refine g_iconst X (v := 3) dX6_lineBegun_54 (by decide) ?_
          exact g_iret X h dX6_lineBegun_55
      · skip
        refine g_iconst X (v := 2) dX6_lineBegun_40 (by decide) ?_
        exact g_iret X h dX6_lineBegun_41
    · skip
      refine g_iconst X (v := 1) dX6_lineBegun_26 (by decide) ?_
      exact g_iret X h dX6_lineBegun_27
  · skip
    refine g_iconst X (v := 0) dX6_lineBegun_12 (by decide) ?_
    exact g_iret X h dX6_lineBegun_13
abbrev rm_X6_takeNumber : Room := { frames := 3, cells := 0, slots := 0, locals := 60 }
theorem hd_X6_takeNumber : yX6_takeNumber.cls = RX6 ∧ yX6_takeNumber.cls ≠ "java/lang/invoke/MethodHandle" ∧ yX6_takeNumber.cls ≠ "java/lang/invoke/VarHandle" ∧ (parseMethodDescriptor yX6_takeNumber.desc).map (fun d => d.parameters.length) = some 2 := by decide +kernel
theorem w_X6_takeNumber_9 : Cond.fieldLink RX6 9 "TokenDoors$Teller" "tape" "LTokenDoors$Tape;" ∈ wsX6_takeNumber := by decide +kernel
theorem w_X6_takeNumber_inX6 : ∀ w ∈ wsX60, w ∈ wsX6_takeNumber := by decide +kernel
theorem w_X6_takeNumber_78 : Cond.fieldLink RX6 78 "TokenDoors$Tape" "value" "I" ∈ wsX6_takeNumber := by decide +kernel
theorem w_X6_takeNumber_inX5 : ∀ w ∈ wsX50, w ∈ wsX6_takeNumber := by decide +kernel
def j_X6_takeNumber_47 (fu : Nat)  (S : g_St) : Option (Int32 × g_St) :=
  g_zb (1 : Int32) (some ((1 : Int32), S))
def j_X6_takeNumber_39 (fu : Nat) (v0 : Nat) (S : g_St) : Option (Int32 × g_St) :=
  g_bd (f_X6_fail fu v0 ((3 : Int32)) S) fun r5 Sr5 => if r5 = 0 then (g_zb (0 : Int32) (some ((0 : Int32), Sr5))) else (j_X6_takeNumber_47 fu  Sr5)
def f_X6_takeNumber (fu : Nat) (o : Nat) (p0 : Int32) (p1 : Int32) (S : g_St) : Option (Int32 × g_St) :=
  g_ld g_KC 90 g_kX5 (S.2 o 0) fun a1 => g_bd (f_X5_advance fu a1 S) fun r2 Sr2 => g_bd (f_X6_expect fu o r2 ((2 : Int32)) Sr2) fun r3 Sr3 => if r3 = 0 then (g_zb (0 : Int32) (some ((0 : Int32), Sr3))) else (g_ld g_KC 90 g_kX5 (Sr3.2 o 0) fun a4 => if (Sr3.1 a4 4) < p0 then (j_X6_takeNumber_39 fu o Sr3) else (g_ld g_KC 90 g_kX5 (Sr3.2 o 0) fun a6 => if (Sr3.1 a6 4) ≤ p1 then (j_X6_takeNumber_47 fu  Sr3) else (j_X6_takeNumber_39 fu o Sr3)))
set_option maxRecDepth 100000 in
set_option maxHeartbeats 400000 in
theorem vj_X6_takeNumber_47 {x : g_CX} {z : Int32 × g_St} {fu : Nat} (X : g_X 90 x cX6_takeNumber RX6 3 wsX6_takeNumber rm_X6_takeNumber (some .boolean))   (S : g_St) (h : j_X6_takeNumber_47 fu  S = some z) : g_V g_KC 90 x 3 (g_qi g_KC 90 x z) S 47 [] [] := by
  unfold j_X6_takeNumber_47 at h
  refine g_iconst X (v := 1) dX6_takeNumber_47 (by decide) ?_
  refine g_goto X 52 dX6_takeNumber_48 (by decide) ?_
  exact g_zret X h dX6_takeNumber_52
set_option maxRecDepth 100000 in
set_option maxHeartbeats 400000 in
theorem vj_X6_takeNumber_39 {x : g_CX} {z : Int32 × g_St} {fu : Nat} (X : g_X 90 x cX6_takeNumber RX6 3 wsX6_takeNumber rm_X6_takeNumber (some .boolean)) (v0 : Nat) (hk_v0 : v0 < 90 ∧ g_KC v0 = g_kX6) (S : g_St) (h : j_X6_takeNumber_39 fu v0 S = some z) : g_V g_KC 90 x 3 (g_qi g_KC 90 x z) S 39 [(0, .ref (g_ad x v0))] [] := by
  unfold j_X6_takeNumber_39 at h
  refine g_aload_n X dX6_takeNumber_39 0 rfl ?_
  refine g_iconst X (v := 3) dX6_takeNumber_40 (by decide) ?_
  refine g_callVi X g_cX6 hk_v0 [.int ((3 : Int32))] rfl (cwV 1 X.2.2.2.2.1 gX6_takeNumber_X6_fail rfl rfl rfl hd_X6_fail ⟨Nat.le_of_ble_eq_true rfl, Nat.le_of_ble_eq_true rfl⟩) (Nat.le_of_ble_eq_true rfl) dX6_takeNumber_41 h (fun q hq => ct_X6_fail X.2.2.2.2.2.2.1 v0 ((3 : Int32)) hk_v0 _ hq) (fun r5 Sr5 h => ?_)
  refine g_if_eq X 51 dX6_takeNumber_44 (by decide) h (fun c_44 h => ?_) (fun c_44 h => ?_)
  · skip
    refine g_iconst X (v := 0) dX6_takeNumber_51 (by decide) ?_
    exact g_zret X h dX6_takeNumber_52
  · skip
    refine g_sub [] _ rfl ?_
    exact vj_X6_takeNumber_47 X   _ h
set_option maxRecDepth 100000 in
set_option maxHeartbeats 400000 in
theorem ct_X6_takeNumber {l : Launch} {D : va_G} {ad : Nat → Nat} {cy : Nat → ClassId} {zz : (Nat → Nat) × (Nat → Nat)} (hinj : ∀ i j, i < 90 → j < 90 → ad i = ad j → i = j) {fu : Nat} (o : Nat) (p0 : Int32) (p1 : Int32) (hk_o : o < 90 ∧ g_KC o = g_kX6) {S : g_St} (z : Int32 × g_St) (h : f_X6_takeNumber fu o p0 p1 S = some z) : g_Mi l g_KC 90 D ad cy zz yX6_takeNumber wsX6_takeNumber rm_X6_takeNumber [.ref (ad o), .int (p0), .int (p1)] S z := by
  refine g_ofi hinj (cc := cX6_takeNumber) (maxL := 3) (ret := (some .boolean)) (lv := [(0, .ref (ad o)), (1, .int (p0)), (2, .int (p1))]) (by decide) rfl (Nat.le_of_ble_eq_true rfl) rfl ?_
  intro x X hl hD ha hy hz
  subst hl hD ha hy hz
  unfold f_X6_takeNumber at h
  refine g_aload_n X dX6_takeNumber_0 0 rfl ?_
  refine g_aload_n X dX6_takeNumber_1 0 rfl ?_
  refine g_getr X g_cX6 w_X6_takeNumber_inX6 0 (by decide) w_X6_takeNumber_9 hk_o rfl dX6_takeNumber_2 h (fun a1 hk_a1 h => ?_)
  refine g_callVi X g_cX5 hk_a1 [] rfl (cwV 0 X.2.2.2.2.1 gX6_takeNumber_X5_advance rfl rfl rfl hd_X5_advance ⟨Nat.le_of_ble_eq_true rfl, Nat.le_of_ble_eq_true rfl⟩) (Nat.le_of_ble_eq_true rfl) dX6_takeNumber_5 h (fun q hq => ct_X5_advance X.2.2.2.2.2.2.1 a1 hk_a1 _ hq) (fun r2 Sr2 h => ?_)
  refine g_iconst X (v := 2) dX6_takeNumber_8 (by decide) ?_
  refine g_callVi X g_cX6 hk_o [.int (r2), .int ((2 : Int32))] rfl (cwV 2 X.2.2.2.2.1 gX6_takeNumber_X6_expect rfl rfl rfl hd_X6_expect ⟨Nat.le_of_ble_eq_true rfl, Nat.le_of_ble_eq_true rfl⟩) (Nat.le_of_ble_eq_true rfl) dX6_takeNumber_9 h (fun q hq => ct_X6_expect X.2.2.2.2.2.2.1 o r2 ((2 : Int32)) hk_o _ hq) (fun r3 Sr3 h => ?_)
  refine g_if_ne X 17 dX6_takeNumber_12 (by decide) h (fun c_12 h => ?_) (fun c_12 h => ?_)
  · skip
    refine g_aload_n X dX6_takeNumber_17 0 rfl ?_
    refine g_getr X g_cX6 w_X6_takeNumber_inX6 0 (by decide) w_X6_takeNumber_9 hk_o rfl dX6_takeNumber_18 h (fun a4 hk_a4 h => ?_)
    refine g_geti X g_cX5 w_X6_takeNumber_inX5 4 (by decide) w_X6_takeNumber_78 hk_a4 rfl dX6_takeNumber_21 ?_
    refine g_iload_n X dX6_takeNumber_24 1 rfl ?_
    refine g_icmp_lt X 39 dX6_takeNumber_25 (by decide) h (fun c_25 h => ?_) (fun c_25 h => ?_)
    · skip
      refine g_sub [0] _ rfl ?_
      exact vj_X6_takeNumber_39 X o hk_o _ h
    · skip
      refine g_aload_n X dX6_takeNumber_28 0 rfl ?_
      refine g_getr X g_cX6 w_X6_takeNumber_inX6 0 (by decide) w_X6_takeNumber_9 hk_o rfl dX6_takeNumber_29 h (fun a6 hk_a6 h => ?_)
      refine g_geti X g_cX5 w_X6_takeNumber_inX5 4 (by decide) w_X6_takeNumber_78 hk_a6 rfl dX6_takeNumber_32 ?_
      refine g_iload_n X dX6_takeNumber_35 2 rfl ?_
      refine g_icmp_le X 47 dX6_takeNumber_36 (by decide) h (fun c_36 h => ?_) (fun c_36 h => ?_)
      · skip
        refine g_sub [] _ rfl ?_
        exact vj_X6_takeNumber_47 X   _ h
      · skip
        refine g_sub [0] _ rfl ?_
        exact vj_X6_takeNumber_39 X o hk_o _ h
  · skip
    refine g_iconst X (v := 0) dX6_takeNumber_15 (by decide) ?_
    exact g_zret X h dX6_takeNumber_16
abbrev rm_X6_takeStop : Room := { frames := 3, cells := 0, slots := 0, locals := 60 }
theorem hd_X6_takeStop : yX6_takeStop.cls = RX6 ∧ yX6_takeStop.cls ≠ "java/lang/invoke/MethodHandle" ∧ yX6_takeStop.cls ≠ "java/lang/invoke/VarHandle" ∧ (parseMethodDescriptor yX6_takeStop.desc).map (fun d => d.parameters.length) = some 0 := by decide +kernel
theorem w_X6_takeStop_9 : Cond.fieldLink RX6 9 "TokenDoors$Teller" "tape" "LTokenDoors$Tape;" ∈ wsX6_takeStop := by decide +kernel
theorem w_X6_takeStop_inX6 : ∀ w ∈ wsX60, w ∈ wsX6_takeStop := by decide +kernel
def f_X6_takeStop (fu : Nat) (o : Nat) (S : g_St) : Option (Int32 × g_St) :=
  g_ld g_KC 90 g_kX5 (S.2 o 0) fun a1 => g_bd (f_X5_advance fu a1 S) fun r2 Sr2 => g_bd (f_X6_expect fu o r2 ((3 : Int32)) Sr2) fun r3 Sr3 => g_zb r3 (some (r3, Sr3))
set_option maxRecDepth 100000 in
set_option maxHeartbeats 400000 in
theorem ct_X6_takeStop {l : Launch} {D : va_G} {ad : Nat → Nat} {cy : Nat → ClassId} {zz : (Nat → Nat) × (Nat → Nat)} (hinj : ∀ i j, i < 90 → j < 90 → ad i = ad j → i = j) {fu : Nat} (o : Nat) (hk_o : o < 90 ∧ g_KC o = g_kX6) {S : g_St} (z : Int32 × g_St) (h : f_X6_takeStop fu o S = some z) : g_Mi l g_KC 90 D ad cy zz yX6_takeStop wsX6_takeStop rm_X6_takeStop [.ref (ad o)] S z := by
  refine g_ofi hinj (cc := cX6_takeStop) (maxL := 1) (ret := (some .boolean)) (lv := [(0, .ref (ad o))]) (by decide) rfl (Nat.le_of_ble_eq_true rfl) rfl ?_
  intro x X hl hD ha hy hz
  subst hl hD ha hy hz
  unfold f_X6_takeStop at h
  refine g_aload_n X dX6_takeStop_0 0 rfl ?_
  refine g_aload_n X dX6_takeStop_1 0 rfl ?_
  refine g_getr X g_cX6 w_X6_takeStop_inX6 0 (by decide) w_X6_takeStop_9 hk_o rfl dX6_takeStop_2 h (fun a1 hk_a1 h => ?_)
  refine g_callVi X g_cX5 hk_a1 [] rfl (cwV 0 X.2.2.2.2.1 gX6_takeStop_X5_advance rfl rfl rfl hd_X5_advance ⟨Nat.le_of_ble_eq_true rfl, Nat.le_of_ble_eq_true rfl⟩) (Nat.le_of_ble_eq_true rfl) dX6_takeStop_5 h (fun q hq => ct_X5_advance X.2.2.2.2.2.2.1 a1 hk_a1 _ hq) (fun r2 Sr2 h => ?_)
  refine g_iconst X (v := 3) dX6_takeStop_8 (by decide) ?_
  refine g_callVi X g_cX6 hk_o [.int (r2), .int ((3 : Int32))] rfl (cwV 2 X.2.2.2.2.1 gX6_takeStop_X6_expect rfl rfl rfl hd_X6_expect ⟨Nat.le_of_ble_eq_true rfl, Nat.le_of_ble_eq_true rfl⟩) (Nat.le_of_ble_eq_true rfl) dX6_takeStop_9 h (fun q hq => ct_X6_expect X.2.2.2.2.2.2.1 o r2 ((3 : Int32)) hk_o _ hq) (fun r3 Sr3 h => ?_)
  exact g_zret X h dX6_takeStop_12
abbrev rm_X6_tellCrowd : Room := { frames := 4, cells := 0, slots := 0, locals := 82 }
theorem hd_X6_tellCrowd : yX6_tellCrowd.cls = RX6 ∧ yX6_tellCrowd.cls ≠ "java/lang/invoke/MethodHandle" ∧ yX6_tellCrowd.cls ≠ "java/lang/invoke/VarHandle" ∧ (parseMethodDescriptor yX6_tellCrowd.desc).map (fun d => d.parameters.length) = some 0 := by decide +kernel
theorem w_X6_tellCrowd_15 : Cond.fieldLink RX6 15 "TokenDoors$Teller" "draft" "LTokenDoors$Hall;" ∈ wsX6_tellCrowd := by decide +kernel
theorem w_X6_tellCrowd_inX6 : ∀ w ∈ wsX60, w ∈ wsX6_tellCrowd := by decide +kernel
theorem w_X6_tellCrowd_88 : Cond.fieldLink RX6 88 "TokenDoors$Hall" "crowdCount" "I" ∈ wsX6_tellCrowd := by decide +kernel
theorem w_X6_tellCrowd_inX2 : ∀ w ∈ wsX20, w ∈ wsX6_tellCrowd := by decide +kernel
theorem w_X6_tellCrowd_9 : Cond.fieldLink RX6 9 "TokenDoors$Teller" "tape" "LTokenDoors$Tape;" ∈ wsX6_tellCrowd := by decide +kernel
theorem w_X6_tellCrowd_78 : Cond.fieldLink RX6 78 "TokenDoors$Tape" "value" "I" ∈ wsX6_tellCrowd := by decide +kernel
theorem w_X6_tellCrowd_inX5 : ∀ w ∈ wsX50, w ∈ wsX6_tellCrowd := by decide +kernel
def f_X6_tellCrowd (fu : Nat) (o : Nat) (S : g_St) : Option (Int32 × g_St) :=
  g_ld g_KC 90 g_kX2 (S.2 o 1) fun a1 => if (S.1 a1 3) < (8 : Int32) then (g_bd (f_X6_takeNumber fu o ((0 : Int32)) ((99 : Int32)) S) fun r2 Sr2 => if r2 = 0 then (g_zb (0 : Int32) (some ((0 : Int32), Sr2))) else (g_ld g_KC 90 g_kX5 (Sr2.2 o 0) fun a3 => g_bd (f_X6_takeNumber fu o ((1 : Int32)) ((9 : Int32)) Sr2) fun r4 Sr4 => if r4 = 0 then (g_zb (0 : Int32) (some ((0 : Int32), Sr4))) else (g_ld g_KC 90 g_kX5 (Sr4.2 o 0) fun a5 => g_bd (f_X6_takeNumber fu o ((0 : Int32)) ((9 : Int32)) Sr4) fun r6 Sr6 => if r6 = 0 then (g_zb (0 : Int32) (some ((0 : Int32), Sr6))) else (g_ld g_KC 90 g_kX5 (Sr6.2 o 0) fun a7 => g_bd (f_X6_takeStop fu o Sr6) fun r8 Sr8 => if r8 = 0 then (g_zb (0 : Int32) (some ((0 : Int32), Sr8))) else (g_ld g_KC 90 g_kX2 (Sr8.2 o 1) fun a9 => g_bd (f_X2_addCrowd fu a9 ((Sr2.1 a3 4)) ((Sr4.1 a5 4)) ((Sr6.1 a7 4)) Sr8) fun r10 Sr10 => if r10 = 0 then (g_zb (0 : Int32) (some ((0 : Int32), Sr10))) else (g_zb (1 : Int32) (some ((1 : Int32), Sr10)))))))) else (g_bd (f_X6_fail fu o ((5 : Int32)) S) fun r11 Sr11 => g_zb r11 (some (r11, Sr11)))
set_option maxRecDepth 100000 in
set_option maxHeartbeats 400000 in
theorem ct_X6_tellCrowd {l : Launch} {D : va_G} {ad : Nat → Nat} {cy : Nat → ClassId} {zz : (Nat → Nat) × (Nat → Nat)} (hinj : ∀ i j, i < 90 → j < 90 → ad i = ad j → i = j) {fu : Nat} (o : Nat) (hk_o : o < 90 ∧ g_KC o = g_kX6) {S : g_St} (z : Int32 × g_St) (h : f_X6_tellCrowd fu o S = some z) : g_Mi l g_KC 90 D ad cy zz yX6_tellCrowd wsX6_tellCrowd rm_X6_tellCrowd [.ref (ad o)] S z := by
  refine g_ofi hinj (cc := cX6_tellCrowd) (maxL := 4) (ret := (some .boolean)) (lv := [(0, .ref (ad o))]) (by decide) rfl (Nat.le_of_ble_eq_true rfl) rfl ?_
  intro x X hl hD ha hy hz
  subst hl hD ha hy hz
  unfold f_X6_tellCrowd at h
  refine g_aload_n X dX6_tellCrowd_0 0 rfl ?_
  refine g_getr X g_cX6 w_X6_tellCrowd_inX6 1 (by decide) w_X6_tellCrowd_15 hk_o rfl dX6_tellCrowd_1 h (fun a1 hk_a1 h => ?_)
  refine g_geti X g_cX2 w_X6_tellCrowd_inX2 3 (by decide) w_X6_tellCrowd_88 hk_a1 rfl dX6_tellCrowd_4 ?_
  refine g_bipush X (v := (8)) dX6_tellCrowd_7 (by decide) ?_
  refine g_icmp_lt X 18 dX6_tellCrowd_9 (by decide) h (fun c_9 h => ?_) (fun c_9 h => ?_)
  · skip
    refine g_aload_n X dX6_tellCrowd_18 0 rfl ?_
    refine g_iconst X (v := 0) dX6_tellCrowd_19 (by decide) ?_
    refine g_bipush X (v := (99)) dX6_tellCrowd_20 (by decide) ?_
    refine g_callVi X g_cX6 hk_o [.int ((0 : Int32)), .int ((99 : Int32))] rfl (cwV 2 X.2.2.2.2.1 gX6_tellCrowd_X6_takeNumber rfl rfl rfl hd_X6_takeNumber ⟨Nat.le_of_ble_eq_true rfl, Nat.le_of_ble_eq_true rfl⟩) (Nat.le_of_ble_eq_true rfl) dX6_tellCrowd_22 h (fun q hq => ct_X6_takeNumber X.2.2.2.2.2.2.1 o ((0 : Int32)) ((99 : Int32)) hk_o _ hq) (fun r2 Sr2 h => ?_)
    refine g_if_ne X 30 dX6_tellCrowd_25 (by decide) h (fun c_25 h => ?_) (fun c_25 h => ?_)
    · skip
      refine g_aload_n X dX6_tellCrowd_30 0 rfl ?_
      refine g_getr X g_cX6 w_X6_tellCrowd_inX6 0 (by decide) w_X6_tellCrowd_9 hk_o rfl dX6_tellCrowd_31 h (fun a3 hk_a3 h => ?_)
      refine g_geti X g_cX5 w_X6_tellCrowd_inX5 4 (by decide) w_X6_tellCrowd_78 hk_a3 rfl dX6_tellCrowd_34 ?_
      refine g_istore_n X [(1, _), (0, _)] dX6_tellCrowd_37 (by decide) rfl ?_
      refine g_aload_n X dX6_tellCrowd_38 1 rfl ?_
      refine g_iconst X (v := 1) dX6_tellCrowd_39 (by decide) ?_
      refine g_bipush X (v := (9)) dX6_tellCrowd_40 (by decide) ?_
      refine g_callVi X g_cX6 hk_o [.int ((1 : Int32)), .int ((9 : Int32))] rfl (cwV 2 X.2.2.2.2.1 gX6_tellCrowd_X6_takeNumber rfl rfl rfl hd_X6_takeNumber ⟨Nat.le_of_ble_eq_true rfl, Nat.le_of_ble_eq_true rfl⟩) (Nat.le_of_ble_eq_true rfl) dX6_tellCrowd_42 h (fun q hq => ct_X6_takeNumber X.2.2.2.2.2.2.1 o ((1 : Int32)) ((9 : Int32)) hk_o _ hq) (fun r4 Sr4 h => ?_)
      refine g_if_ne X 50 dX6_tellCrowd_45 (by decide) h (fun c_45 h => ?_) (fun c_45 h => ?_)
      · skip
        refine g_aload_n X dX6_tellCrowd_50 1 rfl ?_
        refine g_getr X g_cX6 w_X6_tellCrowd_inX6 0 (by decide) w_X6_tellCrowd_9 hk_o rfl dX6_tellCrowd_51 h (fun a5 hk_a5 h => ?_)
        refine g_geti X g_cX5 w_X6_tellCrowd_inX5 4 (by decide) w_X6_tellCrowd_78 hk_a5 rfl dX6_tellCrowd_54 ?_
        refine g_istore_n X [(2, _), (1, _), (0, _)] dX6_tellCrowd_57 (by decide) rfl ?_
        refine g_aload_n X dX6_tellCrowd_58 2 rfl ?_
        refine g_iconst X (v := 0) dX6_tellCrowd_59 (by decide) ?_
        refine g_bipush X (v := (9)) dX6_tellCrowd_60 (by decide) ?_
        refine g_callVi X g_cX6 hk_o [.int ((0 : Int32)), .int ((9 : Int32))] rfl (cwV 2 X.2.2.2.2.1 gX6_tellCrowd_X6_takeNumber rfl rfl rfl hd_X6_takeNumber ⟨Nat.le_of_ble_eq_true rfl, Nat.le_of_ble_eq_true rfl⟩) (Nat.le_of_ble_eq_true rfl) dX6_tellCrowd_62 h (fun q hq => ct_X6_takeNumber X.2.2.2.2.2.2.1 o ((0 : Int32)) ((9 : Int32)) hk_o _ hq) (fun r6 Sr6 h => ?_)
        refine g_if_ne X 70 dX6_tellCrowd_65 (by decide) h (fun c_65 h => ?_) (fun c_65 h => ?_)
        · skip
          refine g_aload_n X dX6_tellCrowd_70 2 rfl ?_
          refine g_getr X g_cX6 w_X6_tellCrowd_inX6 0 (by decide) w_X6_tellCrowd_9 hk_o rfl dX6_tellCrowd_71 h (fun a7 hk_a7 h => ?_)
          refine g_geti X g_cX5 w_X6_tellCrowd_inX5 4 (by decide) w_X6_tellCrowd_78 hk_a7 rfl dX6_tellCrowd_74 ?_
          refine g_istore_n X [(3, _), (2, _), (1, _), (0, _)] dX6_tellCrowd_77 (by decide) rfl ?_
          refine g_aload_n X dX6_tellCrowd_78 3 rfl ?_
          refine g_callVi X g_cX6 hk_o [] rfl (cwV 0 X.2.2.2.2.1 gX6_tellCrowd_X6_takeStop rfl rfl rfl hd_X6_takeStop ⟨Nat.le_of_ble_eq_true rfl, Nat.le_of_ble_eq_true rfl⟩) (Nat.le_of_ble_eq_true rfl) dX6_tellCrowd_79 h (fun q hq => ct_X6_takeStop X.2.2.2.2.2.2.1 o hk_o _ hq) (fun r8 Sr8 h => ?_)
          refine g_if_eq X 102 dX6_tellCrowd_82 (by decide) h (fun c_82 h => ?_) (fun c_82 h => ?_)
          · skip
            refine g_iconst X (v := 0) dX6_tellCrowd_102 (by decide) ?_
            exact g_zret X h dX6_tellCrowd_103
          · skip
            refine g_aload_n X dX6_tellCrowd_85 3 rfl ?_
            refine g_getr X g_cX6 w_X6_tellCrowd_inX6 1 (by decide) w_X6_tellCrowd_15 hk_o rfl dX6_tellCrowd_86 h (fun a9 hk_a9 h => ?_)
            refine g_iload_n X dX6_tellCrowd_89 2 rfl ?_
            refine g_iload_n X dX6_tellCrowd_90 1 rfl ?_
            refine g_iload_n X dX6_tellCrowd_91 0 rfl ?_
            refine g_callVi X g_cX2 hk_a9 [.int ((Sr2.1 a3 4)), .int ((Sr4.1 a5 4)), .int ((Sr6.1 a7 4))] rfl (cwV 3 X.2.2.2.2.1 gX6_tellCrowd_X2_addCrowd rfl rfl rfl hd_X2_addCrowd ⟨Nat.le_of_ble_eq_true rfl, Nat.le_of_ble_eq_true rfl⟩) (Nat.le_of_ble_eq_true rfl) dX6_tellCrowd_92 h (fun q hq => ct_X2_addCrowd X.2.2.2.2.2.2.1 a9 ((Sr2.1 a3 4)) ((Sr4.1 a5 4)) ((Sr6.1 a7 4)) hk_a9 _ hq) (fun r10 Sr10 h => ?_)
            refine g_if_eq X 102 dX6_tellCrowd_95 (by decide) h (fun c_95 h => ?_) (fun c_95 h => ?_)
            · skip
              refine g_iconst X (v := 0) dX6_tellCrowd_102 (by decide) ?_
              exact g_zret X h dX6_tellCrowd_103
            · skip
              refine g_iconst X (v := 1) dX6_tellCrowd_98 (by decide) ?_
              refine g_goto X 103 dX6_tellCrowd_99 (by decide) ?_
              exact g_zret X h dX6_tellCrowd_103
        · skip
          refine g_iconst X (v := 0) dX6_tellCrowd_68 (by decide) ?_
          exact g_zret X h dX6_tellCrowd_69
      · skip
        refine g_iconst X (v := 0) dX6_tellCrowd_48 (by decide) ?_
        exact g_zret X h dX6_tellCrowd_49
    · skip
      refine g_iconst X (v := 0) dX6_tellCrowd_28 (by decide) ?_
      exact g_zret X h dX6_tellCrowd_29
  · skip
    refine g_aload_n X dX6_tellCrowd_12 0 rfl ?_
    refine g_iconst X (v := 5) dX6_tellCrowd_13 (by decide) ?_
    refine g_callVi X g_cX6 hk_o [.int ((5 : Int32))] rfl (cwV 1 X.2.2.2.2.1 gX6_tellCrowd_X6_fail rfl rfl rfl hd_X6_fail ⟨Nat.le_of_ble_eq_true rfl, Nat.le_of_ble_eq_true rfl⟩) (Nat.le_of_ble_eq_true rfl) dX6_tellCrowd_14 h (fun q hq => ct_X6_fail X.2.2.2.2.2.2.1 o ((5 : Int32)) hk_o _ hq) (fun r11 Sr11 h => ?_)
    exact g_zret X h dX6_tellCrowd_17
abbrev rm_X6_tellDoor : Room := { frames := 4, cells := 0, slots := 0, locals := 82 }
theorem hd_X6_tellDoor : yX6_tellDoor.cls = RX6 ∧ yX6_tellDoor.cls ≠ "java/lang/invoke/MethodHandle" ∧ yX6_tellDoor.cls ≠ "java/lang/invoke/VarHandle" ∧ (parseMethodDescriptor yX6_tellDoor.desc).map (fun d => d.parameters.length) = some 1 := by decide +kernel
theorem w_X6_tellDoor_15 : Cond.fieldLink RX6 15 "TokenDoors$Teller" "draft" "LTokenDoors$Hall;" ∈ wsX6_tellDoor := by decide +kernel
theorem w_X6_tellDoor_inX6 : ∀ w ∈ wsX60, w ∈ wsX6_tellDoor := by decide +kernel
theorem w_X6_tellDoor_72 : Cond.fieldLink RX6 72 "TokenDoors$Hall" "doorCount" "I" ∈ wsX6_tellDoor := by decide +kernel
theorem w_X6_tellDoor_inX2 : ∀ w ∈ wsX20, w ∈ wsX6_tellDoor := by decide +kernel
theorem w_X6_tellDoor_9 : Cond.fieldLink RX6 9 "TokenDoors$Teller" "tape" "LTokenDoors$Tape;" ∈ wsX6_tellDoor := by decide +kernel
theorem w_X6_tellDoor_78 : Cond.fieldLink RX6 78 "TokenDoors$Tape" "value" "I" ∈ wsX6_tellDoor := by decide +kernel
theorem w_X6_tellDoor_inX5 : ∀ w ∈ wsX50, w ∈ wsX6_tellDoor := by decide +kernel
def f_X6_tellDoor (fu : Nat) (o : Nat) (p0 : Int32) (S : g_St) : Option (Int32 × g_St) :=
  g_ld g_KC 90 g_kX2 (S.2 o 1) fun a1 => if (S.1 a1 2) < (4 : Int32) then (g_bd (f_X6_takeNumber fu o ((1 : Int32)) ((9 : Int32)) S) fun r2 Sr2 => if r2 = 0 then (g_zb (0 : Int32) (some ((0 : Int32), Sr2))) else (g_ld g_KC 90 g_kX5 (Sr2.2 o 0) fun a3 => g_bd (f_X6_takeNumber fu o ((0 : Int32)) ((9 : Int32)) Sr2) fun r4 Sr4 => if r4 = 0 then (g_zb (0 : Int32) (some ((0 : Int32), Sr4))) else (g_ld g_KC 90 g_kX5 (Sr4.2 o 0) fun a5 => g_bd (f_X6_takeStop fu o Sr4) fun r6 Sr6 => if r6 = 0 then (g_zb (0 : Int32) (some ((0 : Int32), Sr6))) else (g_ld g_KC 90 g_kX2 (Sr6.2 o 1) fun a7 => g_bd (f_X2_addDoor fu a7 p0 ((Sr2.1 a3 4)) ((Sr4.1 a5 4)) Sr6) fun r8 Sr8 => if r8 = 0 then (g_zb (0 : Int32) (some ((0 : Int32), Sr8))) else (g_zb (1 : Int32) (some ((1 : Int32), Sr8))))))) else (g_bd (f_X6_fail fu o ((5 : Int32)) S) fun r9 Sr9 => g_zb r9 (some (r9, Sr9)))
set_option maxRecDepth 100000 in
set_option maxHeartbeats 400000 in
theorem ct_X6_tellDoor {l : Launch} {D : va_G} {ad : Nat → Nat} {cy : Nat → ClassId} {zz : (Nat → Nat) × (Nat → Nat)} (hinj : ∀ i j, i < 90 → j < 90 → ad i = ad j → i = j) {fu : Nat} (o : Nat) (p0 : Int32) (hk_o : o < 90 ∧ g_KC o = g_kX6) {S : g_St} (z : Int32 × g_St) (h : f_X6_tellDoor fu o p0 S = some z) : g_Mi l g_KC 90 D ad cy zz yX6_tellDoor wsX6_tellDoor rm_X6_tellDoor [.ref (ad o), .int (p0)] S z := by
  refine g_ofi hinj (cc := cX6_tellDoor) (maxL := 4) (ret := (some .boolean)) (lv := [(0, .ref (ad o)), (1, .int (p0))]) (by decide) rfl (Nat.le_of_ble_eq_true rfl) rfl ?_
  intro x X hl hD ha hy hz
  subst hl hD ha hy hz
  unfold f_X6_tellDoor at h
  refine g_aload_n X dX6_tellDoor_0 0 rfl ?_
  refine g_getr X g_cX6 w_X6_tellDoor_inX6 1 (by decide) w_X6_tellDoor_15 hk_o rfl dX6_tellDoor_1 h (fun a1 hk_a1 h => ?_)
  refine g_geti X g_cX2 w_X6_tellDoor_inX2 2 (by decide) w_X6_tellDoor_72 hk_a1 rfl dX6_tellDoor_4 ?_
  refine g_iconst X (v := 4) dX6_tellDoor_7 (by decide) ?_
  refine g_icmp_lt X 17 dX6_tellDoor_8 (by decide) h (fun c_8 h => ?_) (fun c_8 h => ?_)
  · skip
    refine g_aload_n X dX6_tellDoor_17 0 rfl ?_
    refine g_iconst X (v := 1) dX6_tellDoor_18 (by decide) ?_
    refine g_bipush X (v := (9)) dX6_tellDoor_19 (by decide) ?_
    refine g_callVi X g_cX6 hk_o [.int ((1 : Int32)), .int ((9 : Int32))] rfl (cwV 2 X.2.2.2.2.1 gX6_tellDoor_X6_takeNumber rfl rfl rfl hd_X6_takeNumber ⟨Nat.le_of_ble_eq_true rfl, Nat.le_of_ble_eq_true rfl⟩) (Nat.le_of_ble_eq_true rfl) dX6_tellDoor_21 h (fun q hq => ct_X6_takeNumber X.2.2.2.2.2.2.1 o ((1 : Int32)) ((9 : Int32)) hk_o _ hq) (fun r2 Sr2 h => ?_)
    refine g_if_ne X 29 dX6_tellDoor_24 (by decide) h (fun c_24 h => ?_) (fun c_24 h => ?_)
    · skip
      refine g_aload_n X dX6_tellDoor_29 0 rfl ?_
      refine g_getr X g_cX6 w_X6_tellDoor_inX6 0 (by decide) w_X6_tellDoor_9 hk_o rfl dX6_tellDoor_30 h (fun a3 hk_a3 h => ?_)
      refine g_geti X g_cX5 w_X6_tellDoor_inX5 4 (by decide) w_X6_tellDoor_78 hk_a3 rfl dX6_tellDoor_33 ?_
      refine g_istore_n X [(2, _), (0, _), (1, _)] dX6_tellDoor_36 (by decide) rfl ?_
      refine g_aload_n X dX6_tellDoor_37 1 rfl ?_
      refine g_iconst X (v := 0) dX6_tellDoor_38 (by decide) ?_
      refine g_bipush X (v := (9)) dX6_tellDoor_39 (by decide) ?_
      refine g_callVi X g_cX6 hk_o [.int ((0 : Int32)), .int ((9 : Int32))] rfl (cwV 2 X.2.2.2.2.1 gX6_tellDoor_X6_takeNumber rfl rfl rfl hd_X6_takeNumber ⟨Nat.le_of_ble_eq_true rfl, Nat.le_of_ble_eq_true rfl⟩) (Nat.le_of_ble_eq_true rfl) dX6_tellDoor_41 h (fun q hq => ct_X6_takeNumber X.2.2.2.2.2.2.1 o ((0 : Int32)) ((9 : Int32)) hk_o _ hq) (fun r4 Sr4 h => ?_)
      refine g_if_ne X 49 dX6_tellDoor_44 (by decide) h (fun c_44 h => ?_) (fun c_44 h => ?_)
      · skip
        refine g_aload_n X dX6_tellDoor_49 1 rfl ?_
        refine g_getr X g_cX6 w_X6_tellDoor_inX6 0 (by decide) w_X6_tellDoor_9 hk_o rfl dX6_tellDoor_50 h (fun a5 hk_a5 h => ?_)
        refine g_geti X g_cX5 w_X6_tellDoor_inX5 4 (by decide) w_X6_tellDoor_78 hk_a5 rfl dX6_tellDoor_53 ?_
        refine g_istore_n X [(3, _), (2, _), (0, _), (1, _)] dX6_tellDoor_56 (by decide) rfl ?_
        refine g_aload_n X dX6_tellDoor_57 2 rfl ?_
        refine g_callVi X g_cX6 hk_o [] rfl (cwV 0 X.2.2.2.2.1 gX6_tellDoor_X6_takeStop rfl rfl rfl hd_X6_takeStop ⟨Nat.le_of_ble_eq_true rfl, Nat.le_of_ble_eq_true rfl⟩) (Nat.le_of_ble_eq_true rfl) dX6_tellDoor_58 h (fun q hq => ct_X6_takeStop X.2.2.2.2.2.2.1 o hk_o _ hq) (fun r6 Sr6 h => ?_)
        refine g_if_eq X 81 dX6_tellDoor_61 (by decide) h (fun c_61 h => ?_) (fun c_61 h => ?_)
        · skip
          refine g_iconst X (v := 0) dX6_tellDoor_81 (by decide) ?_
          exact g_zret X h dX6_tellDoor_82
        · skip
          refine g_aload_n X dX6_tellDoor_64 2 rfl ?_
          refine g_getr X g_cX6 w_X6_tellDoor_inX6 1 (by decide) w_X6_tellDoor_15 hk_o rfl dX6_tellDoor_65 h (fun a7 hk_a7 h => ?_)
          refine g_iload_n X dX6_tellDoor_68 3 rfl ?_
          refine g_iload_n X dX6_tellDoor_69 1 rfl ?_
          refine g_iload_n X dX6_tellDoor_70 0 rfl ?_
          refine g_callVi X g_cX2 hk_a7 [.int (p0), .int ((Sr2.1 a3 4)), .int ((Sr4.1 a5 4))] rfl (cwV 3 X.2.2.2.2.1 gX6_tellDoor_X2_addDoor rfl rfl rfl hd_X2_addDoor ⟨Nat.le_of_ble_eq_true rfl, Nat.le_of_ble_eq_true rfl⟩) (Nat.le_of_ble_eq_true rfl) dX6_tellDoor_71 h (fun q hq => ct_X2_addDoor X.2.2.2.2.2.2.1 a7 p0 ((Sr2.1 a3 4)) ((Sr4.1 a5 4)) hk_a7 _ hq) (fun r8 Sr8 h => ?_)
          refine g_if_eq X 81 dX6_tellDoor_74 (by decide) h (fun c_74 h => ?_) (fun c_74 h => ?_)
          · skip
            refine g_iconst X (v := 0) dX6_tellDoor_81 (by decide) ?_
            exact g_zret X h dX6_tellDoor_82
          · skip
            refine g_iconst X (v := 1) dX6_tellDoor_77 (by decide) ?_
            refine g_goto X 82 dX6_tellDoor_78 (by decide) ?_
            exact g_zret X h dX6_tellDoor_82
      · skip
        refine g_iconst X (v := 0) dX6_tellDoor_47 (by decide) ?_
        exact g_zret X h dX6_tellDoor_48
    · skip
      refine g_iconst X (v := 0) dX6_tellDoor_27 (by decide) ?_
      exact g_zret X h dX6_tellDoor_28
  · skip
    refine g_aload_n X dX6_tellDoor_11 0 rfl ?_
    refine g_iconst X (v := 5) dX6_tellDoor_12 (by decide) ?_
    refine g_callVi X g_cX6 hk_o [.int ((5 : Int32))] rfl (cwV 1 X.2.2.2.2.1 gX6_tellDoor_X6_fail rfl rfl rfl hd_X6_fail ⟨Nat.le_of_ble_eq_true rfl, Nat.le_of_ble_eq_true rfl⟩) (Nat.le_of_ble_eq_true rfl) dX6_tellDoor_13 h (fun q hq => ct_X6_fail X.2.2.2.2.2.2.1 o ((5 : Int32)) hk_o _ hq) (fun r9 Sr9 h => ?_)
    exact g_zret X h dX6_tellDoor_16
abbrev rm_X6_tellLine : Room := { frames := 6, cells := 0, slots := 0, locals := 127 }
theorem hd_X6_tellLine : yX6_tellLine.cls = RX6 ∧ yX6_tellLine.cls ≠ "java/lang/invoke/MethodHandle" ∧ yX6_tellLine.cls ≠ "java/lang/invoke/VarHandle" ∧ (parseMethodDescriptor yX6_tellLine.desc).map (fun d => d.parameters.length) = some 1 := by decide +kernel
def f_X6_tellLine (fu : Nat) (o : Nat) (p0 : Int32) (S : g_St) : Option (Int32 × g_St) :=
  g_bd (f_X6_expect fu o p0 ((1 : Int32)) S) fun r1 Sr1 => if r1 = 0 then (g_zb (0 : Int32) (some ((0 : Int32), Sr1))) else (g_bd (f_X6_lineBegun fu o Sr1) fun r2 Sr2 => if r2 = (5 : Int32) then (g_bd (f_X6_fail fu o ((2 : Int32)) Sr2) fun r5 Sr5 => g_zb r5 (some (r5, Sr5))) else (if r2 = (4 : Int32) then (g_bd (f_X6_tellCrowd fu o Sr2) fun r4 Sr4 => g_zb r4 (some (r4, Sr4))) else (g_bd (f_X6_tellDoor fu o r2 Sr2) fun r3 Sr3 => g_zb r3 (some (r3, Sr3)))))
set_option maxRecDepth 100000 in
set_option maxHeartbeats 400000 in
theorem ct_X6_tellLine {l : Launch} {D : va_G} {ad : Nat → Nat} {cy : Nat → ClassId} {zz : (Nat → Nat) × (Nat → Nat)} (hinj : ∀ i j, i < 90 → j < 90 → ad i = ad j → i = j) {fu : Nat} (o : Nat) (p0 : Int32) (hk_o : o < 90 ∧ g_KC o = g_kX6) {S : g_St} (z : Int32 × g_St) (h : f_X6_tellLine fu o p0 S = some z) : g_Mi l g_KC 90 D ad cy zz yX6_tellLine wsX6_tellLine rm_X6_tellLine [.ref (ad o), .int (p0)] S z := by
  refine g_ofi hinj (cc := cX6_tellLine) (maxL := 3) (ret := (some .boolean)) (lv := [(0, .ref (ad o)), (1, .int (p0))]) (by decide) rfl (Nat.le_of_ble_eq_true rfl) rfl ?_
  intro x X hl hD ha hy hz
  subst hl hD ha hy hz
  unfold f_X6_tellLine at h
  refine g_aload_n X dX6_tellLine_0 0 rfl ?_
  refine g_iload_n X dX6_tellLine_1 1 rfl ?_
  refine g_iconst X (v := 1) dX6_tellLine_2 (by decide) ?_
  refine g_callVi X g_cX6 hk_o [.int (p0), .int ((1 : Int32))] rfl (cwV 2 X.2.2.2.2.1 gX6_tellLine_X6_expect rfl rfl rfl hd_X6_expect ⟨Nat.le_of_ble_eq_true rfl, Nat.le_of_ble_eq_true rfl⟩) (Nat.le_of_ble_eq_true rfl) dX6_tellLine_3 h (fun q hq => ct_X6_expect X.2.2.2.2.2.2.1 o p0 ((1 : Int32)) hk_o _ hq) (fun r1 Sr1 h => ?_)
  refine g_if_ne X 11 dX6_tellLine_6 (by decide) h (fun c_6 h => ?_) (fun c_6 h => ?_)
  · skip
    refine g_aload_n X dX6_tellLine_11 0 rfl ?_
    refine g_callVi X g_cX6 hk_o [] rfl (cwV 0 X.2.2.2.2.1 gX6_tellLine_X6_lineBegun rfl rfl rfl hd_X6_lineBegun ⟨Nat.le_of_ble_eq_true rfl, Nat.le_of_ble_eq_true rfl⟩) (Nat.le_of_ble_eq_true rfl) dX6_tellLine_12 h (fun q hq => ct_X6_lineBegun X.2.2.2.2.2.2.1 o hk_o _ hq) (fun r2 Sr2 h => ?_)
    refine g_istore_n X [(2, _), (0, _), (1, _)] dX6_tellLine_15 (by decide) rfl ?_
    refine g_iload_n X dX6_tellLine_16 0 rfl ?_
    refine g_iconst X (v := 5) dX6_tellLine_17 (by decide) ?_
    refine g_icmp_ne X 27 dX6_tellLine_18 (by decide) h (fun c_18 h => ?_) (fun c_18 h => ?_)
    · skip
      refine g_iload_n X dX6_tellLine_27 0 rfl ?_
      refine g_iconst X (v := 4) dX6_tellLine_28 (by decide) ?_
      refine g_icmp_ne X 39 dX6_tellLine_29 (by decide) h (fun c_29 h => ?_) (fun c_29 h => ?_)
      · skip
        refine g_aload_n X dX6_tellLine_39 1 rfl ?_
        refine g_iload_n X dX6_tellLine_40 0 rfl ?_
        refine g_callVi X g_cX6 hk_o [.int (r2)] rfl (cwV 1 X.2.2.2.2.1 gX6_tellLine_X6_tellDoor rfl rfl rfl hd_X6_tellDoor ⟨Nat.le_of_ble_eq_true rfl, Nat.le_of_ble_eq_true rfl⟩) (Nat.le_of_ble_eq_true rfl) dX6_tellLine_41 h (fun q hq => ct_X6_tellDoor X.2.2.2.2.2.2.1 o r2 hk_o _ hq) (fun r3 Sr3 h => ?_)
        exact g_zret X h dX6_tellLine_44
      · skip
        refine g_aload_n X dX6_tellLine_32 1 rfl ?_
        refine g_callVi X g_cX6 hk_o [] rfl (cwV 0 X.2.2.2.2.1 gX6_tellLine_X6_tellCrowd rfl rfl rfl hd_X6_tellCrowd ⟨Nat.le_of_ble_eq_true rfl, Nat.le_of_ble_eq_true rfl⟩) (Nat.le_of_ble_eq_true rfl) dX6_tellLine_33 h (fun q hq => ct_X6_tellCrowd X.2.2.2.2.2.2.1 o hk_o _ hq) (fun r4 Sr4 h => ?_)
        refine g_goto X 44 dX6_tellLine_36 (by decide) ?_
        exact g_zret X h dX6_tellLine_44
    · skip
      refine g_aload_n X dX6_tellLine_21 1 rfl ?_
      refine g_iconst X (v := 2) dX6_tellLine_22 (by decide) ?_
      refine g_callVi X g_cX6 hk_o [.int ((2 : Int32))] rfl (cwV 1 X.2.2.2.2.1 gX6_tellLine_X6_fail rfl rfl rfl hd_X6_fail ⟨Nat.le_of_ble_eq_true rfl, Nat.le_of_ble_eq_true rfl⟩) (Nat.le_of_ble_eq_true rfl) dX6_tellLine_23 h (fun q hq => ct_X6_fail X.2.2.2.2.2.2.1 o ((2 : Int32)) hk_o _ hq) (fun r5 Sr5 h => ?_)
      exact g_zret X h dX6_tellLine_26
  · skip
    refine g_iconst X (v := 0) dX6_tellLine_9 (by decide) ?_
    exact g_zret X h dX6_tellLine_10
abbrev rm_X6_tellAll : Room := { frames := 7, cells := 0, slots := 0, locals := 149 }
theorem hd_X6_tellAll : yX6_tellAll.cls = RX6 ∧ yX6_tellAll.cls ≠ "java/lang/invoke/MethodHandle" ∧ yX6_tellAll.cls ≠ "java/lang/invoke/VarHandle" ∧ (parseMethodDescriptor yX6_tellAll.desc).map (fun d => d.parameters.length) = some 0 := by decide +kernel
theorem w_X6_tellAll_15 : Cond.fieldLink RX6 15 "TokenDoors$Teller" "draft" "LTokenDoors$Hall;" ∈ wsX6_tellAll := by decide +kernel
theorem w_X6_tellAll_inX6 : ∀ w ∈ wsX60, w ∈ wsX6_tellAll := by decide +kernel
theorem w_X6_tellAll_24 : Cond.fieldLink RX6 24 "TokenDoors$Teller" "found" "I" ∈ wsX6_tellAll := by decide +kernel
theorem w_X6_tellAll_9 : Cond.fieldLink RX6 9 "TokenDoors$Teller" "tape" "LTokenDoors$Tape;" ∈ wsX6_tellAll := by decide +kernel
theorem w_X6_tellAll_28 : Cond.fieldLink RX6 28 "TokenDoors$Tape" "next" "I" ∈ wsX6_tellAll := by decide +kernel
theorem w_X6_tellAll_inX5 : ∀ w ∈ wsX50, w ∈ wsX6_tellAll := by decide +kernel
def b_X6_tellAll_24 (fu : Nat) (v0 : Nat) (v1 : Int32) (v2 : Int32) (S : g_St) : Option ((Int32 × Int32 × g_St) ⊕ (Int32 × g_St)) :=
  if (160 : Int32) < v2 then (some (.inr (v1, S))) else (g_ld g_KC 90 g_kX5 (S.2 v0 0) fun a4 => g_bd (f_X5_advance fu a4 S) fun r5 Sr5 => if r5 = 0 then (some (.inr (v1, Sr5))) else (g_bd (f_X6_tellLine fu v0 r5 Sr5) fun r6 Sr6 => if r6 = 0 then (some (.inr (v1, Sr6))) else (some (.inl ((v1 + 1), (v2 + 1), Sr6)))))
def f_X6_tellAll (fu : Nat) (o : Nat) (S : g_St) : Option (Int32 × g_St) :=
  g_ld g_KC 90 g_kX2 (S.2 o 1) fun a1 => g_bd (f_X2_clear fu a1 S) fun _ Sr2 => g_ld g_KC 90 g_kX5 (Sr2.2 o 0) fun a3 => g_th (g_lp (fun t => b_X6_tellAll_24 fu o t.1 t.2.1 t.2.2) fu ((0 : Int32), (0 : Int32), (g_u (g_u Sr2.1 o 2 (0 : Int32)) a3 2 (0 : Int32), Sr2.2))) fun e => match e with | (w1_1, S1) => some (w1_1, S1)
set_option maxRecDepth 100000 in
set_option maxHeartbeats 400000 in
theorem vb_X6_tellAll_24 {x : g_CX} {z : Int32 × g_St} {fu : Nat} (X : g_X 90 x cX6_tellAll RX6 4 wsX6_tellAll rm_X6_tellAll (some .int)) (v0 : Nat) (v1 : Int32) (v2 : Int32) (hk_v0 : v0 < 90 ∧ g_KC v0 = g_kX6) (S : g_St) {r : (Int32 × Int32 × g_St) ⊕ (Int32 × g_St)} (h : b_X6_tellAll_24 fu v0 v1 v2 S = some r) (hc : Sum.elim (fun t : Int32 × Int32 × g_St => g_V g_KC 90 x 4 (g_qi g_KC 90 x z) t.2.2 24 [(0, .ref (g_ad x v0)), (1, .int (t.1)), (2, .int (t.2.1))] []) (fun e : Int32 × g_St => g_V g_KC 90 x 4 (g_qi g_KC 90 x z) e.2 63 [(1, .int (e.1))] []) r) : g_V g_KC 90 x 4 (g_qi g_KC 90 x z) S 24 [(0, .ref (g_ad x v0)), (1, .int (v1)), (2, .int (v2))] [] := by
  unfold b_X6_tellAll_24 at h
  refine g_iload_n X dX6_tellAll_24 2 rfl ?_
  refine g_sipush X (v := (160)) dX6_tellAll_25 (by decide) ?_
  refine g_icmp_gt X 63 dX6_tellAll_28 (by decide) h (fun c_28 h => ?_) (fun c_28 h => ?_)
  · skip
    cases h
    exact g_sub [1] _ rfl hc
  · skip
    refine g_aload_n X dX6_tellAll_31 0 rfl ?_
    refine g_getr X g_cX6 w_X6_tellAll_inX6 0 (by decide) w_X6_tellAll_9 hk_v0 rfl dX6_tellAll_32 h (fun a4 hk_a4 h => ?_)
    refine g_callVi X g_cX5 hk_a4 [] rfl (cwV 0 X.2.2.2.2.1 gX6_tellAll_X5_advance rfl rfl rfl hd_X5_advance ⟨Nat.le_of_ble_eq_true rfl, Nat.le_of_ble_eq_true rfl⟩) (Nat.le_of_ble_eq_true rfl) dX6_tellAll_35 h (fun q hq => ct_X5_advance X.2.2.2.2.2.2.1 a4 hk_a4 _ hq) (fun r5 Sr5 h => ?_)
    refine g_istore_n X [(3, _), (0, _), (1, _), (2, _)] dX6_tellAll_38 (by decide) rfl ?_
    refine g_iload_n X dX6_tellAll_39 0 rfl ?_
    refine g_if_eq X 63 dX6_tellAll_40 (by decide) h (fun c_40 h => ?_) (fun c_40 h => ?_)
    · skip
      cases h
      exact g_sub [2] _ rfl hc
    · skip
      refine g_aload_n X dX6_tellAll_43 1 rfl ?_
      refine g_iload_n X dX6_tellAll_44 0 rfl ?_
      refine g_callVi X g_cX6 hk_v0 [.int (r5)] rfl (cwV 1 X.2.2.2.2.1 gX6_tellAll_X6_tellLine rfl rfl rfl hd_X6_tellLine ⟨Nat.le_of_ble_eq_true rfl, Nat.le_of_ble_eq_true rfl⟩) (Nat.le_of_ble_eq_true rfl) dX6_tellAll_45 h (fun q hq => ct_X6_tellLine X.2.2.2.2.2.2.1 v0 r5 hk_v0 _ hq) (fun r6 Sr6 h => ?_)
      refine g_if_ne X 54 dX6_tellAll_48 (by decide) h (fun c_48 h => ?_) (fun c_48 h => ?_)
      · skip
        refine g_iinc X [(1, _), (3, _), (0, _), (2, _)] dX6_tellAll_54 2 rfl rfl (by decide) rfl ?_
        refine g_iinc X [(2, _), (1, _), (3, _), (0, _)] dX6_tellAll_57 3 rfl rfl (by decide) rfl ?_
        refine g_goto X 24 dX6_tellAll_60 (by decide) ?_
        cases h
        exact g_sub [3, 1, 0] _ rfl hc
      · skip
        refine g_goto X 63 dX6_tellAll_51 (by decide) ?_
        cases h
        exact g_sub [2] _ rfl hc
set_option maxRecDepth 100000 in
set_option maxHeartbeats 400000 in
theorem ct_X6_tellAll {l : Launch} {D : va_G} {ad : Nat → Nat} {cy : Nat → ClassId} {zz : (Nat → Nat) × (Nat → Nat)} (hinj : ∀ i j, i < 90 → j < 90 → ad i = ad j → i = j) {fu : Nat} (o : Nat) (hk_o : o < 90 ∧ g_KC o = g_kX6) {S : g_St} (z : Int32 × g_St) (h : f_X6_tellAll fu o S = some z) : g_Mi l g_KC 90 D ad cy zz yX6_tellAll wsX6_tellAll rm_X6_tellAll [.ref (ad o)] S z := by
  refine g_ofi hinj (cc := cX6_tellAll) (maxL := 4) (ret := (some .int)) (lv := [(0, .ref (ad o))]) (by decide) rfl (Nat.le_of_ble_eq_true rfl) rfl ?_
  intro x X hl hD ha hy hz
  subst hl hD ha hy hz
  unfold f_X6_tellAll at h
  refine g_aload_n X dX6_tellAll_0 0 rfl ?_
  refine g_getr X g_cX6 w_X6_tellAll_inX6 1 (by decide) w_X6_tellAll_15 hk_o rfl dX6_tellAll_1 h (fun a1 hk_a1 h => ?_)
  refine g_callVv X g_cX2 hk_a1 [] rfl (cwV 0 X.2.2.2.2.1 gX6_tellAll_X2_clear rfl rfl rfl hd_X2_clear ⟨Nat.le_of_ble_eq_true rfl, Nat.le_of_ble_eq_true rfl⟩) (Nat.le_of_ble_eq_true rfl) dX6_tellAll_4 h (fun q hq => ct_X2_clear X.2.2.2.2.2.2.1 a1 hk_a1 _ hq) (fun _ Sr2 h => ?_)
  refine g_aload_n X dX6_tellAll_7 0 rfl ?_
  refine g_iconst X (v := 0) dX6_tellAll_8 (by decide) ?_
  refine g_puti X g_cX6 w_X6_tellAll_inX6 2 (by decide) w_X6_tellAll_24 hk_o rfl rfl (t := .int) (by decide +kernel) rfl rfl dX6_tellAll_9 ?_
  refine g_aload_n X dX6_tellAll_12 0 rfl ?_
  refine g_getr X g_cX6 w_X6_tellAll_inX6 0 (by decide) w_X6_tellAll_9 hk_o rfl dX6_tellAll_13 h (fun a3 hk_a3 h => ?_)
  refine g_iconst X (v := 0) dX6_tellAll_16 (by decide) ?_
  refine g_puti X g_cX5 w_X6_tellAll_inX5 2 (by decide) w_X6_tellAll_28 hk_a3 rfl rfl (t := .int) (by decide +kernel) rfl rfl dX6_tellAll_17 ?_
  refine g_iconst X (v := 0) dX6_tellAll_20 (by decide) ?_
  refine g_istore_n X [(1, _), (0, _)] dX6_tellAll_21 (by decide) rfl ?_
  refine g_iconst X (v := 0) dX6_tellAll_22 (by decide) ?_
  refine g_istore_n X [(2, _), (1, _), (0, _)] dX6_tellAll_23 (by decide) rfl ?_
  obtain ⟨e, he, h⟩ := g_th_s h
  refine g_sub [2, 1, 0] _ rfl ?_
  refine g_lp_w (body := (fun t => b_X6_tellAll_24 fu o t.1 t.2.1 t.2.2)) (P := fun t : Int32 × Int32 × g_St => g_V g_KC 90 x 4 (g_qi g_KC 90 x z) t.2.2 24 [(0, .ref (g_ad x o)), (1, .int (t.1)), (2, .int (t.2.1))] []) (E := (fun e : Int32 × g_St => g_V g_KC 90 x 4 (g_qi g_KC 90 x z) e.2 63 [(1, .int (e.1))] [])) (fun t r hb hc => vb_X6_tellAll_24 X o t.1 t.2.1 hk_o t.2.2 hb hc) fu ((0 : Int32), (0 : Int32), (g_u (g_u Sr2.1 o 2 (0 : Int32)) a3 2 (0 : Int32), Sr2.2)) e he ?_
  obtain ⟨w1_1, S1⟩ := e
  show g_V g_KC 90 x 4 (g_qi g_KC 90 x z) S1 63 [(1, .int (w1_1))] []
  refine g_iload_n X dX6_tellAll_63 0 rfl ?_
  exact g_iret X h dX6_tellAll_64
