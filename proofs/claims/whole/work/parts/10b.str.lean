/-! ===== String constants: rows, and the contracts of the JDK's members that read them ===== -/
/-- the char at place j of the text i -/
def g_ch (i j : Nat) : Int32 := (((g_byt.getD i []).getD j 0 &&& 255).toUInt32 % 65536).toInt32
section GS
variable {K : Nat → g_Kd} {N : Nat} {x : g_CX} {cc : ByteArray} {own : String} {nL : Nat} {Ts : List Cond} {rm : Room} {ret : Option FieldType} {Q : State → Prop} {S : g_St} {pc : Nat} {lv : List (Nat × Value)} {rest : List Value}
theorem g_ldcS (X : g_X N x cc RX6 nL Ts rm ret) {index : Nat} (i : Nat) (hi : i < 5) (hx : g_sk.getD i 0 = index) (d : decode cc pc = .ok (.ldc index, 2))
    (k : g_V K N x nL Q S (pc + 2) lv (.ref ((g_zz x).1 i) :: rest)) : g_V K N x nL Q S pc lv rest := by
  subst hx
  exact fun H locs ls hP hS hl => va_ldcS X.1 X.2.1 X.2.2.2.1 (X.2.2.2.2.2.2.2.2.2.2.2.1 i hi) d (k H locs ls hP hS hl)
theorem g_getSV (X : g_X N x cc own nL Ts rm ret) {index i : Nat} (hi : i < 5) (w : Cond.fieldLink own index "java/lang/String" "value" "[B" ∈ Ts) (d : decode cc pc = .ok (.getfield index, 3))
    (k : g_V K N x nL Q S (pc + 3) lv (.ref ((g_zz x).2 i) :: rest)) : g_V K N x nL Q S pc lv (.ref ((g_zz x).1 i) :: rest) :=
  fun H locs ls hP hS hl => vk_getf X.1 X.2.1 (X.2.2.2.2.2.2.2.2.2.2.1.1 i hi).2.2.1 hS X.2.2.2.1 (X.2.2.2.2.1 _ w) (fun _ h => h) d (k H locs ls hP hS hl)
theorem g_getSC (X : g_X N x cc own nL Ts rm ret) {index i : Nat} (hi : i < 5) (w : Cond.fieldLink own index "java/lang/String" "coder" "B" ∈ Ts) (d : decode cc pc = .ok (.getfield index, 3))
    (k : g_V K N x nL Q S (pc + 3) lv (.int 0 :: rest)) : g_V K N x nL Q S pc lv (.ref ((g_zz x).1 i) :: rest) :=
  fun H locs ls hP hS hl => vk_getf X.1 X.2.1 (X.2.2.2.2.2.2.2.2.2.2.1.1 i hi).2.1 hS X.2.2.2.1 (X.2.2.2.2.1 _ w) (fun _ h => h) d (k H locs ls hP hS hl)
theorem g_lenS (X : g_X N x cc own nL Ts rm ret) {i : Nat} (hi : i < 5) (d : decode cc pc = .ok (.arraylength, 1))
    (k : g_V K N x nL Q S (pc + 1) lv (.int (nI (g_len.getD i 0)) :: rest)) : g_V K N x nL Q S pc lv (.ref ((g_zz x).2 i) :: rest) :=
  fun H locs ls hP hS hl => va_tlen X.1 X.2.1 (X.2.2.2.2.2.2.2.2.2.2.1.1 i hi).2.2.2 hS rfl d (k H locs ls hP hS hl)
theorem g_baldS (X : g_X N x cc own nL Ts rm ret) {i : Nat} {j : Int32} (hi : i < 5) (hj : vp_in j (g_len.getD i 0)) (d : decode cc pc = .ok (.baload, 1))
    (k : g_V K N x nL Q S (pc + 1) lv (.int ((g_byt.getD i []).getD j.toNatClampNeg 0) :: rest)) : g_V K N x nL Q S pc lv (.int j :: .ref ((g_zz x).2 i) :: rest) :=
  fun H locs ls hP hS hl => va_tb X.1 X.2.1 (X.2.2.2.2.2.2.2.2.2.2.1.1 i hi).2.2.2 hS hj rfl d (k H locs ls hP hS hl)
theorem g_getsC (X : g_X N x cc own nL Ts rm ret) {index : Nat} (w : Cond.fieldLink own index "java/lang/String" "COMPACT_STRINGS" "Z" ∈ Ts) (d : decode cc pc = .ok (.getstatic index, 3))
    (k : g_V K N x nL Q S (pc + 3) lv (.int 1 :: rest)) : g_V K N x nL Q S pc lv rest :=
  fun H locs ls hP hS hl => va_gets X.1 X.2.1 X.2.2.2.2.2.2.2.2.2.2.2.2.1 hS X.2.2.2.1 (X.2.2.2.2.1 _ w) (fun _ h => h) d (k H locs ls hP hS hl)
theorem g_getsF (X : g_X N x cc own nL Ts rm ret) {index : Nat} (w : Cond.fieldLink own index "jdk/internal/util/Preconditions" "SIOOBE_FORMATTER" "Ljava/util/function/BiFunction;" ∈ Ts) (d : decode cc pc = .ok (.getstatic index, 3))
    (k0 : g_V K N x nL Q S (pc + 3) lv (.null :: rest)) (k1 : ∀ t, g_V K N x nL Q S (pc + 3) lv (.ref t :: rest)) : g_V K N x nL Q S pc lv rest := by
  intro H locs ls hP hS hl
  rcases X.2.2.2.2.2.2.2.2.2.2.2.2.2 with hZ | ⟨t, hZ⟩
  · exact va_gets X.1 X.2.1 hZ hS X.2.2.2.1 (X.2.2.2.2.1 _ w) (fun _ h => h) d (k0 H locs ls hP hS hl)
  · exact va_gets X.1 X.2.1 hZ hS X.2.2.2.1 (X.2.2.2.2.1 _ w) (fun _ h => h) d (k1 t H locs ls hP hS hl)
theorem g_i2c (X : g_X N x cc own nL Ts rm ret) {a : Int32} (d : decode cc pc = .ok (.i2c, 1))
    (k : g_V K N x nL Q S (pc + 1) lv (.int (a.toUInt32 % 65536).toInt32 :: rest)) : g_V K N x nL Q S pc lv (.int a :: rest) :=
  fun H locs ls hP hS hl => lv_i2c X.1 X.2.1 d rfl (k H locs ls hP hS hl)
/-- a small type is answered -/
theorem g_nret {ty : FieldType} (X : g_X N x cc own nL Ts rm (some ty)) {v : Int32} {z : Int32 × g_St} (hn : narrow ty (.int v) = .int v) (h : (v, S) = z) (d : decode cc pc = .ok (.ireturn, 1)) : g_V K N x nL (g_qi K N x z) S pc lv [.int v] := by
  intro H locs ls hP hS hl
  have hlocks := X.2.2.2.2.2.2.2.2.1
  exact W.zret (v := v) (ty := ty) X.1 X.2.1 X.2.2.2.2.2.2.2.2.2.1 hn (fun t ht hW => ⟨⟨v, S, rfl, h, by show va_P _ _ _ t.heap; rw [ht]; exact hP⟩, hS.F ht⟩) hS.2.2 d
/-- a call of a String constant's own member -/
theorem g_callJ (X : g_X N x cc own nL Ts rm ret) {y : MethodName} {bytes : ByteArray} {maxL n index i : Nat} {rt : Option FieldType} {ws : List Cond} {rm1 : Room} (hi : i < 5) (As : List Value) (hn : As.length = n) (cw : CallW rm (g_s x) (g_args x) own "java/lang/String" index y bytes maxL rt ws rm1 0 0 n) (hr : (rest.map fun v => v.category).sum ≤ 8) (d : decode cc pc = .ok (.invokevirtual index, 3)) {r0 : Int32}
    (hM : g_Mi (g_l x) K N (g_D x) (g_ad x) (g_cy x) (g_zz x) y ws rm1 (.ref ((g_zz x).1 i) :: As) S (r0, S))
    (kk : g_V K N x nL Q S (pc + 3) lv (.int r0 :: rest)) : g_V K N x nL Q S pc lv (As.reverse ++ .ref ((g_zz x).1 i) :: rest) := by
  intro H locs ls hP hS hl
  have hR := X.2.2.2.2.2.2.2.1
  have hZ := X.2.2.2.2.2.2.2.2.2.2
  refine va_calli (va_runV (As := As) (rest := rest) (index := index) (ws := ws) (rm := rm1) ⟨X.1, X.2.1, X.2.2.1, X.2.2.2.1, X.2.2.2.2.1⟩ hM (by rw [hR]; exact cw) ⟨g_blind, vk_recv hZ.1 hi hS, fun U hU hW => ⟨rfl, by rw [hU]; exact hP, va_K.moved hW.alike X.2.2.2.2.2.1, g_Z_at hZ hS hU hW⟩⟩ rfl hn hl.1 rfl (lv_room hr) d ⟨Nat.zero_le _, Nat.zero_le _⟩) hS (fun q _ h => h) (fun q h => h) (fun r u t H1 locs1 ht _ hp hB _ _ hS1 => ?_)
  cases hp
  rw [ht] at hB
  exact kk H1 locs1 ls hB hS1 hl
/-- a static call that answers an int and keeps the state -/
theorem g_callT (X : g_X N x cc own nL Ts rm ret) {y : MethodName} {bytes : ByteArray} {maxL n index : Nat} {rt : Option FieldType} {ws : List Cond} {rm1 : Room} (As : List Value) (hn : As.length = n) (cw : CallB rm (g_s x) (g_args x) own index y bytes maxL rt ws rm1 0 0 n ∧ (Cond.static y).before (g_args x) (g_s x) = true) (hr : (rest.map fun v => v.category).sum ≤ 8) (d : decode cc pc = .ok (.invokestatic index, 3)) {r0 : Int32}
    (hM : g_Mi (g_l x) K N (g_D x) (g_ad x) (g_cy x) (g_zz x) y ws rm1 As S (r0, S))
    (kk : g_V K N x nL Q S (pc + 3) lv (.int r0 :: rest)) : g_V K N x nL Q S pc lv (As.reverse ++ rest) := by
  refine g_callSi X As hn cw hr d (fv := some (r0, S)) (f := fun r S1 => some (r, S1)) (z := (r0, S)) rfl (fun o ho => by cases ho; exact hM) (fun r S1 h => ?_)
  cases h
  exact kk
theorem g_callTv (X : g_X N x cc own nL Ts rm ret) {y : MethodName} {bytes : ByteArray} {maxL n index : Nat} {rt : Option FieldType} {ws : List Cond} {rm1 : Room} (As : List Value) (hn : As.length = n) (cw : CallB rm (g_s x) (g_args x) own index y bytes maxL rt ws rm1 0 0 n ∧ (Cond.static y).before (g_args x) (g_s x) = true) (hr : (rest.map fun v => v.category).sum ≤ 8) (d : decode cc pc = .ok (.invokestatic index, 3))
    (hM : g_Mv (g_l x) K N (g_D x) (g_ad x) (g_cy x) (g_zz x) y ws rm1 As S ((), S))
    (kk : g_V K N x nL Q S (pc + 3) lv rest) : g_V K N x nL Q S pc lv (As.reverse ++ rest) := by
  refine g_callSv X As hn cw hr d (fv := some ((), S)) (f := fun r S1 => some (r, S1)) (z := ((), S)) rfl (fun o ho => by cases ho; exact hM) (fun r S1 h => ?_)
  cases h
  exact kk
end GS
section GJ
variable {l : Launch} {K : Nat → g_Kd} {N : Nat} {D : va_G} {ad : Nat → Nat} {cy : Nat → ClassId} {zz : (Nat → Nat) × (Nat → Nat)} {S : g_St} {i : Nat}
abbrev rm_J0 : Room := { frames := 0, cells := 0, slots := 0, locals := 0 }
abbrev rm_J1 : Room := { frames := 1, cells := 0, slots := 0, locals := 22 }
abbrev rm_J2 : Room := { frames := 2, cells := 0, slots := 0, locals := 43 }
abbrev rm_J3 : Room := { frames := 3, cells := 0, slots := 0, locals := 64 }
theorem w_J0_coder_38 : Cond.fieldLink RJ0 38 "java/lang/String" "COMPACT_STRINGS" "Z" ∈ wsJ0_coder_7d493 := by decide +kernel
theorem w_J0_coder_15 : Cond.fieldLink RJ0 15 "java/lang/String" "coder" "B" ∈ wsJ0_coder_7d493 := by decide +kernel
theorem w_J0_isLatin1_38 : Cond.fieldLink RJ0 38 "java/lang/String" "COMPACT_STRINGS" "Z" ∈ wsJ0_isLatin1_aae02 := by decide +kernel
theorem w_J0_isLatin1_15 : Cond.fieldLink RJ0 15 "java/lang/String" "coder" "B" ∈ wsJ0_isLatin1_aae02 := by decide +kernel
theorem w_J0_length_9 : Cond.fieldLink RJ0 9 "java/lang/String" "value" "[B" ∈ wsJ0_length_8abf5 := by decide +kernel
theorem w_J0_charAt_9 : Cond.fieldLink RJ0 9 "java/lang/String" "value" "[B" ∈ wsJ0_charAt_5068e := by decide +kernel
theorem w_J0_checkIndex_1053 : Cond.fieldLink RJ0 1053 "jdk/internal/util/Preconditions" "SIOOBE_FORMATTER" "Ljava/util/function/BiFunction;" ∈ wsJ0_checkIndex_df160 := by decide +kernel
theorem hd_J0_coder : yJ0_coder_7d493.cls = "java/lang/String" ∧ yJ0_coder_7d493.cls ≠ "java/lang/invoke/MethodHandle" ∧ yJ0_coder_7d493.cls ≠ "java/lang/invoke/VarHandle" ∧ (parseMethodDescriptor yJ0_coder_7d493.desc).map (fun d => d.parameters.length) = some 0 := by decide +kernel
theorem hd_J0_isLatin1 : yJ0_isLatin1_aae02.cls = "java/lang/String" ∧ yJ0_isLatin1_aae02.cls ≠ "java/lang/invoke/MethodHandle" ∧ yJ0_isLatin1_aae02.cls ≠ "java/lang/invoke/VarHandle" ∧ (parseMethodDescriptor yJ0_isLatin1_aae02.desc).map (fun d => d.parameters.length) = some 0 := by decide +kernel
theorem hd_J0_length : yJ0_length_8abf5.cls = "java/lang/String" ∧ yJ0_length_8abf5.cls ≠ "java/lang/invoke/MethodHandle" ∧ yJ0_length_8abf5.cls ≠ "java/lang/invoke/VarHandle" ∧ (parseMethodDescriptor yJ0_length_8abf5.desc).map (fun d => d.parameters.length) = some 0 := by decide +kernel
theorem hd_J0_charAt : yJ0_charAt_5068e.cls = "java/lang/String" ∧ yJ0_charAt_5068e.cls ≠ "java/lang/invoke/MethodHandle" ∧ yJ0_charAt_5068e.cls ≠ "java/lang/invoke/VarHandle" ∧ (parseMethodDescriptor yJ0_charAt_5068e.desc).map (fun d => d.parameters.length) = some 1 := by decide +kernel
theorem hd_J3_checkIndex : yJ3_checkIndex_8e157.cls ≠ "java/lang/invoke/MethodHandle" ∧ yJ3_checkIndex_8e157.cls ≠ "java/lang/invoke/VarHandle" ∧ (parseMethodDescriptor yJ3_checkIndex_8e157.desc).map (fun d => d.parameters.length) = some 3 := by decide +kernel
theorem hd_J0_checkIndex : yJ0_checkIndex_df160.cls ≠ "java/lang/invoke/MethodHandle" ∧ yJ0_checkIndex_df160.cls ≠ "java/lang/invoke/VarHandle" ∧ (parseMethodDescriptor yJ0_checkIndex_df160.desc).map (fun d => d.parameters.length) = some 2 := by decide +kernel
theorem hd_J1_charAt : yJ1_charAt_3b067.cls ≠ "java/lang/invoke/MethodHandle" ∧ yJ1_charAt_3b067.cls ≠ "java/lang/invoke/VarHandle" ∧ (parseMethodDescriptor yJ1_charAt_3b067.desc).map (fun d => d.parameters.length) = some 2 := by decide +kernel
set_option maxRecDepth 100000 in
set_option maxHeartbeats 400000 in
theorem ct_J0_coder (hinj : ∀ i j, i < N → j < N → ad i = ad j → i = j) (hi : i < 5) : g_Mi l K N D ad cy zz yJ0_coder_7d493 wsJ0_coder_7d493 rm_J0 [.ref (zz.1 i)] S (0, S) := by
  refine g_ofi hinj (cc := cJ0_coder_7d493) (maxL := 1) (ret := (some .byte)) (lv := [(0, .ref (zz.1 i))]) (by decide) rfl (Nat.le_of_ble_eq_true rfl) rfl ?_
  intro x X hl hD ha hy hz
  subst hl hD ha hy hz
  refine g_getsC X w_J0_coder_38 dJ0_coder_7d493_0 ?_
  refine g_if_eq X 13 dJ0_coder_7d493_3 (by decide) (dc := inferInstance) (tt := some ()) (ff := some ()) (z := ()) (if_neg (by decide)) (fun c h => ?_) (fun c h => ?_)
  · exact absurd c (by decide)
  · refine g_aload_n X dJ0_coder_7d493_6 0 rfl ?_
    refine g_getSC X hi w_J0_coder_15 dJ0_coder_7d493_7 ?_
    refine g_goto X 14 dJ0_coder_7d493_10 (by decide) ?_
    exact g_nret X rfl rfl dJ0_coder_7d493_14
set_option maxRecDepth 100000 in
set_option maxHeartbeats 400000 in
theorem ct_J0_isLatin1 (hinj : ∀ i j, i < N → j < N → ad i = ad j → i = j) (hi : i < 5) : g_Mi l K N D ad cy zz yJ0_isLatin1_aae02 wsJ0_isLatin1_aae02 rm_J0 [.ref (zz.1 i)] S (1, S) := by
  refine g_ofi hinj (cc := cJ0_isLatin1_aae02) (maxL := 1) (ret := (some .boolean)) (lv := [(0, .ref (zz.1 i))]) (by decide) rfl (Nat.le_of_ble_eq_true rfl) rfl ?_
  intro x X hl hD ha hy hz
  subst hl hD ha hy hz
  refine g_getsC X w_J0_isLatin1_38 dJ0_isLatin1_aae02_0 ?_
  refine g_if_eq X 17 dJ0_isLatin1_aae02_3 (by decide) (dc := inferInstance) (tt := some ()) (ff := some ()) (z := ()) (if_neg (by decide)) (fun c h => ?_) (fun c h => ?_)
  · exact absurd c (by decide)
  · refine g_aload_n X dJ0_isLatin1_aae02_6 0 rfl ?_
    refine g_getSC X hi w_J0_isLatin1_15 dJ0_isLatin1_aae02_7 ?_
    refine g_if_ne X 17 dJ0_isLatin1_aae02_10 (by decide) (dc := inferInstance) (tt := some ()) (ff := some ()) (z := ()) (if_pos (by decide)) (fun c h => ?_) (fun c h => ?_)
    · exact absurd rfl c
    · refine g_iconst X (v := 1) dJ0_isLatin1_aae02_13 (by decide) ?_
      refine g_goto X 18 dJ0_isLatin1_aae02_14 (by decide) ?_
      exact g_nret X rfl rfl dJ0_isLatin1_aae02_18
theorem g_len_ok : ∀ i, i < 5 → nI (g_len.getD i 0) >>> ((0 : Int32) &&& 31) = nI (g_len.getD i 0) := by decide +kernel
set_option maxRecDepth 100000 in
set_option maxHeartbeats 400000 in
theorem ct_J0_length (hinj : ∀ i j, i < N → j < N → ad i = ad j → i = j) (hi : i < 5) : g_Mi l K N D ad cy zz yJ0_length_8abf5 wsJ0_length_8abf5 rm_J1 [.ref (zz.1 i)] S (nI (g_len.getD i 0), S) := by
  refine g_ofi hinj (cc := cJ0_length_8abf5) (maxL := 1) (ret := (some .int)) (lv := [(0, .ref (zz.1 i))]) (by decide) rfl (Nat.le_of_ble_eq_true rfl) rfl ?_
  intro x X hl hD ha hy hz
  subst hl hD ha hy hz
  refine g_aload_n X dJ0_length_8abf5_0 0 rfl ?_
  refine g_getSV X hi w_J0_length_9 dJ0_length_8abf5_1 ?_
  refine g_lenS X hi dJ0_length_8abf5_4 ?_
  refine g_aload_n X dJ0_length_8abf5_5 0 rfl ?_
  refine g_callJ X hi [] rfl (cwV 0 X.2.2.2.2.1 gJ0_length_8abf5_J0_coder_7d493 rfl rfl rfl hd_J0_coder ⟨Nat.le_of_ble_eq_true rfl, Nat.le_of_ble_eq_true rfl⟩) (Nat.le_of_ble_eq_true rfl) dJ0_length_8abf5_6 (ct_J0_coder X.2.2.2.2.2.2.1 hi) ?_
  refine g_ishr X dJ0_length_8abf5_9 ?_
  exact g_iret X (by rw [g_len_ok i hi]) dJ0_length_8abf5_10
set_option maxRecDepth 100000 in
set_option maxHeartbeats 400000 in
theorem ct_J3_checkIndex {a b : Int32} {v : Value} (hinj : ∀ i j, i < N → j < N → ad i = ad j → i = j) (h0 : ¬ a < 0) (h1 : a < b) (hv : v = .null ∨ ∃ t, v = .ref t) : g_Mi l K N D ad cy zz yJ3_checkIndex_8e157 wsJ3_checkIndex_8e157 rm_J0 [.int a, .int b, v] S (a, S) := by
  have go : ∀ x : g_CX, g_X N x cJ3_checkIndex_8e157 RJ3 3 wsJ3_checkIndex_8e157 rm_J0 (some .int) → ∀ v : Value, g_V K N x 3 (g_qi K N x (a, S)) S 0 [(0, .int a), (1, .int b), (2, v)] [] := by
    intro x X v
    refine g_iload_n X dJ3_checkIndex_8e157_0 0 rfl ?_
    refine g_if_lt X 9 dJ3_checkIndex_8e157_1 (by decide) (dc := inferInstance) (tt := some ()) (ff := some ()) (z := ()) (if_neg h0) (fun c h => ?_) (fun c h => ?_)
    · exact absurd c h0
    · refine g_iload_n X dJ3_checkIndex_8e157_4 0 rfl ?_
      refine g_iload_n X dJ3_checkIndex_8e157_5 1 rfl ?_
      refine g_icmp_lt X 16 dJ3_checkIndex_8e157_6 (by decide) (dc := inferInstance) (tt := some ()) (ff := some ()) (z := ()) (if_pos h1) (fun c h => ?_) (fun c h => ?_)
      · refine g_iload_n X dJ3_checkIndex_8e157_16 0 rfl ?_
        exact g_iret X rfl dJ3_checkIndex_8e157_17
      · exact absurd h1 c
  rcases hv with rfl | ⟨t, rfl⟩
  · refine g_ofi hinj (cc := cJ3_checkIndex_8e157) (maxL := 3) (ret := (some .int)) (lv := [(0, .int a), (1, .int b), (2, .null)]) (by decide) rfl (Nat.le_of_ble_eq_true rfl) rfl ?_
    intro x X hl hD ha hy hz
    exact go x X .null
  · refine g_ofi hinj (cc := cJ3_checkIndex_8e157) (maxL := 3) (ret := (some .int)) (lv := [(0, .int a), (1, .int b), (2, .ref t)]) (by decide) rfl (Nat.le_of_ble_eq_true rfl) rfl ?_
    intro x X hl hD ha hy hz
    exact go x X (.ref t)
set_option maxRecDepth 100000 in
set_option maxHeartbeats 400000 in
theorem ct_J0_checkIndex {a b : Int32} (hinj : ∀ i j, i < N → j < N → ad i = ad j → i = j) (h0 : ¬ a < 0) (h1 : a < b) : g_Mv l K N D ad cy zz yJ0_checkIndex_df160 wsJ0_checkIndex_df160 rm_J1 [.int a, .int b] S ((), S) := by
  refine g_ofv hinj (cc := cJ0_checkIndex_df160) (maxL := 2) (ret := none) (lv := [(0, .int a), (1, .int b)]) (by decide) rfl (Nat.le_of_ble_eq_true rfl) rfl ?_
  intro x X hl hD ha hy hz
  subst hl hD ha hy hz
  refine g_iload_n X dJ0_checkIndex_df160_0 0 rfl ?_
  refine g_iload_n X dJ0_checkIndex_df160_1 1 rfl ?_
  refine g_getsF X w_J0_checkIndex_1053 dJ0_checkIndex_df160_2 ?_ (fun t => ?_)
  · refine g_callT X [.int a, .int b, .null] rfl (va_cwS 3 X.2.2.2.2.1 gJ0_checkIndex_df160_J3_checkIndex_8e157 rfl rfl rfl hd_J3_checkIndex ⟨Nat.le_of_ble_eq_true rfl, Nat.le_of_ble_eq_true rfl⟩) (Nat.le_of_ble_eq_true rfl) dJ0_checkIndex_df160_5 (ct_J3_checkIndex X.2.2.2.2.2.2.1 h0 h1 (Or.inl rfl)) ?_
    refine g_pop X dJ0_checkIndex_df160_8 rfl ?_
    exact g_vret X rfl dJ0_checkIndex_df160_9
  · refine g_callT X [.int a, .int b, .ref t] rfl (va_cwS 3 X.2.2.2.2.1 gJ0_checkIndex_df160_J3_checkIndex_8e157 rfl rfl rfl hd_J3_checkIndex ⟨Nat.le_of_ble_eq_true rfl, Nat.le_of_ble_eq_true rfl⟩) (Nat.le_of_ble_eq_true rfl) dJ0_checkIndex_df160_5 (ct_J3_checkIndex X.2.2.2.2.2.2.1 h0 h1 (Or.inr ⟨t, rfl⟩)) ?_
    refine g_pop X dJ0_checkIndex_df160_8 rfl ?_
    exact g_vret X rfl dJ0_checkIndex_df160_9
theorem g_ch_nar {i j : Nat} : narrow .char (.int (g_ch i j)) = .int (g_ch i j) := pk_nc _
theorem g_in_lt {j : Int32} {n : Nat} (hn : n < 2 ^ 31) (h : vp_in j n) : ¬ j < 0 ∧ j < nI n := by
  obtain ⟨k, hk, rfl⟩ := vp_in_of h hn
  exact ⟨nI_pos (by omega), nI_lt hk hn⟩
theorem g_len_lt : ∀ i, i < 5 → g_len.getD i 0 < 2 ^ 31 := by decide +kernel
set_option maxRecDepth 100000 in
set_option maxHeartbeats 400000 in
theorem ct_J1_charAt {j : Int32} (hinj : ∀ i j, i < N → j < N → ad i = ad j → i = j) (hi : i < 5) (hj : vp_in j (g_len.getD i 0)) : g_Mi l K N D ad cy zz yJ1_charAt_3b067 wsJ1_charAt_3b067 rm_J2 [.ref (zz.2 i), .int j] S (g_ch i j.toNatClampNeg, S) := by
  obtain ⟨h0, h1⟩ := g_in_lt (g_len_lt i hi) hj
  refine g_ofi hinj (cc := cJ1_charAt_3b067) (maxL := 2) (ret := (some .char)) (lv := [(0, .ref (zz.2 i)), (1, .int j)]) (by decide) rfl (Nat.le_of_ble_eq_true rfl) rfl ?_
  intro x X hl hD ha hy hz
  subst hl hD ha hy hz
  refine g_iload_n X dJ1_charAt_3b067_0 1 rfl ?_
  refine g_aload_n X dJ1_charAt_3b067_1 0 rfl ?_
  refine g_lenS X hi dJ1_charAt_3b067_2 ?_
  refine g_callTv X [.int j, .int (nI (g_len.getD i 0))] rfl (va_cwS 2 X.2.2.2.2.1 gJ1_charAt_3b067_J0_checkIndex_df160 rfl rfl rfl hd_J0_checkIndex ⟨Nat.le_of_ble_eq_true rfl, Nat.le_of_ble_eq_true rfl⟩) (Nat.le_of_ble_eq_true rfl) dJ1_charAt_3b067_3 (ct_J0_checkIndex X.2.2.2.2.2.2.1 h0 h1) ?_
  refine g_aload_n X dJ1_charAt_3b067_6 0 rfl ?_
  refine g_iload_n X dJ1_charAt_3b067_7 1 rfl ?_
  refine g_baldS X hi hj dJ1_charAt_3b067_8 ?_
  refine g_sipush X (v := 255) dJ1_charAt_3b067_9 (by decide) ?_
  refine g_iand X dJ1_charAt_3b067_12 ?_
  refine g_i2c X dJ1_charAt_3b067_13 ?_
  exact g_nret X (g_ch_nar (i := i) (j := j.toNatClampNeg)) rfl dJ1_charAt_3b067_14
set_option maxRecDepth 100000 in
set_option maxHeartbeats 400000 in
theorem ct_J0_charAt {j : Int32} (hinj : ∀ i j, i < N → j < N → ad i = ad j → i = j) (hi : i < 5) (hj : vp_in j (g_len.getD i 0)) : g_Mi l K N D ad cy zz yJ0_charAt_5068e wsJ0_charAt_5068e rm_J3 [.ref (zz.1 i), .int j] S (g_ch i j.toNatClampNeg, S) := by
  refine g_ofi hinj (cc := cJ0_charAt_5068e) (maxL := 2) (ret := (some .char)) (lv := [(0, .ref (zz.1 i)), (1, .int j)]) (by decide) rfl (Nat.le_of_ble_eq_true rfl) rfl ?_
  intro x X hl hD ha hy hz
  subst hl hD ha hy hz
  refine g_aload_n X dJ0_charAt_5068e_0 0 rfl ?_
  refine g_callJ X hi [] rfl (cwV 0 X.2.2.2.2.1 gJ0_charAt_5068e_J0_isLatin1_aae02 rfl rfl rfl hd_J0_isLatin1 ⟨Nat.le_of_ble_eq_true rfl, Nat.le_of_ble_eq_true rfl⟩) (Nat.le_of_ble_eq_true rfl) dJ0_charAt_5068e_1 (ct_J0_isLatin1 X.2.2.2.2.2.2.1 hi) ?_
  refine g_if_eq X 16 dJ0_charAt_5068e_4 (by decide) (dc := inferInstance) (tt := some ()) (ff := some ()) (z := ()) (if_neg (by decide)) (fun c h => ?_) (fun c h => ?_)
  · exact absurd c (by decide)
  · refine g_aload_n X dJ0_charAt_5068e_7 0 rfl ?_
    refine g_getSV X hi w_J0_charAt_9 dJ0_charAt_5068e_8 ?_
    refine g_iload_n X dJ0_charAt_5068e_11 1 rfl ?_
    refine g_callT X [.ref ((g_zz x).2 i), .int j] rfl (va_cwS 2 X.2.2.2.2.1 gJ0_charAt_5068e_J1_charAt_3b067 rfl rfl rfl hd_J1_charAt ⟨Nat.le_of_ble_eq_true rfl, Nat.le_of_ble_eq_true rfl⟩) (Nat.le_of_ble_eq_true rfl) dJ0_charAt_5068e_12 (ct_J1_charAt X.2.2.2.2.2.2.1 hi hj) ?_
    exact g_nret X g_ch_nar rfl dJ0_charAt_5068e_15
end GJ
section GT
variable {K : Nat → g_Kd} {N : Nat} {x : g_CX} {cc : ByteArray} {own : String} {nL : Nat} {Ts : List Cond} {rm : Room} {ret : Option FieldType} {Q : State → Prop} {S : g_St} {pc : Nat} {lv : List (Nat × Value)} {rest : List Value}
theorem g_strlen (X : g_X N x cc own nL Ts rm ret) {index i : Nat} (hi : i < 5) (cw : CallW rm (g_s x) (g_args x) own "java/lang/String" index yJ0_length_8abf5 cJ0_length_8abf5 1 (some .int) wsJ0_length_8abf5 rm_J1 0 0 0) (hr : (rest.map fun v => v.category).sum ≤ 8) (d : decode cc pc = .ok (.invokevirtual index, 3))
    (kk : g_V K N x nL Q S (pc + 3) lv (.int (nI (g_len.getD i 0)) :: rest)) : g_V K N x nL Q S pc lv (.ref ((g_zz x).1 i) :: rest) :=
  g_callJ X hi [] rfl cw hr d (ct_J0_length X.2.2.2.2.2.2.1 hi) kk
theorem g_strat (X : g_X N x cc own nL Ts rm ret) {index i : Nat} {j : Int32} (hi : i < 5) (cw : CallW rm (g_s x) (g_args x) own "java/lang/String" index yJ0_charAt_5068e cJ0_charAt_5068e 2 (some .char) wsJ0_charAt_5068e rm_J3 0 0 1) (hr : (rest.map fun v => v.category).sum ≤ 8) (d : decode cc pc = .ok (.invokevirtual index, 3)) {β : Type} {z : β} {f : Nat → Option β} (h : g_ix j (g_len.getD i 0) f = some z)
    (kk : ∀ q, q = j.toNatClampNeg → f q = some z → g_V K N x nL Q S (pc + 3) lv (.int (g_ch i q) :: rest)) : g_V K N x nL Q S pc lv (.int j :: .ref ((g_zz x).1 i) :: rest) :=
  g_callJ X hi [.int j] rfl cw hr d (ct_J0_charAt X.2.2.2.2.2.2.1 hi (g_ix_s h).1) (kk _ rfl (g_ix_s h).2)
end GT
