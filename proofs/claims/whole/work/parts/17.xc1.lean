abbrev rm_X7_feed : Room := { frames := 1, cells := 0, slots := 0, locals := 21 }
theorem hd_X7_feed : yX7_feed.cls = RX7 ∧ yX7_feed.cls ≠ "java/lang/invoke/MethodHandle" ∧ yX7_feed.cls ≠ "java/lang/invoke/VarHandle" ∧ (parseMethodDescriptor yX7_feed.desc).map (fun d => d.parameters.length) = some 1 := by decide +kernel
theorem w_X7_feed_30 : Cond.fieldLink RX7 30 "TokenDoors" "tape" "LTokenDoors$Tape;" ∈ wsX7_feed := by decide +kernel
theorem w_X7_feed_inX7 : ∀ w ∈ wsX70, w ∈ wsX7_feed := by decide +kernel
theorem w_X7_feed_70 : Cond.fieldLink RX7 70 "TokenDoors$Tape" "length" "I" ∈ wsX7_feed := by decide +kernel
theorem w_X7_feed_inX5 : ∀ w ∈ wsX50, w ∈ wsX7_feed := by decide +kernel
def f_X7_feed (fu : Nat) (o : Nat) (p0 : Int32) (S : g_St) : Option (Int32 × g_St) :=
  if p0 < 0 then (some ((-1 : Int32), S)) else (if p0 ≤ (127 : Int32) then (g_ld g_KC 90 g_kX5 (S.2 o 4) fun a1 => g_bd (f_X5_append fu a1 p0 S) fun r2 Sr2 => if r2 = 0 then (some ((-3 : Int32), Sr2)) else (g_ld g_KC 90 g_kX5 (Sr2.2 o 4) fun a3 => some ((Sr2.1 a3 1), Sr2))) else (some ((-1 : Int32), S)))
set_option maxRecDepth 100000 in
set_option maxHeartbeats 400000 in
theorem ct_X7_feed {l : Launch} {D : va_G} {ad : Nat → Nat} {cy : Nat → ClassId} {zz : (Nat → Nat) × (Nat → Nat)} (hinj : ∀ i j, i < 90 → j < 90 → ad i = ad j → i = j) {fu : Nat} (o : Nat) (p0 : Int32) (hk_o : o < 90 ∧ g_KC o = g_kX7) {S : g_St} (z : Int32 × g_St) (h : f_X7_feed fu o p0 S = some z) : g_Mi l g_KC 90 D ad cy zz yX7_feed wsX7_feed rm_X7_feed [.ref (ad o), .int (p0)] S z := by
  refine g_ofi hinj (cc := cX7_feed) (maxL := 2) (ret := (some .int)) (lv := [(0, .ref (ad o)), (1, .int (p0))]) (by decide) rfl (Nat.le_of_ble_eq_true rfl) rfl ?_
  intro x X hl hD ha hy hz
  subst hl hD ha hy hz
  unfold f_X7_feed at h
  refine g_iload_n X dX7_feed_0 1 rfl ?_
  refine g_if_lt X 10 dX7_feed_1 (by decide) h (fun c_1 h => ?_) (fun c_1 h => ?_)
  · skip
    refine g_iconst X (v := (-1)) dX7_feed_10 (by decide) ?_
    exact g_iret X h dX7_feed_11
  · skip
    refine g_iload_n X dX7_feed_4 1 rfl ?_
    refine g_bipush X (v := (127)) dX7_feed_5 (by decide) ?_
    refine g_icmp_le X 12 dX7_feed_7 (by decide) h (fun c_7 h => ?_) (fun c_7 h => ?_)
    · skip
      refine g_aload_n X dX7_feed_12 0 rfl ?_
      refine g_getr X g_cX7 w_X7_feed_inX7 4 (by decide) w_X7_feed_30 hk_o rfl dX7_feed_13 h (fun a1 hk_a1 h => ?_)
      refine g_iload_n X dX7_feed_16 1 rfl ?_
      refine g_callVi X g_cX5 hk_a1 [.int (p0)] rfl (cwV 1 X.2.2.2.2.1 gX7_feed_X5_append rfl rfl rfl hd_X5_append ⟨Nat.le_of_ble_eq_true rfl, Nat.le_of_ble_eq_true rfl⟩) (Nat.le_of_ble_eq_true rfl) dX7_feed_17 h (fun q hq => ct_X5_append X.2.2.2.2.2.2.1 a1 p0 hk_a1 _ hq) (fun r2 Sr2 h => ?_)
      refine g_if_eq X 33 dX7_feed_20 (by decide) h (fun c_20 h => ?_) (fun c_20 h => ?_)
      · skip
        refine g_bipush X (v := (-3)) dX7_feed_33 (by decide) ?_
        exact g_iret X h dX7_feed_35
      · skip
        refine g_aload_n X dX7_feed_23 0 rfl ?_
        refine g_getr X g_cX7 w_X7_feed_inX7 4 (by decide) w_X7_feed_30 hk_o rfl dX7_feed_24 h (fun a3 hk_a3 h => ?_)
        refine g_geti X g_cX5 w_X7_feed_inX5 1 (by decide) w_X7_feed_70 hk_a3 rfl dX7_feed_27 ?_
        refine g_goto X 35 dX7_feed_30 (by decide) ?_
        exact g_iret X h dX7_feed_35
    · skip
      refine g_iconst X (v := (-1)) dX7_feed_10 (by decide) ?_
      exact g_iret X h dX7_feed_11
abbrev rm_X7_end : Room := { frames := 0, cells := 0, slots := 0, locals := 0 }
theorem hd_X7_end : yX7_end.cls = RX7 ∧ yX7_end.cls ≠ "java/lang/invoke/MethodHandle" ∧ yX7_end.cls ≠ "java/lang/invoke/VarHandle" ∧ (parseMethodDescriptor yX7_end.desc).map (fun d => d.parameters.length) = some 1 := by decide +kernel
theorem w_X7_end_30 : Cond.fieldLink RX7 30 "TokenDoors" "tape" "LTokenDoors$Tape;" ∈ wsX7_end := by decide +kernel
theorem w_X7_end_inX7 : ∀ w ∈ wsX70, w ∈ wsX7_end := by decide +kernel
theorem w_X7_end_70 : Cond.fieldLink RX7 70 "TokenDoors$Tape" "length" "I" ∈ wsX7_end := by decide +kernel
theorem w_X7_end_inX5 : ∀ w ∈ wsX50, w ∈ wsX7_end := by decide +kernel
def f_X7_end (fu : Nat) (o : Nat) (p0 : Int32) (S : g_St) : Option (Int32 × g_St) :=
  if p0 < 0 then (some ((-1 : Int32), S)) else (g_ld g_KC 90 g_kX5 (S.2 o 4) fun a1 => if p0 ≤ (S.1 a1 1) then (g_ld g_KC 90 g_kX5 (S.2 o 4) fun a2 => g_ld g_KC 90 g_kX5 (S.2 o 4) fun a3 => some ((S.1 a2 1), (g_u S.1 a3 1 p0, S.2))) else (some ((-1 : Int32), S)))
set_option maxRecDepth 100000 in
set_option maxHeartbeats 400000 in
theorem ct_X7_end {l : Launch} {D : va_G} {ad : Nat → Nat} {cy : Nat → ClassId} {zz : (Nat → Nat) × (Nat → Nat)} (hinj : ∀ i j, i < 90 → j < 90 → ad i = ad j → i = j) {fu : Nat} (o : Nat) (p0 : Int32) (hk_o : o < 90 ∧ g_KC o = g_kX7) {S : g_St} (z : Int32 × g_St) (h : f_X7_end fu o p0 S = some z) : g_Mi l g_KC 90 D ad cy zz yX7_end wsX7_end rm_X7_end [.ref (ad o), .int (p0)] S z := by
  refine g_ofi hinj (cc := cX7_end) (maxL := 3) (ret := (some .int)) (lv := [(0, .ref (ad o)), (1, .int (p0))]) (by decide) rfl (Nat.le_of_ble_eq_true rfl) rfl ?_
  intro x X hl hD ha hy hz
  subst hl hD ha hy hz
  unfold f_X7_end at h
  refine g_iload_n X dX7_end_0 1 rfl ?_
  refine g_if_lt X 15 dX7_end_1 (by decide) h (fun c_1 h => ?_) (fun c_1 h => ?_)
  · skip
    refine g_iconst X (v := (-1)) dX7_end_15 (by decide) ?_
    exact g_iret X h dX7_end_16
  · skip
    refine g_iload_n X dX7_end_4 1 rfl ?_
    refine g_aload_n X dX7_end_5 0 rfl ?_
    refine g_getr X g_cX7 w_X7_end_inX7 4 (by decide) w_X7_end_30 hk_o rfl dX7_end_6 h (fun a1 hk_a1 h => ?_)
    refine g_geti X g_cX5 w_X7_end_inX5 1 (by decide) w_X7_end_70 hk_a1 rfl dX7_end_9 ?_
    refine g_icmp_le X 17 dX7_end_12 (by decide) h (fun c_12 h => ?_) (fun c_12 h => ?_)
    · skip
      refine g_aload_n X dX7_end_17 0 rfl ?_
      refine g_getr X g_cX7 w_X7_end_inX7 4 (by decide) w_X7_end_30 hk_o rfl dX7_end_18 h (fun a2 hk_a2 h => ?_)
      refine g_geti X g_cX5 w_X7_end_inX5 1 (by decide) w_X7_end_70 hk_a2 rfl dX7_end_21 ?_
      refine g_istore_n X [(2, _), (0, _), (1, _)] dX7_end_24 (by decide) rfl ?_
      refine g_aload_n X dX7_end_25 1 rfl ?_
      refine g_getr X g_cX7 w_X7_end_inX7 4 (by decide) w_X7_end_30 hk_o rfl dX7_end_26 h (fun a3 hk_a3 h => ?_)
      refine g_iload_n X dX7_end_29 2 rfl ?_
      refine g_puti X g_cX5 w_X7_end_inX5 1 (by decide) w_X7_end_70 hk_a3 rfl rfl (t := .int) (by decide +kernel) rfl rfl dX7_end_30 ?_
      refine g_iload_n X dX7_end_33 0 rfl ?_
      exact g_iret X h dX7_end_34
    · skip
      refine g_iconst X (v := (-1)) dX7_end_15 (by decide) ?_
      exact g_iret X h dX7_end_16
abbrev rm_X7_text : Room := { frames := 8, cells := 0, slots := 0, locals := 172 }
theorem hd_X7_text : yX7_text.cls = RX7 ∧ yX7_text.cls ≠ "java/lang/invoke/MethodHandle" ∧ yX7_text.cls ≠ "java/lang/invoke/VarHandle" ∧ (parseMethodDescriptor yX7_text.desc).map (fun d => d.parameters.length) = some 0 := by decide +kernel
theorem w_X7_text_39 : Cond.fieldLink RX7 39 "TokenDoors" "teller" "LTokenDoors$Teller;" ∈ wsX7_text := by decide +kernel
theorem w_X7_text_inX7 : ∀ w ∈ wsX70, w ∈ wsX7_text := by decide +kernel
theorem w_X7_text_30 : Cond.fieldLink RX7 30 "TokenDoors" "tape" "LTokenDoors$Tape;" ∈ wsX7_text := by decide +kernel
theorem w_X7_text_70 : Cond.fieldLink RX7 70 "TokenDoors$Tape" "length" "I" ∈ wsX7_text := by decide +kernel
theorem w_X7_text_inX5 : ∀ w ∈ wsX50, w ∈ wsX7_text := by decide +kernel
theorem w_X7_text_78 : Cond.fieldLink RX7 78 "TokenDoors$Teller" "found" "I" ∈ wsX7_text := by decide +kernel
theorem w_X7_text_inX6 : ∀ w ∈ wsX60, w ∈ wsX7_text := by decide +kernel
theorem w_X7_text_10 : Cond.fieldLink RX7 10 "TokenDoors" "now" "LTokenDoors$Hall;" ∈ wsX7_text := by decide +kernel
theorem w_X7_text_16 : Cond.fieldLink RX7 16 "TokenDoors" "trial" "LTokenDoors$Hall;" ∈ wsX7_text := by decide +kernel
theorem w_X7_text_46 : Cond.fieldLink RX7 46 "TokenDoors" "seen" "LTokenDoors$Seen;" ∈ wsX7_text := by decide +kernel
theorem w_X7_text_88 : Cond.fieldLink RX7 88 "TokenDoors$Seen" "size" "I" ∈ wsX7_text := by decide +kernel
theorem w_X7_text_inX3 : ∀ w ∈ wsX30, w ∈ wsX7_text := by decide +kernel
theorem w_X7_text_23 : Cond.fieldLink RX7 23 "TokenDoors" "kept" "[Z" ∈ wsX7_text := by decide +kernel
theorem w_X7_text_81 : Cond.fieldLink RX7 81 "TokenDoors$Tape" "start" "I" ∈ wsX7_text := by decide +kernel
def b_X7_text_58 (fu : Nat) (v0 : Nat) (v1 : Int32) (v2 : Int32) (S : g_St) : Option ((Int32 × g_St) ⊕ (g_St)) :=
  if (2 : Int32) ≤ v2 then (some (.inr S)) else (g_ld g_KC 90 (.inr (2, 2, false)) (S.2 v0 3) fun a9 => g_ix v2 2 fun i10 => some (.inl ((v2 + 1), (g_u S.1 a9 i10 (vp_nar .boolean (0 : Int32)), S.2))))
def f_X7_text (fu : Nat) (o : Nat) (S : g_St) : Option (Int32 × g_St) :=
  g_ld g_KC 90 g_kX6 (S.2 o 5) fun a1 => g_bd (f_X6_tellAll fu a1 S) fun r2 Sr2 => g_ld g_KC 90 g_kX5 (Sr2.2 o 4) fun a3 => g_ld g_KC 90 g_kX6 (Sr2.2 o 5) fun a4 => if ((g_u Sr2.1 a3 1 (0 : Int32)) a4 2) = 0 then (g_ld g_KC 90 g_kX2 (Sr2.2 o 0) fun a5 => g_ld g_KC 90 g_kX2 (Sr2.2 o 1) fun a6 => g_bd (f_X2_become fu a5 a6 (g_u Sr2.1 a3 1 (0 : Int32), Sr2.2)) fun _ Sr7 => g_ld g_KC 90 g_kX3 (Sr7.2 o 6) fun a8 => g_th (g_lp (fun t => b_X7_text_58 fu o r2 t.1 t.2) fu ((0 : Int32), (g_u Sr7.1 a8 2 (0 : Int32), Sr7.2))) fun e => match e with | S1 => some (r2, S1)) else (g_ld g_KC 90 g_kX5 (Sr2.2 o 4) fun a11 => some (((-10 : Int32) - ((g_u Sr2.1 a3 1 (0 : Int32)) a11 3)), (g_u Sr2.1 a3 1 (0 : Int32), Sr2.2)))
set_option maxRecDepth 100000 in
set_option maxHeartbeats 400000 in
theorem vb_X7_text_58 {x : g_CX} {z : Int32 × g_St} {fu : Nat} (X : g_X 90 x cX7_text RX7 3 wsX7_text rm_X7_text (some .int)) (v0 : Nat) (v1 : Int32) (v2 : Int32) (hk_v0 : v0 < 90 ∧ g_KC v0 = g_kX7) (S : g_St) {r : (Int32 × g_St) ⊕ (g_St)} (h : b_X7_text_58 fu v0 v1 v2 S = some r) (hc : Sum.elim (fun t : Int32 × g_St => g_V g_KC 90 x 3 (g_qi g_KC 90 x z) t.2 58 [(0, .ref (g_ad x v0)), (1, .int (v1)), (2, .int (t.1))] []) (fun e : g_St => g_V g_KC 90 x 3 (g_qi g_KC 90 x z) e 76 [(1, .int (v1))] []) r) : g_V g_KC 90 x 3 (g_qi g_KC 90 x z) S 58 [(0, .ref (g_ad x v0)), (1, .int (v1)), (2, .int (v2))] [] := by
  unfold b_X7_text_58 at h
  refine g_iload_n X dX7_text_58 2 rfl ?_
  refine g_iconst X (v := 2) dX7_text_59 (by decide) ?_
  refine g_icmp_ge X 76 dX7_text_60 (by decide) h (fun c_60 h => ?_) (fun c_60 h => ?_)
  · skip
    cases h
    exact g_sub [1] _ rfl hc
  · skip
    refine g_aload_n X dX7_text_63 0 rfl ?_
    refine g_getr X g_cX7 w_X7_text_inX7 3 (by decide) w_X7_text_23 hk_v0 rfl dX7_text_64 h (fun a9 hk_a9 h => ?_)
    refine g_iload_n X dX7_text_67 2 rfl ?_
    refine g_iconst X (v := 0) dX7_text_68 (by decide) ?_
    refine g_zast X hk_a9 dX7_text_69 h (fun i10 _ h => ?_)
    refine g_iinc X [(2, _), (0, _), (1, _)] dX7_text_70 2 rfl rfl (by decide) rfl ?_
    refine g_goto X 58 dX7_text_73 (by decide) ?_
    cases h
    exact g_sub [1, 2, 0] _ rfl hc
set_option maxRecDepth 100000 in
set_option maxHeartbeats 400000 in
theorem ct_X7_text {l : Launch} {D : va_G} {ad : Nat → Nat} {cy : Nat → ClassId} {zz : (Nat → Nat) × (Nat → Nat)} (hinj : ∀ i j, i < 90 → j < 90 → ad i = ad j → i = j) {fu : Nat} (o : Nat) (hk_o : o < 90 ∧ g_KC o = g_kX7) {S : g_St} (z : Int32 × g_St) (h : f_X7_text fu o S = some z) : g_Mi l g_KC 90 D ad cy zz yX7_text wsX7_text rm_X7_text [.ref (ad o)] S z := by
  refine g_ofi hinj (cc := cX7_text) (maxL := 3) (ret := (some .int)) (lv := [(0, .ref (ad o))]) (by decide) rfl (Nat.le_of_ble_eq_true rfl) rfl ?_
  intro x X hl hD ha hy hz
  subst hl hD ha hy hz
  unfold f_X7_text at h
  refine g_aload_n X dX7_text_0 0 rfl ?_
  refine g_getr X g_cX7 w_X7_text_inX7 5 (by decide) w_X7_text_39 hk_o rfl dX7_text_1 h (fun a1 hk_a1 h => ?_)
  refine g_callVi X g_cX6 hk_a1 [] rfl (cwV 0 X.2.2.2.2.1 gX7_text_X6_tellAll rfl rfl rfl hd_X6_tellAll ⟨Nat.le_of_ble_eq_true rfl, Nat.le_of_ble_eq_true rfl⟩) (Nat.le_of_ble_eq_true rfl) dX7_text_4 h (fun q hq => ct_X6_tellAll X.2.2.2.2.2.2.1 a1 hk_a1 _ hq) (fun r2 Sr2 h => ?_)
  refine g_istore_n X [(1, _), (0, _)] dX7_text_7 (by decide) rfl ?_
  refine g_aload_n X dX7_text_8 1 rfl ?_
  refine g_getr X g_cX7 w_X7_text_inX7 4 (by decide) w_X7_text_30 hk_o rfl dX7_text_9 h (fun a3 hk_a3 h => ?_)
  refine g_iconst X (v := 0) dX7_text_12 (by decide) ?_
  refine g_puti X g_cX5 w_X7_text_inX5 1 (by decide) w_X7_text_70 hk_a3 rfl rfl (t := .int) (by decide +kernel) rfl rfl dX7_text_13 ?_
  refine g_aload_n X dX7_text_16 1 rfl ?_
  refine g_getr X g_cX7 w_X7_text_inX7 5 (by decide) w_X7_text_39 hk_o rfl dX7_text_17 h (fun a4 hk_a4 h => ?_)
  refine g_geti X g_cX6 w_X7_text_inX6 2 (by decide) w_X7_text_78 hk_a4 rfl dX7_text_20 ?_
  refine g_if_eq X 37 dX7_text_23 (by decide) h (fun c_23 h => ?_) (fun c_23 h => ?_)
  · skip
    refine g_aload_n X dX7_text_37 1 rfl ?_
    refine g_getr X g_cX7 w_X7_text_inX7 0 (by decide) w_X7_text_10 hk_o rfl dX7_text_38 h (fun a5 hk_a5 h => ?_)
    refine g_aload_n X dX7_text_41 1 rfl ?_
    refine g_getr X g_cX7 w_X7_text_inX7 1 (by decide) w_X7_text_16 hk_o rfl dX7_text_42 h (fun a6 hk_a6 h => ?_)
    refine g_callVv X g_cX2 hk_a5 [.ref (g_ad x a6)] rfl (cwV 1 X.2.2.2.2.1 gX7_text_X2_become rfl rfl rfl hd_X2_become ⟨Nat.le_of_ble_eq_true rfl, Nat.le_of_ble_eq_true rfl⟩) (Nat.le_of_ble_eq_true rfl) dX7_text_45 h (fun q hq => ct_X2_become X.2.2.2.2.2.2.1 a5 a6 hk_a5 hk_a6 _ hq) (fun _ Sr7 h => ?_)
    refine g_aload_n X dX7_text_48 1 rfl ?_
    refine g_getr X g_cX7 w_X7_text_inX7 6 (by decide) w_X7_text_46 hk_o rfl dX7_text_49 h (fun a8 hk_a8 h => ?_)
    refine g_iconst X (v := 0) dX7_text_52 (by decide) ?_
    refine g_puti X g_cX3 w_X7_text_inX3 2 (by decide) w_X7_text_88 hk_a8 rfl rfl (t := .int) (by decide +kernel) rfl rfl dX7_text_53 ?_
    refine g_iconst X (v := 0) dX7_text_56 (by decide) ?_
    refine g_istore_n X [(2, _), (1, _), (0, _)] dX7_text_57 (by decide) rfl ?_
    obtain ⟨e, he, h⟩ := g_th_s h
    refine g_sub [2, 1, 0] _ rfl ?_
    refine g_lp_w (body := (fun t => b_X7_text_58 fu o r2 t.1 t.2)) (P := fun t : Int32 × g_St => g_V g_KC 90 x 3 (g_qi g_KC 90 x z) t.2 58 [(0, .ref (g_ad x o)), (1, .int (r2)), (2, .int (t.1))] []) (E := (fun e : g_St => g_V g_KC 90 x 3 (g_qi g_KC 90 x z) e 76 [(1, .int (r2))] [])) (fun t r hb hc => vb_X7_text_58 X o r2 t.1 hk_o t.2 hb hc) fu ((0 : Int32), (g_u Sr7.1 a8 2 (0 : Int32), Sr7.2)) e he ?_
    obtain ⟨S1, rfl⟩ : ∃ q, q = e := ⟨_, rfl⟩
    show g_V g_KC 90 x 3 (g_qi g_KC 90 x z) S1 76 [(1, .int (r2))] []
    refine g_iload_n X dX7_text_76 0 rfl ?_
    exact g_iret X h dX7_text_77
  · skip
    refine g_bipush X (v := (-10)) dX7_text_26 (by decide) ?_
    refine g_aload_n X dX7_text_28 1 rfl ?_
    refine g_getr X g_cX7 w_X7_text_inX7 4 (by decide) w_X7_text_30 hk_o rfl dX7_text_29 h (fun a11 hk_a11 h => ?_)
    refine g_geti X g_cX5 w_X7_text_inX5 3 (by decide) w_X7_text_81 hk_a11 rfl dX7_text_32 ?_
    refine g_isub X dX7_text_35 ?_
    exact g_iret X h dX7_text_36
abbrev rm_X7_fault : Room := { frames := 0, cells := 0, slots := 0, locals := 0 }
theorem hd_X7_fault : yX7_fault.cls = RX7 ∧ yX7_fault.cls ≠ "java/lang/invoke/MethodHandle" ∧ yX7_fault.cls ≠ "java/lang/invoke/VarHandle" ∧ (parseMethodDescriptor yX7_fault.desc).map (fun d => d.parameters.length) = some 0 := by decide +kernel
theorem w_X7_fault_39 : Cond.fieldLink RX7 39 "TokenDoors" "teller" "LTokenDoors$Teller;" ∈ wsX7_fault := by decide +kernel
theorem w_X7_fault_inX7 : ∀ w ∈ wsX70, w ∈ wsX7_fault := by decide +kernel
theorem w_X7_fault_78 : Cond.fieldLink RX7 78 "TokenDoors$Teller" "found" "I" ∈ wsX7_fault := by decide +kernel
theorem w_X7_fault_inX6 : ∀ w ∈ wsX60, w ∈ wsX7_fault := by decide +kernel
def f_X7_fault (fu : Nat) (o : Nat) (S : g_St) : Option (Int32 × g_St) :=
  g_ld g_KC 90 g_kX6 (S.2 o 5) fun a1 => some ((S.1 a1 2), S)
set_option maxRecDepth 100000 in
set_option maxHeartbeats 400000 in
theorem ct_X7_fault {l : Launch} {D : va_G} {ad : Nat → Nat} {cy : Nat → ClassId} {zz : (Nat → Nat) × (Nat → Nat)} (hinj : ∀ i j, i < 90 → j < 90 → ad i = ad j → i = j) {fu : Nat} (o : Nat) (hk_o : o < 90 ∧ g_KC o = g_kX7) {S : g_St} (z : Int32 × g_St) (h : f_X7_fault fu o S = some z) : g_Mi l g_KC 90 D ad cy zz yX7_fault wsX7_fault rm_X7_fault [.ref (ad o)] S z := by
  refine g_ofi hinj (cc := cX7_fault) (maxL := 1) (ret := (some .int)) (lv := [(0, .ref (ad o))]) (by decide) rfl (Nat.le_of_ble_eq_true rfl) rfl ?_
  intro x X hl hD ha hy hz
  subst hl hD ha hy hz
  unfold f_X7_fault at h
  refine g_aload_n X dX7_fault_0 0 rfl ?_
  refine g_getr X g_cX7 w_X7_fault_inX7 5 (by decide) w_X7_fault_39 hk_o rfl dX7_fault_1 h (fun a1 hk_a1 h => ?_)
  refine g_geti X g_cX6 w_X7_fault_inX6 2 (by decide) w_X7_fault_78 hk_a1 rfl dX7_fault_4 ?_
  exact g_iret X h dX7_fault_7
abbrev rm_X7_rule : Room := { frames := 2, cells := 0, slots := 0, locals := 43 }
theorem hd_X7_rule : yX7_rule.cls = RX7 ∧ yX7_rule.cls ≠ "java/lang/invoke/MethodHandle" ∧ yX7_rule.cls ≠ "java/lang/invoke/VarHandle" ∧ (parseMethodDescriptor yX7_rule.desc).map (fun d => d.parameters.length) = some 1 := by decide +kernel
theorem w_X7_rule_10 : Cond.fieldLink RX7 10 "TokenDoors" "now" "LTokenDoors$Hall;" ∈ wsX7_rule := by decide +kernel
theorem w_X7_rule_inX7 : ∀ w ∈ wsX70, w ∈ wsX7_rule := by decide +kernel
theorem w_X7_rule_91 : Cond.fieldLink RX7 91 "TokenDoors$Hall" "doorCount" "I" ∈ wsX7_rule := by decide +kernel
theorem w_X7_rule_inX2 : ∀ w ∈ wsX20, w ∈ wsX7_rule := by decide +kernel
theorem w_X7_rule_94 : Cond.fieldLink RX7 94 "TokenDoors$Hall" "crowdCount" "I" ∈ wsX7_rule := by decide +kernel
theorem w_X7_rule_97 : Cond.fieldLink RX7 97 "TokenDoors$Hall" "tick" "I" ∈ wsX7_rule := by decide +kernel
theorem w_X7_rule_100 : Cond.fieldLink RX7 100 "TokenDoors$Hall" "let" "I" ∈ wsX7_rule := by decide +kernel
theorem w_X7_rule_103 : Cond.fieldLink RX7 103 "TokenDoors$Hall" "turned" "I" ∈ wsX7_rule := by decide +kernel
def f_X7_rule (fu : Nat) (o : Nat) (p0 : Int32) (S : g_St) : Option (Int32 × g_St) :=
  if p0 = 0 then (g_ld g_KC 90 g_kX2 (S.2 o 0) fun a1 => some ((S.1 a1 2), S)) else (if p0 = 1 then (g_ld g_KC 90 g_kX2 (S.2 o 0) fun a2 => some ((S.1 a2 3), S)) else (if p0 = 2 then (g_ld g_KC 90 g_kX2 (S.2 o 0) fun a3 => some ((S.1 a3 4), S)) else (if p0 = 3 then (g_ld g_KC 90 g_kX2 (S.2 o 0) fun a4 => some ((S.1 a4 5), S)) else (if p0 = 4 then (g_ld g_KC 90 g_kX2 (S.2 o 0) fun a5 => some ((S.1 a5 6), S)) else (if p0 = 5 then (g_ld g_KC 90 g_kX2 (S.2 o 0) fun a6 => g_bd (f_X2_comers fu a6 S) fun r7 Sr7 => some (r7, Sr7)) else (if p0 = 6 then (g_ld g_KC 90 g_kX2 (S.2 o 0) fun a8 => g_bd (f_X2_letters fu a8 S) fun r9 Sr9 => some (r9, Sr9)) else (some ((-1 : Int32), S))))))))
set_option maxRecDepth 100000 in
set_option maxHeartbeats 400000 in
theorem ct_X7_rule {l : Launch} {D : va_G} {ad : Nat → Nat} {cy : Nat → ClassId} {zz : (Nat → Nat) × (Nat → Nat)} (hinj : ∀ i j, i < 90 → j < 90 → ad i = ad j → i = j) {fu : Nat} (o : Nat) (p0 : Int32) (hk_o : o < 90 ∧ g_KC o = g_kX7) {S : g_St} (z : Int32 × g_St) (h : f_X7_rule fu o p0 S = some z) : g_Mi l g_KC 90 D ad cy zz yX7_rule wsX7_rule rm_X7_rule [.ref (ad o), .int (p0)] S z := by
  refine g_ofi hinj (cc := cX7_rule) (maxL := 2) (ret := (some .int)) (lv := [(0, .ref (ad o)), (1, .int (p0))]) (by decide) rfl (Nat.le_of_ble_eq_true rfl) rfl ?_
  intro x X hl hD ha hy hz
  subst hl hD ha hy hz
  unfold f_X7_rule at h
  refine g_iload_n X dX7_rule_0 1 rfl ?_
  refine g_ifs h (fun c_1_0 h => ?_) (fun c_1_0 h => ?_)
  · refine g_tableIn X 44 (off := 43) dX7_rule_1 (by rw [c_1_0]; decide) (by rw [c_1_0]; decide) (by rw [c_1_0]; rfl) (by decide) ?_
    refine g_aload_n X dX7_rule_44 0 rfl ?_
    refine g_getr X g_cX7 w_X7_rule_inX7 0 (by decide) w_X7_rule_10 hk_o rfl dX7_rule_45 h (fun a1 hk_a1 h => ?_)
    refine g_geti X g_cX2 w_X7_rule_inX2 2 (by decide) w_X7_rule_91 hk_a1 rfl dX7_rule_48 ?_
    exact g_iret X h dX7_rule_51
  refine g_ifs h (fun c_1_1 h => ?_) (fun c_1_1 h => ?_)
  · refine g_tableIn X 52 (off := 51) dX7_rule_1 (by rw [c_1_1]; decide) (by rw [c_1_1]; decide) (by rw [c_1_1]; rfl) (by decide) ?_
    refine g_aload_n X dX7_rule_52 0 rfl ?_
    refine g_getr X g_cX7 w_X7_rule_inX7 0 (by decide) w_X7_rule_10 hk_o rfl dX7_rule_53 h (fun a2 hk_a2 h => ?_)
    refine g_geti X g_cX2 w_X7_rule_inX2 3 (by decide) w_X7_rule_94 hk_a2 rfl dX7_rule_56 ?_
    exact g_iret X h dX7_rule_59
  refine g_ifs h (fun c_1_2 h => ?_) (fun c_1_2 h => ?_)
  · refine g_tableIn X 60 (off := 59) dX7_rule_1 (by rw [c_1_2]; decide) (by rw [c_1_2]; decide) (by rw [c_1_2]; rfl) (by decide) ?_
    refine g_aload_n X dX7_rule_60 0 rfl ?_
    refine g_getr X g_cX7 w_X7_rule_inX7 0 (by decide) w_X7_rule_10 hk_o rfl dX7_rule_61 h (fun a3 hk_a3 h => ?_)
    refine g_geti X g_cX2 w_X7_rule_inX2 4 (by decide) w_X7_rule_97 hk_a3 rfl dX7_rule_64 ?_
    exact g_iret X h dX7_rule_67
  refine g_ifs h (fun c_1_3 h => ?_) (fun c_1_3 h => ?_)
  · refine g_tableIn X 68 (off := 67) dX7_rule_1 (by rw [c_1_3]; decide) (by rw [c_1_3]; decide) (by rw [c_1_3]; rfl) (by decide) ?_
    refine g_aload_n X dX7_rule_68 0 rfl ?_
    refine g_getr X g_cX7 w_X7_rule_inX7 0 (by decide) w_X7_rule_10 hk_o rfl dX7_rule_69 h (fun a4 hk_a4 h => ?_)
    refine g_geti X g_cX2 w_X7_rule_inX2 5 (by decide) w_X7_rule_100 hk_a4 rfl dX7_rule_72 ?_
    exact g_iret X h dX7_rule_75
  refine g_ifs h (fun c_1_4 h => ?_) (fun c_1_4 h => ?_)
  · refine g_tableIn X 76 (off := 75) dX7_rule_1 (by rw [c_1_4]; decide) (by rw [c_1_4]; decide) (by rw [c_1_4]; rfl) (by decide) ?_
    refine g_aload_n X dX7_rule_76 0 rfl ?_
    refine g_getr X g_cX7 w_X7_rule_inX7 0 (by decide) w_X7_rule_10 hk_o rfl dX7_rule_77 h (fun a5 hk_a5 h => ?_)
    refine g_geti X g_cX2 w_X7_rule_inX2 6 (by decide) w_X7_rule_103 hk_a5 rfl dX7_rule_80 ?_
    exact g_iret X h dX7_rule_83
  refine g_ifs h (fun c_1_5 h => ?_) (fun c_1_5 h => ?_)
  · refine g_tableIn X 84 (off := 83) dX7_rule_1 (by rw [c_1_5]; decide) (by rw [c_1_5]; decide) (by rw [c_1_5]; rfl) (by decide) ?_
    refine g_aload_n X dX7_rule_84 0 rfl ?_
    refine g_getr X g_cX7 w_X7_rule_inX7 0 (by decide) w_X7_rule_10 hk_o rfl dX7_rule_85 h (fun a6 hk_a6 h => ?_)
    refine g_callVi X g_cX2 hk_a6 [] rfl (cwV 0 X.2.2.2.2.1 gX7_rule_X2_comers rfl rfl rfl hd_X2_comers ⟨Nat.le_of_ble_eq_true rfl, Nat.le_of_ble_eq_true rfl⟩) (Nat.le_of_ble_eq_true rfl) dX7_rule_88 h (fun q hq => ct_X2_comers X.2.2.2.2.2.2.1 a6 hk_a6 _ hq) (fun r7 Sr7 h => ?_)
    exact g_iret X h dX7_rule_91
  refine g_ifs h (fun c_1_6 h => ?_) (fun c_1_6 h => ?_)
  · refine g_tableIn X 92 (off := 91) dX7_rule_1 (by rw [c_1_6]; decide) (by rw [c_1_6]; decide) (by rw [c_1_6]; rfl) (by decide) ?_
    refine g_aload_n X dX7_rule_92 0 rfl ?_
    refine g_getr X g_cX7 w_X7_rule_inX7 0 (by decide) w_X7_rule_10 hk_o rfl dX7_rule_93 h (fun a8 hk_a8 h => ?_)
    refine g_callVi X g_cX2 hk_a8 [] rfl (cwV 0 X.2.2.2.2.1 gX7_rule_X2_letters rfl rfl rfl hd_X2_letters ⟨Nat.le_of_ble_eq_true rfl, Nat.le_of_ble_eq_true rfl⟩) (Nat.le_of_ble_eq_true rfl) dX7_rule_96 h (fun q hq => ct_X2_letters X.2.2.2.2.2.2.1 a8 hk_a8 _ hq) (fun r9 Sr9 h => ?_)
    exact g_iret X h dX7_rule_99
  refine g_tableOut X 100 dX7_rule_1 (g_sw_out (n := 6) (by decide) rfl (fun k hk => by rcases (show k = 0 ∨ k = 1 ∨ k = 2 ∨ k = 3 ∨ k = 4 ∨ k = 5 ∨ k = 6 by omega) with rfl | rfl | rfl | rfl | rfl | rfl | rfl <;> first | exact c_1_0 | exact c_1_1 | exact c_1_2 | exact c_1_3 | exact c_1_4 | exact c_1_5 | exact c_1_6)) (by decide) ?_
  refine g_iconst X (v := (-1)) dX7_rule_100 (by decide) ?_
  exact g_iret X h dX7_rule_101
abbrev rm_X7_isDoor : Room := { frames := 0, cells := 0, slots := 0, locals := 0 }
theorem hd_X7_isDoor : yX7_isDoor.cls = RX7 ∧ yX7_isDoor.cls ≠ "java/lang/invoke/MethodHandle" ∧ yX7_isDoor.cls ≠ "java/lang/invoke/VarHandle" ∧ (parseMethodDescriptor yX7_isDoor.desc).map (fun d => d.parameters.length) = some 1 := by decide +kernel
theorem w_X7_isDoor_10 : Cond.fieldLink RX7 10 "TokenDoors" "now" "LTokenDoors$Hall;" ∈ wsX7_isDoor := by decide +kernel
theorem w_X7_isDoor_inX7 : ∀ w ∈ wsX70, w ∈ wsX7_isDoor := by decide +kernel
theorem w_X7_isDoor_91 : Cond.fieldLink RX7 91 "TokenDoors$Hall" "doorCount" "I" ∈ wsX7_isDoor := by decide +kernel
theorem w_X7_isDoor_inX2 : ∀ w ∈ wsX20, w ∈ wsX7_isDoor := by decide +kernel
def f_X7_isDoor (fu : Nat) (o : Nat) (p0 : Int32) (S : g_St) : Option (Int32 × g_St) :=
  if p0 < 0 then (g_zb (0 : Int32) (some ((0 : Int32), S))) else (g_ld g_KC 90 g_kX2 (S.2 o 0) fun a1 => if (S.1 a1 2) ≤ p0 then (g_zb (0 : Int32) (some ((0 : Int32), S))) else (g_zb (1 : Int32) (some ((1 : Int32), S))))
set_option maxRecDepth 100000 in
set_option maxHeartbeats 400000 in
theorem ct_X7_isDoor {l : Launch} {D : va_G} {ad : Nat → Nat} {cy : Nat → ClassId} {zz : (Nat → Nat) × (Nat → Nat)} (hinj : ∀ i j, i < 90 → j < 90 → ad i = ad j → i = j) {fu : Nat} (o : Nat) (p0 : Int32) (hk_o : o < 90 ∧ g_KC o = g_kX7) {S : g_St} (z : Int32 × g_St) (h : f_X7_isDoor fu o p0 S = some z) : g_Mi l g_KC 90 D ad cy zz yX7_isDoor wsX7_isDoor rm_X7_isDoor [.ref (ad o), .int (p0)] S z := by
  refine g_ofi hinj (cc := cX7_isDoor) (maxL := 2) (ret := (some .boolean)) (lv := [(0, .ref (ad o)), (1, .int (p0))]) (by decide) rfl (Nat.le_of_ble_eq_true rfl) rfl ?_
  intro x X hl hD ha hy hz
  subst hl hD ha hy hz
  unfold f_X7_isDoor at h
  refine g_iload_n X dX7_isDoor_0 1 rfl ?_
  refine g_if_lt X 19 dX7_isDoor_1 (by decide) h (fun c_1 h => ?_) (fun c_1 h => ?_)
  · skip
    refine g_iconst X (v := 0) dX7_isDoor_19 (by decide) ?_
    exact g_zret X h dX7_isDoor_20
  · skip
    refine g_iload_n X dX7_isDoor_4 1 rfl ?_
    refine g_aload_n X dX7_isDoor_5 0 rfl ?_
    refine g_getr X g_cX7 w_X7_isDoor_inX7 0 (by decide) w_X7_isDoor_10 hk_o rfl dX7_isDoor_6 h (fun a1 hk_a1 h => ?_)
    refine g_geti X g_cX2 w_X7_isDoor_inX2 2 (by decide) w_X7_isDoor_91 hk_a1 rfl dX7_isDoor_9 ?_
    refine g_icmp_ge X 19 dX7_isDoor_12 (by decide) h (fun c_12 h => ?_) (fun c_12 h => ?_)
    · skip
      refine g_iconst X (v := 0) dX7_isDoor_19 (by decide) ?_
      exact g_zret X h dX7_isDoor_20
    · skip
      refine g_iconst X (v := 1) dX7_isDoor_15 (by decide) ?_
      refine g_goto X 20 dX7_isDoor_16 (by decide) ?_
      exact g_zret X h dX7_isDoor_20
abbrev rm_X7_door : Room := { frames := 1, cells := 0, slots := 0, locals := 21 }
theorem hd_X7_door : yX7_door.cls = RX7 ∧ yX7_door.cls ≠ "java/lang/invoke/MethodHandle" ∧ yX7_door.cls ≠ "java/lang/invoke/VarHandle" ∧ (parseMethodDescriptor yX7_door.desc).map (fun d => d.parameters.length) = some 2 := by decide +kernel
theorem w_X7_door_10 : Cond.fieldLink RX7 10 "TokenDoors" "now" "LTokenDoors$Hall;" ∈ wsX7_door := by decide +kernel
theorem w_X7_door_inX7 : ∀ w ∈ wsX70, w ∈ wsX7_door := by decide +kernel
theorem w_X7_door_115 : Cond.fieldLink RX7 115 "TokenDoors$Hall" "doors" "[LTokenDoors$Door;" ∈ wsX7_door := by decide +kernel
theorem w_X7_door_inX2 : ∀ w ∈ wsX20, w ∈ wsX7_door := by decide +kernel
def f_X7_door (fu : Nat) (o : Nat) (p0 : Int32) (p1 : Int32) (S : g_St) : Option (Int32 × g_St) :=
  g_bd (f_X7_isDoor fu o p0 S) fun r1 Sr1 => if r1 = 0 then (some ((-1 : Int32), Sr1)) else (if p1 < 0 then (some ((-1 : Int32), Sr1)) else (if p1 ≤ (4 : Int32) then (if p1 = (4 : Int32) then (g_ld g_KC 90 g_kX2 (Sr1.2 o 0) fun a6 => g_ld g_KC 90 (.inr (3, 4, true)) (Sr1.2 a6 0) fun a7 => g_ix p0 4 fun i8 => g_ld g_KC 90 g_kX1 (Sr1.2 a7 i8) fun a8 => g_bd (f_X1_room fu a8 Sr1) fun r9 Sr9 => some (r9, Sr9)) else (g_ld g_KC 90 g_kX2 (Sr1.2 o 0) fun a2 => g_ld g_KC 90 (.inr (3, 4, true)) (Sr1.2 a2 0) fun a3 => g_ix p0 4 fun i4 => g_ld g_KC 90 g_kX1 (Sr1.2 a3 i4) fun a4 => g_bd (f_X1_told fu a4 p1 Sr1) fun r5 Sr5 => some (r5, Sr5))) else (some ((-1 : Int32), Sr1))))
set_option maxRecDepth 100000 in
set_option maxHeartbeats 400000 in
theorem ct_X7_door {l : Launch} {D : va_G} {ad : Nat → Nat} {cy : Nat → ClassId} {zz : (Nat → Nat) × (Nat → Nat)} (hinj : ∀ i j, i < 90 → j < 90 → ad i = ad j → i = j) {fu : Nat} (o : Nat) (p0 : Int32) (p1 : Int32) (hk_o : o < 90 ∧ g_KC o = g_kX7) {S : g_St} (z : Int32 × g_St) (h : f_X7_door fu o p0 p1 S = some z) : g_Mi l g_KC 90 D ad cy zz yX7_door wsX7_door rm_X7_door [.ref (ad o), .int (p0), .int (p1)] S z := by
  refine g_ofi hinj (cc := cX7_door) (maxL := 3) (ret := (some .int)) (lv := [(0, .ref (ad o)), (1, .int (p0)), (2, .int (p1))]) (by decide) rfl (Nat.le_of_ble_eq_true rfl) rfl ?_
  intro x X hl hD ha hy hz
  subst hl hD ha hy hz
  unfold f_X7_door at h
  refine g_aload_n X dX7_door_0 0 rfl ?_
  refine g_iload_n X dX7_door_1 1 rfl ?_
  refine g_callVi X g_cX7 hk_o [.int (p0)] rfl (cwV 1 X.2.2.2.2.1 gX7_door_X7_isDoor rfl rfl rfl hd_X7_isDoor ⟨Nat.le_of_ble_eq_true rfl, Nat.le_of_ble_eq_true rfl⟩) (Nat.le_of_ble_eq_true rfl) dX7_door_2 h (fun q hq => ct_X7_isDoor X.2.2.2.2.2.2.1 o p0 hk_o _ hq) (fun r1 Sr1 h => ?_)
  refine g_if_eq X 17 dX7_door_5 (by decide) h (fun c_5 h => ?_) (fun c_5 h => ?_)
  · skip
    refine g_iconst X (v := (-1)) dX7_door_17 (by decide) ?_
    exact g_iret X h dX7_door_18
  · skip
    refine g_iload_n X dX7_door_8 2 rfl ?_
    refine g_if_lt X 17 dX7_door_9 (by decide) h (fun c_9 h => ?_) (fun c_9 h => ?_)
    · skip
      refine g_iconst X (v := (-1)) dX7_door_17 (by decide) ?_
      exact g_iret X h dX7_door_18
    · skip
      refine g_iload_n X dX7_door_12 2 rfl ?_
      refine g_iconst X (v := 4) dX7_door_13 (by decide) ?_
      refine g_icmp_le X 19 dX7_door_14 (by decide) h (fun c_14 h => ?_) (fun c_14 h => ?_)
      · skip
        refine g_iload_n X dX7_door_19 2 rfl ?_
        refine g_iconst X (v := 4) dX7_door_20 (by decide) ?_
        refine g_icmp_ne X 39 dX7_door_21 (by decide) h (fun c_21 h => ?_) (fun c_21 h => ?_)
        · skip
          refine g_aload_n X dX7_door_39 0 rfl ?_
          refine g_getr X g_cX7 w_X7_door_inX7 0 (by decide) w_X7_door_10 hk_o rfl dX7_door_40 h (fun a2 hk_a2 h => ?_)
          refine g_getr X g_cX2 w_X7_door_inX2 0 (by decide) w_X7_door_115 hk_a2 rfl dX7_door_43 h (fun a3 hk_a3 h => ?_)
          refine g_iload_n X dX7_door_46 1 rfl ?_
          refine g_aald X 3 RX1 rfl hk_a3 dX7_door_47 h (fun a4 hk_a4 h => ?_)
          refine g_iload_n X dX7_door_48 2 rfl ?_
          refine g_callVi X g_cX1 hk_a4 [.int (p1)] rfl (cwV 1 X.2.2.2.2.1 gX7_door_X1_told rfl rfl rfl hd_X1_told ⟨Nat.le_of_ble_eq_true rfl, Nat.le_of_ble_eq_true rfl⟩) (Nat.le_of_ble_eq_true rfl) dX7_door_49 h (fun q hq => ct_X1_told X.2.2.2.2.2.2.1 a4 p1 hk_a4 _ hq) (fun r5 Sr5 h => ?_)
          exact g_iret X h dX7_door_52
        · skip
          refine g_aload_n X dX7_door_24 0 rfl ?_
          refine g_getr X g_cX7 w_X7_door_inX7 0 (by decide) w_X7_door_10 hk_o rfl dX7_door_25 h (fun a6 hk_a6 h => ?_)
          refine g_getr X g_cX2 w_X7_door_inX2 0 (by decide) w_X7_door_115 hk_a6 rfl dX7_door_28 h (fun a7 hk_a7 h => ?_)
          refine g_iload_n X dX7_door_31 1 rfl ?_
          refine g_aald X 3 RX1 rfl hk_a7 dX7_door_32 h (fun a8 hk_a8 h => ?_)
          refine g_callVi X g_cX1 hk_a8 [] rfl (cwV 0 X.2.2.2.2.1 gX7_door_X1_room rfl rfl rfl hd_X1_room ⟨Nat.le_of_ble_eq_true rfl, Nat.le_of_ble_eq_true rfl⟩) (Nat.le_of_ble_eq_true rfl) dX7_door_33 h (fun q hq => ct_X1_room X.2.2.2.2.2.2.1 a8 hk_a8 _ hq) (fun r9 Sr9 h => ?_)
          refine g_goto X 52 dX7_door_36 (by decide) ?_
          exact g_iret X h dX7_door_52
      · skip
        refine g_iconst X (v := (-1)) dX7_door_17 (by decide) ?_
        exact g_iret X h dX7_door_18
abbrev rm_X7_crowd : Room := { frames := 0, cells := 0, slots := 0, locals := 0 }
theorem hd_X7_crowd : yX7_crowd.cls = RX7 ∧ yX7_crowd.cls ≠ "java/lang/invoke/MethodHandle" ∧ yX7_crowd.cls ≠ "java/lang/invoke/VarHandle" ∧ (parseMethodDescriptor yX7_crowd.desc).map (fun d => d.parameters.length) = some 2 := by decide +kernel
theorem w_X7_crowd_10 : Cond.fieldLink RX7 10 "TokenDoors" "now" "LTokenDoors$Hall;" ∈ wsX7_crowd := by decide +kernel
theorem w_X7_crowd_inX7 : ∀ w ∈ wsX70, w ∈ wsX7_crowd := by decide +kernel
theorem w_X7_crowd_94 : Cond.fieldLink RX7 94 "TokenDoors$Hall" "crowdCount" "I" ∈ wsX7_crowd := by decide +kernel
theorem w_X7_crowd_inX2 : ∀ w ∈ wsX20, w ∈ wsX7_crowd := by decide +kernel
theorem w_X7_crowd_128 : Cond.fieldLink RX7 128 "TokenDoors$Hall" "crowds" "[LTokenDoors$Crowd;" ∈ wsX7_crowd := by decide +kernel
theorem w_X7_crowd_132 : Cond.fieldLink RX7 132 "TokenDoors$Crowd" "start" "I" ∈ wsX7_crowd := by decide +kernel
theorem w_X7_crowd_inX0 : ∀ w ∈ wsX00, w ∈ wsX7_crowd := by decide +kernel
theorem w_X7_crowd_135 : Cond.fieldLink RX7 135 "TokenDoors$Crowd" "many" "I" ∈ wsX7_crowd := by decide +kernel
theorem w_X7_crowd_138 : Cond.fieldLink RX7 138 "TokenDoors$Crowd" "every" "I" ∈ wsX7_crowd := by decide +kernel
def f_X7_crowd (fu : Nat) (o : Nat) (p0 : Int32) (p1 : Int32) (S : g_St) : Option (Int32 × g_St) :=
  if p0 < 0 then (some ((-1 : Int32), S)) else (g_ld g_KC 90 g_kX2 (S.2 o 0) fun a1 => if p0 < (S.1 a1 3) then (if p1 = 0 then (g_ld g_KC 90 g_kX2 (S.2 o 0) fun a2 => g_ld g_KC 90 (.inr (4, 8, true)) (S.2 a2 1) fun a3 => g_ix p0 8 fun i4 => g_ld g_KC 90 g_kX0 (S.2 a3 i4) fun a4 => some ((S.1 a4 0), S)) else (if p1 = 1 then (g_ld g_KC 90 g_kX2 (S.2 o 0) fun a5 => g_ld g_KC 90 (.inr (4, 8, true)) (S.2 a5 1) fun a6 => g_ix p0 8 fun i7 => g_ld g_KC 90 g_kX0 (S.2 a6 i7) fun a7 => some ((S.1 a7 1), S)) else (if p1 = 2 then (g_ld g_KC 90 g_kX2 (S.2 o 0) fun a8 => g_ld g_KC 90 (.inr (4, 8, true)) (S.2 a8 1) fun a9 => g_ix p0 8 fun i10 => g_ld g_KC 90 g_kX0 (S.2 a9 i10) fun a10 => some ((S.1 a10 2), S)) else (some ((-1 : Int32), S))))) else (some ((-1 : Int32), S)))
set_option maxRecDepth 100000 in
set_option maxHeartbeats 400000 in
theorem ct_X7_crowd {l : Launch} {D : va_G} {ad : Nat → Nat} {cy : Nat → ClassId} {zz : (Nat → Nat) × (Nat → Nat)} (hinj : ∀ i j, i < 90 → j < 90 → ad i = ad j → i = j) {fu : Nat} (o : Nat) (p0 : Int32) (p1 : Int32) (hk_o : o < 90 ∧ g_KC o = g_kX7) {S : g_St} (z : Int32 × g_St) (h : f_X7_crowd fu o p0 p1 S = some z) : g_Mi l g_KC 90 D ad cy zz yX7_crowd wsX7_crowd rm_X7_crowd [.ref (ad o), .int (p0), .int (p1)] S z := by
  refine g_ofi hinj (cc := cX7_crowd) (maxL := 3) (ret := (some .int)) (lv := [(0, .ref (ad o)), (1, .int (p0)), (2, .int (p1))]) (by decide) rfl (Nat.le_of_ble_eq_true rfl) rfl ?_
  intro x X hl hD ha hy hz
  subst hl hD ha hy hz
  unfold f_X7_crowd at h
  refine g_iload_n X dX7_crowd_0 1 rfl ?_
  refine g_if_lt X 15 dX7_crowd_1 (by decide) h (fun c_1 h => ?_) (fun c_1 h => ?_)
  · skip
    refine g_iconst X (v := (-1)) dX7_crowd_15 (by decide) ?_
    exact g_iret X h dX7_crowd_16
  · skip
    refine g_iload_n X dX7_crowd_4 1 rfl ?_
    refine g_aload_n X dX7_crowd_5 0 rfl ?_
    refine g_getr X g_cX7 w_X7_crowd_inX7 0 (by decide) w_X7_crowd_10 hk_o rfl dX7_crowd_6 h (fun a1 hk_a1 h => ?_)
    refine g_geti X g_cX2 w_X7_crowd_inX2 3 (by decide) w_X7_crowd_94 hk_a1 rfl dX7_crowd_9 ?_
    refine g_icmp_lt X 17 dX7_crowd_12 (by decide) h (fun c_12 h => ?_) (fun c_12 h => ?_)
    · skip
      refine g_iload_n X dX7_crowd_17 2 rfl ?_
      refine g_ifs h (fun c_18_0 h => ?_) (fun c_18_0 h => ?_)
      · refine g_tableIn X 44 (off := 26) dX7_crowd_18 (by rw [c_18_0]; decide) (by rw [c_18_0]; decide) (by rw [c_18_0]; rfl) (by decide) ?_
        refine g_aload_n X dX7_crowd_44 0 rfl ?_
        refine g_getr X g_cX7 w_X7_crowd_inX7 0 (by decide) w_X7_crowd_10 hk_o rfl dX7_crowd_45 h (fun a2 hk_a2 h => ?_)
        refine g_getr X g_cX2 w_X7_crowd_inX2 1 (by decide) w_X7_crowd_128 hk_a2 rfl dX7_crowd_48 h (fun a3 hk_a3 h => ?_)
        refine g_iload_n X dX7_crowd_51 1 rfl ?_
        refine g_aald X 4 RX0 rfl hk_a3 dX7_crowd_52 h (fun a4 hk_a4 h => ?_)
        refine g_geti X g_cX0 w_X7_crowd_inX0 0 (by decide) w_X7_crowd_132 hk_a4 rfl dX7_crowd_53 ?_
        exact g_iret X h dX7_crowd_56
      refine g_ifs h (fun c_18_1 h => ?_) (fun c_18_1 h => ?_)
      · refine g_tableIn X 57 (off := 39) dX7_crowd_18 (by rw [c_18_1]; decide) (by rw [c_18_1]; decide) (by rw [c_18_1]; rfl) (by decide) ?_
        refine g_aload_n X dX7_crowd_57 0 rfl ?_
        refine g_getr X g_cX7 w_X7_crowd_inX7 0 (by decide) w_X7_crowd_10 hk_o rfl dX7_crowd_58 h (fun a5 hk_a5 h => ?_)
        refine g_getr X g_cX2 w_X7_crowd_inX2 1 (by decide) w_X7_crowd_128 hk_a5 rfl dX7_crowd_61 h (fun a6 hk_a6 h => ?_)
        refine g_iload_n X dX7_crowd_64 1 rfl ?_
        refine g_aald X 4 RX0 rfl hk_a6 dX7_crowd_65 h (fun a7 hk_a7 h => ?_)
        refine g_geti X g_cX0 w_X7_crowd_inX0 1 (by decide) w_X7_crowd_135 hk_a7 rfl dX7_crowd_66 ?_
        exact g_iret X h dX7_crowd_69
      refine g_ifs h (fun c_18_2 h => ?_) (fun c_18_2 h => ?_)
      · refine g_tableIn X 70 (off := 52) dX7_crowd_18 (by rw [c_18_2]; decide) (by rw [c_18_2]; decide) (by rw [c_18_2]; rfl) (by decide) ?_
        refine g_aload_n X dX7_crowd_70 0 rfl ?_
        refine g_getr X g_cX7 w_X7_crowd_inX7 0 (by decide) w_X7_crowd_10 hk_o rfl dX7_crowd_71 h (fun a8 hk_a8 h => ?_)
        refine g_getr X g_cX2 w_X7_crowd_inX2 1 (by decide) w_X7_crowd_128 hk_a8 rfl dX7_crowd_74 h (fun a9 hk_a9 h => ?_)
        refine g_iload_n X dX7_crowd_77 1 rfl ?_
        refine g_aald X 4 RX0 rfl hk_a9 dX7_crowd_78 h (fun a10 hk_a10 h => ?_)
        refine g_geti X g_cX0 w_X7_crowd_inX0 2 (by decide) w_X7_crowd_138 hk_a10 rfl dX7_crowd_79 ?_
        exact g_iret X h dX7_crowd_82
      refine g_tableOut X 83 dX7_crowd_18 (g_sw_out (n := 2) (by decide) rfl (fun k hk => by rcases (show k = 0 ∨ k = 1 ∨ k = 2 by omega) with rfl | rfl | rfl <;> first | exact c_18_0 | exact c_18_1 | exact c_18_2)) (by decide) ?_
      refine g_iconst X (v := (-1)) dX7_crowd_83 (by decide) ?_
      exact g_iret X h dX7_crowd_84
    · skip
      refine g_iconst X (v := (-1)) dX7_crowd_15 (by decide) ?_
      exact g_iret X h dX7_crowd_16
abbrev rm_X7_lowest : Room := { frames := 0, cells := 0, slots := 0, locals := 0 }
theorem hd_X7_lowest : yX7_lowest.cls ≠ "java/lang/invoke/MethodHandle" ∧ yX7_lowest.cls ≠ "java/lang/invoke/VarHandle" ∧ (parseMethodDescriptor yX7_lowest.desc).map (fun d => d.parameters.length) = some 1 := by decide +kernel
def f_X7_lowest (fu : Nat) (p0 : Int32) (S : g_St) : Option (Int32 × g_St) :=
  if p0 = (1 : Int32) then (some ((1 : Int32), S)) else (some ((0 : Int32), S))
set_option maxRecDepth 100000 in
set_option maxHeartbeats 400000 in
theorem ct_X7_lowest {l : Launch} {D : va_G} {ad : Nat → Nat} {cy : Nat → ClassId} {zz : (Nat → Nat) × (Nat → Nat)} (hinj : ∀ i j, i < 90 → j < 90 → ad i = ad j → i = j) {fu : Nat} (p0 : Int32)  {S : g_St} (z : Int32 × g_St) (h : f_X7_lowest fu p0 S = some z) : g_Mi l g_KC 90 D ad cy zz yX7_lowest wsX7_lowest rm_X7_lowest [.int (p0)] S z := by
  refine g_ofi hinj (cc := cX7_lowest) (maxL := 1) (ret := (some .int)) (lv := [(0, .int (p0))]) (by decide) rfl (Nat.le_of_ble_eq_true rfl) rfl ?_
  intro x X hl hD ha hy hz
  subst hl hD ha hy hz
  unfold f_X7_lowest at h
  refine g_iload_n X dX7_lowest_0 0 rfl ?_
  refine g_iconst X (v := 1) dX7_lowest_1 (by decide) ?_
  refine g_icmp_ne X 9 dX7_lowest_2 (by decide) h (fun c_2 h => ?_) (fun c_2 h => ?_)
  · skip
    refine g_iconst X (v := 0) dX7_lowest_9 (by decide) ?_
    exact g_iret X h dX7_lowest_10
  · skip
    refine g_iconst X (v := 1) dX7_lowest_5 (by decide) ?_
    refine g_goto X 10 dX7_lowest_6 (by decide) ?_
    exact g_iret X h dX7_lowest_10
abbrev rm_X7_highest : Room := { frames := 0, cells := 0, slots := 0, locals := 0 }
theorem hd_X7_highest : yX7_highest.cls ≠ "java/lang/invoke/MethodHandle" ∧ yX7_highest.cls ≠ "java/lang/invoke/VarHandle" ∧ (parseMethodDescriptor yX7_highest.desc).map (fun d => d.parameters.length) = some 1 := by decide +kernel
def f_X7_highest (fu : Nat) (p0 : Int32) (S : g_St) : Option (Int32 × g_St) :=
  if p0 = 0 then (some ((3 : Int32), S)) else (if p0 = (2 : Int32) then (some ((9 : Int32), S)) else (some ((9 : Int32), S)))
set_option maxRecDepth 100000 in
set_option maxHeartbeats 400000 in
theorem ct_X7_highest {l : Launch} {D : va_G} {ad : Nat → Nat} {cy : Nat → ClassId} {zz : (Nat → Nat) × (Nat → Nat)} (hinj : ∀ i j, i < 90 → j < 90 → ad i = ad j → i = j) {fu : Nat} (p0 : Int32)  {S : g_St} (z : Int32 × g_St) (h : f_X7_highest fu p0 S = some z) : g_Mi l g_KC 90 D ad cy zz yX7_highest wsX7_highest rm_X7_highest [.int (p0)] S z := by
  refine g_ofi hinj (cc := cX7_highest) (maxL := 1) (ret := (some .int)) (lv := [(0, .int (p0))]) (by decide) rfl (Nat.le_of_ble_eq_true rfl) rfl ?_
  intro x X hl hD ha hy hz
  subst hl hD ha hy hz
  unfold f_X7_highest at h
  refine g_iload_n X dX7_highest_0 0 rfl ?_
  refine g_if_ne X 6 dX7_highest_1 (by decide) h (fun c_1 h => ?_) (fun c_1 h => ?_)
  · skip
    refine g_iload_n X dX7_highest_6 0 rfl ?_
    refine g_iconst X (v := 2) dX7_highest_7 (by decide) ?_
    refine g_icmp_ne X 16 dX7_highest_8 (by decide) h (fun c_8 h => ?_) (fun c_8 h => ?_)
    · skip
      refine g_bipush X (v := (9)) dX7_highest_16 (by decide) ?_
      exact g_iret X h dX7_highest_18
    · skip
      refine g_bipush X (v := (9)) dX7_highest_11 (by decide) ?_
      refine g_goto X 18 dX7_highest_13 (by decide) ?_
      exact g_iret X h dX7_highest_18
  · skip
    refine g_iconst X (v := 3) dX7_highest_4 (by decide) ?_
    exact g_iret X h dX7_highest_5
abbrev rm_X7_mayBecome : Room := { frames := 1, cells := 0, slots := 0, locals := 20 }
theorem hd_X7_mayBecome : yX7_mayBecome.cls ≠ "java/lang/invoke/MethodHandle" ∧ yX7_mayBecome.cls ≠ "java/lang/invoke/VarHandle" ∧ (parseMethodDescriptor yX7_mayBecome.desc).map (fun d => d.parameters.length) = some 2 := by decide +kernel
def f_X7_mayBecome (fu : Nat) (p0 : Int32) (p1 : Int32) (S : g_St) : Option (Int32 × g_St) :=
  if p0 < 0 then (g_zb (0 : Int32) (some ((0 : Int32), S))) else (if (3 : Int32) < p0 then (g_zb (0 : Int32) (some ((0 : Int32), S))) else (g_bd (f_X7_lowest fu p0 S) fun r1 Sr1 => if p1 < r1 then (g_zb (0 : Int32) (some ((0 : Int32), Sr1))) else (g_bd (f_X7_highest fu p0 Sr1) fun r2 Sr2 => if r2 < p1 then (g_zb (0 : Int32) (some ((0 : Int32), Sr2))) else (g_zb (1 : Int32) (some ((1 : Int32), Sr2))))))
set_option maxRecDepth 100000 in
set_option maxHeartbeats 400000 in
theorem ct_X7_mayBecome {l : Launch} {D : va_G} {ad : Nat → Nat} {cy : Nat → ClassId} {zz : (Nat → Nat) × (Nat → Nat)} (hinj : ∀ i j, i < 90 → j < 90 → ad i = ad j → i = j) {fu : Nat} (p0 : Int32) (p1 : Int32)  {S : g_St} (z : Int32 × g_St) (h : f_X7_mayBecome fu p0 p1 S = some z) : g_Mi l g_KC 90 D ad cy zz yX7_mayBecome wsX7_mayBecome rm_X7_mayBecome [.int (p0), .int (p1)] S z := by
  refine g_ofi hinj (cc := cX7_mayBecome) (maxL := 2) (ret := (some .boolean)) (lv := [(0, .int (p0)), (1, .int (p1))]) (by decide) rfl (Nat.le_of_ble_eq_true rfl) rfl ?_
  intro x X hl hD ha hy hz
  subst hl hD ha hy hz
  unfold f_X7_mayBecome at h
  refine g_iload_n X dX7_mayBecome_0 0 rfl ?_
  refine g_if_lt X 29 dX7_mayBecome_1 (by decide) h (fun c_1 h => ?_) (fun c_1 h => ?_)
  · skip
    refine g_iconst X (v := 0) dX7_mayBecome_29 (by decide) ?_
    exact g_zret X h dX7_mayBecome_30
  · skip
    refine g_iload_n X dX7_mayBecome_4 0 rfl ?_
    refine g_iconst X (v := 3) dX7_mayBecome_5 (by decide) ?_
    refine g_icmp_gt X 29 dX7_mayBecome_6 (by decide) h (fun c_6 h => ?_) (fun c_6 h => ?_)
    · skip
      refine g_iconst X (v := 0) dX7_mayBecome_29 (by decide) ?_
      exact g_zret X h dX7_mayBecome_30
    · skip
      refine g_iload_n X dX7_mayBecome_9 1 rfl ?_
      refine g_iload_n X dX7_mayBecome_10 0 rfl ?_
      refine g_callSi X [.int (p0)] rfl (va_cwS 1 X.2.2.2.2.1 gX7_mayBecome_X7_lowest rfl rfl rfl hd_X7_lowest ⟨Nat.le_of_ble_eq_true rfl, Nat.le_of_ble_eq_true rfl⟩) (Nat.le_of_ble_eq_true rfl) dX7_mayBecome_11 h (fun q hq => ct_X7_lowest X.2.2.2.2.2.2.1 p0  _ hq) (fun r1 Sr1 h => ?_)
      refine g_icmp_lt X 29 dX7_mayBecome_14 (by decide) h (fun c_14 h => ?_) (fun c_14 h => ?_)
      · skip
        refine g_iconst X (v := 0) dX7_mayBecome_29 (by decide) ?_
        exact g_zret X h dX7_mayBecome_30
      · skip
        refine g_iload_n X dX7_mayBecome_17 1 rfl ?_
        refine g_iload_n X dX7_mayBecome_18 0 rfl ?_
        refine g_callSi X [.int (p0)] rfl (va_cwS 1 X.2.2.2.2.1 gX7_mayBecome_X7_highest rfl rfl rfl hd_X7_highest ⟨Nat.le_of_ble_eq_true rfl, Nat.le_of_ble_eq_true rfl⟩) (Nat.le_of_ble_eq_true rfl) dX7_mayBecome_19 h (fun q hq => ct_X7_highest X.2.2.2.2.2.2.1 p0  _ hq) (fun r2 Sr2 h => ?_)
        refine g_icmp_gt X 29 dX7_mayBecome_22 (by decide) h (fun c_22 h => ?_) (fun c_22 h => ?_)
        · skip
          refine g_iconst X (v := 0) dX7_mayBecome_29 (by decide) ?_
          exact g_zret X h dX7_mayBecome_30
        · skip
          refine g_iconst X (v := 1) dX7_mayBecome_25 (by decide) ?_
          refine g_goto X 30 dX7_mayBecome_26 (by decide) ?_
          exact g_zret X h dX7_mayBecome_30
abbrev rm_X7_alter : Room := { frames := 2, cells := 0, slots := 0, locals := 45 }
theorem hd_X7_alter : yX7_alter.cls = RX7 ∧ yX7_alter.cls ≠ "java/lang/invoke/MethodHandle" ∧ yX7_alter.cls ≠ "java/lang/invoke/VarHandle" ∧ (parseMethodDescriptor yX7_alter.desc).map (fun d => d.parameters.length) = some 3 := by decide +kernel
theorem w_X7_alter_10 : Cond.fieldLink RX7 10 "TokenDoors" "now" "LTokenDoors$Hall;" ∈ wsX7_alter := by decide +kernel
theorem w_X7_alter_inX7 : ∀ w ∈ wsX70, w ∈ wsX7_alter := by decide +kernel
theorem w_X7_alter_115 : Cond.fieldLink RX7 115 "TokenDoors$Hall" "doors" "[LTokenDoors$Door;" ∈ wsX7_alter := by decide +kernel
theorem w_X7_alter_inX2 : ∀ w ∈ wsX20, w ∈ wsX7_alter := by decide +kernel
theorem w_X7_alter_145 : Cond.fieldLink RX7 145 "TokenDoors$Door" "depth" "I" ∈ wsX7_alter := by decide +kernel
theorem w_X7_alter_inX1 : ∀ w ∈ wsX10, w ∈ wsX7_alter := by decide +kernel
def j_X7_alter_46 (fu : Nat) (v2 : Int32) (v3 : Int32) (v4 : Nat) (S : g_St) : Option (Int32 × g_St) :=
  g_bd (f_X1_told fu v4 v2 S) fun r6 Sr6 => g_bd (f_X1_change fu v4 v2 v3 Sr6) fun _ Sr7 => some (r6, Sr7)
def f_X7_alter (fu : Nat) (o : Nat) (p0 : Int32) (p1 : Int32) (p2 : Int32) (S : g_St) : Option (Int32 × g_St) :=
  g_bd (f_X7_isDoor fu o p0 S) fun r1 Sr1 => if r1 = 0 then (some ((-1 : Int32), Sr1)) else (g_bd (f_X7_mayBecome fu p1 p2 Sr1) fun r2 Sr2 => if r2 = 0 then (some ((-1 : Int32), Sr2)) else (g_ld g_KC 90 g_kX2 (Sr2.2 o 0) fun a3 => g_ld g_KC 90 (.inr (3, 4, true)) (Sr2.2 a3 0) fun a4 => g_ix p0 4 fun i5 => g_ld g_KC 90 g_kX1 (Sr2.2 a4 i5) fun a5 => if p1 = (3 : Int32) then (if p2 ≤ (Sr2.1 a5 1) then (j_X7_alter_46 fu p1 p2 a5 Sr2) else (some ((-2 : Int32), Sr2))) else (j_X7_alter_46 fu p1 p2 a5 Sr2)))
set_option maxRecDepth 100000 in
set_option maxHeartbeats 400000 in
theorem vj_X7_alter_46 {x : g_CX} {z : Int32 × g_St} {fu : Nat} (X : g_X 90 x cX7_alter RX7 6 wsX7_alter rm_X7_alter (some .int)) (v2 : Int32) (v3 : Int32) (v4 : Nat) (hk_v4 : v4 < 90 ∧ g_KC v4 = g_kX1) (S : g_St) (h : j_X7_alter_46 fu v2 v3 v4 S = some z) : g_V g_KC 90 x 6 (g_qi g_KC 90 x z) S 46 [(2, .int (v2)), (3, .int (v3)), (4, .ref (g_ad x v4))] [] := by
  unfold j_X7_alter_46 at h
  refine g_aload X dX7_alter_46 2 rfl ?_
  refine g_iload_n X dX7_alter_48 0 rfl ?_
  refine g_callVi X g_cX1 hk_v4 [.int (v2)] rfl (cwV 1 X.2.2.2.2.1 gX7_alter_X1_told rfl rfl rfl hd_X1_told ⟨Nat.le_of_ble_eq_true rfl, Nat.le_of_ble_eq_true rfl⟩) (Nat.le_of_ble_eq_true rfl) dX7_alter_49 h (fun q hq => ct_X1_told X.2.2.2.2.2.2.1 v4 v2 hk_v4 _ hq) (fun r6 Sr6 h => ?_)
  refine g_istore X [(5, _), (2, _), (3, _), (4, _)] dX7_alter_52 (by decide) rfl ?_
  refine g_aload X dX7_alter_54 3 rfl ?_
  refine g_iload_n X dX7_alter_56 1 rfl ?_
  refine g_iload_n X dX7_alter_57 2 rfl ?_
  refine g_callVv X g_cX1 hk_v4 [.int (v2), .int (v3)] rfl (cwV 2 X.2.2.2.2.1 gX7_alter_X1_change rfl rfl rfl hd_X1_change ⟨Nat.le_of_ble_eq_true rfl, Nat.le_of_ble_eq_true rfl⟩) (Nat.le_of_ble_eq_true rfl) dX7_alter_58 h (fun q hq => ct_X1_change X.2.2.2.2.2.2.1 v4 v2 v3 hk_v4 _ hq) (fun _ Sr7 h => ?_)
  refine g_iload X dX7_alter_61 0 rfl ?_
  exact g_iret X h dX7_alter_63
set_option maxRecDepth 100000 in
set_option maxHeartbeats 400000 in
theorem ct_X7_alter {l : Launch} {D : va_G} {ad : Nat → Nat} {cy : Nat → ClassId} {zz : (Nat → Nat) × (Nat → Nat)} (hinj : ∀ i j, i < 90 → j < 90 → ad i = ad j → i = j) {fu : Nat} (o : Nat) (p0 : Int32) (p1 : Int32) (p2 : Int32) (hk_o : o < 90 ∧ g_KC o = g_kX7) {S : g_St} (z : Int32 × g_St) (h : f_X7_alter fu o p0 p1 p2 S = some z) : g_Mi l g_KC 90 D ad cy zz yX7_alter wsX7_alter rm_X7_alter [.ref (ad o), .int (p0), .int (p1), .int (p2)] S z := by
  refine g_ofi hinj (cc := cX7_alter) (maxL := 6) (ret := (some .int)) (lv := [(0, .ref (ad o)), (1, .int (p0)), (2, .int (p1)), (3, .int (p2))]) (by decide) rfl (Nat.le_of_ble_eq_true rfl) rfl ?_
  intro x X hl hD ha hy hz
  subst hl hD ha hy hz
  unfold f_X7_alter at h
  refine g_aload_n X dX7_alter_0 0 rfl ?_
  refine g_iload_n X dX7_alter_1 1 rfl ?_
  refine g_callVi X g_cX7 hk_o [.int (p0)] rfl (cwV 1 X.2.2.2.2.1 gX7_alter_X7_isDoor rfl rfl rfl hd_X7_isDoor ⟨Nat.le_of_ble_eq_true rfl, Nat.le_of_ble_eq_true rfl⟩) (Nat.le_of_ble_eq_true rfl) dX7_alter_2 h (fun q hq => ct_X7_isDoor X.2.2.2.2.2.2.1 o p0 hk_o _ hq) (fun r1 Sr1 h => ?_)
  refine g_if_eq X 16 dX7_alter_5 (by decide) h (fun c_5 h => ?_) (fun c_5 h => ?_)
  · skip
    refine g_iconst X (v := (-1)) dX7_alter_16 (by decide) ?_
    exact g_iret X h dX7_alter_17
  · skip
    refine g_iload_n X dX7_alter_8 2 rfl ?_
    refine g_iload_n X dX7_alter_9 3 rfl ?_
    refine g_callSi X [.int (p1), .int (p2)] rfl (va_cwS 2 X.2.2.2.2.1 gX7_alter_X7_mayBecome rfl rfl rfl hd_X7_mayBecome ⟨Nat.le_of_ble_eq_true rfl, Nat.le_of_ble_eq_true rfl⟩) (Nat.le_of_ble_eq_true rfl) dX7_alter_10 h (fun q hq => ct_X7_mayBecome X.2.2.2.2.2.2.1 p1 p2  _ hq) (fun r2 Sr2 h => ?_)
    refine g_if_ne X 18 dX7_alter_13 (by decide) h (fun c_13 h => ?_) (fun c_13 h => ?_)
    · skip
      refine g_aload_n X dX7_alter_18 0 rfl ?_
      refine g_getr X g_cX7 w_X7_alter_inX7 0 (by decide) w_X7_alter_10 hk_o rfl dX7_alter_19 h (fun a3 hk_a3 h => ?_)
      refine g_getr X g_cX2 w_X7_alter_inX2 0 (by decide) w_X7_alter_115 hk_a3 rfl dX7_alter_22 h (fun a4 hk_a4 h => ?_)
      refine g_iload_n X dX7_alter_25 1 rfl ?_
      refine g_aald X 3 RX1 rfl hk_a4 dX7_alter_26 h (fun a5 hk_a5 h => ?_)
      refine g_astore X [(4, _), (0, _), (1, _), (2, _), (3, _)] dX7_alter_27 (by decide) rfl ?_
      refine g_iload_n X dX7_alter_29 3 rfl ?_
      refine g_iconst X (v := 3) dX7_alter_30 (by decide) ?_
      refine g_icmp_ne X 46 dX7_alter_31 (by decide) h (fun c_31 h => ?_) (fun c_31 h => ?_)
      · skip
        refine g_sub [3, 4, 0] _ rfl ?_
        exact vj_X7_alter_46 X p1 p2 a5 hk_a5 _ h
      · skip
        refine g_iload_n X dX7_alter_34 4 rfl ?_
        refine g_aload X dX7_alter_35 0 rfl ?_
        refine g_geti X g_cX1 w_X7_alter_inX1 1 (by decide) w_X7_alter_145 hk_a5 rfl dX7_alter_37 ?_
        refine g_icmp_le X 46 dX7_alter_40 (by decide) h (fun c_40 h => ?_) (fun c_40 h => ?_)
        · skip
          refine g_sub [3, 4, 0] _ rfl ?_
          exact vj_X7_alter_46 X p1 p2 a5 hk_a5 _ h
        · skip
          refine g_bipush X (v := (-2)) dX7_alter_43 (by decide) ?_
          exact g_iret X h dX7_alter_45
    · skip
      refine g_iconst X (v := (-1)) dX7_alter_16 (by decide) ?_
      exact g_iret X h dX7_alter_17
abbrev rm_X7_hang : Room := { frames := 2, cells := 0, slots := 0, locals := 46 }
theorem hd_X7_hang : yX7_hang.cls = RX7 ∧ yX7_hang.cls ≠ "java/lang/invoke/MethodHandle" ∧ yX7_hang.cls ≠ "java/lang/invoke/VarHandle" ∧ (parseMethodDescriptor yX7_hang.desc).map (fun d => d.parameters.length) = some 3 := by decide +kernel
theorem w_X7_hang_10 : Cond.fieldLink RX7 10 "TokenDoors" "now" "LTokenDoors$Hall;" ∈ wsX7_hang := by decide +kernel
theorem w_X7_hang_inX7 : ∀ w ∈ wsX70, w ∈ wsX7_hang := by decide +kernel
theorem w_X7_hang_91 : Cond.fieldLink RX7 91 "TokenDoors$Hall" "doorCount" "I" ∈ wsX7_hang := by decide +kernel
theorem w_X7_hang_inX2 : ∀ w ∈ wsX20, w ∈ wsX7_hang := by decide +kernel
def f_X7_hang (fu : Nat) (o : Nat) (p0 : Int32) (p1 : Int32) (p2 : Int32) (S : g_St) : Option (Int32 × g_St) :=
  g_bd (f_X7_mayBecome fu ((0 : Int32)) p0 S) fun r1 Sr1 => if r1 = 0 then (some ((-1 : Int32), Sr1)) else (g_bd (f_X7_mayBecome fu ((1 : Int32)) p1 Sr1) fun r2 Sr2 => if r2 = 0 then (some ((-1 : Int32), Sr2)) else (g_bd (f_X7_mayBecome fu ((2 : Int32)) p2 Sr2) fun r3 Sr3 => if r3 = 0 then (some ((-1 : Int32), Sr3)) else (g_ld g_KC 90 g_kX2 (Sr3.2 o 0) fun a4 => g_bd (f_X2_addDoor fu a4 p0 p1 p2 Sr3) fun r5 Sr5 => if r5 = 0 then (some ((-3 : Int32), Sr5)) else (g_ld g_KC 90 g_kX2 (Sr5.2 o 0) fun a6 => some ((Sr5.1 a6 2), Sr5)))))
set_option maxRecDepth 100000 in
set_option maxHeartbeats 400000 in
theorem ct_X7_hang {l : Launch} {D : va_G} {ad : Nat → Nat} {cy : Nat → ClassId} {zz : (Nat → Nat) × (Nat → Nat)} (hinj : ∀ i j, i < 90 → j < 90 → ad i = ad j → i = j) {fu : Nat} (o : Nat) (p0 : Int32) (p1 : Int32) (p2 : Int32) (hk_o : o < 90 ∧ g_KC o = g_kX7) {S : g_St} (z : Int32 × g_St) (h : f_X7_hang fu o p0 p1 p2 S = some z) : g_Mi l g_KC 90 D ad cy zz yX7_hang wsX7_hang rm_X7_hang [.ref (ad o), .int (p0), .int (p1), .int (p2)] S z := by
  refine g_ofi hinj (cc := cX7_hang) (maxL := 4) (ret := (some .int)) (lv := [(0, .ref (ad o)), (1, .int (p0)), (2, .int (p1)), (3, .int (p2))]) (by decide) rfl (Nat.le_of_ble_eq_true rfl) rfl ?_
  intro x X hl hD ha hy hz
  subst hl hD ha hy hz
  unfold f_X7_hang at h
  refine g_iconst X (v := 0) dX7_hang_0 (by decide) ?_
  refine g_iload_n X dX7_hang_1 1 rfl ?_
  refine g_callSi X [.int ((0 : Int32)), .int (p0)] rfl (va_cwS 2 X.2.2.2.2.1 gX7_hang_X7_mayBecome rfl rfl rfl hd_X7_mayBecome ⟨Nat.le_of_ble_eq_true rfl, Nat.le_of_ble_eq_true rfl⟩) (Nat.le_of_ble_eq_true rfl) dX7_hang_2 h (fun q hq => ct_X7_mayBecome X.2.2.2.2.2.2.1 ((0 : Int32)) p0  _ hq) (fun r1 Sr1 h => ?_)
  refine g_if_eq X 24 dX7_hang_5 (by decide) h (fun c_5 h => ?_) (fun c_5 h => ?_)
  · skip
    refine g_iconst X (v := (-1)) dX7_hang_24 (by decide) ?_
    exact g_iret X h dX7_hang_25
  · skip
    refine g_iconst X (v := 1) dX7_hang_8 (by decide) ?_
    refine g_iload_n X dX7_hang_9 2 rfl ?_
    refine g_callSi X [.int ((1 : Int32)), .int (p1)] rfl (va_cwS 2 X.2.2.2.2.1 gX7_hang_X7_mayBecome rfl rfl rfl hd_X7_mayBecome ⟨Nat.le_of_ble_eq_true rfl, Nat.le_of_ble_eq_true rfl⟩) (Nat.le_of_ble_eq_true rfl) dX7_hang_10 h (fun q hq => ct_X7_mayBecome X.2.2.2.2.2.2.1 ((1 : Int32)) p1  _ hq) (fun r2 Sr2 h => ?_)
    refine g_if_eq X 24 dX7_hang_13 (by decide) h (fun c_13 h => ?_) (fun c_13 h => ?_)
    · skip
      refine g_iconst X (v := (-1)) dX7_hang_24 (by decide) ?_
      exact g_iret X h dX7_hang_25
    · skip
      refine g_iconst X (v := 2) dX7_hang_16 (by decide) ?_
      refine g_iload_n X dX7_hang_17 3 rfl ?_
      refine g_callSi X [.int ((2 : Int32)), .int (p2)] rfl (va_cwS 2 X.2.2.2.2.1 gX7_hang_X7_mayBecome rfl rfl rfl hd_X7_mayBecome ⟨Nat.le_of_ble_eq_true rfl, Nat.le_of_ble_eq_true rfl⟩) (Nat.le_of_ble_eq_true rfl) dX7_hang_18 h (fun q hq => ct_X7_mayBecome X.2.2.2.2.2.2.1 ((2 : Int32)) p2  _ hq) (fun r3 Sr3 h => ?_)
      refine g_if_ne X 26 dX7_hang_21 (by decide) h (fun c_21 h => ?_) (fun c_21 h => ?_)
      · skip
        refine g_aload_n X dX7_hang_26 0 rfl ?_
        refine g_getr X g_cX7 w_X7_hang_inX7 0 (by decide) w_X7_hang_10 hk_o rfl dX7_hang_27 h (fun a4 hk_a4 h => ?_)
        refine g_iload_n X dX7_hang_30 1 rfl ?_
        refine g_iload_n X dX7_hang_31 2 rfl ?_
        refine g_iload_n X dX7_hang_32 3 rfl ?_
        refine g_callVi X g_cX2 hk_a4 [.int (p0), .int (p1), .int (p2)] rfl (cwV 3 X.2.2.2.2.1 gX7_hang_X2_addDoor rfl rfl rfl hd_X2_addDoor ⟨Nat.le_of_ble_eq_true rfl, Nat.le_of_ble_eq_true rfl⟩) (Nat.le_of_ble_eq_true rfl) dX7_hang_33 h (fun q hq => ct_X2_addDoor X.2.2.2.2.2.2.1 a4 p0 p1 p2 hk_a4 _ hq) (fun r5 Sr5 h => ?_)
        refine g_if_eq X 49 dX7_hang_36 (by decide) h (fun c_36 h => ?_) (fun c_36 h => ?_)
        · skip
          refine g_bipush X (v := (-3)) dX7_hang_49 (by decide) ?_
          exact g_iret X h dX7_hang_51
        · skip
          refine g_aload_n X dX7_hang_39 0 rfl ?_
          refine g_getr X g_cX7 w_X7_hang_inX7 0 (by decide) w_X7_hang_10 hk_o rfl dX7_hang_40 h (fun a6 hk_a6 h => ?_)
          refine g_geti X g_cX2 w_X7_hang_inX2 2 (by decide) w_X7_hang_91 hk_a6 rfl dX7_hang_43 ?_
          refine g_goto X 51 dX7_hang_46 (by decide) ?_
          exact g_iret X h dX7_hang_51
      · skip
        refine g_iconst X (v := (-1)) dX7_hang_24 (by decide) ?_
        exact g_iret X h dX7_hang_25
abbrev rm_X7_cut : Room := { frames := 0, cells := 0, slots := 0, locals := 0 }
theorem hd_X7_cut : yX7_cut.cls = RX7 ∧ yX7_cut.cls ≠ "java/lang/invoke/MethodHandle" ∧ yX7_cut.cls ≠ "java/lang/invoke/VarHandle" ∧ (parseMethodDescriptor yX7_cut.desc).map (fun d => d.parameters.length) = some 1 := by decide +kernel
theorem w_X7_cut_10 : Cond.fieldLink RX7 10 "TokenDoors" "now" "LTokenDoors$Hall;" ∈ wsX7_cut := by decide +kernel
theorem w_X7_cut_inX7 : ∀ w ∈ wsX70, w ∈ wsX7_cut := by decide +kernel
theorem w_X7_cut_91 : Cond.fieldLink RX7 91 "TokenDoors$Hall" "doorCount" "I" ∈ wsX7_cut := by decide +kernel
theorem w_X7_cut_inX2 : ∀ w ∈ wsX20, w ∈ wsX7_cut := by decide +kernel
def f_X7_cut (fu : Nat) (o : Nat) (p0 : Int32) (S : g_St) : Option (Int32 × g_St) :=
  if p0 < 0 then (some ((-1 : Int32), S)) else (g_ld g_KC 90 g_kX2 (S.2 o 0) fun a1 => if p0 ≤ (S.1 a1 2) then (g_ld g_KC 90 g_kX2 (S.2 o 0) fun a2 => g_ld g_KC 90 g_kX2 (S.2 o 0) fun a3 => some ((S.1 a2 2), (g_u S.1 a3 2 p0, S.2))) else (some ((-1 : Int32), S)))
set_option maxRecDepth 100000 in
set_option maxHeartbeats 400000 in
theorem ct_X7_cut {l : Launch} {D : va_G} {ad : Nat → Nat} {cy : Nat → ClassId} {zz : (Nat → Nat) × (Nat → Nat)} (hinj : ∀ i j, i < 90 → j < 90 → ad i = ad j → i = j) {fu : Nat} (o : Nat) (p0 : Int32) (hk_o : o < 90 ∧ g_KC o = g_kX7) {S : g_St} (z : Int32 × g_St) (h : f_X7_cut fu o p0 S = some z) : g_Mi l g_KC 90 D ad cy zz yX7_cut wsX7_cut rm_X7_cut [.ref (ad o), .int (p0)] S z := by
  refine g_ofi hinj (cc := cX7_cut) (maxL := 3) (ret := (some .int)) (lv := [(0, .ref (ad o)), (1, .int (p0))]) (by decide) rfl (Nat.le_of_ble_eq_true rfl) rfl ?_
  intro x X hl hD ha hy hz
  subst hl hD ha hy hz
  unfold f_X7_cut at h
  refine g_iload_n X dX7_cut_0 1 rfl ?_
  refine g_if_lt X 15 dX7_cut_1 (by decide) h (fun c_1 h => ?_) (fun c_1 h => ?_)
  · skip
    refine g_iconst X (v := (-1)) dX7_cut_15 (by decide) ?_
    exact g_iret X h dX7_cut_16
  · skip
    refine g_iload_n X dX7_cut_4 1 rfl ?_
    refine g_aload_n X dX7_cut_5 0 rfl ?_
    refine g_getr X g_cX7 w_X7_cut_inX7 0 (by decide) w_X7_cut_10 hk_o rfl dX7_cut_6 h (fun a1 hk_a1 h => ?_)
    refine g_geti X g_cX2 w_X7_cut_inX2 2 (by decide) w_X7_cut_91 hk_a1 rfl dX7_cut_9 ?_
    refine g_icmp_le X 17 dX7_cut_12 (by decide) h (fun c_12 h => ?_) (fun c_12 h => ?_)
    · skip
      refine g_aload_n X dX7_cut_17 0 rfl ?_
      refine g_getr X g_cX7 w_X7_cut_inX7 0 (by decide) w_X7_cut_10 hk_o rfl dX7_cut_18 h (fun a2 hk_a2 h => ?_)
      refine g_geti X g_cX2 w_X7_cut_inX2 2 (by decide) w_X7_cut_91 hk_a2 rfl dX7_cut_21 ?_
      refine g_istore_n X [(2, _), (0, _), (1, _)] dX7_cut_24 (by decide) rfl ?_
      refine g_aload_n X dX7_cut_25 1 rfl ?_
      refine g_getr X g_cX7 w_X7_cut_inX7 0 (by decide) w_X7_cut_10 hk_o rfl dX7_cut_26 h (fun a3 hk_a3 h => ?_)
      refine g_iload_n X dX7_cut_29 2 rfl ?_
      refine g_puti X g_cX2 w_X7_cut_inX2 2 (by decide) w_X7_cut_91 hk_a3 rfl rfl (t := .int) (by decide +kernel) rfl rfl dX7_cut_30 ?_
      refine g_iload_n X dX7_cut_33 0 rfl ?_
      exact g_iret X h dX7_cut_34
    · skip
      refine g_iconst X (v := (-1)) dX7_cut_15 (by decide) ?_
      exact g_iret X h dX7_cut_16
abbrev rm_X7_isCrowd : Room := { frames := 0, cells := 0, slots := 0, locals := 0 }
theorem hd_X7_isCrowd : yX7_isCrowd.cls ≠ "java/lang/invoke/MethodHandle" ∧ yX7_isCrowd.cls ≠ "java/lang/invoke/VarHandle" ∧ (parseMethodDescriptor yX7_isCrowd.desc).map (fun d => d.parameters.length) = some 3 := by decide +kernel
def f_X7_isCrowd (fu : Nat) (p0 : Int32) (p1 : Int32) (p2 : Int32) (S : g_St) : Option (Int32 × g_St) :=
  if p0 < 0 then (g_zb (0 : Int32) (some ((0 : Int32), S))) else (if (99 : Int32) < p0 then (g_zb (0 : Int32) (some ((0 : Int32), S))) else (if p1 < (1 : Int32) then (g_zb (0 : Int32) (some ((0 : Int32), S))) else (if (9 : Int32) < p1 then (g_zb (0 : Int32) (some ((0 : Int32), S))) else (if p2 < 0 then (g_zb (0 : Int32) (some ((0 : Int32), S))) else (if (9 : Int32) < p2 then (g_zb (0 : Int32) (some ((0 : Int32), S))) else (g_zb (1 : Int32) (some ((1 : Int32), S))))))))
set_option maxRecDepth 100000 in
set_option maxHeartbeats 400000 in
theorem ct_X7_isCrowd {l : Launch} {D : va_G} {ad : Nat → Nat} {cy : Nat → ClassId} {zz : (Nat → Nat) × (Nat → Nat)} (hinj : ∀ i j, i < 90 → j < 90 → ad i = ad j → i = j) {fu : Nat} (p0 : Int32) (p1 : Int32) (p2 : Int32)  {S : g_St} (z : Int32 × g_St) (h : f_X7_isCrowd fu p0 p1 p2 S = some z) : g_Mi l g_KC 90 D ad cy zz yX7_isCrowd wsX7_isCrowd rm_X7_isCrowd [.int (p0), .int (p1), .int (p2)] S z := by
  refine g_ofi hinj (cc := cX7_isCrowd) (maxL := 3) (ret := (some .boolean)) (lv := [(0, .int (p0)), (1, .int (p1)), (2, .int (p2))]) (by decide) rfl (Nat.le_of_ble_eq_true rfl) rfl ?_
  intro x X hl hD ha hy hz
  subst hl hD ha hy hz
  unfold f_X7_isCrowd at h
  refine g_iload_n X dX7_isCrowd_0 0 rfl ?_
  refine g_if_lt X 35 dX7_isCrowd_1 (by decide) h (fun c_1 h => ?_) (fun c_1 h => ?_)
  · skip
    refine g_iconst X (v := 0) dX7_isCrowd_35 (by decide) ?_
    exact g_zret X h dX7_isCrowd_36
  · skip
    refine g_iload_n X dX7_isCrowd_4 0 rfl ?_
    refine g_bipush X (v := (99)) dX7_isCrowd_5 (by decide) ?_
    refine g_icmp_gt X 35 dX7_isCrowd_7 (by decide) h (fun c_7 h => ?_) (fun c_7 h => ?_)
    · skip
      refine g_iconst X (v := 0) dX7_isCrowd_35 (by decide) ?_
      exact g_zret X h dX7_isCrowd_36
    · skip
      refine g_iload_n X dX7_isCrowd_10 1 rfl ?_
      refine g_iconst X (v := 1) dX7_isCrowd_11 (by decide) ?_
      refine g_icmp_lt X 35 dX7_isCrowd_12 (by decide) h (fun c_12 h => ?_) (fun c_12 h => ?_)
      · skip
        refine g_iconst X (v := 0) dX7_isCrowd_35 (by decide) ?_
        exact g_zret X h dX7_isCrowd_36
      · skip
        refine g_iload_n X dX7_isCrowd_15 1 rfl ?_
        refine g_bipush X (v := (9)) dX7_isCrowd_16 (by decide) ?_
        refine g_icmp_gt X 35 dX7_isCrowd_18 (by decide) h (fun c_18 h => ?_) (fun c_18 h => ?_)
        · skip
          refine g_iconst X (v := 0) dX7_isCrowd_35 (by decide) ?_
          exact g_zret X h dX7_isCrowd_36
        · skip
          refine g_iload_n X dX7_isCrowd_21 2 rfl ?_
          refine g_if_lt X 35 dX7_isCrowd_22 (by decide) h (fun c_22 h => ?_) (fun c_22 h => ?_)
          · skip
            refine g_iconst X (v := 0) dX7_isCrowd_35 (by decide) ?_
            exact g_zret X h dX7_isCrowd_36
          · skip
            refine g_iload_n X dX7_isCrowd_25 2 rfl ?_
            refine g_bipush X (v := (9)) dX7_isCrowd_26 (by decide) ?_
            refine g_icmp_gt X 35 dX7_isCrowd_28 (by decide) h (fun c_28 h => ?_) (fun c_28 h => ?_)
            · skip
              refine g_iconst X (v := 0) dX7_isCrowd_35 (by decide) ?_
              exact g_zret X h dX7_isCrowd_36
            · skip
              refine g_iconst X (v := 1) dX7_isCrowd_31 (by decide) ?_
              refine g_goto X 36 dX7_isCrowd_32 (by decide) ?_
              exact g_zret X h dX7_isCrowd_36
abbrev rm_X7_come : Room := { frames := 2, cells := 0, slots := 0, locals := 46 }
theorem hd_X7_come : yX7_come.cls = RX7 ∧ yX7_come.cls ≠ "java/lang/invoke/MethodHandle" ∧ yX7_come.cls ≠ "java/lang/invoke/VarHandle" ∧ (parseMethodDescriptor yX7_come.desc).map (fun d => d.parameters.length) = some 3 := by decide +kernel
theorem w_X7_come_10 : Cond.fieldLink RX7 10 "TokenDoors" "now" "LTokenDoors$Hall;" ∈ wsX7_come := by decide +kernel
theorem w_X7_come_inX7 : ∀ w ∈ wsX70, w ∈ wsX7_come := by decide +kernel
theorem w_X7_come_94 : Cond.fieldLink RX7 94 "TokenDoors$Hall" "crowdCount" "I" ∈ wsX7_come := by decide +kernel
theorem w_X7_come_inX2 : ∀ w ∈ wsX20, w ∈ wsX7_come := by decide +kernel
def f_X7_come (fu : Nat) (o : Nat) (p0 : Int32) (p1 : Int32) (p2 : Int32) (S : g_St) : Option (Int32 × g_St) :=
  g_bd (f_X7_isCrowd fu p0 p1 p2 S) fun r1 Sr1 => if r1 = 0 then (some ((-1 : Int32), Sr1)) else (g_ld g_KC 90 g_kX2 (Sr1.2 o 0) fun a2 => g_bd (f_X2_addCrowd fu a2 p0 p1 p2 Sr1) fun r3 Sr3 => if r3 = 0 then (some ((-3 : Int32), Sr3)) else (g_ld g_KC 90 g_kX2 (Sr3.2 o 0) fun a4 => some ((Sr3.1 a4 3), Sr3)))
set_option maxRecDepth 100000 in
set_option maxHeartbeats 400000 in
theorem ct_X7_come {l : Launch} {D : va_G} {ad : Nat → Nat} {cy : Nat → ClassId} {zz : (Nat → Nat) × (Nat → Nat)} (hinj : ∀ i j, i < 90 → j < 90 → ad i = ad j → i = j) {fu : Nat} (o : Nat) (p0 : Int32) (p1 : Int32) (p2 : Int32) (hk_o : o < 90 ∧ g_KC o = g_kX7) {S : g_St} (z : Int32 × g_St) (h : f_X7_come fu o p0 p1 p2 S = some z) : g_Mi l g_KC 90 D ad cy zz yX7_come wsX7_come rm_X7_come [.ref (ad o), .int (p0), .int (p1), .int (p2)] S z := by
  refine g_ofi hinj (cc := cX7_come) (maxL := 4) (ret := (some .int)) (lv := [(0, .ref (ad o)), (1, .int (p0)), (2, .int (p1)), (3, .int (p2))]) (by decide) rfl (Nat.le_of_ble_eq_true rfl) rfl ?_
  intro x X hl hD ha hy hz
  subst hl hD ha hy hz
  unfold f_X7_come at h
  refine g_iload_n X dX7_come_0 1 rfl ?_
  refine g_iload_n X dX7_come_1 2 rfl ?_
  refine g_iload_n X dX7_come_2 3 rfl ?_
  refine g_callSi X [.int (p0), .int (p1), .int (p2)] rfl (va_cwS 3 X.2.2.2.2.1 gX7_come_X7_isCrowd rfl rfl rfl hd_X7_isCrowd ⟨Nat.le_of_ble_eq_true rfl, Nat.le_of_ble_eq_true rfl⟩) (Nat.le_of_ble_eq_true rfl) dX7_come_3 h (fun q hq => ct_X7_isCrowd X.2.2.2.2.2.2.1 p0 p1 p2  _ hq) (fun r1 Sr1 h => ?_)
  refine g_if_ne X 11 dX7_come_6 (by decide) h (fun c_6 h => ?_) (fun c_6 h => ?_)
  · skip
    refine g_aload_n X dX7_come_11 0 rfl ?_
    refine g_getr X g_cX7 w_X7_come_inX7 0 (by decide) w_X7_come_10 hk_o rfl dX7_come_12 h (fun a2 hk_a2 h => ?_)
    refine g_iload_n X dX7_come_15 1 rfl ?_
    refine g_iload_n X dX7_come_16 2 rfl ?_
    refine g_iload_n X dX7_come_17 3 rfl ?_
    refine g_callVi X g_cX2 hk_a2 [.int (p0), .int (p1), .int (p2)] rfl (cwV 3 X.2.2.2.2.1 gX7_come_X2_addCrowd rfl rfl rfl hd_X2_addCrowd ⟨Nat.le_of_ble_eq_true rfl, Nat.le_of_ble_eq_true rfl⟩) (Nat.le_of_ble_eq_true rfl) dX7_come_18 h (fun q hq => ct_X2_addCrowd X.2.2.2.2.2.2.1 a2 p0 p1 p2 hk_a2 _ hq) (fun r3 Sr3 h => ?_)
    refine g_if_eq X 34 dX7_come_21 (by decide) h (fun c_21 h => ?_) (fun c_21 h => ?_)
    · skip
      refine g_bipush X (v := (-3)) dX7_come_34 (by decide) ?_
      exact g_iret X h dX7_come_36
    · skip
      refine g_aload_n X dX7_come_24 0 rfl ?_
      refine g_getr X g_cX7 w_X7_come_inX7 0 (by decide) w_X7_come_10 hk_o rfl dX7_come_25 h (fun a4 hk_a4 h => ?_)
      refine g_geti X g_cX2 w_X7_come_inX2 3 (by decide) w_X7_come_94 hk_a4 rfl dX7_come_28 ?_
      refine g_goto X 36 dX7_come_31 (by decide) ?_
      exact g_iret X h dX7_come_36
  · skip
    refine g_iconst X (v := (-1)) dX7_come_9 (by decide) ?_
    exact g_iret X h dX7_come_10
abbrev rm_X7_leave : Room := { frames := 0, cells := 0, slots := 0, locals := 0 }
theorem hd_X7_leave : yX7_leave.cls = RX7 ∧ yX7_leave.cls ≠ "java/lang/invoke/MethodHandle" ∧ yX7_leave.cls ≠ "java/lang/invoke/VarHandle" ∧ (parseMethodDescriptor yX7_leave.desc).map (fun d => d.parameters.length) = some 1 := by decide +kernel
theorem w_X7_leave_10 : Cond.fieldLink RX7 10 "TokenDoors" "now" "LTokenDoors$Hall;" ∈ wsX7_leave := by decide +kernel
theorem w_X7_leave_inX7 : ∀ w ∈ wsX70, w ∈ wsX7_leave := by decide +kernel
theorem w_X7_leave_94 : Cond.fieldLink RX7 94 "TokenDoors$Hall" "crowdCount" "I" ∈ wsX7_leave := by decide +kernel
theorem w_X7_leave_inX2 : ∀ w ∈ wsX20, w ∈ wsX7_leave := by decide +kernel
def f_X7_leave (fu : Nat) (o : Nat) (p0 : Int32) (S : g_St) : Option (Int32 × g_St) :=
  if p0 < 0 then (some ((-1 : Int32), S)) else (g_ld g_KC 90 g_kX2 (S.2 o 0) fun a1 => if p0 ≤ (S.1 a1 3) then (g_ld g_KC 90 g_kX2 (S.2 o 0) fun a2 => g_ld g_KC 90 g_kX2 (S.2 o 0) fun a3 => some ((S.1 a2 3), (g_u S.1 a3 3 p0, S.2))) else (some ((-1 : Int32), S)))
set_option maxRecDepth 100000 in
set_option maxHeartbeats 400000 in
theorem ct_X7_leave {l : Launch} {D : va_G} {ad : Nat → Nat} {cy : Nat → ClassId} {zz : (Nat → Nat) × (Nat → Nat)} (hinj : ∀ i j, i < 90 → j < 90 → ad i = ad j → i = j) {fu : Nat} (o : Nat) (p0 : Int32) (hk_o : o < 90 ∧ g_KC o = g_kX7) {S : g_St} (z : Int32 × g_St) (h : f_X7_leave fu o p0 S = some z) : g_Mi l g_KC 90 D ad cy zz yX7_leave wsX7_leave rm_X7_leave [.ref (ad o), .int (p0)] S z := by
  refine g_ofi hinj (cc := cX7_leave) (maxL := 3) (ret := (some .int)) (lv := [(0, .ref (ad o)), (1, .int (p0))]) (by decide) rfl (Nat.le_of_ble_eq_true rfl) rfl ?_
  intro x X hl hD ha hy hz
  subst hl hD ha hy hz
  unfold f_X7_leave at h
  refine g_iload_n X dX7_leave_0 1 rfl ?_
  refine g_if_lt X 15 dX7_leave_1 (by decide) h (fun c_1 h => ?_) (fun c_1 h => ?_)
  · skip
    refine g_iconst X (v := (-1)) dX7_leave_15 (by decide) ?_
    exact g_iret X h dX7_leave_16
  · skip
    refine g_iload_n X dX7_leave_4 1 rfl ?_
    refine g_aload_n X dX7_leave_5 0 rfl ?_
    refine g_getr X g_cX7 w_X7_leave_inX7 0 (by decide) w_X7_leave_10 hk_o rfl dX7_leave_6 h (fun a1 hk_a1 h => ?_)
    refine g_geti X g_cX2 w_X7_leave_inX2 3 (by decide) w_X7_leave_94 hk_a1 rfl dX7_leave_9 ?_
    refine g_icmp_le X 17 dX7_leave_12 (by decide) h (fun c_12 h => ?_) (fun c_12 h => ?_)
    · skip
      refine g_aload_n X dX7_leave_17 0 rfl ?_
      refine g_getr X g_cX7 w_X7_leave_inX7 0 (by decide) w_X7_leave_10 hk_o rfl dX7_leave_18 h (fun a2 hk_a2 h => ?_)
      refine g_geti X g_cX2 w_X7_leave_inX2 3 (by decide) w_X7_leave_94 hk_a2 rfl dX7_leave_21 ?_
      refine g_istore_n X [(2, _), (0, _), (1, _)] dX7_leave_24 (by decide) rfl ?_
      refine g_aload_n X dX7_leave_25 1 rfl ?_
      refine g_getr X g_cX7 w_X7_leave_inX7 0 (by decide) w_X7_leave_10 hk_o rfl dX7_leave_26 h (fun a3 hk_a3 h => ?_)
      refine g_iload_n X dX7_leave_29 2 rfl ?_
      refine g_puti X g_cX2 w_X7_leave_inX2 3 (by decide) w_X7_leave_94 hk_a3 rfl rfl (t := .int) (by decide +kernel) rfl rfl dX7_leave_30 ?_
      refine g_iload_n X dX7_leave_33 0 rfl ?_
      exact g_iret X h dX7_leave_34
    · skip
      refine g_iconst X (v := (-1)) dX7_leave_15 (by decide) ?_
      exact g_iret X h dX7_leave_16
abbrev rm_X7_pass : Room := { frames := 3, cells := 0, slots := 0, locals := 68 }
theorem hd_X7_pass : yX7_pass.cls = RX7 ∧ yX7_pass.cls ≠ "java/lang/invoke/MethodHandle" ∧ yX7_pass.cls ≠ "java/lang/invoke/VarHandle" ∧ (parseMethodDescriptor yX7_pass.desc).map (fun d => d.parameters.length) = some 0 := by decide +kernel
theorem w_X7_pass_10 : Cond.fieldLink RX7 10 "TokenDoors" "now" "LTokenDoors$Hall;" ∈ wsX7_pass := by decide +kernel
theorem w_X7_pass_inX7 : ∀ w ∈ wsX70, w ∈ wsX7_pass := by decide +kernel
def f_X7_pass (fu : Nat) (o : Nat) (S : g_St) : Option (Int32 × g_St) :=
  g_ld g_KC 90 g_kX2 (S.2 o 0) fun a1 => g_bd (f_X2_firstShut fu a1 S) fun r2 Sr2 => g_ld g_KC 90 g_kX2 (Sr2.2 o 0) fun a3 => g_bd (f_X2_admit fu a3 ((1 : Int32)) Sr2) fun r4 Sr4 => some (r2, Sr4)
set_option maxRecDepth 100000 in
set_option maxHeartbeats 400000 in
theorem ct_X7_pass {l : Launch} {D : va_G} {ad : Nat → Nat} {cy : Nat → ClassId} {zz : (Nat → Nat) × (Nat → Nat)} (hinj : ∀ i j, i < 90 → j < 90 → ad i = ad j → i = j) {fu : Nat} (o : Nat) (hk_o : o < 90 ∧ g_KC o = g_kX7) {S : g_St} (z : Int32 × g_St) (h : f_X7_pass fu o S = some z) : g_Mi l g_KC 90 D ad cy zz yX7_pass wsX7_pass rm_X7_pass [.ref (ad o)] S z := by
  refine g_ofi hinj (cc := cX7_pass) (maxL := 2) (ret := (some .int)) (lv := [(0, .ref (ad o))]) (by decide) rfl (Nat.le_of_ble_eq_true rfl) rfl ?_
  intro x X hl hD ha hy hz
  subst hl hD ha hy hz
  unfold f_X7_pass at h
  refine g_aload_n X dX7_pass_0 0 rfl ?_
  refine g_getr X g_cX7 w_X7_pass_inX7 0 (by decide) w_X7_pass_10 hk_o rfl dX7_pass_1 h (fun a1 hk_a1 h => ?_)
  refine g_callVi X g_cX2 hk_a1 [] rfl (cwV 0 X.2.2.2.2.1 gX7_pass_X2_firstShut rfl rfl rfl hd_X2_firstShut ⟨Nat.le_of_ble_eq_true rfl, Nat.le_of_ble_eq_true rfl⟩) (Nat.le_of_ble_eq_true rfl) dX7_pass_4 h (fun q hq => ct_X2_firstShut X.2.2.2.2.2.2.1 a1 hk_a1 _ hq) (fun r2 Sr2 h => ?_)
  refine g_istore_n X [(1, _), (0, _)] dX7_pass_7 (by decide) rfl ?_
  refine g_aload_n X dX7_pass_8 1 rfl ?_
  refine g_getr X g_cX7 w_X7_pass_inX7 0 (by decide) w_X7_pass_10 hk_o rfl dX7_pass_9 h (fun a3 hk_a3 h => ?_)
  refine g_iconst X (v := 1) dX7_pass_12 (by decide) ?_
  refine g_callVi X g_cX2 hk_a3 [.int ((1 : Int32))] rfl (cwV 1 X.2.2.2.2.1 gX7_pass_X2_admit rfl rfl rfl hd_X2_admit ⟨Nat.le_of_ble_eq_true rfl, Nat.le_of_ble_eq_true rfl⟩) (Nat.le_of_ble_eq_true rfl) dX7_pass_13 h (fun q hq => ct_X2_admit X.2.2.2.2.2.2.1 a3 ((1 : Int32)) hk_a3 _ hq) (fun r4 Sr4 h => ?_)
  refine g_pop X dX7_pass_16 rfl ?_
  refine g_iload_n X dX7_pass_17 0 rfl ?_
  exact g_iret X h dX7_pass_18
abbrev rm_X7_isRun : Room := { frames := 0, cells := 0, slots := 0, locals := 0 }
theorem hd_X7_isRun : yX7_isRun.cls ≠ "java/lang/invoke/MethodHandle" ∧ yX7_isRun.cls ≠ "java/lang/invoke/VarHandle" ∧ (parseMethodDescriptor yX7_isRun.desc).map (fun d => d.parameters.length) = some 1 := by decide +kernel
def f_X7_isRun (fu : Nat) (p0 : Int32) (S : g_St) : Option (Int32 × g_St) :=
  if p0 < 0 then (g_zb (0 : Int32) (some ((0 : Int32), S))) else (if (100 : Int32) < p0 then (g_zb (0 : Int32) (some ((0 : Int32), S))) else (g_zb (1 : Int32) (some ((1 : Int32), S))))
set_option maxRecDepth 100000 in
set_option maxHeartbeats 400000 in
theorem ct_X7_isRun {l : Launch} {D : va_G} {ad : Nat → Nat} {cy : Nat → ClassId} {zz : (Nat → Nat) × (Nat → Nat)} (hinj : ∀ i j, i < 90 → j < 90 → ad i = ad j → i = j) {fu : Nat} (p0 : Int32)  {S : g_St} (z : Int32 × g_St) (h : f_X7_isRun fu p0 S = some z) : g_Mi l g_KC 90 D ad cy zz yX7_isRun wsX7_isRun rm_X7_isRun [.int (p0)] S z := by
  refine g_ofi hinj (cc := cX7_isRun) (maxL := 1) (ret := (some .boolean)) (lv := [(0, .int (p0))]) (by decide) rfl (Nat.le_of_ble_eq_true rfl) rfl ?_
  intro x X hl hD ha hy hz
  subst hl hD ha hy hz
  unfold f_X7_isRun at h
  refine g_iload_n X dX7_isRun_0 0 rfl ?_
  refine g_if_lt X 14 dX7_isRun_1 (by decide) h (fun c_1 h => ?_) (fun c_1 h => ?_)
  · skip
    refine g_iconst X (v := 0) dX7_isRun_14 (by decide) ?_
    exact g_zret X h dX7_isRun_15
  · skip
    refine g_iload_n X dX7_isRun_4 0 rfl ?_
    refine g_bipush X (v := (100)) dX7_isRun_5 (by decide) ?_
    refine g_icmp_gt X 14 dX7_isRun_7 (by decide) h (fun c_7 h => ?_) (fun c_7 h => ?_)
    · skip
      refine g_iconst X (v := 0) dX7_isRun_14 (by decide) ?_
      exact g_zret X h dX7_isRun_15
    · skip
      refine g_iconst X (v := 1) dX7_isRun_10 (by decide) ?_
      refine g_goto X 15 dX7_isRun_11 (by decide) ?_
      exact g_zret X h dX7_isRun_15
abbrev rm_X7_ticks : Room := { frames := 6, cells := 0, slots := 0, locals := 134 }
theorem hd_X7_ticks : yX7_ticks.cls = RX7 ∧ yX7_ticks.cls ≠ "java/lang/invoke/MethodHandle" ∧ yX7_ticks.cls ≠ "java/lang/invoke/VarHandle" ∧ (parseMethodDescriptor yX7_ticks.desc).map (fun d => d.parameters.length) = some 1 := by decide +kernel
theorem w_X7_ticks_10 : Cond.fieldLink RX7 10 "TokenDoors" "now" "LTokenDoors$Hall;" ∈ wsX7_ticks := by decide +kernel
theorem w_X7_ticks_inX7 : ∀ w ∈ wsX70, w ∈ wsX7_ticks := by decide +kernel
theorem w_X7_ticks_97 : Cond.fieldLink RX7 97 "TokenDoors$Hall" "tick" "I" ∈ wsX7_ticks := by decide +kernel
theorem w_X7_ticks_inX2 : ∀ w ∈ wsX20, w ∈ wsX7_ticks := by decide +kernel
def f_X7_ticks (fu : Nat) (o : Nat) (p0 : Int32) (S : g_St) : Option (Int32 × g_St) :=
  g_bd (f_X7_isRun fu p0 S) fun r1 Sr1 => if r1 = 0 then (some ((-1 : Int32), Sr1)) else (g_ld g_KC 90 g_kX2 (Sr1.2 o 0) fun a2 => if ((Sr1.1 a2 4) + p0) < (1000 : Int32) then (g_ld g_KC 90 g_kX2 (Sr1.2 o 0) fun a3 => g_bd (f_X2_runOn fu a3 p0 Sr1) fun r4 Sr4 => some (r4, Sr4)) else (some ((-3 : Int32), Sr1)))
set_option maxRecDepth 100000 in
set_option maxHeartbeats 400000 in
theorem ct_X7_ticks {l : Launch} {D : va_G} {ad : Nat → Nat} {cy : Nat → ClassId} {zz : (Nat → Nat) × (Nat → Nat)} (hinj : ∀ i j, i < 90 → j < 90 → ad i = ad j → i = j) {fu : Nat} (o : Nat) (p0 : Int32) (hk_o : o < 90 ∧ g_KC o = g_kX7) {S : g_St} (z : Int32 × g_St) (h : f_X7_ticks fu o p0 S = some z) : g_Mi l g_KC 90 D ad cy zz yX7_ticks wsX7_ticks rm_X7_ticks [.ref (ad o), .int (p0)] S z := by
  refine g_ofi hinj (cc := cX7_ticks) (maxL := 2) (ret := (some .int)) (lv := [(0, .ref (ad o)), (1, .int (p0))]) (by decide) rfl (Nat.le_of_ble_eq_true rfl) rfl ?_
  intro x X hl hD ha hy hz
  subst hl hD ha hy hz
  unfold f_X7_ticks at h
  refine g_iload_n X dX7_ticks_0 1 rfl ?_
  refine g_callSi X [.int (p0)] rfl (va_cwS 1 X.2.2.2.2.1 gX7_ticks_X7_isRun rfl rfl rfl hd_X7_isRun ⟨Nat.le_of_ble_eq_true rfl, Nat.le_of_ble_eq_true rfl⟩) (Nat.le_of_ble_eq_true rfl) dX7_ticks_1 h (fun q hq => ct_X7_isRun X.2.2.2.2.2.2.1 p0  _ hq) (fun r1 Sr1 h => ?_)
  refine g_if_ne X 9 dX7_ticks_4 (by decide) h (fun c_4 h => ?_) (fun c_4 h => ?_)
  · skip
    refine g_aload_n X dX7_ticks_9 0 rfl ?_
    refine g_getr X g_cX7 w_X7_ticks_inX7 0 (by decide) w_X7_ticks_10 hk_o rfl dX7_ticks_10 h (fun a2 hk_a2 h => ?_)
    refine g_geti X g_cX2 w_X7_ticks_inX2 4 (by decide) w_X7_ticks_97 hk_a2 rfl dX7_ticks_13 ?_
    refine g_iload_n X dX7_ticks_16 1 rfl ?_
    refine g_iadd X dX7_ticks_17 ?_
    refine g_sipush X (v := (1000)) dX7_ticks_18 (by decide) ?_
    refine g_icmp_lt X 27 dX7_ticks_21 (by decide) h (fun c_21 h => ?_) (fun c_21 h => ?_)
    · skip
      refine g_aload_n X dX7_ticks_27 0 rfl ?_
      refine g_getr X g_cX7 w_X7_ticks_inX7 0 (by decide) w_X7_ticks_10 hk_o rfl dX7_ticks_28 h (fun a3 hk_a3 h => ?_)
      refine g_iload_n X dX7_ticks_31 1 rfl ?_
      refine g_callVi X g_cX2 hk_a3 [.int (p0)] rfl (cwV 1 X.2.2.2.2.1 gX7_ticks_X2_runOn rfl rfl rfl hd_X2_runOn ⟨Nat.le_of_ble_eq_true rfl, Nat.le_of_ble_eq_true rfl⟩) (Nat.le_of_ble_eq_true rfl) dX7_ticks_32 h (fun q hq => ct_X2_runOn X.2.2.2.2.2.2.1 a3 p0 hk_a3 _ hq) (fun r4 Sr4 h => ?_)
      exact g_iret X h dX7_ticks_35
    · skip
      refine g_bipush X (v := (-3)) dX7_ticks_24 (by decide) ?_
      exact g_iret X h dX7_ticks_26
  · skip
    refine g_iconst X (v := (-1)) dX7_ticks_7 (by decide) ?_
    exact g_iret X h dX7_ticks_8
abbrev rm_X7_startTrial : Room := { frames := 2, cells := 0, slots := 0, locals := 46 }
theorem hd_X7_startTrial : yX7_startTrial.cls = RX7 ∧ yX7_startTrial.cls ≠ "java/lang/invoke/MethodHandle" ∧ yX7_startTrial.cls ≠ "java/lang/invoke/VarHandle" ∧ (parseMethodDescriptor yX7_startTrial.desc).map (fun d => d.parameters.length) = some 0 := by decide +kernel
theorem w_X7_startTrial_16 : Cond.fieldLink RX7 16 "TokenDoors" "trial" "LTokenDoors$Hall;" ∈ wsX7_startTrial := by decide +kernel
theorem w_X7_startTrial_inX7 : ∀ w ∈ wsX70, w ∈ wsX7_startTrial := by decide +kernel
theorem w_X7_startTrial_10 : Cond.fieldLink RX7 10 "TokenDoors" "now" "LTokenDoors$Hall;" ∈ wsX7_startTrial := by decide +kernel
def f_X7_startTrial (fu : Nat) (o : Nat) (S : g_St) : Option (Unit × g_St) :=
  g_ld g_KC 90 g_kX2 (S.2 o 1) fun a1 => g_ld g_KC 90 g_kX2 (S.2 o 0) fun a2 => g_bd (f_X2_become fu a1 a2 S) fun _ Sr3 => g_ld g_KC 90 g_kX2 (Sr3.2 o 1) fun a4 => g_bd (f_X2_countAnew fu a4 Sr3) fun _ Sr5 => some ((), Sr5)
set_option maxRecDepth 100000 in
set_option maxHeartbeats 400000 in
theorem ct_X7_startTrial {l : Launch} {D : va_G} {ad : Nat → Nat} {cy : Nat → ClassId} {zz : (Nat → Nat) × (Nat → Nat)} (hinj : ∀ i j, i < 90 → j < 90 → ad i = ad j → i = j) {fu : Nat} (o : Nat) (hk_o : o < 90 ∧ g_KC o = g_kX7) {S : g_St} (z : Unit × g_St) (h : f_X7_startTrial fu o S = some z) : g_Mv l g_KC 90 D ad cy zz yX7_startTrial wsX7_startTrial rm_X7_startTrial [.ref (ad o)] S z := by
  refine g_ofv hinj (cc := cX7_startTrial) (maxL := 1) (ret := none) (lv := [(0, .ref (ad o))]) (by decide) rfl (Nat.le_of_ble_eq_true rfl) rfl ?_
  intro x X hl hD ha hy hz
  subst hl hD ha hy hz
  unfold f_X7_startTrial at h
  refine g_aload_n X dX7_startTrial_0 0 rfl ?_
  refine g_getr X g_cX7 w_X7_startTrial_inX7 1 (by decide) w_X7_startTrial_16 hk_o rfl dX7_startTrial_1 h (fun a1 hk_a1 h => ?_)
  refine g_aload_n X dX7_startTrial_4 0 rfl ?_
  refine g_getr X g_cX7 w_X7_startTrial_inX7 0 (by decide) w_X7_startTrial_10 hk_o rfl dX7_startTrial_5 h (fun a2 hk_a2 h => ?_)
  refine g_callVv X g_cX2 hk_a1 [.ref (g_ad x a2)] rfl (cwV 1 X.2.2.2.2.1 gX7_startTrial_X2_become rfl rfl rfl hd_X2_become ⟨Nat.le_of_ble_eq_true rfl, Nat.le_of_ble_eq_true rfl⟩) (Nat.le_of_ble_eq_true rfl) dX7_startTrial_8 h (fun q hq => ct_X2_become X.2.2.2.2.2.2.1 a1 a2 hk_a1 hk_a2 _ hq) (fun _ Sr3 h => ?_)
  refine g_aload_n X dX7_startTrial_11 0 rfl ?_
  refine g_getr X g_cX7 w_X7_startTrial_inX7 1 (by decide) w_X7_startTrial_16 hk_o rfl dX7_startTrial_12 h (fun a4 hk_a4 h => ?_)
  refine g_callVv X g_cX2 hk_a4 [] rfl (cwV 0 X.2.2.2.2.1 gX7_startTrial_X2_countAnew rfl rfl rfl hd_X2_countAnew ⟨Nat.le_of_ble_eq_true rfl, Nat.le_of_ble_eq_true rfl⟩) (Nat.le_of_ble_eq_true rfl) dX7_startTrial_15 h (fun q hq => ct_X2_countAnew X.2.2.2.2.2.2.1 a4 hk_a4 _ hq) (fun _ Sr5 h => ?_)
  exact g_vret X h dX7_startTrial_18
abbrev rm_X7_runs : Room := { frames := 5, cells := 0, slots := 0, locals := 111 }
theorem hd_X7_runs : yX7_runs.cls = RX7 ∧ yX7_runs.cls ≠ "java/lang/invoke/MethodHandle" ∧ yX7_runs.cls ≠ "java/lang/invoke/VarHandle" ∧ (parseMethodDescriptor yX7_runs.desc).map (fun d => d.parameters.length) = some 2 := by decide +kernel
theorem w_X7_runs_16 : Cond.fieldLink RX7 16 "TokenDoors" "trial" "LTokenDoors$Hall;" ∈ wsX7_runs := by decide +kernel
theorem w_X7_runs_inX7 : ∀ w ∈ wsX70, w ∈ wsX7_runs := by decide +kernel
theorem w_X7_runs_103 : Cond.fieldLink RX7 103 "TokenDoors$Hall" "turned" "I" ∈ wsX7_runs := by decide +kernel
theorem w_X7_runs_inX2 : ∀ w ∈ wsX20, w ∈ wsX7_runs := by decide +kernel
theorem w_X7_runs_180 : Cond.methodLink RX7 180 Lib.Math.max.name ∈ wsX7_runs := by decide +kernel
theorem w_X7_runs_stmmax : Cond.static Lib.Math.max.name ∈ wsX7_runs := by decide +kernel
theorem w_X7_runs_inMath : Cond.initialized "java/lang/Math" ∈ wsX7_runs := by decide +kernel
theorem w_X7_runs_commax : Cond.code Lib.Math.max.name Lib.Math.max.code 2 (some .int) ∈ wsX7_runs := by decide +kernel
theorem w_X7_runs_100 : Cond.fieldLink RX7 100 "TokenDoors$Hall" "let" "I" ∈ wsX7_runs := by decide +kernel
def j_X7_runs_76_in30 (fu : Nat) (v0 : Nat) (v1 : Int32) (v2 : Int32) (v4 : Int32) (v5 : Int32) (v7 : Int32) (s0 : Int32) (s1 : Int32) (S : g_St) : Option ((Int32 × Int32 × Int32 × g_St) ⊕ (Int32 × Int32 × g_St)) :=
  some (.inl ((s0 + s1), (if v4 < v7 then v7 else v4), (v5 + 1), S))
def b_X7_runs_30 (fu : Nat) (v0 : Nat) (v1 : Int32) (v2 : Int32) (v3 : Int32) (v4 : Int32) (v5 : Int32) (S : g_St) : Option ((Int32 × Int32 × Int32 × g_St) ⊕ (Int32 × Int32 × g_St)) :=
  if v1 ≤ v5 then (some (.inr (v3, v4, S))) else (g_ld g_KC 90 g_kX2 (S.2 v0 1) fun a3 => g_ld g_KC 90 g_kX2 (S.2 v0 1) fun a4 => g_bd (f_X2_tickOn fu a4 S) fun r5 Sr5 => g_ld g_KC 90 g_kX2 (Sr5.2 v0 1) fun a6 => if ((Sr5.1 a6 6) - (S.1 a3 6)) ≤ 0 then (j_X7_runs_76_in30 fu v0 v1 v2 v4 v5 (((Sr5.1 a6 6) - (S.1 a3 6))) v3 ((0 : Int32)) Sr5) else (j_X7_runs_76_in30 fu v0 v1 v2 v4 v5 (((Sr5.1 a6 6) - (S.1 a3 6))) v3 ((1 : Int32)) Sr5))
def f_X7_runs (fu : Nat) (o : Nat) (p0 : Int32) (p1 : Int32) (S : g_St) : Option (Int32 × g_St) :=
  g_bd (f_X7_isRun fu p0 S) fun r1 Sr1 => if r1 = 0 then (some ((-1 : Int32), Sr1)) else (if p1 < 0 then (some ((-1 : Int32), Sr1)) else (if p1 ≤ (4 : Int32) then (g_bd (f_X7_startTrial fu o Sr1) fun _ Sr2 => g_th (g_lp (fun t => b_X7_runs_30 fu o p0 p1 t.1 t.2.1 t.2.2.1 t.2.2.2) fu ((0 : Int32), (0 : Int32), (0 : Int32), Sr2)) fun e => match e with | (w3_1, w4_1, S1) => if p1 = 0 then (g_ld g_KC 90 g_kX2 (S1.2 o 1) fun a7 => some ((S1.1 a7 5), S1)) else (if p1 = 1 then (g_ld g_KC 90 g_kX2 (S1.2 o 1) fun a8 => some ((S1.1 a8 6), S1)) else (if p1 = 2 then (some (w3_1, S1)) else (if p1 = 3 then (some (w4_1, S1)) else (g_ld g_KC 90 g_kX2 (S1.2 o 1) fun a9 => g_bd (f_X2_heldByAll fu a9 S1) fun r10 Sr10 => some (r10, Sr10)))))) else (some ((-1 : Int32), Sr1))))
set_option maxRecDepth 100000 in
set_option maxHeartbeats 400000 in
theorem vj_X7_runs_76_in30 {x : g_CX} {z : Int32 × g_St} {fu : Nat} (X : g_X 90 x cX7_runs RX7 8 wsX7_runs rm_X7_runs (some .int)) (v0 : Nat) (v1 : Int32) (v2 : Int32) (v4 : Int32) (v5 : Int32) (v7 : Int32) (s0 : Int32) (s1 : Int32) (hk_v0 : v0 < 90 ∧ g_KC v0 = g_kX7) (S : g_St) {r : (Int32 × Int32 × Int32 × g_St) ⊕ (Int32 × Int32 × g_St)} (h : j_X7_runs_76_in30 fu v0 v1 v2 v4 v5 v7 s0 s1 S = some r) (hc : Sum.elim (fun t : Int32 × Int32 × Int32 × g_St => g_V g_KC 90 x 8 (g_qi g_KC 90 x z) t.2.2.2 30 [(0, .ref (g_ad x v0)), (1, .int (v1)), (2, .int (v2)), (3, .int (t.1)), (4, .int (t.2.1)), (5, .int (t.2.2.1))] []) (fun e : Int32 × Int32 × g_St => g_V g_KC 90 x 8 (g_qi g_KC 90 x z) e.2.2 93 [(0, .ref (g_ad x v0)), (2, .int (v2)), (3, .int (e.1)), (4, .int (e.2.1))] []) r) : g_V g_KC 90 x 8 (g_qi g_KC 90 x z) S 76 [(0, .ref (g_ad x v0)), (1, .int (v1)), (2, .int (v2)), (4, .int (v4)), (5, .int (v5)), (7, .int (v7))] [.int (s1), .int (s0)] := by
  unfold j_X7_runs_76_in30 at h
  refine g_iadd X dX7_runs_76 ?_
  refine g_istore_n X [(3, _), (0, _), (1, _), (2, _), (4, _), (5, _), (7, _)] dX7_runs_77 (by decide) rfl ?_
  refine g_iload X dX7_runs_78 4 rfl ?_
  refine g_iload X dX7_runs_80 6 rfl ?_
  refine g_mmax X w_X7_runs_180 w_X7_runs_stmmax w_X7_runs_inMath w_X7_runs_commax (by decide) (Nat.le_of_ble_eq_true rfl) dX7_runs_82 ?_
  refine g_istore X [(4, _), (3, _), (0, _), (1, _), (2, _), (5, _), (7, _)] dX7_runs_85 (by decide) rfl ?_
  refine g_iinc X [(5, _), (4, _), (3, _), (0, _), (1, _), (2, _), (7, _)] dX7_runs_87 5 rfl rfl (by decide) rfl ?_
  refine g_goto X 30 dX7_runs_90 (by decide) ?_
  cases h
  exact g_sub [3, 4, 5, 2, 1, 0] _ rfl hc
set_option maxRecDepth 100000 in
set_option maxHeartbeats 400000 in
theorem vb_X7_runs_30 {x : g_CX} {z : Int32 × g_St} {fu : Nat} (X : g_X 90 x cX7_runs RX7 8 wsX7_runs rm_X7_runs (some .int)) (v0 : Nat) (v1 : Int32) (v2 : Int32) (v3 : Int32) (v4 : Int32) (v5 : Int32) (hk_v0 : v0 < 90 ∧ g_KC v0 = g_kX7) (S : g_St) {r : (Int32 × Int32 × Int32 × g_St) ⊕ (Int32 × Int32 × g_St)} (h : b_X7_runs_30 fu v0 v1 v2 v3 v4 v5 S = some r) (hc : Sum.elim (fun t : Int32 × Int32 × Int32 × g_St => g_V g_KC 90 x 8 (g_qi g_KC 90 x z) t.2.2.2 30 [(0, .ref (g_ad x v0)), (1, .int (v1)), (2, .int (v2)), (3, .int (t.1)), (4, .int (t.2.1)), (5, .int (t.2.2.1))] []) (fun e : Int32 × Int32 × g_St => g_V g_KC 90 x 8 (g_qi g_KC 90 x z) e.2.2 93 [(0, .ref (g_ad x v0)), (2, .int (v2)), (3, .int (e.1)), (4, .int (e.2.1))] []) r) : g_V g_KC 90 x 8 (g_qi g_KC 90 x z) S 30 [(0, .ref (g_ad x v0)), (1, .int (v1)), (2, .int (v2)), (3, .int (v3)), (4, .int (v4)), (5, .int (v5))] [] := by
  unfold b_X7_runs_30 at h
  refine g_iload X dX7_runs_30 5 rfl ?_
  refine g_iload_n X dX7_runs_32 1 rfl ?_
  refine g_icmp_ge X 93 dX7_runs_33 (by decide) h (fun c_33 h => ?_) (fun c_33 h => ?_)
  · skip
    cases h
    exact g_sub [0, 2, 3, 4] _ rfl hc
  · skip
    refine g_aload_n X dX7_runs_36 0 rfl ?_
    refine g_getr X g_cX7 w_X7_runs_inX7 1 (by decide) w_X7_runs_16 hk_v0 rfl dX7_runs_37 h (fun a3 hk_a3 h => ?_)
    refine g_geti X g_cX2 w_X7_runs_inX2 6 (by decide) w_X7_runs_103 hk_a3 rfl dX7_runs_40 ?_
    refine g_istore X [(6, _), (0, _), (1, _), (2, _), (3, _), (4, _), (5, _)] dX7_runs_43 (by decide) rfl ?_
    refine g_aload_n X dX7_runs_45 1 rfl ?_
    refine g_getr X g_cX7 w_X7_runs_inX7 1 (by decide) w_X7_runs_16 hk_v0 rfl dX7_runs_46 h (fun a4 hk_a4 h => ?_)
    refine g_callVi X g_cX2 hk_a4 [] rfl (cwV 0 X.2.2.2.2.1 gX7_runs_X2_tickOn rfl rfl rfl hd_X2_tickOn ⟨Nat.le_of_ble_eq_true rfl, Nat.le_of_ble_eq_true rfl⟩) (Nat.le_of_ble_eq_true rfl) dX7_runs_49 h (fun q hq => ct_X2_tickOn X.2.2.2.2.2.2.1 a4 hk_a4 _ hq) (fun r5 Sr5 h => ?_)
    refine g_pop X dX7_runs_52 rfl ?_
    refine g_aload_n X dX7_runs_53 1 rfl ?_
    refine g_getr X g_cX7 w_X7_runs_inX7 1 (by decide) w_X7_runs_16 hk_v0 rfl dX7_runs_54 h (fun a6 hk_a6 h => ?_)
    refine g_geti X g_cX2 w_X7_runs_inX2 6 (by decide) w_X7_runs_103 hk_a6 rfl dX7_runs_57 ?_
    refine g_iload X dX7_runs_60 0 rfl ?_
    refine g_isub X dX7_runs_62 ?_
    refine g_istore X [(7, _), (6, _), (0, _), (1, _), (2, _), (3, _), (4, _), (5, _)] dX7_runs_63 (by decide) rfl ?_
    refine g_iload_n X dX7_runs_65 5 rfl ?_
    refine g_iload X dX7_runs_66 0 rfl ?_
    refine g_if_le X 75 dX7_runs_68 (by decide) h (fun c_68 h => ?_) (fun c_68 h => ?_)
    · skip
      refine g_iconst X (v := 0) dX7_runs_75 (by decide) ?_
      refine g_sub [2, 3, 4, 6, 7, 0] _ rfl ?_
      exact vj_X7_runs_76_in30 X v0 v1 v2 v4 v5 (((Sr5.1 a6 6) - (S.1 a3 6))) v3 ((0 : Int32)) hk_v0 _ h hc
    · skip
      refine g_iconst X (v := 1) dX7_runs_71 (by decide) ?_
      refine g_goto X 76 dX7_runs_72 (by decide) ?_
      refine g_sub [2, 3, 4, 6, 7, 0] _ rfl ?_
      exact vj_X7_runs_76_in30 X v0 v1 v2 v4 v5 (((Sr5.1 a6 6) - (S.1 a3 6))) v3 ((1 : Int32)) hk_v0 _ h hc
set_option maxRecDepth 100000 in
set_option maxHeartbeats 400000 in
theorem ct_X7_runs {l : Launch} {D : va_G} {ad : Nat → Nat} {cy : Nat → ClassId} {zz : (Nat → Nat) × (Nat → Nat)} (hinj : ∀ i j, i < 90 → j < 90 → ad i = ad j → i = j) {fu : Nat} (o : Nat) (p0 : Int32) (p1 : Int32) (hk_o : o < 90 ∧ g_KC o = g_kX7) {S : g_St} (z : Int32 × g_St) (h : f_X7_runs fu o p0 p1 S = some z) : g_Mi l g_KC 90 D ad cy zz yX7_runs wsX7_runs rm_X7_runs [.ref (ad o), .int (p0), .int (p1)] S z := by
  refine g_ofi hinj (cc := cX7_runs) (maxL := 8) (ret := (some .int)) (lv := [(0, .ref (ad o)), (1, .int (p0)), (2, .int (p1))]) (by decide) rfl (Nat.le_of_ble_eq_true rfl) rfl ?_
  intro x X hl hD ha hy hz
  subst hl hD ha hy hz
  unfold f_X7_runs at h
  refine g_iload_n X dX7_runs_0 1 rfl ?_
  refine g_callSi X [.int (p0)] rfl (va_cwS 1 X.2.2.2.2.1 gX7_runs_X7_isRun rfl rfl rfl hd_X7_isRun ⟨Nat.le_of_ble_eq_true rfl, Nat.le_of_ble_eq_true rfl⟩) (Nat.le_of_ble_eq_true rfl) dX7_runs_1 h (fun q hq => ct_X7_isRun X.2.2.2.2.2.2.1 p0  _ hq) (fun r1 Sr1 h => ?_)
  refine g_if_eq X 16 dX7_runs_4 (by decide) h (fun c_4 h => ?_) (fun c_4 h => ?_)
  · skip
    refine g_iconst X (v := (-1)) dX7_runs_16 (by decide) ?_
    exact g_iret X h dX7_runs_17
  · skip
    refine g_iload_n X dX7_runs_7 2 rfl ?_
    refine g_if_lt X 16 dX7_runs_8 (by decide) h (fun c_8 h => ?_) (fun c_8 h => ?_)
    · skip
      refine g_iconst X (v := (-1)) dX7_runs_16 (by decide) ?_
      exact g_iret X h dX7_runs_17
    · skip
      refine g_iload_n X dX7_runs_11 2 rfl ?_
      refine g_iconst X (v := 4) dX7_runs_12 (by decide) ?_
      refine g_icmp_le X 18 dX7_runs_13 (by decide) h (fun c_13 h => ?_) (fun c_13 h => ?_)
      · skip
        refine g_aload_n X dX7_runs_18 0 rfl ?_
        refine g_callVv X g_cX7 hk_o [] rfl (cwV 0 X.2.2.2.2.1 gX7_runs_X7_startTrial rfl rfl rfl hd_X7_startTrial ⟨Nat.le_of_ble_eq_true rfl, Nat.le_of_ble_eq_true rfl⟩) (Nat.le_of_ble_eq_true rfl) dX7_runs_19 h (fun q hq => ct_X7_startTrial X.2.2.2.2.2.2.1 o hk_o _ hq) (fun _ Sr2 h => ?_)
        refine g_iconst X (v := 0) dX7_runs_22 (by decide) ?_
        refine g_istore_n X [(3, _), (0, _), (1, _), (2, _)] dX7_runs_23 (by decide) rfl ?_
        refine g_iconst X (v := 0) dX7_runs_24 (by decide) ?_
        refine g_istore X [(4, _), (3, _), (0, _), (1, _), (2, _)] dX7_runs_25 (by decide) rfl ?_
        refine g_iconst X (v := 0) dX7_runs_27 (by decide) ?_
        refine g_istore X [(5, _), (4, _), (3, _), (0, _), (1, _), (2, _)] dX7_runs_28 (by decide) rfl ?_
        obtain ⟨e, he, h⟩ := g_th_s h
        refine g_sub [3, 4, 5, 2, 1, 0] _ rfl ?_
        refine g_lp_w (body := (fun t => b_X7_runs_30 fu o p0 p1 t.1 t.2.1 t.2.2.1 t.2.2.2)) (P := fun t : Int32 × Int32 × Int32 × g_St => g_V g_KC 90 x 8 (g_qi g_KC 90 x z) t.2.2.2 30 [(0, .ref (g_ad x o)), (1, .int (p0)), (2, .int (p1)), (3, .int (t.1)), (4, .int (t.2.1)), (5, .int (t.2.2.1))] []) (E := (fun e : Int32 × Int32 × g_St => g_V g_KC 90 x 8 (g_qi g_KC 90 x z) e.2.2 93 [(0, .ref (g_ad x o)), (2, .int (p1)), (3, .int (e.1)), (4, .int (e.2.1))] [])) (fun t r hb hc => vb_X7_runs_30 X o p0 p1 t.1 t.2.1 t.2.2.1 hk_o t.2.2.2 hb hc) fu ((0 : Int32), (0 : Int32), (0 : Int32), Sr2) e he ?_
        obtain ⟨w3_1, w4_1, S1⟩ := e
        show g_V g_KC 90 x 8 (g_qi g_KC 90 x z) S1 93 [(0, .ref (g_ad x o)), (2, .int (p1)), (3, .int (w3_1)), (4, .int (w4_1))] []
        refine g_iload_n X dX7_runs_93 1 rfl ?_
        refine g_ifs h (fun c_94_0 h => ?_) (fun c_94_0 h => ?_)
        · refine g_tableIn X 124 (off := 30) dX7_runs_94 (by rw [c_94_0]; decide) (by rw [c_94_0]; decide) (by rw [c_94_0]; rfl) (by decide) ?_
          refine g_aload_n X dX7_runs_124 0 rfl ?_
          refine g_getr X g_cX7 w_X7_runs_inX7 1 (by decide) w_X7_runs_16 hk_o rfl dX7_runs_125 h (fun a7 hk_a7 h => ?_)
          refine g_geti X g_cX2 w_X7_runs_inX2 5 (by decide) w_X7_runs_100 hk_a7 rfl dX7_runs_128 ?_
          exact g_iret X h dX7_runs_131
        refine g_ifs h (fun c_94_1 h => ?_) (fun c_94_1 h => ?_)
        · refine g_tableIn X 132 (off := 38) dX7_runs_94 (by rw [c_94_1]; decide) (by rw [c_94_1]; decide) (by rw [c_94_1]; rfl) (by decide) ?_
          refine g_aload_n X dX7_runs_132 0 rfl ?_
          refine g_getr X g_cX7 w_X7_runs_inX7 1 (by decide) w_X7_runs_16 hk_o rfl dX7_runs_133 h (fun a8 hk_a8 h => ?_)
          refine g_geti X g_cX2 w_X7_runs_inX2 6 (by decide) w_X7_runs_103 hk_a8 rfl dX7_runs_136 ?_
          exact g_iret X h dX7_runs_139
        refine g_ifs h (fun c_94_2 h => ?_) (fun c_94_2 h => ?_)
        · refine g_tableIn X 140 (off := 46) dX7_runs_94 (by rw [c_94_2]; decide) (by rw [c_94_2]; decide) (by rw [c_94_2]; rfl) (by decide) ?_
          refine g_iload_n X dX7_runs_140 2 rfl ?_
          exact g_iret X h dX7_runs_141
        refine g_ifs h (fun c_94_3 h => ?_) (fun c_94_3 h => ?_)
        · refine g_tableIn X 142 (off := 48) dX7_runs_94 (by rw [c_94_3]; decide) (by rw [c_94_3]; decide) (by rw [c_94_3]; rfl) (by decide) ?_
          refine g_iload X dX7_runs_142 3 rfl ?_
          exact g_iret X h dX7_runs_144
        refine g_tableOut X 145 dX7_runs_94 (g_sw_out (n := 3) (by decide) rfl (fun k hk => by rcases (show k = 0 ∨ k = 1 ∨ k = 2 ∨ k = 3 by omega) with rfl | rfl | rfl | rfl <;> first | exact c_94_0 | exact c_94_1 | exact c_94_2 | exact c_94_3)) (by decide) ?_
        refine g_aload_n X dX7_runs_145 0 rfl ?_
        refine g_getr X g_cX7 w_X7_runs_inX7 1 (by decide) w_X7_runs_16 hk_o rfl dX7_runs_146 h (fun a9 hk_a9 h => ?_)
        refine g_callVi X g_cX2 hk_a9 [] rfl (cwV 0 X.2.2.2.2.1 gX7_runs_X2_heldByAll rfl rfl rfl hd_X2_heldByAll ⟨Nat.le_of_ble_eq_true rfl, Nat.le_of_ble_eq_true rfl⟩) (Nat.le_of_ble_eq_true rfl) dX7_runs_149 h (fun q hq => ct_X2_heldByAll X.2.2.2.2.2.2.1 a9 hk_a9 _ hq) (fun r10 Sr10 h => ?_)
        exact g_iret X h dX7_runs_152
      · skip
        refine g_iconst X (v := (-1)) dX7_runs_16 (by decide) ?_
        exact g_iret X h dX7_runs_17
abbrev rm_X7_ahead : Room := { frames := 6, cells := 0, slots := 0, locals := 134 }
theorem hd_X7_ahead : yX7_ahead.cls = RX7 ∧ yX7_ahead.cls ≠ "java/lang/invoke/MethodHandle" ∧ yX7_ahead.cls ≠ "java/lang/invoke/VarHandle" ∧ (parseMethodDescriptor yX7_ahead.desc).map (fun d => d.parameters.length) = some 2 := by decide +kernel
theorem w_X7_ahead_16 : Cond.fieldLink RX7 16 "TokenDoors" "trial" "LTokenDoors$Hall;" ∈ wsX7_ahead := by decide +kernel
theorem w_X7_ahead_inX7 : ∀ w ∈ wsX70, w ∈ wsX7_ahead := by decide +kernel
theorem w_X7_ahead_115 : Cond.fieldLink RX7 115 "TokenDoors$Hall" "doors" "[LTokenDoors$Door;" ∈ wsX7_ahead := by decide +kernel
theorem w_X7_ahead_inX2 : ∀ w ∈ wsX20, w ∈ wsX7_ahead := by decide +kernel
theorem w_X7_ahead_189 : Cond.fieldLink RX7 189 "TokenDoors$Door" "holds" "I" ∈ wsX7_ahead := by decide +kernel
theorem w_X7_ahead_inX1 : ∀ w ∈ wsX10, w ∈ wsX7_ahead := by decide +kernel
def f_X7_ahead (fu : Nat) (o : Nat) (p0 : Int32) (p1 : Int32) (S : g_St) : Option (Int32 × g_St) :=
  g_bd (f_X7_isDoor fu o p0 S) fun r1 Sr1 => if r1 = 0 then (some ((-1 : Int32), Sr1)) else (g_bd (f_X7_isRun fu p1 Sr1) fun r2 Sr2 => if r2 = 0 then (some ((-1 : Int32), Sr2)) else (g_bd (f_X7_startTrial fu o Sr2) fun _ Sr3 => g_ld g_KC 90 g_kX2 (Sr3.2 o 1) fun a4 => g_bd (f_X2_runOn fu a4 p1 Sr3) fun r5 Sr5 => g_ld g_KC 90 g_kX2 (Sr5.2 o 1) fun a6 => g_ld g_KC 90 (.inr (3, 4, true)) (Sr5.2 a6 0) fun a7 => g_ix p0 4 fun i8 => g_ld g_KC 90 g_kX1 (Sr5.2 a7 i8) fun a8 => some ((Sr5.1 a8 3), Sr5)))
set_option maxRecDepth 100000 in
set_option maxHeartbeats 400000 in
theorem ct_X7_ahead {l : Launch} {D : va_G} {ad : Nat → Nat} {cy : Nat → ClassId} {zz : (Nat → Nat) × (Nat → Nat)} (hinj : ∀ i j, i < 90 → j < 90 → ad i = ad j → i = j) {fu : Nat} (o : Nat) (p0 : Int32) (p1 : Int32) (hk_o : o < 90 ∧ g_KC o = g_kX7) {S : g_St} (z : Int32 × g_St) (h : f_X7_ahead fu o p0 p1 S = some z) : g_Mi l g_KC 90 D ad cy zz yX7_ahead wsX7_ahead rm_X7_ahead [.ref (ad o), .int (p0), .int (p1)] S z := by
  refine g_ofi hinj (cc := cX7_ahead) (maxL := 3) (ret := (some .int)) (lv := [(0, .ref (ad o)), (1, .int (p0)), (2, .int (p1))]) (by decide) rfl (Nat.le_of_ble_eq_true rfl) rfl ?_
  intro x X hl hD ha hy hz
  subst hl hD ha hy hz
  unfold f_X7_ahead at h
  refine g_aload_n X dX7_ahead_0 0 rfl ?_
  refine g_iload_n X dX7_ahead_1 1 rfl ?_
  refine g_callVi X g_cX7 hk_o [.int (p0)] rfl (cwV 1 X.2.2.2.2.1 gX7_ahead_X7_isDoor rfl rfl rfl hd_X7_isDoor ⟨Nat.le_of_ble_eq_true rfl, Nat.le_of_ble_eq_true rfl⟩) (Nat.le_of_ble_eq_true rfl) dX7_ahead_2 h (fun q hq => ct_X7_isDoor X.2.2.2.2.2.2.1 o p0 hk_o _ hq) (fun r1 Sr1 h => ?_)
  refine g_if_eq X 15 dX7_ahead_5 (by decide) h (fun c_5 h => ?_) (fun c_5 h => ?_)
  · skip
    refine g_iconst X (v := (-1)) dX7_ahead_15 (by decide) ?_
    exact g_iret X h dX7_ahead_16
  · skip
    refine g_iload_n X dX7_ahead_8 2 rfl ?_
    refine g_callSi X [.int (p1)] rfl (va_cwS 1 X.2.2.2.2.1 gX7_ahead_X7_isRun rfl rfl rfl hd_X7_isRun ⟨Nat.le_of_ble_eq_true rfl, Nat.le_of_ble_eq_true rfl⟩) (Nat.le_of_ble_eq_true rfl) dX7_ahead_9 h (fun q hq => ct_X7_isRun X.2.2.2.2.2.2.1 p1  _ hq) (fun r2 Sr2 h => ?_)
    refine g_if_ne X 17 dX7_ahead_12 (by decide) h (fun c_12 h => ?_) (fun c_12 h => ?_)
    · skip
      refine g_aload_n X dX7_ahead_17 0 rfl ?_
      refine g_callVv X g_cX7 hk_o [] rfl (cwV 0 X.2.2.2.2.1 gX7_ahead_X7_startTrial rfl rfl rfl hd_X7_startTrial ⟨Nat.le_of_ble_eq_true rfl, Nat.le_of_ble_eq_true rfl⟩) (Nat.le_of_ble_eq_true rfl) dX7_ahead_18 h (fun q hq => ct_X7_startTrial X.2.2.2.2.2.2.1 o hk_o _ hq) (fun _ Sr3 h => ?_)
      refine g_aload_n X dX7_ahead_21 0 rfl ?_
      refine g_getr X g_cX7 w_X7_ahead_inX7 1 (by decide) w_X7_ahead_16 hk_o rfl dX7_ahead_22 h (fun a4 hk_a4 h => ?_)
      refine g_iload_n X dX7_ahead_25 2 rfl ?_
      refine g_callVi X g_cX2 hk_a4 [.int (p1)] rfl (cwV 1 X.2.2.2.2.1 gX7_ahead_X2_runOn rfl rfl rfl hd_X2_runOn ⟨Nat.le_of_ble_eq_true rfl, Nat.le_of_ble_eq_true rfl⟩) (Nat.le_of_ble_eq_true rfl) dX7_ahead_26 h (fun q hq => ct_X2_runOn X.2.2.2.2.2.2.1 a4 p1 hk_a4 _ hq) (fun r5 Sr5 h => ?_)
      refine g_pop X dX7_ahead_29 rfl ?_
      refine g_aload_n X dX7_ahead_30 0 rfl ?_
      refine g_getr X g_cX7 w_X7_ahead_inX7 1 (by decide) w_X7_ahead_16 hk_o rfl dX7_ahead_31 h (fun a6 hk_a6 h => ?_)
      refine g_getr X g_cX2 w_X7_ahead_inX2 0 (by decide) w_X7_ahead_115 hk_a6 rfl dX7_ahead_34 h (fun a7 hk_a7 h => ?_)
      refine g_iload_n X dX7_ahead_37 1 rfl ?_
      refine g_aald X 3 RX1 rfl hk_a7 dX7_ahead_38 h (fun a8 hk_a8 h => ?_)
      refine g_geti X g_cX1 w_X7_ahead_inX1 3 (by decide) w_X7_ahead_189 hk_a8 rfl dX7_ahead_39 ?_
      exact g_iret X h dX7_ahead_42
    · skip
      refine g_iconst X (v := (-1)) dX7_ahead_15 (by decide) ?_
      exact g_iret X h dX7_ahead_16
abbrev rm_X7_lets : Room := { frames := 6, cells := 0, slots := 0, locals := 134 }
theorem hd_X7_lets : yX7_lets.cls = RX7 ∧ yX7_lets.cls ≠ "java/lang/invoke/MethodHandle" ∧ yX7_lets.cls ≠ "java/lang/invoke/VarHandle" ∧ (parseMethodDescriptor yX7_lets.desc).map (fun d => d.parameters.length) = some 1 := by decide +kernel
theorem w_X7_lets_16 : Cond.fieldLink RX7 16 "TokenDoors" "trial" "LTokenDoors$Hall;" ∈ wsX7_lets := by decide +kernel
theorem w_X7_lets_inX7 : ∀ w ∈ wsX70, w ∈ wsX7_lets := by decide +kernel
def f_X7_lets (fu : Nat) (o : Nat) (p0 : Int32) (S : g_St) : Option (Int32 × g_St) :=
  g_bd (f_X7_isRun fu p0 S) fun r1 Sr1 => if r1 = 0 then (some ((-1 : Int32), Sr1)) else (g_bd (f_X7_startTrial fu o Sr1) fun _ Sr2 => g_ld g_KC 90 g_kX2 (Sr2.2 o 1) fun a3 => g_bd (f_X2_runOn fu a3 p0 Sr2) fun r4 Sr4 => g_ld g_KC 90 g_kX2 (Sr4.2 o 1) fun a5 => g_bd (f_X2_tickOn fu a5 Sr4) fun r6 Sr6 => some (r6, Sr6))
set_option maxRecDepth 100000 in
set_option maxHeartbeats 400000 in
theorem ct_X7_lets {l : Launch} {D : va_G} {ad : Nat → Nat} {cy : Nat → ClassId} {zz : (Nat → Nat) × (Nat → Nat)} (hinj : ∀ i j, i < 90 → j < 90 → ad i = ad j → i = j) {fu : Nat} (o : Nat) (p0 : Int32) (hk_o : o < 90 ∧ g_KC o = g_kX7) {S : g_St} (z : Int32 × g_St) (h : f_X7_lets fu o p0 S = some z) : g_Mi l g_KC 90 D ad cy zz yX7_lets wsX7_lets rm_X7_lets [.ref (ad o), .int (p0)] S z := by
  refine g_ofi hinj (cc := cX7_lets) (maxL := 2) (ret := (some .int)) (lv := [(0, .ref (ad o)), (1, .int (p0))]) (by decide) rfl (Nat.le_of_ble_eq_true rfl) rfl ?_
  intro x X hl hD ha hy hz
  subst hl hD ha hy hz
  unfold f_X7_lets at h
  refine g_iload_n X dX7_lets_0 1 rfl ?_
  refine g_callSi X [.int (p0)] rfl (va_cwS 1 X.2.2.2.2.1 gX7_lets_X7_isRun rfl rfl rfl hd_X7_isRun ⟨Nat.le_of_ble_eq_true rfl, Nat.le_of_ble_eq_true rfl⟩) (Nat.le_of_ble_eq_true rfl) dX7_lets_1 h (fun q hq => ct_X7_isRun X.2.2.2.2.2.2.1 p0  _ hq) (fun r1 Sr1 h => ?_)
  refine g_if_ne X 9 dX7_lets_4 (by decide) h (fun c_4 h => ?_) (fun c_4 h => ?_)
  · skip
    refine g_aload_n X dX7_lets_9 0 rfl ?_
    refine g_callVv X g_cX7 hk_o [] rfl (cwV 0 X.2.2.2.2.1 gX7_lets_X7_startTrial rfl rfl rfl hd_X7_startTrial ⟨Nat.le_of_ble_eq_true rfl, Nat.le_of_ble_eq_true rfl⟩) (Nat.le_of_ble_eq_true rfl) dX7_lets_10 h (fun q hq => ct_X7_startTrial X.2.2.2.2.2.2.1 o hk_o _ hq) (fun _ Sr2 h => ?_)
    refine g_aload_n X dX7_lets_13 0 rfl ?_
    refine g_getr X g_cX7 w_X7_lets_inX7 1 (by decide) w_X7_lets_16 hk_o rfl dX7_lets_14 h (fun a3 hk_a3 h => ?_)
    refine g_iload_n X dX7_lets_17 1 rfl ?_
    refine g_callVi X g_cX2 hk_a3 [.int (p0)] rfl (cwV 1 X.2.2.2.2.1 gX7_lets_X2_runOn rfl rfl rfl hd_X2_runOn ⟨Nat.le_of_ble_eq_true rfl, Nat.le_of_ble_eq_true rfl⟩) (Nat.le_of_ble_eq_true rfl) dX7_lets_18 h (fun q hq => ct_X2_runOn X.2.2.2.2.2.2.1 a3 p0 hk_a3 _ hq) (fun r4 Sr4 h => ?_)
    refine g_pop X dX7_lets_21 rfl ?_
    refine g_aload_n X dX7_lets_22 0 rfl ?_
    refine g_getr X g_cX7 w_X7_lets_inX7 1 (by decide) w_X7_lets_16 hk_o rfl dX7_lets_23 h (fun a5 hk_a5 h => ?_)
    refine g_callVi X g_cX2 hk_a5 [] rfl (cwV 0 X.2.2.2.2.1 gX7_lets_X2_tickOn rfl rfl rfl hd_X2_tickOn ⟨Nat.le_of_ble_eq_true rfl, Nat.le_of_ble_eq_true rfl⟩) (Nat.le_of_ble_eq_true rfl) dX7_lets_26 h (fun q hq => ct_X2_tickOn X.2.2.2.2.2.2.1 a5 hk_a5 _ hq) (fun r6 Sr6 h => ?_)
    exact g_iret X h dX7_lets_29
  · skip
    refine g_iconst X (v := (-1)) dX7_lets_7 (by decide) ?_
    exact g_iret X h dX7_lets_8
abbrev rm_X7_turns : Room := { frames := 6, cells := 0, slots := 0, locals := 134 }
theorem hd_X7_turns : yX7_turns.cls = RX7 ∧ yX7_turns.cls ≠ "java/lang/invoke/MethodHandle" ∧ yX7_turns.cls ≠ "java/lang/invoke/VarHandle" ∧ (parseMethodDescriptor yX7_turns.desc).map (fun d => d.parameters.length) = some 2 := by decide +kernel
theorem w_X7_turns_16 : Cond.fieldLink RX7 16 "TokenDoors" "trial" "LTokenDoors$Hall;" ∈ wsX7_turns := by decide +kernel
theorem w_X7_turns_inX7 : ∀ w ∈ wsX70, w ∈ wsX7_turns := by decide +kernel
theorem w_X7_turns_115 : Cond.fieldLink RX7 115 "TokenDoors$Hall" "doors" "[LTokenDoors$Door;" ∈ wsX7_turns := by decide +kernel
theorem w_X7_turns_inX2 : ∀ w ∈ wsX20, w ∈ wsX7_turns := by decide +kernel
theorem w_X7_turns_192 : Cond.fieldLink RX7 192 "TokenDoors$Door" "refused" "I" ∈ wsX7_turns := by decide +kernel
theorem w_X7_turns_inX1 : ∀ w ∈ wsX10, w ∈ wsX7_turns := by decide +kernel
def f_X7_turns (fu : Nat) (o : Nat) (p0 : Int32) (p1 : Int32) (S : g_St) : Option (Int32 × g_St) :=
  g_bd (f_X7_isDoor fu o p0 S) fun r1 Sr1 => if r1 = 0 then (some ((-1 : Int32), Sr1)) else (g_bd (f_X7_isRun fu p1 Sr1) fun r2 Sr2 => if r2 = 0 then (some ((-1 : Int32), Sr2)) else (g_bd (f_X7_startTrial fu o Sr2) fun _ Sr3 => g_ld g_KC 90 g_kX2 (Sr3.2 o 1) fun a4 => g_bd (f_X2_runOn fu a4 p1 Sr3) fun r5 Sr5 => g_ld g_KC 90 g_kX2 (Sr5.2 o 1) fun a6 => g_ld g_KC 90 (.inr (3, 4, true)) (Sr5.2 a6 0) fun a7 => g_ix p0 4 fun i8 => g_ld g_KC 90 g_kX1 (Sr5.2 a7 i8) fun a8 => some ((Sr5.1 a8 4), Sr5)))
set_option maxRecDepth 100000 in
set_option maxHeartbeats 400000 in
theorem ct_X7_turns {l : Launch} {D : va_G} {ad : Nat → Nat} {cy : Nat → ClassId} {zz : (Nat → Nat) × (Nat → Nat)} (hinj : ∀ i j, i < 90 → j < 90 → ad i = ad j → i = j) {fu : Nat} (o : Nat) (p0 : Int32) (p1 : Int32) (hk_o : o < 90 ∧ g_KC o = g_kX7) {S : g_St} (z : Int32 × g_St) (h : f_X7_turns fu o p0 p1 S = some z) : g_Mi l g_KC 90 D ad cy zz yX7_turns wsX7_turns rm_X7_turns [.ref (ad o), .int (p0), .int (p1)] S z := by
  refine g_ofi hinj (cc := cX7_turns) (maxL := 3) (ret := (some .int)) (lv := [(0, .ref (ad o)), (1, .int (p0)), (2, .int (p1))]) (by decide) rfl (Nat.le_of_ble_eq_true rfl) rfl ?_
  intro x X hl hD ha hy hz
  subst hl hD ha hy hz
  unfold f_X7_turns at h
  refine g_aload_n X dX7_turns_0 0 rfl ?_
  refine g_iload_n X dX7_turns_1 1 rfl ?_
  refine g_callVi X g_cX7 hk_o [.int (p0)] rfl (cwV 1 X.2.2.2.2.1 gX7_turns_X7_isDoor rfl rfl rfl hd_X7_isDoor ⟨Nat.le_of_ble_eq_true rfl, Nat.le_of_ble_eq_true rfl⟩) (Nat.le_of_ble_eq_true rfl) dX7_turns_2 h (fun q hq => ct_X7_isDoor X.2.2.2.2.2.2.1 o p0 hk_o _ hq) (fun r1 Sr1 h => ?_)
  refine g_if_eq X 15 dX7_turns_5 (by decide) h (fun c_5 h => ?_) (fun c_5 h => ?_)
  · skip
    refine g_iconst X (v := (-1)) dX7_turns_15 (by decide) ?_
    exact g_iret X h dX7_turns_16
  · skip
    refine g_iload_n X dX7_turns_8 2 rfl ?_
    refine g_callSi X [.int (p1)] rfl (va_cwS 1 X.2.2.2.2.1 gX7_turns_X7_isRun rfl rfl rfl hd_X7_isRun ⟨Nat.le_of_ble_eq_true rfl, Nat.le_of_ble_eq_true rfl⟩) (Nat.le_of_ble_eq_true rfl) dX7_turns_9 h (fun q hq => ct_X7_isRun X.2.2.2.2.2.2.1 p1  _ hq) (fun r2 Sr2 h => ?_)
    refine g_if_ne X 17 dX7_turns_12 (by decide) h (fun c_12 h => ?_) (fun c_12 h => ?_)
    · skip
      refine g_aload_n X dX7_turns_17 0 rfl ?_
      refine g_callVv X g_cX7 hk_o [] rfl (cwV 0 X.2.2.2.2.1 gX7_turns_X7_startTrial rfl rfl rfl hd_X7_startTrial ⟨Nat.le_of_ble_eq_true rfl, Nat.le_of_ble_eq_true rfl⟩) (Nat.le_of_ble_eq_true rfl) dX7_turns_18 h (fun q hq => ct_X7_startTrial X.2.2.2.2.2.2.1 o hk_o _ hq) (fun _ Sr3 h => ?_)
      refine g_aload_n X dX7_turns_21 0 rfl ?_
      refine g_getr X g_cX7 w_X7_turns_inX7 1 (by decide) w_X7_turns_16 hk_o rfl dX7_turns_22 h (fun a4 hk_a4 h => ?_)
      refine g_iload_n X dX7_turns_25 2 rfl ?_
      refine g_callVi X g_cX2 hk_a4 [.int (p1)] rfl (cwV 1 X.2.2.2.2.1 gX7_turns_X2_runOn rfl rfl rfl hd_X2_runOn ⟨Nat.le_of_ble_eq_true rfl, Nat.le_of_ble_eq_true rfl⟩) (Nat.le_of_ble_eq_true rfl) dX7_turns_26 h (fun q hq => ct_X2_runOn X.2.2.2.2.2.2.1 a4 p1 hk_a4 _ hq) (fun r5 Sr5 h => ?_)
      refine g_pop X dX7_turns_29 rfl ?_
      refine g_aload_n X dX7_turns_30 0 rfl ?_
      refine g_getr X g_cX7 w_X7_turns_inX7 1 (by decide) w_X7_turns_16 hk_o rfl dX7_turns_31 h (fun a6 hk_a6 h => ?_)
      refine g_getr X g_cX2 w_X7_turns_inX2 0 (by decide) w_X7_turns_115 hk_a6 rfl dX7_turns_34 h (fun a7 hk_a7 h => ?_)
      refine g_iload_n X dX7_turns_37 1 rfl ?_
      refine g_aald X 3 RX1 rfl hk_a7 dX7_turns_38 h (fun a8 hk_a8 h => ?_)
      refine g_geti X g_cX1 w_X7_turns_inX1 4 (by decide) w_X7_turns_192 hk_a8 rfl dX7_turns_39 ?_
      exact g_iret X h dX7_turns_42
    · skip
      refine g_iconst X (v := (-1)) dX7_turns_15 (by decide) ?_
      exact g_iret X h dX7_turns_16
abbrev rm_X7_when : Room := { frames := 5, cells := 0, slots := 0, locals := 111 }
theorem hd_X7_when : yX7_when.cls = RX7 ∧ yX7_when.cls ≠ "java/lang/invoke/MethodHandle" ∧ yX7_when.cls ≠ "java/lang/invoke/VarHandle" ∧ (parseMethodDescriptor yX7_when.desc).map (fun d => d.parameters.length) = some 0 := by decide +kernel
theorem w_X7_when_16 : Cond.fieldLink RX7 16 "TokenDoors" "trial" "LTokenDoors$Hall;" ∈ wsX7_when := by decide +kernel
theorem w_X7_when_inX7 : ∀ w ∈ wsX70, w ∈ wsX7_when := by decide +kernel
theorem w_X7_when_103 : Cond.fieldLink RX7 103 "TokenDoors$Hall" "turned" "I" ∈ wsX7_when := by decide +kernel
theorem w_X7_when_inX2 : ∀ w ∈ wsX20, w ∈ wsX7_when := by decide +kernel
def b_X7_when_6 (fu : Nat) (v0 : Nat) (v1 : Int32) (S : g_St) : Option ((Int32 × g_St) ⊕ ((g_St) ⊕ (Int32 × g_St))) :=
  if (100 : Int32) < v1 then (some (.inr (.inl S))) else (g_ld g_KC 90 g_kX2 (S.2 v0 1) fun a2 => g_bd (f_X2_tickOn fu a2 S) fun r3 Sr3 => g_ld g_KC 90 g_kX2 (Sr3.2 v0 1) fun a4 => if (Sr3.1 a4 6) ≤ 0 then (some (.inl ((v1 + 1), Sr3))) else (some (.inr (.inr (v1, Sr3)))))
def f_X7_when (fu : Nat) (o : Nat) (S : g_St) : Option (Int32 × g_St) :=
  g_bd (f_X7_startTrial fu o S) fun _ Sr1 => g_th (g_lp (fun t => b_X7_when_6 fu o t.1 t.2) fu ((0 : Int32), Sr1)) fun e => match e with | .inl S1 => (some ((-4 : Int32), S1)) | .inr q => some q
set_option maxRecDepth 100000 in
set_option maxHeartbeats 400000 in
theorem vb_X7_when_6 {x : g_CX} {z : Int32 × g_St} {fu : Nat} (X : g_X 90 x cX7_when RX7 2 wsX7_when rm_X7_when (some .int)) (v0 : Nat) (v1 : Int32) (hk_v0 : v0 < 90 ∧ g_KC v0 = g_kX7) (S : g_St) {r : (Int32 × g_St) ⊕ ((g_St) ⊕ (Int32 × g_St))} (h : b_X7_when_6 fu v0 v1 S = some r) (hc : Sum.elim (fun t : Int32 × g_St => g_V g_KC 90 x 2 (g_qi g_KC 90 x z) t.2 6 [(0, .ref (g_ad x v0)), (1, .int (t.1))] []) (fun b : (g_St) ⊕ (Int32 × g_St) => Sum.elim (fun e : g_St => g_V g_KC 90 x 2 (g_qi g_KC 90 x z) e 38 [] []) (fun q : Int32 × g_St => q = z) b) r) : g_V g_KC 90 x 2 (g_qi g_KC 90 x z) S 6 [(0, .ref (g_ad x v0)), (1, .int (v1))] [] := by
  unfold b_X7_when_6 at h
  refine g_iload_n X dX7_when_6 1 rfl ?_
  refine g_bipush X (v := (100)) dX7_when_7 (by decide) ?_
  refine g_icmp_gt X 38 dX7_when_9 (by decide) h (fun c_9 h => ?_) (fun c_9 h => ?_)
  · skip
    cases h
    exact g_sub [] _ rfl hc
  · skip
    refine g_aload_n X dX7_when_12 0 rfl ?_
    refine g_getr X g_cX7 w_X7_when_inX7 1 (by decide) w_X7_when_16 hk_v0 rfl dX7_when_13 h (fun a2 hk_a2 h => ?_)
    refine g_callVi X g_cX2 hk_a2 [] rfl (cwV 0 X.2.2.2.2.1 gX7_when_X2_tickOn rfl rfl rfl hd_X2_tickOn ⟨Nat.le_of_ble_eq_true rfl, Nat.le_of_ble_eq_true rfl⟩) (Nat.le_of_ble_eq_true rfl) dX7_when_16 h (fun q hq => ct_X2_tickOn X.2.2.2.2.2.2.1 a2 hk_a2 _ hq) (fun r3 Sr3 h => ?_)
    refine g_pop X dX7_when_19 rfl ?_
    refine g_aload_n X dX7_when_20 0 rfl ?_
    refine g_getr X g_cX7 w_X7_when_inX7 1 (by decide) w_X7_when_16 hk_v0 rfl dX7_when_21 h (fun a4 hk_a4 h => ?_)
    refine g_geti X g_cX2 w_X7_when_inX2 6 (by decide) w_X7_when_103 hk_a4 rfl dX7_when_24 ?_
    refine g_if_le X 32 dX7_when_27 (by decide) h (fun c_27 h => ?_) (fun c_27 h => ?_)
    · skip
      refine g_iinc X [(1, _), (0, _)] dX7_when_32 1 rfl rfl (by decide) rfl ?_
      refine g_goto X 6 dX7_when_35 (by decide) ?_
      cases h
      exact g_sub [1, 0] _ rfl hc
    · skip
      refine g_iload_n X dX7_when_30 1 rfl ?_
      cases h
      exact g_iret X (congrArg some hc) dX7_when_31
set_option maxRecDepth 100000 in
set_option maxHeartbeats 400000 in
theorem ct_X7_when {l : Launch} {D : va_G} {ad : Nat → Nat} {cy : Nat → ClassId} {zz : (Nat → Nat) × (Nat → Nat)} (hinj : ∀ i j, i < 90 → j < 90 → ad i = ad j → i = j) {fu : Nat} (o : Nat) (hk_o : o < 90 ∧ g_KC o = g_kX7) {S : g_St} (z : Int32 × g_St) (h : f_X7_when fu o S = some z) : g_Mi l g_KC 90 D ad cy zz yX7_when wsX7_when rm_X7_when [.ref (ad o)] S z := by
  refine g_ofi hinj (cc := cX7_when) (maxL := 2) (ret := (some .int)) (lv := [(0, .ref (ad o))]) (by decide) rfl (Nat.le_of_ble_eq_true rfl) rfl ?_
  intro x X hl hD ha hy hz
  subst hl hD ha hy hz
  unfold f_X7_when at h
  refine g_aload_n X dX7_when_0 0 rfl ?_
  refine g_callVv X g_cX7 hk_o [] rfl (cwV 0 X.2.2.2.2.1 gX7_when_X7_startTrial rfl rfl rfl hd_X7_startTrial ⟨Nat.le_of_ble_eq_true rfl, Nat.le_of_ble_eq_true rfl⟩) (Nat.le_of_ble_eq_true rfl) dX7_when_1 h (fun q hq => ct_X7_startTrial X.2.2.2.2.2.2.1 o hk_o _ hq) (fun _ Sr1 h => ?_)
  refine g_iconst X (v := 0) dX7_when_4 (by decide) ?_
  refine g_istore_n X [(1, _), (0, _)] dX7_when_5 (by decide) rfl ?_
  obtain ⟨e, he, h⟩ := g_th_s h
  refine g_sub [1, 0] _ rfl ?_
  refine g_lp_w (body := (fun t => b_X7_when_6 fu o t.1 t.2)) (P := fun t : Int32 × g_St => g_V g_KC 90 x 2 (g_qi g_KC 90 x z) t.2 6 [(0, .ref (g_ad x o)), (1, .int (t.1))] []) (E := (fun b : (g_St) ⊕ (Int32 × g_St) => Sum.elim (fun e : g_St => g_V g_KC 90 x 2 (g_qi g_KC 90 x z) e 38 [] []) (fun q : Int32 × g_St => q = z) b)) (fun t r hb hc => vb_X7_when_6 X o t.1 hk_o t.2 hb hc) fu ((0 : Int32), Sr1) e he ?_
  rcases e with S1 | q
  · show g_V g_KC 90 x 2 (g_qi g_KC 90 x z) S1 38 [] []
    refine g_bipush X (v := (-4)) dX7_when_38 (by decide) ?_
    exact g_iret X h dX7_when_40
  · cases h; rfl
abbrev rm_X7_leastUnrefusing : Room := { frames := 6, cells := 0, slots := 0, locals := 134 }
theorem hd_X7_leastUnrefusing : yX7_leastUnrefusing.cls = RX7 ∧ yX7_leastUnrefusing.cls ≠ "java/lang/invoke/MethodHandle" ∧ yX7_leastUnrefusing.cls ≠ "java/lang/invoke/VarHandle" ∧ (parseMethodDescriptor yX7_leastUnrefusing.desc).map (fun d => d.parameters.length) = some 3 := by decide +kernel
theorem w_X7_leastUnrefusing_16 : Cond.fieldLink RX7 16 "TokenDoors" "trial" "LTokenDoors$Hall;" ∈ wsX7_leastUnrefusing := by decide +kernel
theorem w_X7_leastUnrefusing_inX7 : ∀ w ∈ wsX70, w ∈ wsX7_leastUnrefusing := by decide +kernel
theorem w_X7_leastUnrefusing_115 : Cond.fieldLink RX7 115 "TokenDoors$Hall" "doors" "[LTokenDoors$Door;" ∈ wsX7_leastUnrefusing := by decide +kernel
theorem w_X7_leastUnrefusing_inX2 : ∀ w ∈ wsX20, w ∈ wsX7_leastUnrefusing := by decide +kernel
theorem w_X7_leastUnrefusing_192 : Cond.fieldLink RX7 192 "TokenDoors$Door" "refused" "I" ∈ wsX7_leastUnrefusing := by decide +kernel
theorem w_X7_leastUnrefusing_inX1 : ∀ w ∈ wsX10, w ∈ wsX7_leastUnrefusing := by decide +kernel
def b_X7_leastUnrefusing_6 (fu : Nat) (v0 : Nat) (v1 : Int32) (v2 : Int32) (v3 : Int32) (v4 : Int32) (S : g_St) : Option ((Int32 × g_St) ⊕ ((g_St) ⊕ (Int32 × g_St))) :=
  g_bd (f_X7_highest fu v2 S) fun r2 Sr2 => if r2 < v4 then (some (.inr (.inl Sr2))) else (g_bd (f_X7_startTrial fu v0 Sr2) fun _ Sr3 => g_ld g_KC 90 g_kX2 (Sr3.2 v0 1) fun a4 => g_ld g_KC 90 (.inr (3, 4, true)) (Sr3.2 a4 0) fun a5 => g_ix v1 4 fun i6 => g_ld g_KC 90 g_kX1 (Sr3.2 a5 i6) fun a6 => g_bd (f_X1_change fu a6 v2 v4 Sr3) fun _ Sr7 => g_ld g_KC 90 g_kX2 (Sr7.2 v0 1) fun a8 => g_bd (f_X2_runOn fu a8 v3 Sr7) fun r9 Sr9 => g_ld g_KC 90 g_kX2 (Sr9.2 v0 1) fun a10 => g_ld g_KC 90 (.inr (3, 4, true)) (Sr9.2 a10 0) fun a11 => g_ix v1 4 fun i12 => g_ld g_KC 90 g_kX1 (Sr9.2 a11 i12) fun a12 => if (Sr9.1 a12 4) = 0 then (some (.inr (.inr (v4, Sr9)))) else (some (.inl ((v4 + 1), Sr9))))
def f_X7_leastUnrefusing (fu : Nat) (o : Nat) (p0 : Int32) (p1 : Int32) (p2 : Int32) (S : g_St) : Option (Int32 × g_St) :=
  g_bd (f_X7_lowest fu p1 S) fun r1 Sr1 => g_th (g_lp (fun t => b_X7_leastUnrefusing_6 fu o p0 p1 p2 t.1 t.2) fu (r1, Sr1)) fun e => match e with | .inl S1 => (some ((-4 : Int32), S1)) | .inr q => some q
set_option maxRecDepth 100000 in
set_option maxHeartbeats 400000 in
theorem vb_X7_leastUnrefusing_6 {x : g_CX} {z : Int32 × g_St} {fu : Nat} (X : g_X 90 x cX7_leastUnrefusing RX7 5 wsX7_leastUnrefusing rm_X7_leastUnrefusing (some .int)) (v0 : Nat) (v1 : Int32) (v2 : Int32) (v3 : Int32) (v4 : Int32) (hk_v0 : v0 < 90 ∧ g_KC v0 = g_kX7) (S : g_St) {r : (Int32 × g_St) ⊕ ((g_St) ⊕ (Int32 × g_St))} (h : b_X7_leastUnrefusing_6 fu v0 v1 v2 v3 v4 S = some r) (hc : Sum.elim (fun t : Int32 × g_St => g_V g_KC 90 x 5 (g_qi g_KC 90 x z) t.2 6 [(0, .ref (g_ad x v0)), (1, .int (v1)), (2, .int (v2)), (3, .int (v3)), (4, .int (t.1))] []) (fun b : (g_St) ⊕ (Int32 × g_St) => Sum.elim (fun e : g_St => g_V g_KC 90 x 5 (g_qi g_KC 90 x z) e 67 [] []) (fun q : Int32 × g_St => q = z) b) r) : g_V g_KC 90 x 5 (g_qi g_KC 90 x z) S 6 [(0, .ref (g_ad x v0)), (1, .int (v1)), (2, .int (v2)), (3, .int (v3)), (4, .int (v4))] [] := by
  unfold b_X7_leastUnrefusing_6 at h
  refine g_iload X dX7_leastUnrefusing_6 4 rfl ?_
  refine g_iload_n X dX7_leastUnrefusing_8 2 rfl ?_
  refine g_callSi X [.int (v2)] rfl (va_cwS 1 X.2.2.2.2.1 gX7_leastUnrefusing_X7_highest rfl rfl rfl hd_X7_highest ⟨Nat.le_of_ble_eq_true rfl, Nat.le_of_ble_eq_true rfl⟩) (Nat.le_of_ble_eq_true rfl) dX7_leastUnrefusing_9 h (fun q hq => ct_X7_highest X.2.2.2.2.2.2.1 v2  _ hq) (fun r2 Sr2 h => ?_)
  refine g_icmp_gt X 67 dX7_leastUnrefusing_12 (by decide) h (fun c_12 h => ?_) (fun c_12 h => ?_)
  · skip
    cases h
    exact g_sub [] _ rfl hc
  · skip
    refine g_aload_n X dX7_leastUnrefusing_15 0 rfl ?_
    refine g_callVv X g_cX7 hk_v0 [] rfl (cwV 0 X.2.2.2.2.1 gX7_leastUnrefusing_X7_startTrial rfl rfl rfl hd_X7_startTrial ⟨Nat.le_of_ble_eq_true rfl, Nat.le_of_ble_eq_true rfl⟩) (Nat.le_of_ble_eq_true rfl) dX7_leastUnrefusing_16 h (fun q hq => ct_X7_startTrial X.2.2.2.2.2.2.1 v0 hk_v0 _ hq) (fun _ Sr3 h => ?_)
    refine g_aload_n X dX7_leastUnrefusing_19 0 rfl ?_
    refine g_getr X g_cX7 w_X7_leastUnrefusing_inX7 1 (by decide) w_X7_leastUnrefusing_16 hk_v0 rfl dX7_leastUnrefusing_20 h (fun a4 hk_a4 h => ?_)
    refine g_getr X g_cX2 w_X7_leastUnrefusing_inX2 0 (by decide) w_X7_leastUnrefusing_115 hk_a4 rfl dX7_leastUnrefusing_23 h (fun a5 hk_a5 h => ?_)
    refine g_iload_n X dX7_leastUnrefusing_26 1 rfl ?_
    refine g_aald X 3 RX1 rfl hk_a5 dX7_leastUnrefusing_27 h (fun a6 hk_a6 h => ?_)
    refine g_iload_n X dX7_leastUnrefusing_28 2 rfl ?_
    refine g_iload X dX7_leastUnrefusing_29 4 rfl ?_
    refine g_callVv X g_cX1 hk_a6 [.int (v2), .int (v4)] rfl (cwV 2 X.2.2.2.2.1 gX7_leastUnrefusing_X1_change rfl rfl rfl hd_X1_change ⟨Nat.le_of_ble_eq_true rfl, Nat.le_of_ble_eq_true rfl⟩) (Nat.le_of_ble_eq_true rfl) dX7_leastUnrefusing_31 h (fun q hq => ct_X1_change X.2.2.2.2.2.2.1 a6 v2 v4 hk_a6 _ hq) (fun _ Sr7 h => ?_)
    refine g_aload_n X dX7_leastUnrefusing_34 0 rfl ?_
    refine g_getr X g_cX7 w_X7_leastUnrefusing_inX7 1 (by decide) w_X7_leastUnrefusing_16 hk_v0 rfl dX7_leastUnrefusing_35 h (fun a8 hk_a8 h => ?_)
    refine g_iload_n X dX7_leastUnrefusing_38 3 rfl ?_
    refine g_callVi X g_cX2 hk_a8 [.int (v3)] rfl (cwV 1 X.2.2.2.2.1 gX7_leastUnrefusing_X2_runOn rfl rfl rfl hd_X2_runOn ⟨Nat.le_of_ble_eq_true rfl, Nat.le_of_ble_eq_true rfl⟩) (Nat.le_of_ble_eq_true rfl) dX7_leastUnrefusing_39 h (fun q hq => ct_X2_runOn X.2.2.2.2.2.2.1 a8 v3 hk_a8 _ hq) (fun r9 Sr9 h => ?_)
    refine g_pop X dX7_leastUnrefusing_42 rfl ?_
    refine g_aload_n X dX7_leastUnrefusing_43 0 rfl ?_
    refine g_getr X g_cX7 w_X7_leastUnrefusing_inX7 1 (by decide) w_X7_leastUnrefusing_16 hk_v0 rfl dX7_leastUnrefusing_44 h (fun a10 hk_a10 h => ?_)
    refine g_getr X g_cX2 w_X7_leastUnrefusing_inX2 0 (by decide) w_X7_leastUnrefusing_115 hk_a10 rfl dX7_leastUnrefusing_47 h (fun a11 hk_a11 h => ?_)
    refine g_iload_n X dX7_leastUnrefusing_50 1 rfl ?_
    refine g_aald X 3 RX1 rfl hk_a11 dX7_leastUnrefusing_51 h (fun a12 hk_a12 h => ?_)
    refine g_geti X g_cX1 w_X7_leastUnrefusing_inX1 4 (by decide) w_X7_leastUnrefusing_192 hk_a12 rfl dX7_leastUnrefusing_52 ?_
    refine g_if_ne X 61 dX7_leastUnrefusing_55 (by decide) h (fun c_55 h => ?_) (fun c_55 h => ?_)
    · skip
      refine g_iinc X [(4, _), (0, _), (1, _), (2, _), (3, _)] dX7_leastUnrefusing_61 4 rfl rfl (by decide) rfl ?_
      refine g_goto X 6 dX7_leastUnrefusing_64 (by decide) ?_
      cases h
      exact g_sub [1, 2, 3, 4, 0] _ rfl hc
    · skip
      refine g_iload X dX7_leastUnrefusing_58 4 rfl ?_
      cases h
      exact g_iret X (congrArg some hc) dX7_leastUnrefusing_60
set_option maxRecDepth 100000 in
set_option maxHeartbeats 400000 in
theorem ct_X7_leastUnrefusing {l : Launch} {D : va_G} {ad : Nat → Nat} {cy : Nat → ClassId} {zz : (Nat → Nat) × (Nat → Nat)} (hinj : ∀ i j, i < 90 → j < 90 → ad i = ad j → i = j) {fu : Nat} (o : Nat) (p0 : Int32) (p1 : Int32) (p2 : Int32) (hk_o : o < 90 ∧ g_KC o = g_kX7) {S : g_St} (z : Int32 × g_St) (h : f_X7_leastUnrefusing fu o p0 p1 p2 S = some z) : g_Mi l g_KC 90 D ad cy zz yX7_leastUnrefusing wsX7_leastUnrefusing rm_X7_leastUnrefusing [.ref (ad o), .int (p0), .int (p1), .int (p2)] S z := by
  refine g_ofi hinj (cc := cX7_leastUnrefusing) (maxL := 5) (ret := (some .int)) (lv := [(0, .ref (ad o)), (1, .int (p0)), (2, .int (p1)), (3, .int (p2))]) (by decide) rfl (Nat.le_of_ble_eq_true rfl) rfl ?_
  intro x X hl hD ha hy hz
  subst hl hD ha hy hz
  unfold f_X7_leastUnrefusing at h
  refine g_iload_n X dX7_leastUnrefusing_0 2 rfl ?_
  refine g_callSi X [.int (p1)] rfl (va_cwS 1 X.2.2.2.2.1 gX7_leastUnrefusing_X7_lowest rfl rfl rfl hd_X7_lowest ⟨Nat.le_of_ble_eq_true rfl, Nat.le_of_ble_eq_true rfl⟩) (Nat.le_of_ble_eq_true rfl) dX7_leastUnrefusing_1 h (fun q hq => ct_X7_lowest X.2.2.2.2.2.2.1 p1  _ hq) (fun r1 Sr1 h => ?_)
  refine g_istore X [(4, _), (0, _), (1, _), (2, _), (3, _)] dX7_leastUnrefusing_4 (by decide) rfl ?_
  obtain ⟨e, he, h⟩ := g_th_s h
  refine g_sub [1, 2, 3, 4, 0] _ rfl ?_
  refine g_lp_w (body := (fun t => b_X7_leastUnrefusing_6 fu o p0 p1 p2 t.1 t.2)) (P := fun t : Int32 × g_St => g_V g_KC 90 x 5 (g_qi g_KC 90 x z) t.2 6 [(0, .ref (g_ad x o)), (1, .int (p0)), (2, .int (p1)), (3, .int (p2)), (4, .int (t.1))] []) (E := (fun b : (g_St) ⊕ (Int32 × g_St) => Sum.elim (fun e : g_St => g_V g_KC 90 x 5 (g_qi g_KC 90 x z) e 67 [] []) (fun q : Int32 × g_St => q = z) b)) (fun t r hb hc => vb_X7_leastUnrefusing_6 X o p0 p1 p2 t.1 hk_o t.2 hb hc) fu (r1, Sr1) e he ?_
  rcases e with S1 | q
  · show g_V g_KC 90 x 5 (g_qi g_KC 90 x z) S1 67 [] []
    refine g_bipush X (v := (-4)) dX7_leastUnrefusing_67 (by decide) ?_
    exact g_iret X h dX7_leastUnrefusing_69
  · cases h; rfl
abbrev rm_X7_depth : Room := { frames := 7, cells := 0, slots := 0, locals := 158 }
theorem hd_X7_depth : yX7_depth.cls = RX7 ∧ yX7_depth.cls ≠ "java/lang/invoke/MethodHandle" ∧ yX7_depth.cls ≠ "java/lang/invoke/VarHandle" ∧ (parseMethodDescriptor yX7_depth.desc).map (fun d => d.parameters.length) = some 2 := by decide +kernel
def f_X7_depth (fu : Nat) (o : Nat) (p0 : Int32) (p1 : Int32) (S : g_St) : Option (Int32 × g_St) :=
  g_bd (f_X7_isDoor fu o p0 S) fun r1 Sr1 => if r1 = 0 then (some ((-1 : Int32), Sr1)) else (g_bd (f_X7_isRun fu p1 Sr1) fun r2 Sr2 => if r2 = 0 then (some ((-1 : Int32), Sr2)) else (g_bd (f_X7_leastUnrefusing fu o p0 ((1 : Int32)) p1 Sr2) fun r3 Sr3 => some (r3, Sr3)))
set_option maxRecDepth 100000 in
set_option maxHeartbeats 400000 in
theorem ct_X7_depth {l : Launch} {D : va_G} {ad : Nat → Nat} {cy : Nat → ClassId} {zz : (Nat → Nat) × (Nat → Nat)} (hinj : ∀ i j, i < 90 → j < 90 → ad i = ad j → i = j) {fu : Nat} (o : Nat) (p0 : Int32) (p1 : Int32) (hk_o : o < 90 ∧ g_KC o = g_kX7) {S : g_St} (z : Int32 × g_St) (h : f_X7_depth fu o p0 p1 S = some z) : g_Mi l g_KC 90 D ad cy zz yX7_depth wsX7_depth rm_X7_depth [.ref (ad o), .int (p0), .int (p1)] S z := by
  refine g_ofi hinj (cc := cX7_depth) (maxL := 3) (ret := (some .int)) (lv := [(0, .ref (ad o)), (1, .int (p0)), (2, .int (p1))]) (by decide) rfl (Nat.le_of_ble_eq_true rfl) rfl ?_
  intro x X hl hD ha hy hz
  subst hl hD ha hy hz
  unfold f_X7_depth at h
  refine g_aload_n X dX7_depth_0 0 rfl ?_
  refine g_iload_n X dX7_depth_1 1 rfl ?_
  refine g_callVi X g_cX7 hk_o [.int (p0)] rfl (cwV 1 X.2.2.2.2.1 gX7_depth_X7_isDoor rfl rfl rfl hd_X7_isDoor ⟨Nat.le_of_ble_eq_true rfl, Nat.le_of_ble_eq_true rfl⟩) (Nat.le_of_ble_eq_true rfl) dX7_depth_2 h (fun q hq => ct_X7_isDoor X.2.2.2.2.2.2.1 o p0 hk_o _ hq) (fun r1 Sr1 h => ?_)
  refine g_if_eq X 15 dX7_depth_5 (by decide) h (fun c_5 h => ?_) (fun c_5 h => ?_)
  · skip
    refine g_iconst X (v := (-1)) dX7_depth_15 (by decide) ?_
    exact g_iret X h dX7_depth_16
  · skip
    refine g_iload_n X dX7_depth_8 2 rfl ?_
    refine g_callSi X [.int (p1)] rfl (va_cwS 1 X.2.2.2.2.1 gX7_depth_X7_isRun rfl rfl rfl hd_X7_isRun ⟨Nat.le_of_ble_eq_true rfl, Nat.le_of_ble_eq_true rfl⟩) (Nat.le_of_ble_eq_true rfl) dX7_depth_9 h (fun q hq => ct_X7_isRun X.2.2.2.2.2.2.1 p1  _ hq) (fun r2 Sr2 h => ?_)
    refine g_if_ne X 17 dX7_depth_12 (by decide) h (fun c_12 h => ?_) (fun c_12 h => ?_)
    · skip
      refine g_aload_n X dX7_depth_17 0 rfl ?_
      refine g_iload_n X dX7_depth_18 1 rfl ?_
      refine g_iconst X (v := 1) dX7_depth_19 (by decide) ?_
      refine g_iload_n X dX7_depth_20 2 rfl ?_
      refine g_callVi X g_cX7 hk_o [.int (p0), .int ((1 : Int32)), .int (p1)] rfl (cwV 3 X.2.2.2.2.1 gX7_depth_X7_leastUnrefusing rfl rfl rfl hd_X7_leastUnrefusing ⟨Nat.le_of_ble_eq_true rfl, Nat.le_of_ble_eq_true rfl⟩) (Nat.le_of_ble_eq_true rfl) dX7_depth_21 h (fun q hq => ct_X7_leastUnrefusing X.2.2.2.2.2.2.1 o p0 ((1 : Int32)) p1 hk_o _ hq) (fun r3 Sr3 h => ?_)
      exact g_iret X h dX7_depth_24
    · skip
      refine g_iconst X (v := (-1)) dX7_depth_15 (by decide) ?_
      exact g_iret X h dX7_depth_16
abbrev rm_X7_rate : Room := { frames := 7, cells := 0, slots := 0, locals := 158 }
theorem hd_X7_rate : yX7_rate.cls = RX7 ∧ yX7_rate.cls ≠ "java/lang/invoke/MethodHandle" ∧ yX7_rate.cls ≠ "java/lang/invoke/VarHandle" ∧ (parseMethodDescriptor yX7_rate.desc).map (fun d => d.parameters.length) = some 2 := by decide +kernel
def f_X7_rate (fu : Nat) (o : Nat) (p0 : Int32) (p1 : Int32) (S : g_St) : Option (Int32 × g_St) :=
  g_bd (f_X7_isDoor fu o p0 S) fun r1 Sr1 => if r1 = 0 then (some ((-1 : Int32), Sr1)) else (g_bd (f_X7_isRun fu p1 Sr1) fun r2 Sr2 => if r2 = 0 then (some ((-1 : Int32), Sr2)) else (g_bd (f_X7_leastUnrefusing fu o p0 ((2 : Int32)) p1 Sr2) fun r3 Sr3 => some (r3, Sr3)))
set_option maxRecDepth 100000 in
set_option maxHeartbeats 400000 in
theorem ct_X7_rate {l : Launch} {D : va_G} {ad : Nat → Nat} {cy : Nat → ClassId} {zz : (Nat → Nat) × (Nat → Nat)} (hinj : ∀ i j, i < 90 → j < 90 → ad i = ad j → i = j) {fu : Nat} (o : Nat) (p0 : Int32) (p1 : Int32) (hk_o : o < 90 ∧ g_KC o = g_kX7) {S : g_St} (z : Int32 × g_St) (h : f_X7_rate fu o p0 p1 S = some z) : g_Mi l g_KC 90 D ad cy zz yX7_rate wsX7_rate rm_X7_rate [.ref (ad o), .int (p0), .int (p1)] S z := by
  refine g_ofi hinj (cc := cX7_rate) (maxL := 3) (ret := (some .int)) (lv := [(0, .ref (ad o)), (1, .int (p0)), (2, .int (p1))]) (by decide) rfl (Nat.le_of_ble_eq_true rfl) rfl ?_
  intro x X hl hD ha hy hz
  subst hl hD ha hy hz
  unfold f_X7_rate at h
  refine g_aload_n X dX7_rate_0 0 rfl ?_
  refine g_iload_n X dX7_rate_1 1 rfl ?_
  refine g_callVi X g_cX7 hk_o [.int (p0)] rfl (cwV 1 X.2.2.2.2.1 gX7_rate_X7_isDoor rfl rfl rfl hd_X7_isDoor ⟨Nat.le_of_ble_eq_true rfl, Nat.le_of_ble_eq_true rfl⟩) (Nat.le_of_ble_eq_true rfl) dX7_rate_2 h (fun q hq => ct_X7_isDoor X.2.2.2.2.2.2.1 o p0 hk_o _ hq) (fun r1 Sr1 h => ?_)
  refine g_if_eq X 15 dX7_rate_5 (by decide) h (fun c_5 h => ?_) (fun c_5 h => ?_)
  · skip
    refine g_iconst X (v := (-1)) dX7_rate_15 (by decide) ?_
    exact g_iret X h dX7_rate_16
  · skip
    refine g_iload_n X dX7_rate_8 2 rfl ?_
    refine g_callSi X [.int (p1)] rfl (va_cwS 1 X.2.2.2.2.1 gX7_rate_X7_isRun rfl rfl rfl hd_X7_isRun ⟨Nat.le_of_ble_eq_true rfl, Nat.le_of_ble_eq_true rfl⟩) (Nat.le_of_ble_eq_true rfl) dX7_rate_9 h (fun q hq => ct_X7_isRun X.2.2.2.2.2.2.1 p1  _ hq) (fun r2 Sr2 h => ?_)
    refine g_if_ne X 17 dX7_rate_12 (by decide) h (fun c_12 h => ?_) (fun c_12 h => ?_)
    · skip
      refine g_aload_n X dX7_rate_17 0 rfl ?_
      refine g_iload_n X dX7_rate_18 1 rfl ?_
      refine g_iconst X (v := 2) dX7_rate_19 (by decide) ?_
      refine g_iload_n X dX7_rate_20 2 rfl ?_
      refine g_callVi X g_cX7 hk_o [.int (p0), .int ((2 : Int32)), .int (p1)] rfl (cwV 3 X.2.2.2.2.1 gX7_rate_X7_leastUnrefusing rfl rfl rfl hd_X7_leastUnrefusing ⟨Nat.le_of_ble_eq_true rfl, Nat.le_of_ble_eq_true rfl⟩) (Nat.le_of_ble_eq_true rfl) dX7_rate_21 h (fun q hq => ct_X7_leastUnrefusing X.2.2.2.2.2.2.1 o p0 ((2 : Int32)) p1 hk_o _ hq) (fun r3 Sr3 h => ?_)
      exact g_iret X h dX7_rate_24
    · skip
      refine g_iconst X (v := (-1)) dX7_rate_15 (by decide) ?_
      exact g_iret X h dX7_rate_16
abbrev rm_X7_isChoice : Room := { frames := 0, cells := 0, slots := 0, locals := 0 }
theorem hd_X7_isChoice : yX7_isChoice.cls ≠ "java/lang/invoke/MethodHandle" ∧ yX7_isChoice.cls ≠ "java/lang/invoke/VarHandle" ∧ (parseMethodDescriptor yX7_isChoice.desc).map (fun d => d.parameters.length) = some 1 := by decide +kernel
def j_X7_isChoice_9 (fu : Nat)  (S : g_St) : Option (Int32 × g_St) :=
  g_zb (1 : Int32) (some ((1 : Int32), S))
def f_X7_isChoice (fu : Nat) (p0 : Int32) (S : g_St) : Option (Int32 × g_St) :=
  if p0 = 0 then (j_X7_isChoice_9 fu  S) else (if p0 = (1 : Int32) then (j_X7_isChoice_9 fu  S) else (g_zb (0 : Int32) (some ((0 : Int32), S))))
set_option maxRecDepth 100000 in
set_option maxHeartbeats 400000 in
theorem vj_X7_isChoice_9 {x : g_CX} {z : Int32 × g_St} {fu : Nat} (X : g_X 90 x cX7_isChoice RX7 1 wsX7_isChoice rm_X7_isChoice (some .boolean))   (S : g_St) (h : j_X7_isChoice_9 fu  S = some z) : g_V g_KC 90 x 1 (g_qi g_KC 90 x z) S 9 [] [] := by
  unfold j_X7_isChoice_9 at h
  refine g_iconst X (v := 1) dX7_isChoice_9 (by decide) ?_
  refine g_goto X 14 dX7_isChoice_10 (by decide) ?_
  exact g_zret X h dX7_isChoice_14
set_option maxRecDepth 100000 in
set_option maxHeartbeats 400000 in
theorem ct_X7_isChoice {l : Launch} {D : va_G} {ad : Nat → Nat} {cy : Nat → ClassId} {zz : (Nat → Nat) × (Nat → Nat)} (hinj : ∀ i j, i < 90 → j < 90 → ad i = ad j → i = j) {fu : Nat} (p0 : Int32)  {S : g_St} (z : Int32 × g_St) (h : f_X7_isChoice fu p0 S = some z) : g_Mi l g_KC 90 D ad cy zz yX7_isChoice wsX7_isChoice rm_X7_isChoice [.int (p0)] S z := by
  refine g_ofi hinj (cc := cX7_isChoice) (maxL := 1) (ret := (some .boolean)) (lv := [(0, .int (p0))]) (by decide) rfl (Nat.le_of_ble_eq_true rfl) rfl ?_
  intro x X hl hD ha hy hz
  subst hl hD ha hy hz
  unfold f_X7_isChoice at h
  refine g_iload_n X dX7_isChoice_0 0 rfl ?_
  refine g_if_eq X 9 dX7_isChoice_1 (by decide) h (fun c_1 h => ?_) (fun c_1 h => ?_)
  · skip
    refine g_sub [] _ rfl ?_
    exact vj_X7_isChoice_9 X   _ h
  · skip
    refine g_iload_n X dX7_isChoice_4 0 rfl ?_
    refine g_iconst X (v := 1) dX7_isChoice_5 (by decide) ?_
    refine g_icmp_ne X 13 dX7_isChoice_6 (by decide) h (fun c_6 h => ?_) (fun c_6 h => ?_)
    · skip
      refine g_iconst X (v := 0) dX7_isChoice_13 (by decide) ?_
      exact g_zret X h dX7_isChoice_14
    · skip
      refine g_sub [] _ rfl ?_
      exact vj_X7_isChoice_9 X   _ h
abbrev rm_X7_letAsItIs : Room := { frames := 6, cells := 0, slots := 0, locals := 134 }
theorem hd_X7_letAsItIs : yX7_letAsItIs.cls = RX7 ∧ yX7_letAsItIs.cls ≠ "java/lang/invoke/MethodHandle" ∧ yX7_letAsItIs.cls ≠ "java/lang/invoke/VarHandle" ∧ (parseMethodDescriptor yX7_letAsItIs.desc).map (fun d => d.parameters.length) = some 1 := by decide +kernel
theorem w_X7_letAsItIs_16 : Cond.fieldLink RX7 16 "TokenDoors" "trial" "LTokenDoors$Hall;" ∈ wsX7_letAsItIs := by decide +kernel
theorem w_X7_letAsItIs_inX7 : ∀ w ∈ wsX70, w ∈ wsX7_letAsItIs := by decide +kernel
def f_X7_letAsItIs (fu : Nat) (o : Nat) (p0 : Int32) (S : g_St) : Option (Int32 × g_St) :=
  g_bd (f_X7_startTrial fu o S) fun _ Sr1 => g_ld g_KC 90 g_kX2 (Sr1.2 o 1) fun a2 => g_bd (f_X2_runOn fu a2 p0 Sr1) fun r3 Sr3 => some (r3, Sr3)
set_option maxRecDepth 100000 in
set_option maxHeartbeats 400000 in
theorem ct_X7_letAsItIs {l : Launch} {D : va_G} {ad : Nat → Nat} {cy : Nat → ClassId} {zz : (Nat → Nat) × (Nat → Nat)} (hinj : ∀ i j, i < 90 → j < 90 → ad i = ad j → i = j) {fu : Nat} (o : Nat) (p0 : Int32) (hk_o : o < 90 ∧ g_KC o = g_kX7) {S : g_St} (z : Int32 × g_St) (h : f_X7_letAsItIs fu o p0 S = some z) : g_Mi l g_KC 90 D ad cy zz yX7_letAsItIs wsX7_letAsItIs rm_X7_letAsItIs [.ref (ad o), .int (p0)] S z := by
  refine g_ofi hinj (cc := cX7_letAsItIs) (maxL := 2) (ret := (some .int)) (lv := [(0, .ref (ad o)), (1, .int (p0))]) (by decide) rfl (Nat.le_of_ble_eq_true rfl) rfl ?_
  intro x X hl hD ha hy hz
  subst hl hD ha hy hz
  unfold f_X7_letAsItIs at h
  refine g_aload_n X dX7_letAsItIs_0 0 rfl ?_
  refine g_callVv X g_cX7 hk_o [] rfl (cwV 0 X.2.2.2.2.1 gX7_letAsItIs_X7_startTrial rfl rfl rfl hd_X7_startTrial ⟨Nat.le_of_ble_eq_true rfl, Nat.le_of_ble_eq_true rfl⟩) (Nat.le_of_ble_eq_true rfl) dX7_letAsItIs_1 h (fun q hq => ct_X7_startTrial X.2.2.2.2.2.2.1 o hk_o _ hq) (fun _ Sr1 h => ?_)
  refine g_aload_n X dX7_letAsItIs_4 0 rfl ?_
  refine g_getr X g_cX7 w_X7_letAsItIs_inX7 1 (by decide) w_X7_letAsItIs_16 hk_o rfl dX7_letAsItIs_5 h (fun a2 hk_a2 h => ?_)
  refine g_iload_n X dX7_letAsItIs_8 1 rfl ?_
  refine g_callVi X g_cX2 hk_a2 [.int (p0)] rfl (cwV 1 X.2.2.2.2.1 gX7_letAsItIs_X2_runOn rfl rfl rfl hd_X2_runOn ⟨Nat.le_of_ble_eq_true rfl, Nat.le_of_ble_eq_true rfl⟩) (Nat.le_of_ble_eq_true rfl) dX7_letAsItIs_9 h (fun q hq => ct_X2_runOn X.2.2.2.2.2.2.1 a2 p0 hk_a2 _ hq) (fun r3 Sr3 h => ?_)
  exact g_iret X h dX7_letAsItIs_12
abbrev rm_X7_swap : Room := { frames := 7, cells := 0, slots := 0, locals := 155 }
theorem hd_X7_swap : yX7_swap.cls = RX7 ∧ yX7_swap.cls ≠ "java/lang/invoke/MethodHandle" ∧ yX7_swap.cls ≠ "java/lang/invoke/VarHandle" ∧ (parseMethodDescriptor yX7_swap.desc).map (fun d => d.parameters.length) = some 2 := by decide +kernel
theorem w_X7_swap_10 : Cond.fieldLink RX7 10 "TokenDoors" "now" "LTokenDoors$Hall;" ∈ wsX7_swap := by decide +kernel
theorem w_X7_swap_inX7 : ∀ w ∈ wsX70, w ∈ wsX7_swap := by decide +kernel
theorem w_X7_swap_91 : Cond.fieldLink RX7 91 "TokenDoors$Hall" "doorCount" "I" ∈ wsX7_swap := by decide +kernel
theorem w_X7_swap_inX2 : ∀ w ∈ wsX20, w ∈ wsX7_swap := by decide +kernel
theorem w_X7_swap_16 : Cond.fieldLink RX7 16 "TokenDoors" "trial" "LTokenDoors$Hall;" ∈ wsX7_swap := by decide +kernel
def j_X7_swap_103_in47 (fu : Nat) (v0 : Nat) (v1 : Int32) (v2 : Int32) (v3 : Int32) (v4 : Int32) (v5 : Int32) (v6 : Int32) (S : g_St) : Option ((Int32 × Int32 × Int32 × g_St) ⊕ (Int32 × Int32 × g_St)) :=
  some (.inl (v3, v4, (v6 + 1), S))
def b_X7_swap_47 (fu : Nat) (v0 : Nat) (v1 : Int32) (v2 : Int32) (v5 : Int32) (v3 : Int32) (v4 : Int32) (v6 : Int32) (S : g_St) : Option ((Int32 × Int32 × Int32 × g_St) ⊕ (Int32 × Int32 × g_St)) :=
  g_ld g_KC 90 g_kX2 (S.2 v0 0) fun a5 => if (S.1 a5 2) ≤ v6 then (some (.inr (v3, v4, S))) else (g_bd (f_X7_startTrial fu v0 S) fun _ Sr6 => g_ld g_KC 90 g_kX2 (Sr6.2 v0 1) fun a7 => g_bd (f_X2_exchange fu a7 v5 v6 Sr6) fun _ Sr8 => g_ld g_KC 90 g_kX2 (Sr8.2 v0 1) fun a9 => g_bd (f_X2_runOn fu a9 v1 Sr8) fun r10 Sr10 => if r10 ≤ v3 then (j_X7_swap_103_in47 fu v0 v1 v2 v3 v4 v5 v6 Sr10) else (j_X7_swap_103_in47 fu v0 v1 v2 r10 ((((10 : Int32) * v5) + v6)) v5 v6 Sr10))
def b_X7_swap_29 (fu : Nat) (v0 : Nat) (v1 : Int32) (v2 : Int32) (v3 : Int32) (v4 : Int32) (v5 : Int32) (S : g_St) : Option ((Int32 × Int32 × Int32 × g_St) ⊕ (Int32 × Int32 × g_St)) :=
  g_ld g_KC 90 g_kX2 (S.2 v0 0) fun a4 => if (S.1 a4 2) ≤ v5 then (some (.inr (v3, v4, S))) else (g_th (g_lp (fun t => b_X7_swap_47 fu v0 v1 v2 v5 t.1 t.2.1 t.2.2.1 t.2.2.2) fu (v3, v4, (v5 + (1 : Int32)), S)) fun e => match e with | (w3_1, w4_1, S1) => some (.inl (w3_1, w4_1, (v5 + 1), S1)))
def j_X7_swap_126 (fu : Nat) (v4 : Int32) (S : g_St) : Option (Int32 × g_St) :=
  some (v4, S)
def f_X7_swap (fu : Nat) (o : Nat) (p0 : Int32) (p1 : Int32) (S : g_St) : Option (Int32 × g_St) :=
  g_bd (f_X7_isRun fu p0 S) fun r1 Sr1 => if r1 = 0 then (some ((-1 : Int32), Sr1)) else (g_bd (f_X7_isChoice fu p1 Sr1) fun r2 Sr2 => if r2 = 0 then (some ((-1 : Int32), Sr2)) else (g_bd (f_X7_letAsItIs fu o p0 Sr2) fun r3 Sr3 => g_th (g_lp (fun t => b_X7_swap_29 fu o p0 p1 t.1 t.2.1 t.2.2.1 t.2.2.2) fu (r3, (-4 : Int32), (0 : Int32), Sr3)) fun e => match e with | (w3_2, w4_2, S2) => if w4_2 = (-4 : Int32) then (j_X7_swap_126 fu w4_2 S2) else (if p1 = 0 then (j_X7_swap_126 fu w4_2 S2) else (some (w3_2, S2)))))
set_option maxRecDepth 100000 in
set_option maxHeartbeats 400000 in
theorem vj_X7_swap_103_in47 {x : g_CX} {z : Int32 × g_St} {fu : Nat} (X : g_X 90 x cX7_swap RX7 8 wsX7_swap rm_X7_swap (some .int)) (v0 : Nat) (v1 : Int32) (v2 : Int32) (v3 : Int32) (v4 : Int32) (v5 : Int32) (v6 : Int32) (hk_v0 : v0 < 90 ∧ g_KC v0 = g_kX7) (S : g_St) {r : (Int32 × Int32 × Int32 × g_St) ⊕ (Int32 × Int32 × g_St)} (h : j_X7_swap_103_in47 fu v0 v1 v2 v3 v4 v5 v6 S = some r) (hc : Sum.elim (fun t : Int32 × Int32 × Int32 × g_St => g_V g_KC 90 x 8 (g_qi g_KC 90 x z) t.2.2.2 47 [(0, .ref (g_ad x v0)), (1, .int (v1)), (2, .int (v2)), (3, .int (t.1)), (4, .int (t.2.1)), (5, .int (v5)), (6, .int (t.2.2.1))] []) (fun e : Int32 × Int32 × g_St => g_V g_KC 90 x 8 (g_qi g_KC 90 x z) e.2.2 109 [(0, .ref (g_ad x v0)), (1, .int (v1)), (2, .int (v2)), (3, .int (e.1)), (4, .int (e.2.1)), (5, .int (v5))] []) r) : g_V g_KC 90 x 8 (g_qi g_KC 90 x z) S 103 [(0, .ref (g_ad x v0)), (1, .int (v1)), (2, .int (v2)), (3, .int (v3)), (4, .int (v4)), (5, .int (v5)), (6, .int (v6))] [] := by
  unfold j_X7_swap_103_in47 at h
  refine g_iinc X [(6, _), (0, _), (1, _), (2, _), (3, _), (4, _), (5, _)] dX7_swap_103 6 rfl rfl (by decide) rfl ?_
  refine g_goto X 47 dX7_swap_106 (by decide) ?_
  cases h
  exact g_sub [1, 2, 3, 4, 5, 6, 0] _ rfl hc
set_option maxRecDepth 100000 in
set_option maxHeartbeats 400000 in
theorem vb_X7_swap_47 {x : g_CX} {z : Int32 × g_St} {fu : Nat} (X : g_X 90 x cX7_swap RX7 8 wsX7_swap rm_X7_swap (some .int)) (v0 : Nat) (v1 : Int32) (v2 : Int32) (v5 : Int32) (v3 : Int32) (v4 : Int32) (v6 : Int32) (hk_v0 : v0 < 90 ∧ g_KC v0 = g_kX7) (S : g_St) {r : (Int32 × Int32 × Int32 × g_St) ⊕ (Int32 × Int32 × g_St)} (h : b_X7_swap_47 fu v0 v1 v2 v5 v3 v4 v6 S = some r) (hc : Sum.elim (fun t : Int32 × Int32 × Int32 × g_St => g_V g_KC 90 x 8 (g_qi g_KC 90 x z) t.2.2.2 47 [(0, .ref (g_ad x v0)), (1, .int (v1)), (2, .int (v2)), (3, .int (t.1)), (4, .int (t.2.1)), (5, .int (v5)), (6, .int (t.2.2.1))] []) (fun e : Int32 × Int32 × g_St => g_V g_KC 90 x 8 (g_qi g_KC 90 x z) e.2.2 109 [(0, .ref (g_ad x v0)), (1, .int (v1)), (2, .int (v2)), (3, .int (e.1)), (4, .int (e.2.1)), (5, .int (v5))] []) r) : g_V g_KC 90 x 8 (g_qi g_KC 90 x z) S 47 [(0, .ref (g_ad x v0)), (1, .int (v1)), (2, .int (v2)), (3, .int (v3)), (4, .int (v4)), (5, .int (v5)), (6, .int (v6))] [] := by
  unfold b_X7_swap_47 at h
  refine g_iload X dX7_swap_47 6 rfl ?_
  refine g_aload_n X dX7_swap_49 0 rfl ?_
  refine g_getr X g_cX7 w_X7_swap_inX7 0 (by decide) w_X7_swap_10 hk_v0 rfl dX7_swap_50 h (fun a5 hk_a5 h => ?_)
  refine g_geti X g_cX2 w_X7_swap_inX2 2 (by decide) w_X7_swap_91 hk_a5 rfl dX7_swap_53 ?_
  refine g_icmp_ge X 109 dX7_swap_56 (by decide) h (fun c_56 h => ?_) (fun c_56 h => ?_)
  · skip
    cases h
    exact g_sub [0, 1, 2, 3, 4, 5] _ rfl hc
  · skip
    refine g_aload_n X dX7_swap_59 0 rfl ?_
    refine g_callVv X g_cX7 hk_v0 [] rfl (cwV 0 X.2.2.2.2.1 gX7_swap_X7_startTrial rfl rfl rfl hd_X7_startTrial ⟨Nat.le_of_ble_eq_true rfl, Nat.le_of_ble_eq_true rfl⟩) (Nat.le_of_ble_eq_true rfl) dX7_swap_60 h (fun q hq => ct_X7_startTrial X.2.2.2.2.2.2.1 v0 hk_v0 _ hq) (fun _ Sr6 h => ?_)
    refine g_aload_n X dX7_swap_63 0 rfl ?_
    refine g_getr X g_cX7 w_X7_swap_inX7 1 (by decide) w_X7_swap_16 hk_v0 rfl dX7_swap_64 h (fun a7 hk_a7 h => ?_)
    refine g_iload X dX7_swap_67 5 rfl ?_
    refine g_iload X dX7_swap_69 6 rfl ?_
    refine g_callVv X g_cX2 hk_a7 [.int (v5), .int (v6)] rfl (cwV 2 X.2.2.2.2.1 gX7_swap_X2_exchange rfl rfl rfl hd_X2_exchange ⟨Nat.le_of_ble_eq_true rfl, Nat.le_of_ble_eq_true rfl⟩) (Nat.le_of_ble_eq_true rfl) dX7_swap_71 h (fun q hq => ct_X2_exchange X.2.2.2.2.2.2.1 a7 v5 v6 hk_a7 _ hq) (fun _ Sr8 h => ?_)
    refine g_aload_n X dX7_swap_74 0 rfl ?_
    refine g_getr X g_cX7 w_X7_swap_inX7 1 (by decide) w_X7_swap_16 hk_v0 rfl dX7_swap_75 h (fun a9 hk_a9 h => ?_)
    refine g_iload_n X dX7_swap_78 1 rfl ?_
    refine g_callVi X g_cX2 hk_a9 [.int (v1)] rfl (cwV 1 X.2.2.2.2.1 gX7_swap_X2_runOn rfl rfl rfl hd_X2_runOn ⟨Nat.le_of_ble_eq_true rfl, Nat.le_of_ble_eq_true rfl⟩) (Nat.le_of_ble_eq_true rfl) dX7_swap_79 h (fun q hq => ct_X2_runOn X.2.2.2.2.2.2.1 a9 v1 hk_a9 _ hq) (fun r10 Sr10 h => ?_)
    refine g_istore X [(7, _), (0, _), (1, _), (2, _), (3, _), (4, _), (5, _), (6, _)] dX7_swap_82 (by decide) rfl ?_
    refine g_iload X dX7_swap_84 0 rfl ?_
    refine g_iload_n X dX7_swap_86 4 rfl ?_
    refine g_icmp_le X 103 dX7_swap_87 (by decide) h (fun c_87 h => ?_) (fun c_87 h => ?_)
    · skip
      refine g_sub [1, 2, 3, 4, 5, 6, 7] _ rfl ?_
      exact vj_X7_swap_103_in47 X v0 v1 v2 v3 v4 v5 v6 hk_v0 _ h hc
    · skip
      refine g_iload X dX7_swap_90 0 rfl ?_
      refine g_istore_n X [(3, _), (7, _), (0, _), (1, _), (2, _), (4, _), (5, _), (6, _)] dX7_swap_92 (by decide) rfl ?_
      refine g_bipush X (v := (10)) dX7_swap_93 (by decide) ?_
      refine g_iload X dX7_swap_95 6 rfl ?_
      refine g_imul X dX7_swap_97 ?_
      refine g_iload X dX7_swap_98 7 rfl ?_
      refine g_iadd X dX7_swap_100 ?_
      refine g_istore X [(4, _), (3, _), (7, _), (0, _), (1, _), (2, _), (5, _), (6, _)] dX7_swap_101 (by decide) rfl ?_
      refine g_sub [3, 4, 5, 1, 0, 6, 7] _ rfl ?_
      exact vj_X7_swap_103_in47 X v0 v1 v2 r10 ((((10 : Int32) * v5) + v6)) v5 v6 hk_v0 _ h hc
set_option maxRecDepth 100000 in
set_option maxHeartbeats 400000 in
theorem vb_X7_swap_29 {x : g_CX} {z : Int32 × g_St} {fu : Nat} (X : g_X 90 x cX7_swap RX7 8 wsX7_swap rm_X7_swap (some .int)) (v0 : Nat) (v1 : Int32) (v2 : Int32) (v3 : Int32) (v4 : Int32) (v5 : Int32) (hk_v0 : v0 < 90 ∧ g_KC v0 = g_kX7) (S : g_St) {r : (Int32 × Int32 × Int32 × g_St) ⊕ (Int32 × Int32 × g_St)} (h : b_X7_swap_29 fu v0 v1 v2 v3 v4 v5 S = some r) (hc : Sum.elim (fun t : Int32 × Int32 × Int32 × g_St => g_V g_KC 90 x 8 (g_qi g_KC 90 x z) t.2.2.2 29 [(0, .ref (g_ad x v0)), (1, .int (v1)), (2, .int (v2)), (3, .int (t.1)), (4, .int (t.2.1)), (5, .int (t.2.2.1))] []) (fun e : Int32 × Int32 × g_St => g_V g_KC 90 x 8 (g_qi g_KC 90 x z) e.2.2 115 [(2, .int (v2)), (3, .int (e.1)), (4, .int (e.2.1))] []) r) : g_V g_KC 90 x 8 (g_qi g_KC 90 x z) S 29 [(0, .ref (g_ad x v0)), (1, .int (v1)), (2, .int (v2)), (3, .int (v3)), (4, .int (v4)), (5, .int (v5))] [] := by
  unfold b_X7_swap_29 at h
  refine g_iload X dX7_swap_29 5 rfl ?_
  refine g_aload_n X dX7_swap_31 0 rfl ?_
  refine g_getr X g_cX7 w_X7_swap_inX7 0 (by decide) w_X7_swap_10 hk_v0 rfl dX7_swap_32 h (fun a4 hk_a4 h => ?_)
  refine g_geti X g_cX2 w_X7_swap_inX2 2 (by decide) w_X7_swap_91 hk_a4 rfl dX7_swap_35 ?_
  refine g_icmp_ge X 115 dX7_swap_38 (by decide) h (fun c_38 h => ?_) (fun c_38 h => ?_)
  · skip
    cases h
    exact g_sub [2, 3, 4] _ rfl hc
  · skip
    refine g_iload X dX7_swap_41 5 rfl ?_
    refine g_iconst X (v := 1) dX7_swap_43 (by decide) ?_
    refine g_iadd X dX7_swap_44 ?_
    refine g_istore X [(6, _), (0, _), (1, _), (2, _), (3, _), (4, _), (5, _)] dX7_swap_45 (by decide) rfl ?_
    obtain ⟨e, he, h⟩ := g_th_s h
    refine g_sub [1, 2, 3, 4, 5, 6, 0] _ rfl ?_
    refine g_lp_w (body := (fun t => b_X7_swap_47 fu v0 v1 v2 v5 t.1 t.2.1 t.2.2.1 t.2.2.2)) (P := fun t : Int32 × Int32 × Int32 × g_St => g_V g_KC 90 x 8 (g_qi g_KC 90 x z) t.2.2.2 47 [(0, .ref (g_ad x v0)), (1, .int (v1)), (2, .int (v2)), (3, .int (t.1)), (4, .int (t.2.1)), (5, .int (v5)), (6, .int (t.2.2.1))] []) (E := (fun e : Int32 × Int32 × g_St => g_V g_KC 90 x 8 (g_qi g_KC 90 x z) e.2.2 109 [(0, .ref (g_ad x v0)), (1, .int (v1)), (2, .int (v2)), (3, .int (e.1)), (4, .int (e.2.1)), (5, .int (v5))] [])) (fun t r hb hc => vb_X7_swap_47 X v0 v1 v2 v5 t.1 t.2.1 t.2.2.1 hk_v0 t.2.2.2 hb hc) fu (v3, v4, (v5 + (1 : Int32)), S) e he ?_
    obtain ⟨w3_1, w4_1, S1⟩ := e
    show g_V g_KC 90 x 8 (g_qi g_KC 90 x z) S1 109 [(0, .ref (g_ad x v0)), (1, .int (v1)), (2, .int (v2)), (3, .int (w3_1)), (4, .int (w4_1)), (5, .int (v5))] []
    refine g_iinc X [(5, _), (0, _), (1, _), (2, _), (3, _), (4, _)] dX7_swap_109 5 rfl rfl (by decide) rfl ?_
    refine g_goto X 29 dX7_swap_112 (by decide) ?_
    cases h
    exact g_sub [1, 2, 3, 4, 5, 0] _ rfl hc
set_option maxRecDepth 100000 in
set_option maxHeartbeats 400000 in
theorem vj_X7_swap_126 {x : g_CX} {z : Int32 × g_St} {fu : Nat} (X : g_X 90 x cX7_swap RX7 8 wsX7_swap rm_X7_swap (some .int)) (v4 : Int32)  (S : g_St) (h : j_X7_swap_126 fu v4 S = some z) : g_V g_KC 90 x 8 (g_qi g_KC 90 x z) S 126 [(4, .int (v4))] [] := by
  unfold j_X7_swap_126 at h
  refine g_iload X dX7_swap_126 0 rfl ?_
  refine g_goto X 132 dX7_swap_128 (by decide) ?_
  exact g_iret X h dX7_swap_132
set_option maxRecDepth 100000 in
set_option maxHeartbeats 400000 in
theorem ct_X7_swap {l : Launch} {D : va_G} {ad : Nat → Nat} {cy : Nat → ClassId} {zz : (Nat → Nat) × (Nat → Nat)} (hinj : ∀ i j, i < 90 → j < 90 → ad i = ad j → i = j) {fu : Nat} (o : Nat) (p0 : Int32) (p1 : Int32) (hk_o : o < 90 ∧ g_KC o = g_kX7) {S : g_St} (z : Int32 × g_St) (h : f_X7_swap fu o p0 p1 S = some z) : g_Mi l g_KC 90 D ad cy zz yX7_swap wsX7_swap rm_X7_swap [.ref (ad o), .int (p0), .int (p1)] S z := by
  refine g_ofi hinj (cc := cX7_swap) (maxL := 8) (ret := (some .int)) (lv := [(0, .ref (ad o)), (1, .int (p0)), (2, .int (p1))]) (by decide) rfl (Nat.le_of_ble_eq_true rfl) rfl ?_
  intro x X hl hD ha hy hz
  subst hl hD ha hy hz
  unfold f_X7_swap at h
  refine g_iload_n X dX7_swap_0 1 rfl ?_
  refine g_callSi X [.int (p0)] rfl (va_cwS 1 X.2.2.2.2.1 gX7_swap_X7_isRun rfl rfl rfl hd_X7_isRun ⟨Nat.le_of_ble_eq_true rfl, Nat.le_of_ble_eq_true rfl⟩) (Nat.le_of_ble_eq_true rfl) dX7_swap_1 h (fun q hq => ct_X7_isRun X.2.2.2.2.2.2.1 p0  _ hq) (fun r1 Sr1 h => ?_)
  refine g_if_eq X 14 dX7_swap_4 (by decide) h (fun c_4 h => ?_) (fun c_4 h => ?_)
  · skip
    refine g_iconst X (v := (-1)) dX7_swap_14 (by decide) ?_
    exact g_iret X h dX7_swap_15
  · skip
    refine g_iload_n X dX7_swap_7 2 rfl ?_
    refine g_callSi X [.int (p1)] rfl (va_cwS 1 X.2.2.2.2.1 gX7_swap_X7_isChoice rfl rfl rfl hd_X7_isChoice ⟨Nat.le_of_ble_eq_true rfl, Nat.le_of_ble_eq_true rfl⟩) (Nat.le_of_ble_eq_true rfl) dX7_swap_8 h (fun q hq => ct_X7_isChoice X.2.2.2.2.2.2.1 p1  _ hq) (fun r2 Sr2 h => ?_)
    refine g_if_ne X 16 dX7_swap_11 (by decide) h (fun c_11 h => ?_) (fun c_11 h => ?_)
    · skip
      refine g_aload_n X dX7_swap_16 0 rfl ?_
      refine g_iload_n X dX7_swap_17 1 rfl ?_
      refine g_callVi X g_cX7 hk_o [.int (p0)] rfl (cwV 1 X.2.2.2.2.1 gX7_swap_X7_letAsItIs rfl rfl rfl hd_X7_letAsItIs ⟨Nat.le_of_ble_eq_true rfl, Nat.le_of_ble_eq_true rfl⟩) (Nat.le_of_ble_eq_true rfl) dX7_swap_18 h (fun q hq => ct_X7_letAsItIs X.2.2.2.2.2.2.1 o p0 hk_o _ hq) (fun r3 Sr3 h => ?_)
      refine g_istore_n X [(3, _), (0, _), (1, _), (2, _)] dX7_swap_21 (by decide) rfl ?_
      refine g_bipush X (v := (-4)) dX7_swap_22 (by decide) ?_
      refine g_istore X [(4, _), (3, _), (0, _), (1, _), (2, _)] dX7_swap_24 (by decide) rfl ?_
      refine g_iconst X (v := 0) dX7_swap_26 (by decide) ?_
      refine g_istore X [(5, _), (4, _), (3, _), (0, _), (1, _), (2, _)] dX7_swap_27 (by decide) rfl ?_
      obtain ⟨e, he, h⟩ := g_th_s h
      refine g_sub [3, 4, 5, 2, 1, 0] _ rfl ?_
      refine g_lp_w (body := (fun t => b_X7_swap_29 fu o p0 p1 t.1 t.2.1 t.2.2.1 t.2.2.2)) (P := fun t : Int32 × Int32 × Int32 × g_St => g_V g_KC 90 x 8 (g_qi g_KC 90 x z) t.2.2.2 29 [(0, .ref (g_ad x o)), (1, .int (p0)), (2, .int (p1)), (3, .int (t.1)), (4, .int (t.2.1)), (5, .int (t.2.2.1))] []) (E := (fun e : Int32 × Int32 × g_St => g_V g_KC 90 x 8 (g_qi g_KC 90 x z) e.2.2 115 [(2, .int (p1)), (3, .int (e.1)), (4, .int (e.2.1))] [])) (fun t r hb hc => vb_X7_swap_29 X o p0 p1 t.1 t.2.1 t.2.2.1 hk_o t.2.2.2 hb hc) fu (r3, (-4 : Int32), (0 : Int32), Sr3) e he ?_
      obtain ⟨w3_2, w4_2, S2⟩ := e
      show g_V g_KC 90 x 8 (g_qi g_KC 90 x z) S2 115 [(2, .int (p1)), (3, .int (w3_2)), (4, .int (w4_2))] []
      refine g_iload X dX7_swap_115 2 rfl ?_
      refine g_bipush X (v := (-4)) dX7_swap_117 (by decide) ?_
      refine g_icmp_eq X 126 dX7_swap_119 (by decide) h (fun c_119 h => ?_) (fun c_119 h => ?_)
      · skip
        refine g_sub [2] _ rfl ?_
        exact vj_X7_swap_126 X w4_2  _ h
      · skip
        refine g_iload_n X dX7_swap_122 0 rfl ?_
        refine g_if_ne X 131 dX7_swap_123 (by decide) h (fun c_123 h => ?_) (fun c_123 h => ?_)
        · skip
          refine g_iload_n X dX7_swap_131 1 rfl ?_
          exact g_iret X h dX7_swap_132
        · skip
          refine g_sub [2] _ rfl ?_
          exact vj_X7_swap_126 X w4_2  _ h
    · skip
      refine g_iconst X (v := (-1)) dX7_swap_14 (by decide) ?_
      exact g_iret X h dX7_swap_15
abbrev rm_X7_open : Room := { frames := 7, cells := 0, slots := 0, locals := 155 }
theorem hd_X7_open : yX7_open.cls = RX7 ∧ yX7_open.cls ≠ "java/lang/invoke/MethodHandle" ∧ yX7_open.cls ≠ "java/lang/invoke/VarHandle" ∧ (parseMethodDescriptor yX7_open.desc).map (fun d => d.parameters.length) = some 2 := by decide +kernel
theorem w_X7_open_10 : Cond.fieldLink RX7 10 "TokenDoors" "now" "LTokenDoors$Hall;" ∈ wsX7_open := by decide +kernel
theorem w_X7_open_inX7 : ∀ w ∈ wsX70, w ∈ wsX7_open := by decide +kernel
theorem w_X7_open_91 : Cond.fieldLink RX7 91 "TokenDoors$Hall" "doorCount" "I" ∈ wsX7_open := by decide +kernel
theorem w_X7_open_inX2 : ∀ w ∈ wsX20, w ∈ wsX7_open := by decide +kernel
theorem w_X7_open_16 : Cond.fieldLink RX7 16 "TokenDoors" "trial" "LTokenDoors$Hall;" ∈ wsX7_open := by decide +kernel
theorem w_X7_open_115 : Cond.fieldLink RX7 115 "TokenDoors$Hall" "doors" "[LTokenDoors$Door;" ∈ wsX7_open := by decide +kernel
theorem w_X7_open_208 : Cond.fieldLink RX7 208 "TokenDoors$Door" "standsOpen" "Z" ∈ wsX7_open := by decide +kernel
theorem w_X7_open_inX1 : ∀ w ∈ wsX10, w ∈ wsX7_open := by decide +kernel
def j_X7_open_82_in29 (fu : Nat) (v0 : Nat) (v1 : Int32) (v2 : Int32) (v3 : Int32) (v4 : Int32) (v5 : Int32) (S : g_St) : Option ((Int32 × Int32 × Int32 × g_St) ⊕ (Int32 × Int32 × g_St)) :=
  some (.inl (v3, v4, (v5 + 1), S))
def b_X7_open_29 (fu : Nat) (v0 : Nat) (v1 : Int32) (v2 : Int32) (v3 : Int32) (v4 : Int32) (v5 : Int32) (S : g_St) : Option ((Int32 × Int32 × Int32 × g_St) ⊕ (Int32 × Int32 × g_St)) :=
  g_ld g_KC 90 g_kX2 (S.2 v0 0) fun a4 => if (S.1 a4 2) ≤ v5 then (some (.inr (v3, v4, S))) else (g_bd (f_X7_startTrial fu v0 S) fun _ Sr5 => g_ld g_KC 90 g_kX2 (Sr5.2 v0 1) fun a6 => g_ld g_KC 90 (.inr (3, 4, true)) (Sr5.2 a6 0) fun a7 => g_ix v5 4 fun i8 => g_ld g_KC 90 g_kX1 (Sr5.2 a7 i8) fun a8 => g_ld g_KC 90 g_kX2 (Sr5.2 v0 1) fun a9 => g_bd (f_X2_runOn fu a9 v1 (g_u Sr5.1 a8 5 (1 : Int32), Sr5.2)) fun r10 Sr10 => if r10 ≤ v3 then (j_X7_open_82_in29 fu v0 v1 v2 v3 v4 v5 Sr10) else (j_X7_open_82_in29 fu v0 v1 v2 r10 v5 v5 Sr10))
def j_X7_open_99 (fu : Nat) (v4 : Int32) (S : g_St) : Option (Int32 × g_St) :=
  some (v4, S)
def f_X7_open (fu : Nat) (o : Nat) (p0 : Int32) (p1 : Int32) (S : g_St) : Option (Int32 × g_St) :=
  g_bd (f_X7_isRun fu p0 S) fun r1 Sr1 => if r1 = 0 then (some ((-1 : Int32), Sr1)) else (g_bd (f_X7_isChoice fu p1 Sr1) fun r2 Sr2 => if r2 = 0 then (some ((-1 : Int32), Sr2)) else (g_bd (f_X7_letAsItIs fu o p0 Sr2) fun r3 Sr3 => g_th (g_lp (fun t => b_X7_open_29 fu o p0 p1 t.1 t.2.1 t.2.2.1 t.2.2.2) fu (r3, (-4 : Int32), (0 : Int32), Sr3)) fun e => match e with | (w3_1, w4_1, S1) => if w4_1 = (-4 : Int32) then (j_X7_open_99 fu w4_1 S1) else (if p1 = 0 then (j_X7_open_99 fu w4_1 S1) else (some (w3_1, S1)))))
set_option maxRecDepth 100000 in
set_option maxHeartbeats 400000 in
theorem vj_X7_open_82_in29 {x : g_CX} {z : Int32 × g_St} {fu : Nat} (X : g_X 90 x cX7_open RX7 7 wsX7_open rm_X7_open (some .int)) (v0 : Nat) (v1 : Int32) (v2 : Int32) (v3 : Int32) (v4 : Int32) (v5 : Int32) (hk_v0 : v0 < 90 ∧ g_KC v0 = g_kX7) (S : g_St) {r : (Int32 × Int32 × Int32 × g_St) ⊕ (Int32 × Int32 × g_St)} (h : j_X7_open_82_in29 fu v0 v1 v2 v3 v4 v5 S = some r) (hc : Sum.elim (fun t : Int32 × Int32 × Int32 × g_St => g_V g_KC 90 x 7 (g_qi g_KC 90 x z) t.2.2.2 29 [(0, .ref (g_ad x v0)), (1, .int (v1)), (2, .int (v2)), (3, .int (t.1)), (4, .int (t.2.1)), (5, .int (t.2.2.1))] []) (fun e : Int32 × Int32 × g_St => g_V g_KC 90 x 7 (g_qi g_KC 90 x z) e.2.2 88 [(2, .int (v2)), (3, .int (e.1)), (4, .int (e.2.1))] []) r) : g_V g_KC 90 x 7 (g_qi g_KC 90 x z) S 82 [(0, .ref (g_ad x v0)), (1, .int (v1)), (2, .int (v2)), (3, .int (v3)), (4, .int (v4)), (5, .int (v5))] [] := by
  unfold j_X7_open_82_in29 at h
  refine g_iinc X [(5, _), (0, _), (1, _), (2, _), (3, _), (4, _)] dX7_open_82 5 rfl rfl (by decide) rfl ?_
  refine g_goto X 29 dX7_open_85 (by decide) ?_
  cases h
  exact g_sub [1, 2, 3, 4, 5, 0] _ rfl hc
set_option maxRecDepth 100000 in
set_option maxHeartbeats 400000 in
theorem vb_X7_open_29 {x : g_CX} {z : Int32 × g_St} {fu : Nat} (X : g_X 90 x cX7_open RX7 7 wsX7_open rm_X7_open (some .int)) (v0 : Nat) (v1 : Int32) (v2 : Int32) (v3 : Int32) (v4 : Int32) (v5 : Int32) (hk_v0 : v0 < 90 ∧ g_KC v0 = g_kX7) (S : g_St) {r : (Int32 × Int32 × Int32 × g_St) ⊕ (Int32 × Int32 × g_St)} (h : b_X7_open_29 fu v0 v1 v2 v3 v4 v5 S = some r) (hc : Sum.elim (fun t : Int32 × Int32 × Int32 × g_St => g_V g_KC 90 x 7 (g_qi g_KC 90 x z) t.2.2.2 29 [(0, .ref (g_ad x v0)), (1, .int (v1)), (2, .int (v2)), (3, .int (t.1)), (4, .int (t.2.1)), (5, .int (t.2.2.1))] []) (fun e : Int32 × Int32 × g_St => g_V g_KC 90 x 7 (g_qi g_KC 90 x z) e.2.2 88 [(2, .int (v2)), (3, .int (e.1)), (4, .int (e.2.1))] []) r) : g_V g_KC 90 x 7 (g_qi g_KC 90 x z) S 29 [(0, .ref (g_ad x v0)), (1, .int (v1)), (2, .int (v2)), (3, .int (v3)), (4, .int (v4)), (5, .int (v5))] [] := by
  unfold b_X7_open_29 at h
  refine g_iload X dX7_open_29 5 rfl ?_
  refine g_aload_n X dX7_open_31 0 rfl ?_
  refine g_getr X g_cX7 w_X7_open_inX7 0 (by decide) w_X7_open_10 hk_v0 rfl dX7_open_32 h (fun a4 hk_a4 h => ?_)
  refine g_geti X g_cX2 w_X7_open_inX2 2 (by decide) w_X7_open_91 hk_a4 rfl dX7_open_35 ?_
  refine g_icmp_ge X 88 dX7_open_38 (by decide) h (fun c_38 h => ?_) (fun c_38 h => ?_)
  · skip
    cases h
    exact g_sub [2, 3, 4] _ rfl hc
  · skip
    refine g_aload_n X dX7_open_41 0 rfl ?_
    refine g_callVv X g_cX7 hk_v0 [] rfl (cwV 0 X.2.2.2.2.1 gX7_open_X7_startTrial rfl rfl rfl hd_X7_startTrial ⟨Nat.le_of_ble_eq_true rfl, Nat.le_of_ble_eq_true rfl⟩) (Nat.le_of_ble_eq_true rfl) dX7_open_42 h (fun q hq => ct_X7_startTrial X.2.2.2.2.2.2.1 v0 hk_v0 _ hq) (fun _ Sr5 h => ?_)
    refine g_aload_n X dX7_open_45 0 rfl ?_
    refine g_getr X g_cX7 w_X7_open_inX7 1 (by decide) w_X7_open_16 hk_v0 rfl dX7_open_46 h (fun a6 hk_a6 h => ?_)
    refine g_getr X g_cX2 w_X7_open_inX2 0 (by decide) w_X7_open_115 hk_a6 rfl dX7_open_49 h (fun a7 hk_a7 h => ?_)
    refine g_iload X dX7_open_52 5 rfl ?_
    refine g_aald X 3 RX1 rfl hk_a7 dX7_open_54 h (fun a8 hk_a8 h => ?_)
    refine g_iconst X (v := 1) dX7_open_55 (by decide) ?_
    refine g_puti X g_cX1 w_X7_open_inX1 5 (by decide) w_X7_open_208 hk_a8 rfl rfl (t := .boolean) (by decide +kernel) rfl rfl dX7_open_56 ?_
    refine g_aload_n X dX7_open_59 0 rfl ?_
    refine g_getr X g_cX7 w_X7_open_inX7 1 (by decide) w_X7_open_16 hk_v0 rfl dX7_open_60 h (fun a9 hk_a9 h => ?_)
    refine g_iload_n X dX7_open_63 1 rfl ?_
    refine g_callVi X g_cX2 hk_a9 [.int (v1)] rfl (cwV 1 X.2.2.2.2.1 gX7_open_X2_runOn rfl rfl rfl hd_X2_runOn ⟨Nat.le_of_ble_eq_true rfl, Nat.le_of_ble_eq_true rfl⟩) (Nat.le_of_ble_eq_true rfl) dX7_open_64 h (fun q hq => ct_X2_runOn X.2.2.2.2.2.2.1 a9 v1 hk_a9 _ hq) (fun r10 Sr10 h => ?_)
    refine g_istore X [(6, _), (0, _), (1, _), (2, _), (3, _), (4, _), (5, _)] dX7_open_67 (by decide) rfl ?_
    refine g_iload X dX7_open_69 0 rfl ?_
    refine g_iload_n X dX7_open_71 4 rfl ?_
    refine g_icmp_le X 82 dX7_open_72 (by decide) h (fun c_72 h => ?_) (fun c_72 h => ?_)
    · skip
      refine g_sub [1, 2, 3, 4, 5, 6] _ rfl ?_
      exact vj_X7_open_82_in29 X v0 v1 v2 v3 v4 v5 hk_v0 _ h hc
    · skip
      refine g_iload X dX7_open_75 0 rfl ?_
      refine g_istore_n X [(3, _), (6, _), (0, _), (1, _), (2, _), (4, _), (5, _)] dX7_open_77 (by decide) rfl ?_
      refine g_iload X dX7_open_78 6 rfl ?_
      refine g_istore X [(4, _), (3, _), (6, _), (0, _), (1, _), (2, _), (5, _)] dX7_open_80 (by decide) rfl ?_
      refine g_sub [3, 4, 5, 1, 0, 6] _ rfl ?_
      exact vj_X7_open_82_in29 X v0 v1 v2 r10 v5 v5 hk_v0 _ h hc
set_option maxRecDepth 100000 in
set_option maxHeartbeats 400000 in
theorem vj_X7_open_99 {x : g_CX} {z : Int32 × g_St} {fu : Nat} (X : g_X 90 x cX7_open RX7 7 wsX7_open rm_X7_open (some .int)) (v4 : Int32)  (S : g_St) (h : j_X7_open_99 fu v4 S = some z) : g_V g_KC 90 x 7 (g_qi g_KC 90 x z) S 99 [(4, .int (v4))] [] := by
  unfold j_X7_open_99 at h
  refine g_iload X dX7_open_99 0 rfl ?_
  refine g_goto X 105 dX7_open_101 (by decide) ?_
  exact g_iret X h dX7_open_105
set_option maxRecDepth 100000 in
set_option maxHeartbeats 400000 in
theorem ct_X7_open {l : Launch} {D : va_G} {ad : Nat → Nat} {cy : Nat → ClassId} {zz : (Nat → Nat) × (Nat → Nat)} (hinj : ∀ i j, i < 90 → j < 90 → ad i = ad j → i = j) {fu : Nat} (o : Nat) (p0 : Int32) (p1 : Int32) (hk_o : o < 90 ∧ g_KC o = g_kX7) {S : g_St} (z : Int32 × g_St) (h : f_X7_open fu o p0 p1 S = some z) : g_Mi l g_KC 90 D ad cy zz yX7_open wsX7_open rm_X7_open [.ref (ad o), .int (p0), .int (p1)] S z := by
  refine g_ofi hinj (cc := cX7_open) (maxL := 7) (ret := (some .int)) (lv := [(0, .ref (ad o)), (1, .int (p0)), (2, .int (p1))]) (by decide) rfl (Nat.le_of_ble_eq_true rfl) rfl ?_
  intro x X hl hD ha hy hz
  subst hl hD ha hy hz
  unfold f_X7_open at h
  refine g_iload_n X dX7_open_0 1 rfl ?_
  refine g_callSi X [.int (p0)] rfl (va_cwS 1 X.2.2.2.2.1 gX7_open_X7_isRun rfl rfl rfl hd_X7_isRun ⟨Nat.le_of_ble_eq_true rfl, Nat.le_of_ble_eq_true rfl⟩) (Nat.le_of_ble_eq_true rfl) dX7_open_1 h (fun q hq => ct_X7_isRun X.2.2.2.2.2.2.1 p0  _ hq) (fun r1 Sr1 h => ?_)
  refine g_if_eq X 14 dX7_open_4 (by decide) h (fun c_4 h => ?_) (fun c_4 h => ?_)
  · skip
    refine g_iconst X (v := (-1)) dX7_open_14 (by decide) ?_
    exact g_iret X h dX7_open_15
  · skip
    refine g_iload_n X dX7_open_7 2 rfl ?_
    refine g_callSi X [.int (p1)] rfl (va_cwS 1 X.2.2.2.2.1 gX7_open_X7_isChoice rfl rfl rfl hd_X7_isChoice ⟨Nat.le_of_ble_eq_true rfl, Nat.le_of_ble_eq_true rfl⟩) (Nat.le_of_ble_eq_true rfl) dX7_open_8 h (fun q hq => ct_X7_isChoice X.2.2.2.2.2.2.1 p1  _ hq) (fun r2 Sr2 h => ?_)
    refine g_if_ne X 16 dX7_open_11 (by decide) h (fun c_11 h => ?_) (fun c_11 h => ?_)
    · skip
      refine g_aload_n X dX7_open_16 0 rfl ?_
      refine g_iload_n X dX7_open_17 1 rfl ?_
      refine g_callVi X g_cX7 hk_o [.int (p0)] rfl (cwV 1 X.2.2.2.2.1 gX7_open_X7_letAsItIs rfl rfl rfl hd_X7_letAsItIs ⟨Nat.le_of_ble_eq_true rfl, Nat.le_of_ble_eq_true rfl⟩) (Nat.le_of_ble_eq_true rfl) dX7_open_18 h (fun q hq => ct_X7_letAsItIs X.2.2.2.2.2.2.1 o p0 hk_o _ hq) (fun r3 Sr3 h => ?_)
      refine g_istore_n X [(3, _), (0, _), (1, _), (2, _)] dX7_open_21 (by decide) rfl ?_
      refine g_bipush X (v := (-4)) dX7_open_22 (by decide) ?_
      refine g_istore X [(4, _), (3, _), (0, _), (1, _), (2, _)] dX7_open_24 (by decide) rfl ?_
      refine g_iconst X (v := 0) dX7_open_26 (by decide) ?_
      refine g_istore X [(5, _), (4, _), (3, _), (0, _), (1, _), (2, _)] dX7_open_27 (by decide) rfl ?_
      obtain ⟨e, he, h⟩ := g_th_s h
      refine g_sub [3, 4, 5, 2, 1, 0] _ rfl ?_
      refine g_lp_w (body := (fun t => b_X7_open_29 fu o p0 p1 t.1 t.2.1 t.2.2.1 t.2.2.2)) (P := fun t : Int32 × Int32 × Int32 × g_St => g_V g_KC 90 x 7 (g_qi g_KC 90 x z) t.2.2.2 29 [(0, .ref (g_ad x o)), (1, .int (p0)), (2, .int (p1)), (3, .int (t.1)), (4, .int (t.2.1)), (5, .int (t.2.2.1))] []) (E := (fun e : Int32 × Int32 × g_St => g_V g_KC 90 x 7 (g_qi g_KC 90 x z) e.2.2 88 [(2, .int (p1)), (3, .int (e.1)), (4, .int (e.2.1))] [])) (fun t r hb hc => vb_X7_open_29 X o p0 p1 t.1 t.2.1 t.2.2.1 hk_o t.2.2.2 hb hc) fu (r3, (-4 : Int32), (0 : Int32), Sr3) e he ?_
      obtain ⟨w3_1, w4_1, S1⟩ := e
      show g_V g_KC 90 x 7 (g_qi g_KC 90 x z) S1 88 [(2, .int (p1)), (3, .int (w3_1)), (4, .int (w4_1))] []
      refine g_iload X dX7_open_88 2 rfl ?_
      refine g_bipush X (v := (-4)) dX7_open_90 (by decide) ?_
      refine g_icmp_eq X 99 dX7_open_92 (by decide) h (fun c_92 h => ?_) (fun c_92 h => ?_)
      · skip
        refine g_sub [2] _ rfl ?_
        exact vj_X7_open_99 X w4_1  _ h
      · skip
        refine g_iload_n X dX7_open_95 0 rfl ?_
        refine g_if_ne X 104 dX7_open_96 (by decide) h (fun c_96 h => ?_) (fun c_96 h => ?_)
        · skip
          refine g_iload_n X dX7_open_104 1 rfl ?_
          exact g_iret X h dX7_open_105
        · skip
          refine g_sub [2] _ rfl ?_
          exact vj_X7_open_99 X w4_1  _ h
    · skip
      refine g_iconst X (v := (-1)) dX7_open_14 (by decide) ?_
      exact g_iret X h dX7_open_15
