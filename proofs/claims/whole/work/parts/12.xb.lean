abbrev rm_X3_add : Room := { frames := 0, cells := 0, slots := 0, locals := 0 }
theorem hd_X3_add : yX3_add.cls = RX3 ∧ yX3_add.cls ≠ "java/lang/invoke/MethodHandle" ∧ yX3_add.cls ≠ "java/lang/invoke/VarHandle" ∧ (parseMethodDescriptor yX3_add.desc).map (fun d => d.parameters.length) = some 2 := by decide +kernel
theorem w_X3_add_18 : Cond.fieldLink RX3 18 "TokenDoors$Seen" "size" "I" ∈ wsX3_add := by decide +kernel
theorem w_X3_add_inX3 : ∀ w ∈ wsX30, w ∈ wsX3_add := by decide +kernel
theorem w_X3_add_9 : Cond.fieldLink RX3 9 "TokenDoors$Seen" "inTick" "[I" ∈ wsX3_add := by decide +kernel
theorem w_X3_add_15 : Cond.fieldLink RX3 15 "TokenDoors$Seen" "let" "[I" ∈ wsX3_add := by decide +kernel
def f_X3_add (fu : Nat) (o : Nat) (p0 : Int32) (p1 : Int32) (S : g_St) : Option (Int32 × g_St) :=
  if (S.1 o 2) < (6 : Int32) then (g_ld g_KC 90 (.inr (0, 6, false)) (S.2 o 0) fun a1 => g_ix (S.1 o 2) 6 fun i2 => g_ld g_KC 90 (.inr (0, 6, false)) (S.2 o 1) fun a3 => g_ix ((g_u S.1 a1 i2 p0) o 2) 6 fun i4 => g_zb (1 : Int32) (some ((1 : Int32), (g_u (g_u (g_u S.1 a1 i2 p0) a3 i4 p1) o 2 (((g_u (g_u S.1 a1 i2 p0) a3 i4 p1) o 2) + (1 : Int32)), S.2)))) else (g_zb (0 : Int32) (some ((0 : Int32), S)))
set_option maxRecDepth 100000 in
set_option maxHeartbeats 400000 in
theorem ct_X3_add {l : Launch} {D : va_G} {ad : Nat → Nat} {cy : Nat → ClassId} {zz : (Nat → Nat) × (Nat → Nat)} (hinj : ∀ i j, i < 90 → j < 90 → ad i = ad j → i = j) {fu : Nat} (o : Nat) (p0 : Int32) (p1 : Int32) (hk_o : o < 90 ∧ g_KC o = g_kX3) {S : g_St} (z : Int32 × g_St) (h : f_X3_add fu o p0 p1 S = some z) : g_Mi l g_KC 90 D ad cy zz yX3_add wsX3_add rm_X3_add [.ref (ad o), .int (p0), .int (p1)] S z := by
  refine g_ofi hinj (cc := cX3_add) (maxL := 3) (ret := (some .boolean)) (lv := [(0, .ref (ad o)), (1, .int (p0)), (2, .int (p1))]) (by decide) rfl (Nat.le_of_ble_eq_true rfl) rfl ?_
  intro x X hl hD ha hy hz
  subst hl hD ha hy hz
  unfold f_X3_add at h
  refine g_aload_n X dX3_add_0 0 rfl ?_
  refine g_geti X g_cX3 w_X3_add_inX3 2 (by decide) w_X3_add_18 hk_o rfl dX3_add_1 ?_
  refine g_bipush X (v := (6)) dX3_add_4 (by decide) ?_
  refine g_icmp_lt X 11 dX3_add_6 (by decide) h (fun c_6 h => ?_) (fun c_6 h => ?_)
  · skip
    refine g_aload_n X dX3_add_11 0 rfl ?_
    refine g_getr X g_cX3 w_X3_add_inX3 0 (by decide) w_X3_add_9 hk_o rfl dX3_add_12 h (fun a1 hk_a1 h => ?_)
    refine g_aload_n X dX3_add_15 0 rfl ?_
    refine g_geti X g_cX3 w_X3_add_inX3 2 (by decide) w_X3_add_18 hk_o rfl dX3_add_16 ?_
    refine g_iload_n X dX3_add_19 1 rfl ?_
    refine g_iast X hk_a1 dX3_add_20 h (fun i2 _ h => ?_)
    refine g_aload_n X dX3_add_21 0 rfl ?_
    refine g_getr X g_cX3 w_X3_add_inX3 1 (by decide) w_X3_add_15 hk_o rfl dX3_add_22 h (fun a3 hk_a3 h => ?_)
    refine g_aload_n X dX3_add_25 0 rfl ?_
    refine g_geti X g_cX3 w_X3_add_inX3 2 (by decide) w_X3_add_18 hk_o rfl dX3_add_26 ?_
    refine g_iload_n X dX3_add_29 2 rfl ?_
    refine g_iast X hk_a3 dX3_add_30 h (fun i4 _ h => ?_)
    refine g_aload_n X dX3_add_31 0 rfl ?_
    refine g_dup X dX3_add_32 rfl ?_
    refine g_geti X g_cX3 w_X3_add_inX3 2 (by decide) w_X3_add_18 hk_o rfl dX3_add_33 ?_
    refine g_iconst X (v := 1) dX3_add_36 (by decide) ?_
    refine g_iadd X dX3_add_37 ?_
    refine g_puti X g_cX3 w_X3_add_inX3 2 (by decide) w_X3_add_18 hk_o rfl rfl (t := .int) (by decide +kernel) rfl rfl dX3_add_38 ?_
    refine g_iconst X (v := 1) dX3_add_41 (by decide) ?_
    exact g_zret X h dX3_add_42
  · skip
    refine g_iconst X (v := 0) dX3_add_9 (by decide) ?_
    exact g_zret X h dX3_add_10
abbrev rm_X3_agreesWith : Room := { frames := 0, cells := 0, slots := 0, locals := 0 }
theorem hd_X3_agreesWith : yX3_agreesWith.cls = RX3 ∧ yX3_agreesWith.cls ≠ "java/lang/invoke/MethodHandle" ∧ yX3_agreesWith.cls ≠ "java/lang/invoke/VarHandle" ∧ (parseMethodDescriptor yX3_agreesWith.desc).map (fun d => d.parameters.length) = some 1 := by decide +kernel
theorem w_X3_agreesWith_18 : Cond.fieldLink RX3 18 "TokenDoors$Seen" "size" "I" ∈ wsX3_agreesWith := by decide +kernel
theorem w_X3_agreesWith_inX3 : ∀ w ∈ wsX30, w ∈ wsX3_agreesWith := by decide +kernel
theorem w_X3_agreesWith_9 : Cond.fieldLink RX3 9 "TokenDoors$Seen" "inTick" "[I" ∈ wsX3_agreesWith := by decide +kernel
theorem w_X3_agreesWith_15 : Cond.fieldLink RX3 15 "TokenDoors$Seen" "let" "[I" ∈ wsX3_agreesWith := by decide +kernel
def b_X3_agreesWith_2 (fu : Nat) (v0 : Nat) (v1 : Nat) (v2 : Int32) (S : g_St) : Option ((Int32 × g_St) ⊕ ((g_St) ⊕ (Int32 × g_St))) :=
  if (S.1 v0 2) ≤ v2 then (some (.inr (.inl S))) else (g_ld g_KC 90 (.inr (0, 6, false)) (S.2 v0 0) fun a1 => g_ix v2 6 fun i2 => if (41 : Int32) ≤ (S.1 a1 i2) then (g_zb (0 : Int32) (some (.inr (.inr ((0 : Int32), S))))) else (g_ld g_KC 90 (.inr (0, 6, false)) (S.2 v0 0) fun a3 => g_ix v2 6 fun i4 => g_ix (S.1 a3 i4) 41 fun i5 => g_ld g_KC 90 (.inr (0, 6, false)) (S.2 v0 1) fun a6 => g_ix v2 6 fun i7 => if (S.1 v1 i5) = (S.1 a6 i7) then (some (.inl ((v2 + 1), S))) else (g_zb (0 : Int32) (some (.inr (.inr ((0 : Int32), S)))))))
def f_X3_agreesWith (fu : Nat) (o : Nat) (p0 : Nat) (S : g_St) : Option (Int32 × g_St) :=
  g_th (g_lp (fun t => b_X3_agreesWith_2 fu o p0 t.1 t.2) fu ((0 : Int32), S)) fun e => match e with | .inl S1 => (g_zb (1 : Int32) (some ((1 : Int32), S1))) | .inr q => some q
set_option maxRecDepth 100000 in
set_option maxHeartbeats 400000 in
theorem vb_X3_agreesWith_2 {x : g_CX} {z : Int32 × g_St} {fu : Nat} (X : g_X 90 x cX3_agreesWith RX3 3 wsX3_agreesWith rm_X3_agreesWith (some .boolean)) (v0 : Nat) (v1 : Nat) (v2 : Int32) (hk_v0 : v0 < 90 ∧ g_KC v0 = g_kX3) (hk_v1 : v1 < 90 ∧ g_KC v1 = (.inr (0, 41, false))) (S : g_St) {r : (Int32 × g_St) ⊕ ((g_St) ⊕ (Int32 × g_St))} (h : b_X3_agreesWith_2 fu v0 v1 v2 S = some r) (hc : Sum.elim (fun t : Int32 × g_St => g_V g_KC 90 x 3 (g_qi g_KC 90 x z) t.2 2 [(0, .ref (g_ad x v0)), (1, .ref (g_ad x v1)), (2, .int (t.1))] []) (fun b : (g_St) ⊕ (Int32 × g_St) => Sum.elim (fun e : g_St => g_V g_KC 90 x 3 (g_qi g_KC 90 x z) e 46 [] []) (fun q : Int32 × g_St => q = z) b) r) : g_V g_KC 90 x 3 (g_qi g_KC 90 x z) S 2 [(0, .ref (g_ad x v0)), (1, .ref (g_ad x v1)), (2, .int (v2))] [] := by
  unfold b_X3_agreesWith_2 at h
  refine g_iload_n X dX3_agreesWith_2 2 rfl ?_
  refine g_aload_n X dX3_agreesWith_3 0 rfl ?_
  refine g_geti X g_cX3 w_X3_agreesWith_inX3 2 (by decide) w_X3_agreesWith_18 hk_v0 rfl dX3_agreesWith_4 ?_
  refine g_icmp_ge X 46 dX3_agreesWith_7 (by decide) h (fun c_7 h => ?_) (fun c_7 h => ?_)
  · skip
    cases h
    exact g_sub [] _ rfl hc
  · skip
    refine g_aload_n X dX3_agreesWith_10 0 rfl ?_
    refine g_getr X g_cX3 w_X3_agreesWith_inX3 0 (by decide) w_X3_agreesWith_9 hk_v0 rfl dX3_agreesWith_11 h (fun a1 hk_a1 h => ?_)
    refine g_iload_n X dX3_agreesWith_14 2 rfl ?_
    refine g_iald X hk_a1 dX3_agreesWith_15 h (fun i2 _ h => ?_)
    refine g_aload_n X dX3_agreesWith_16 1 rfl ?_
    refine g_alen X rfl hk_v1 (v := 41) (by decide) dX3_agreesWith_17 ?_
    refine g_icmp_ge X 38 dX3_agreesWith_18 (by decide) h (fun c_18 h => ?_) (fun c_18 h => ?_)
    · skip
      refine g_iconst X (v := 0) dX3_agreesWith_38 (by decide) ?_
      obtain ⟨hv, h⟩ := g_zb_s h
      cases h
      exact g_zret X (by rw [g_zb, if_pos hv]; exact congrArg some hc) dX3_agreesWith_39
    · skip
      refine g_aload_n X dX3_agreesWith_21 1 rfl ?_
      refine g_aload_n X dX3_agreesWith_22 0 rfl ?_
      refine g_getr X g_cX3 w_X3_agreesWith_inX3 0 (by decide) w_X3_agreesWith_9 hk_v0 rfl dX3_agreesWith_23 h (fun a3 hk_a3 h => ?_)
      refine g_iload_n X dX3_agreesWith_26 2 rfl ?_
      refine g_iald X hk_a3 dX3_agreesWith_27 h (fun i4 _ h => ?_)
      refine g_iald X hk_v1 dX3_agreesWith_28 h (fun i5 _ h => ?_)
      refine g_aload_n X dX3_agreesWith_29 0 rfl ?_
      refine g_getr X g_cX3 w_X3_agreesWith_inX3 1 (by decide) w_X3_agreesWith_15 hk_v0 rfl dX3_agreesWith_30 h (fun a6 hk_a6 h => ?_)
      refine g_iload_n X dX3_agreesWith_33 2 rfl ?_
      refine g_iald X hk_a6 dX3_agreesWith_34 h (fun i7 _ h => ?_)
      refine g_icmp_eq X 40 dX3_agreesWith_35 (by decide) h (fun c_35 h => ?_) (fun c_35 h => ?_)
      · skip
        refine g_iinc X [(2, _), (0, _), (1, _)] dX3_agreesWith_40 2 rfl rfl (by decide) rfl ?_
        refine g_goto X 2 dX3_agreesWith_43 (by decide) ?_
        cases h
        exact g_sub [1, 2, 0] _ rfl hc
      · skip
        refine g_iconst X (v := 0) dX3_agreesWith_38 (by decide) ?_
        obtain ⟨hv, h⟩ := g_zb_s h
        cases h
        exact g_zret X (by rw [g_zb, if_pos hv]; exact congrArg some hc) dX3_agreesWith_39
set_option maxRecDepth 100000 in
set_option maxHeartbeats 400000 in
theorem ct_X3_agreesWith {l : Launch} {D : va_G} {ad : Nat → Nat} {cy : Nat → ClassId} {zz : (Nat → Nat) × (Nat → Nat)} (hinj : ∀ i j, i < 90 → j < 90 → ad i = ad j → i = j) {fu : Nat} (o : Nat) (p0 : Nat) (hk_o : o < 90 ∧ g_KC o = g_kX3) (hk_p0 : p0 < 90 ∧ g_KC p0 = (.inr (0, 41, false))) {S : g_St} (z : Int32 × g_St) (h : f_X3_agreesWith fu o p0 S = some z) : g_Mi l g_KC 90 D ad cy zz yX3_agreesWith wsX3_agreesWith rm_X3_agreesWith [.ref (ad o), .ref (ad p0)] S z := by
  refine g_ofi hinj (cc := cX3_agreesWith) (maxL := 3) (ret := (some .boolean)) (lv := [(0, .ref (ad o)), (1, .ref (ad p0))]) (by decide) rfl (Nat.le_of_ble_eq_true rfl) rfl ?_
  intro x X hl hD ha hy hz
  subst hl hD ha hy hz
  unfold f_X3_agreesWith at h
  refine g_iconst X (v := 0) dX3_agreesWith_0 (by decide) ?_
  refine g_istore_n X [(2, _), (0, _), (1, _)] dX3_agreesWith_1 (by decide) rfl ?_
  obtain ⟨e, he, h⟩ := g_th_s h
  refine g_sub [1, 2, 0] _ rfl ?_
  refine g_lp_w (body := (fun t => b_X3_agreesWith_2 fu o p0 t.1 t.2)) (P := fun t : Int32 × g_St => g_V g_KC 90 x 3 (g_qi g_KC 90 x z) t.2 2 [(0, .ref (g_ad x o)), (1, .ref (g_ad x p0)), (2, .int (t.1))] []) (E := (fun b : (g_St) ⊕ (Int32 × g_St) => Sum.elim (fun e : g_St => g_V g_KC 90 x 3 (g_qi g_KC 90 x z) e 46 [] []) (fun q : Int32 × g_St => q = z) b)) (fun t r hb hc => vb_X3_agreesWith_2 X o p0 t.1 hk_o hk_p0 t.2 hb hc) fu ((0 : Int32), S) e he ?_
  rcases e with S1 | q
  · show g_V g_KC 90 x 3 (g_qi g_KC 90 x z) S1 46 [] []
    refine g_iconst X (v := 1) dX3_agreesWith_46 (by decide) ?_
    exact g_zret X h dX3_agreesWith_47
  · cases h; rfl
abbrev rm_J7_fill_53178 : Room := { frames := 0, cells := 0, slots := 0, locals := 0 }
theorem hd_J7_fill_53178 : yJ7_fill_53178.cls ≠ "java/lang/invoke/MethodHandle" ∧ yJ7_fill_53178.cls ≠ "java/lang/invoke/VarHandle" ∧ (parseMethodDescriptor yJ7_fill_53178.desc).map (fun d => d.parameters.length) = some 2 := by decide +kernel
def b_J7_fill_53178_5 (fu : Nat) (v0 : Nat) (v1 : Int32) (v3 : Int32) (v2 : Int32) (S : g_St) : Option ((Int32 × g_St) ⊕ (g_St)) :=
  if v3 ≤ v2 then (some (.inr S)) else (g_ix v2 40 fun i1 => some (.inl ((v2 + 1), (g_u S.1 v0 i1 v1, S.2))))
def f_J7_fill_53178 (fu : Nat) (p0 : Nat) (p1 : Int32) (S : g_St) : Option (Unit × g_St) :=
  g_th (g_lp (fun t => b_J7_fill_53178_5 fu p0 p1 ((40 : Int32)) t.1 t.2) fu ((0 : Int32), S)) fun e => match e with | S1 => some ((), S1)
set_option maxRecDepth 100000 in
set_option maxHeartbeats 400000 in
theorem vb_J7_fill_53178_5 {x : g_CX} {z : Unit × g_St} {fu : Nat} (X : g_X 90 x cJ7_fill_53178 RJ7 4 wsJ7_fill_53178 rm_J7_fill_53178 none) (v0 : Nat) (v1 : Int32) (v3 : Int32) (v2 : Int32) (hk_v0 : v0 < 90 ∧ g_KC v0 = (.inr (0, 40, false))) (S : g_St) {r : (Int32 × g_St) ⊕ (g_St)} (h : b_J7_fill_53178_5 fu v0 v1 v3 v2 S = some r) (hc : Sum.elim (fun t : Int32 × g_St => g_V g_KC 90 x 4 (g_qv g_KC 90 x z) t.2 5 [(0, .ref (g_ad x v0)), (1, .int (v1)), (2, .int (t.1)), (3, .int (v3))] []) (fun e : g_St => g_V g_KC 90 x 4 (g_qv g_KC 90 x z) e 20 [] []) r) : g_V g_KC 90 x 4 (g_qv g_KC 90 x z) S 5 [(0, .ref (g_ad x v0)), (1, .int (v1)), (2, .int (v2)), (3, .int (v3))] [] := by
  unfold b_J7_fill_53178_5 at h
  refine g_iload_n X dJ7_fill_53178_5 2 rfl ?_
  refine g_iload_n X dJ7_fill_53178_6 3 rfl ?_
  refine g_icmp_ge X 20 dJ7_fill_53178_7 (by decide) h (fun c_7 h => ?_) (fun c_7 h => ?_)
  · skip
    cases h
    exact g_sub [] _ rfl hc
  · skip
    refine g_aload_n X dJ7_fill_53178_10 0 rfl ?_
    refine g_iload_n X dJ7_fill_53178_11 2 rfl ?_
    refine g_iload_n X dJ7_fill_53178_12 1 rfl ?_
    refine g_iast X hk_v0 dJ7_fill_53178_13 h (fun i1 _ h => ?_)
    refine g_iinc X [(2, _), (0, _), (1, _), (3, _)] dJ7_fill_53178_14 2 rfl rfl (by decide) rfl ?_
    refine g_goto X 5 dJ7_fill_53178_17 (by decide) ?_
    cases h
    exact g_sub [1, 2, 0, 3] _ rfl hc
set_option maxRecDepth 100000 in
set_option maxHeartbeats 400000 in
theorem ct_J7_fill_53178 {l : Launch} {D : va_G} {ad : Nat → Nat} {cy : Nat → ClassId} {zz : (Nat → Nat) × (Nat → Nat)} (hinj : ∀ i j, i < 90 → j < 90 → ad i = ad j → i = j) {fu : Nat} (p0 : Nat) (p1 : Int32) (hk_p0 : p0 < 90 ∧ g_KC p0 = (.inr (0, 40, false))) {S : g_St} (z : Unit × g_St) (h : f_J7_fill_53178 fu p0 p1 S = some z) : g_Mv l g_KC 90 D ad cy zz yJ7_fill_53178 wsJ7_fill_53178 rm_J7_fill_53178 [.ref (ad p0), .int (p1)] S z := by
  refine g_ofv hinj (cc := cJ7_fill_53178) (maxL := 4) (ret := none) (lv := [(0, .ref (ad p0)), (1, .int (p1))]) (by decide) rfl (Nat.le_of_ble_eq_true rfl) rfl ?_
  intro x X hl hD ha hy hz
  subst hl hD ha hy hz
  unfold f_J7_fill_53178 at h
  refine g_iconst X (v := 0) dJ7_fill_53178_0 (by decide) ?_
  refine g_istore_n X [(2, _), (0, _), (1, _)] dJ7_fill_53178_1 (by decide) rfl ?_
  refine g_aload_n X dJ7_fill_53178_2 1 rfl ?_
  refine g_alen X rfl hk_p0 (v := 40) (by decide) dJ7_fill_53178_3 ?_
  refine g_istore_n X [(3, _), (2, _), (0, _), (1, _)] dJ7_fill_53178_4 (by decide) rfl ?_
  obtain ⟨e, he, h⟩ := g_th_s h
  refine g_sub [2, 3, 1, 0] _ rfl ?_
  refine g_lp_w (body := (fun t => b_J7_fill_53178_5 fu p0 p1 ((40 : Int32)) t.1 t.2)) (P := fun t : Int32 × g_St => g_V g_KC 90 x 4 (g_qv g_KC 90 x z) t.2 5 [(0, .ref (g_ad x p0)), (1, .int (p1)), (2, .int (t.1)), (3, .int ((40 : Int32)))] []) (E := (fun e : g_St => g_V g_KC 90 x 4 (g_qv g_KC 90 x z) e 20 [] [])) (fun t r hb hc => vb_J7_fill_53178_5 X p0 p1 ((40 : Int32)) t.1 hk_p0 t.2 hb hc) fu ((0 : Int32), S) e he ?_
  obtain ⟨S1, rfl⟩ : ∃ q, q = e := ⟨_, rfl⟩
  show g_V g_KC 90 x 4 (g_qv g_KC 90 x z) S1 20 [] []
  exact g_vret X h dJ7_fill_53178_20
abbrev rm_X4_renew : Room := { frames := 1, cells := 0, slots := 0, locals := 23 }
theorem hd_X4_renew : yX4_renew.cls = RX4 ∧ yX4_renew.cls ≠ "java/lang/invoke/MethodHandle" ∧ yX4_renew.cls ≠ "java/lang/invoke/VarHandle" ∧ (parseMethodDescriptor yX4_renew.desc).map (fun d => d.parameters.length) = some 2 := by decide +kernel
theorem w_X4_renew_15 : Cond.fieldLink RX4 15 "TokenDoors$Sheet" "laid" "Z" ∈ wsX4_renew := by decide +kernel
theorem w_X4_renew_inX4 : ∀ w ∈ wsX40, w ∈ wsX4_renew := by decide +kernel
theorem w_X4_renew_19 : Cond.fieldLink RX4 19 "TokenDoors$Sheet" "lane" "I" ∈ wsX4_renew := by decide +kernel
theorem w_X4_renew_23 : Cond.fieldLink RX4 23 "TokenDoors$Sheet" "size" "I" ∈ wsX4_renew := by decide +kernel
theorem w_X4_renew_9 : Cond.fieldLink RX4 9 "TokenDoors$Sheet" "cells" "[I" ∈ wsX4_renew := by decide +kernel
def f_X4_renew (fu : Nat) (o : Nat) (p0 : Int32) (p1 : Int32) (S : g_St) : Option (Unit × g_St) :=
  g_ld g_KC 90 (.inr (0, 40, false)) (S.2 o 0) fun a1 => g_bd (f_J7_fill_53178 fu a1 ((0 : Int32)) (g_u (g_u (g_u S.1 o 1 (1 : Int32)) o 2 p0) o 3 p1, S.2)) fun _ Sr2 => some ((), Sr2)
set_option maxRecDepth 100000 in
set_option maxHeartbeats 400000 in
theorem ct_X4_renew {l : Launch} {D : va_G} {ad : Nat → Nat} {cy : Nat → ClassId} {zz : (Nat → Nat) × (Nat → Nat)} (hinj : ∀ i j, i < 90 → j < 90 → ad i = ad j → i = j) {fu : Nat} (o : Nat) (p0 : Int32) (p1 : Int32) (hk_o : o < 90 ∧ g_KC o = g_kX4) {S : g_St} (z : Unit × g_St) (h : f_X4_renew fu o p0 p1 S = some z) : g_Mv l g_KC 90 D ad cy zz yX4_renew wsX4_renew rm_X4_renew [.ref (ad o), .int (p0), .int (p1)] S z := by
  refine g_ofv hinj (cc := cX4_renew) (maxL := 3) (ret := none) (lv := [(0, .ref (ad o)), (1, .int (p0)), (2, .int (p1))]) (by decide) rfl (Nat.le_of_ble_eq_true rfl) rfl ?_
  intro x X hl hD ha hy hz
  subst hl hD ha hy hz
  unfold f_X4_renew at h
  refine g_aload_n X dX4_renew_0 0 rfl ?_
  refine g_iconst X (v := 1) dX4_renew_1 (by decide) ?_
  refine g_puti X g_cX4 w_X4_renew_inX4 1 (by decide) w_X4_renew_15 hk_o rfl rfl (t := .boolean) (by decide +kernel) rfl rfl dX4_renew_2 ?_
  refine g_aload_n X dX4_renew_5 0 rfl ?_
  refine g_iload_n X dX4_renew_6 1 rfl ?_
  refine g_puti X g_cX4 w_X4_renew_inX4 2 (by decide) w_X4_renew_19 hk_o rfl rfl (t := .int) (by decide +kernel) rfl rfl dX4_renew_7 ?_
  refine g_aload_n X dX4_renew_10 0 rfl ?_
  refine g_iload_n X dX4_renew_11 2 rfl ?_
  refine g_puti X g_cX4 w_X4_renew_inX4 3 (by decide) w_X4_renew_23 hk_o rfl rfl (t := .int) (by decide +kernel) rfl rfl dX4_renew_12 ?_
  refine g_aload_n X dX4_renew_15 0 rfl ?_
  refine g_getr X g_cX4 w_X4_renew_inX4 0 (by decide) w_X4_renew_9 hk_o rfl dX4_renew_16 h (fun a1 hk_a1 h => ?_)
  refine g_iconst X (v := 0) dX4_renew_19 (by decide) ?_
  refine g_callSv X [.ref (g_ad x a1), .int ((0 : Int32))] rfl (va_cwS 2 X.2.2.2.2.1 gX4_renew_J7_fill_53178 rfl rfl rfl hd_J7_fill_53178 ⟨Nat.le_of_ble_eq_true rfl, Nat.le_of_ble_eq_true rfl⟩) (Nat.le_of_ble_eq_true rfl) dX4_renew_20 h (fun q hq => ct_J7_fill_53178 X.2.2.2.2.2.2.1 a1 ((0 : Int32)) hk_a1 _ hq) (fun _ Sr2 h => ?_)
  exact g_vret X h dX4_renew_23
abbrev rm_X4_put : Room := { frames := 0, cells := 0, slots := 0, locals := 0 }
theorem hd_X4_put : yX4_put.cls = RX4 ∧ yX4_put.cls ≠ "java/lang/invoke/MethodHandle" ∧ yX4_put.cls ≠ "java/lang/invoke/VarHandle" ∧ (parseMethodDescriptor yX4_put.desc).map (fun d => d.parameters.length) = some 2 := by decide +kernel
theorem w_X4_put_19 : Cond.fieldLink RX4 19 "TokenDoors$Sheet" "lane" "I" ∈ wsX4_put := by decide +kernel
theorem w_X4_put_inX4 : ∀ w ∈ wsX40, w ∈ wsX4_put := by decide +kernel
theorem w_X4_put_9 : Cond.fieldLink RX4 9 "TokenDoors$Sheet" "cells" "[I" ∈ wsX4_put := by decide +kernel
def f_X4_put (fu : Nat) (o : Nat) (p0 : Int32) (p1 : Int32) (S : g_St) : Option (Unit × g_St) :=
  if (S.1 o 2) = 0 then (g_ld g_KC 90 (.inr (0, 40, false)) (S.2 o 0) fun a5 => g_ix p0 40 fun i6 => some ((), (g_u S.1 a5 i6 ((Int32.toInt8 p1).toInt32), S.2))) else (if (S.1 o 2) = (1 : Int32) then (g_ld g_KC 90 (.inr (0, 40, false)) (S.2 o 0) fun a3 => g_ix p0 40 fun i4 => some ((), (g_u S.1 a3 i4 ((Int32.toInt16 p1).toInt32), S.2))) else (g_ld g_KC 90 (.inr (0, 40, false)) (S.2 o 0) fun a1 => g_ix p0 40 fun i2 => some ((), (g_u S.1 a1 i2 p1, S.2))))
set_option maxRecDepth 100000 in
set_option maxHeartbeats 400000 in
theorem ct_X4_put {l : Launch} {D : va_G} {ad : Nat → Nat} {cy : Nat → ClassId} {zz : (Nat → Nat) × (Nat → Nat)} (hinj : ∀ i j, i < 90 → j < 90 → ad i = ad j → i = j) {fu : Nat} (o : Nat) (p0 : Int32) (p1 : Int32) (hk_o : o < 90 ∧ g_KC o = g_kX4) {S : g_St} (z : Unit × g_St) (h : f_X4_put fu o p0 p1 S = some z) : g_Mv l g_KC 90 D ad cy zz yX4_put wsX4_put rm_X4_put [.ref (ad o), .int (p0), .int (p1)] S z := by
  refine g_ofv hinj (cc := cX4_put) (maxL := 3) (ret := none) (lv := [(0, .ref (ad o)), (1, .int (p0)), (2, .int (p1))]) (by decide) rfl (Nat.le_of_ble_eq_true rfl) rfl ?_
  intro x X hl hD ha hy hz
  subst hl hD ha hy hz
  unfold f_X4_put at h
  refine g_aload_n X dX4_put_0 0 rfl ?_
  refine g_geti X g_cX4 w_X4_put_inX4 2 (by decide) w_X4_put_19 hk_o rfl dX4_put_1 ?_
  refine g_if_ne X 18 dX4_put_4 (by decide) h (fun c_4 h => ?_) (fun c_4 h => ?_)
  · skip
    refine g_aload_n X dX4_put_18 0 rfl ?_
    refine g_geti X g_cX4 w_X4_put_inX4 2 (by decide) w_X4_put_19 hk_o rfl dX4_put_19 ?_
    refine g_iconst X (v := 1) dX4_put_22 (by decide) ?_
    refine g_icmp_ne X 37 dX4_put_23 (by decide) h (fun c_23 h => ?_) (fun c_23 h => ?_)
    · skip
      refine g_aload_n X dX4_put_37 0 rfl ?_
      refine g_getr X g_cX4 w_X4_put_inX4 0 (by decide) w_X4_put_9 hk_o rfl dX4_put_38 h (fun a1 hk_a1 h => ?_)
      refine g_iload_n X dX4_put_41 1 rfl ?_
      refine g_iload_n X dX4_put_42 2 rfl ?_
      refine g_iast X hk_a1 dX4_put_43 h (fun i2 _ h => ?_)
      exact g_vret X h dX4_put_44
    · skip
      refine g_aload_n X dX4_put_26 0 rfl ?_
      refine g_getr X g_cX4 w_X4_put_inX4 0 (by decide) w_X4_put_9 hk_o rfl dX4_put_27 h (fun a3 hk_a3 h => ?_)
      refine g_iload_n X dX4_put_30 1 rfl ?_
      refine g_iload_n X dX4_put_31 2 rfl ?_
      refine g_i2s X dX4_put_32 ?_
      refine g_iast X hk_a3 dX4_put_33 h (fun i4 _ h => ?_)
      refine g_goto X 44 dX4_put_34 (by decide) ?_
      exact g_vret X h dX4_put_44
  · skip
    refine g_aload_n X dX4_put_7 0 rfl ?_
    refine g_getr X g_cX4 w_X4_put_inX4 0 (by decide) w_X4_put_9 hk_o rfl dX4_put_8 h (fun a5 hk_a5 h => ?_)
    refine g_iload_n X dX4_put_11 1 rfl ?_
    refine g_iload_n X dX4_put_12 2 rfl ?_
    refine g_i2b X dX4_put_13 ?_
    refine g_iast X hk_a5 dX4_put_14 h (fun i6 _ h => ?_)
    refine g_goto X 44 dX4_put_15 (by decide) ?_
    exact g_vret X h dX4_put_44
abbrev rm_X4_faultAt : Room := { frames := 0, cells := 0, slots := 0, locals := 0 }
theorem hd_X4_faultAt : yX4_faultAt.cls = RX4 ∧ yX4_faultAt.cls ≠ "java/lang/invoke/MethodHandle" ∧ yX4_faultAt.cls ≠ "java/lang/invoke/VarHandle" ∧ (parseMethodDescriptor yX4_faultAt.desc).map (fun d => d.parameters.length) = some 1 := by decide +kernel
theorem w_X4_faultAt_15 : Cond.fieldLink RX4 15 "TokenDoors$Sheet" "laid" "Z" ∈ wsX4_faultAt := by decide +kernel
theorem w_X4_faultAt_inX4 : ∀ w ∈ wsX40, w ∈ wsX4_faultAt := by decide +kernel
theorem w_X4_faultAt_23 : Cond.fieldLink RX4 23 "TokenDoors$Sheet" "size" "I" ∈ wsX4_faultAt := by decide +kernel
def j_X4_faultAt_21 (fu : Nat)  (S : g_St) : Option (Int32 × g_St) :=
  some ((2 : Int32), S)
def f_X4_faultAt (fu : Nat) (o : Nat) (p0 : Int32) (S : g_St) : Option (Int32 × g_St) :=
  if (S.1 o 1) = 0 then (some ((1 : Int32), S)) else (if p0 < 0 then (j_X4_faultAt_21 fu  S) else (if p0 < (S.1 o 3) then (some ((0 : Int32), S)) else (j_X4_faultAt_21 fu  S)))
set_option maxRecDepth 100000 in
set_option maxHeartbeats 400000 in
theorem vj_X4_faultAt_21 {x : g_CX} {z : Int32 × g_St} {fu : Nat} (X : g_X 90 x cX4_faultAt RX4 2 wsX4_faultAt rm_X4_faultAt (some .int))   (S : g_St) (h : j_X4_faultAt_21 fu  S = some z) : g_V g_KC 90 x 2 (g_qi g_KC 90 x z) S 21 [] [] := by
  unfold j_X4_faultAt_21 at h
  refine g_iconst X (v := 2) dX4_faultAt_21 (by decide) ?_
  refine g_goto X 26 dX4_faultAt_22 (by decide) ?_
  exact g_iret X h dX4_faultAt_26
set_option maxRecDepth 100000 in
set_option maxHeartbeats 400000 in
theorem ct_X4_faultAt {l : Launch} {D : va_G} {ad : Nat → Nat} {cy : Nat → ClassId} {zz : (Nat → Nat) × (Nat → Nat)} (hinj : ∀ i j, i < 90 → j < 90 → ad i = ad j → i = j) {fu : Nat} (o : Nat) (p0 : Int32) (hk_o : o < 90 ∧ g_KC o = g_kX4) {S : g_St} (z : Int32 × g_St) (h : f_X4_faultAt fu o p0 S = some z) : g_Mi l g_KC 90 D ad cy zz yX4_faultAt wsX4_faultAt rm_X4_faultAt [.ref (ad o), .int (p0)] S z := by
  refine g_ofi hinj (cc := cX4_faultAt) (maxL := 2) (ret := (some .int)) (lv := [(0, .ref (ad o)), (1, .int (p0))]) (by decide) rfl (Nat.le_of_ble_eq_true rfl) rfl ?_
  intro x X hl hD ha hy hz
  subst hl hD ha hy hz
  unfold f_X4_faultAt at h
  refine g_aload_n X dX4_faultAt_0 0 rfl ?_
  refine g_geti X g_cX4 w_X4_faultAt_inX4 1 (by decide) w_X4_faultAt_15 hk_o rfl dX4_faultAt_1 ?_
  refine g_if_ne X 9 dX4_faultAt_4 (by decide) h (fun c_4 h => ?_) (fun c_4 h => ?_)
  · skip
    refine g_iload_n X dX4_faultAt_9 1 rfl ?_
    refine g_if_lt X 21 dX4_faultAt_10 (by decide) h (fun c_10 h => ?_) (fun c_10 h => ?_)
    · skip
      refine g_sub [] _ rfl ?_
      exact vj_X4_faultAt_21 X   _ h
    · skip
      refine g_iload_n X dX4_faultAt_13 1 rfl ?_
      refine g_aload_n X dX4_faultAt_14 0 rfl ?_
      refine g_geti X g_cX4 w_X4_faultAt_inX4 3 (by decide) w_X4_faultAt_23 hk_o rfl dX4_faultAt_15 ?_
      refine g_icmp_lt X 25 dX4_faultAt_18 (by decide) h (fun c_18 h => ?_) (fun c_18 h => ?_)
      · skip
        refine g_iconst X (v := 0) dX4_faultAt_25 (by decide) ?_
        exact g_iret X h dX4_faultAt_26
      · skip
        refine g_sub [] _ rfl ?_
        exact vj_X4_faultAt_21 X   _ h
  · skip
    refine g_iconst X (v := 1) dX4_faultAt_7 (by decide) ?_
    exact g_iret X h dX4_faultAt_8
abbrev rm_X4_faultInThree : Room := { frames := 1, cells := 0, slots := 0, locals := 21 }
theorem hd_X4_faultInThree : yX4_faultInThree.cls = RX4 ∧ yX4_faultInThree.cls ≠ "java/lang/invoke/MethodHandle" ∧ yX4_faultInThree.cls ≠ "java/lang/invoke/VarHandle" ∧ (parseMethodDescriptor yX4_faultInThree.desc).map (fun d => d.parameters.length) = some 2 := by decide +kernel
theorem w_X4_faultInThree_15 : Cond.fieldLink RX4 15 "TokenDoors$Sheet" "laid" "Z" ∈ wsX4_faultInThree := by decide +kernel
theorem w_X4_faultInThree_inX4 : ∀ w ∈ wsX40, w ∈ wsX4_faultInThree := by decide +kernel
theorem w_X4_faultInThree_19 : Cond.fieldLink RX4 19 "TokenDoors$Sheet" "lane" "I" ∈ wsX4_faultInThree := by decide +kernel
def j_X4_faultInThree_17 (fu : Nat) (v0 : Nat) (v2 : Int32) (S : g_St) : Option (Int32 × g_St) :=
  g_bd (f_X4_faultAt fu v0 v2 S) fun r1 Sr1 => if r1 = 0 then (g_bd (f_X4_faultAt fu v0 ((v2 + (2 : Int32))) Sr1) fun r2 Sr2 => some (r2, Sr2)) else (some (r1, Sr1))
def f_X4_faultInThree (fu : Nat) (o : Nat) (p0 : Int32) (p1 : Int32) (S : g_St) : Option (Int32 × g_St) :=
  if (S.1 o 1) = 0 then (j_X4_faultInThree_17 fu o p1 S) else (if (S.1 o 2) = p0 then (j_X4_faultInThree_17 fu o p1 S) else (some ((3 : Int32), S)))
set_option maxRecDepth 100000 in
set_option maxHeartbeats 400000 in
theorem vj_X4_faultInThree_17 {x : g_CX} {z : Int32 × g_St} {fu : Nat} (X : g_X 90 x cX4_faultInThree RX4 4 wsX4_faultInThree rm_X4_faultInThree (some .int)) (v0 : Nat) (v2 : Int32) (hk_v0 : v0 < 90 ∧ g_KC v0 = g_kX4) (S : g_St) (h : j_X4_faultInThree_17 fu v0 v2 S = some z) : g_V g_KC 90 x 4 (g_qi g_KC 90 x z) S 17 [(0, .ref (g_ad x v0)), (2, .int (v2))] [] := by
  unfold j_X4_faultInThree_17 at h
  refine g_aload_n X dX4_faultInThree_17 0 rfl ?_
  refine g_iload_n X dX4_faultInThree_18 1 rfl ?_
  refine g_callVi X g_cX4 hk_v0 [.int (v2)] rfl (cwV 1 X.2.2.2.2.1 gX4_faultInThree_X4_faultAt rfl rfl rfl hd_X4_faultAt ⟨Nat.le_of_ble_eq_true rfl, Nat.le_of_ble_eq_true rfl⟩) (Nat.le_of_ble_eq_true rfl) dX4_faultInThree_19 h (fun q hq => ct_X4_faultAt X.2.2.2.2.2.2.1 v0 v2 hk_v0 _ hq) (fun r1 Sr1 h => ?_)
  refine g_istore_n X [(3, _), (0, _), (2, _)] dX4_faultInThree_22 (by decide) rfl ?_
  refine g_iload_n X dX4_faultInThree_23 0 rfl ?_
  refine g_if_eq X 31 dX4_faultInThree_24 (by decide) h (fun c_24 h => ?_) (fun c_24 h => ?_)
  · skip
    refine g_aload_n X dX4_faultInThree_31 1 rfl ?_
    refine g_iload_n X dX4_faultInThree_32 2 rfl ?_
    refine g_iconst X (v := 2) dX4_faultInThree_33 (by decide) ?_
    refine g_iadd X dX4_faultInThree_34 ?_
    refine g_callVi X g_cX4 hk_v0 [.int ((v2 + (2 : Int32)))] rfl (cwV 1 X.2.2.2.2.1 gX4_faultInThree_X4_faultAt rfl rfl rfl hd_X4_faultAt ⟨Nat.le_of_ble_eq_true rfl, Nat.le_of_ble_eq_true rfl⟩) (Nat.le_of_ble_eq_true rfl) dX4_faultInThree_35 h (fun q hq => ct_X4_faultAt X.2.2.2.2.2.2.1 v0 ((v2 + (2 : Int32))) hk_v0 _ hq) (fun r2 Sr2 h => ?_)
    exact g_iret X h dX4_faultInThree_38
  · skip
    refine g_iload_n X dX4_faultInThree_27 0 rfl ?_
    refine g_goto X 38 dX4_faultInThree_28 (by decide) ?_
    exact g_iret X h dX4_faultInThree_38
set_option maxRecDepth 100000 in
set_option maxHeartbeats 400000 in
theorem ct_X4_faultInThree {l : Launch} {D : va_G} {ad : Nat → Nat} {cy : Nat → ClassId} {zz : (Nat → Nat) × (Nat → Nat)} (hinj : ∀ i j, i < 90 → j < 90 → ad i = ad j → i = j) {fu : Nat} (o : Nat) (p0 : Int32) (p1 : Int32) (hk_o : o < 90 ∧ g_KC o = g_kX4) {S : g_St} (z : Int32 × g_St) (h : f_X4_faultInThree fu o p0 p1 S = some z) : g_Mi l g_KC 90 D ad cy zz yX4_faultInThree wsX4_faultInThree rm_X4_faultInThree [.ref (ad o), .int (p0), .int (p1)] S z := by
  refine g_ofi hinj (cc := cX4_faultInThree) (maxL := 4) (ret := (some .int)) (lv := [(0, .ref (ad o)), (1, .int (p0)), (2, .int (p1))]) (by decide) rfl (Nat.le_of_ble_eq_true rfl) rfl ?_
  intro x X hl hD ha hy hz
  subst hl hD ha hy hz
  unfold f_X4_faultInThree at h
  refine g_aload_n X dX4_faultInThree_0 0 rfl ?_
  refine g_geti X g_cX4 w_X4_faultInThree_inX4 1 (by decide) w_X4_faultInThree_15 hk_o rfl dX4_faultInThree_1 ?_
  refine g_if_eq X 17 dX4_faultInThree_4 (by decide) h (fun c_4 h => ?_) (fun c_4 h => ?_)
  · skip
    refine g_sub [0, 2] _ rfl ?_
    exact vj_X4_faultInThree_17 X o p1 hk_o _ h
  · skip
    refine g_aload_n X dX4_faultInThree_7 0 rfl ?_
    refine g_geti X g_cX4 w_X4_faultInThree_inX4 2 (by decide) w_X4_faultInThree_19 hk_o rfl dX4_faultInThree_8 ?_
    refine g_iload_n X dX4_faultInThree_11 1 rfl ?_
    refine g_icmp_eq X 17 dX4_faultInThree_12 (by decide) h (fun c_12 h => ?_) (fun c_12 h => ?_)
    · skip
      refine g_sub [0, 2] _ rfl ?_
      exact vj_X4_faultInThree_17 X o p1 hk_o _ h
    · skip
      refine g_iconst X (v := 3) dX4_faultInThree_15 (by decide) ?_
      exact g_iret X h dX4_faultInThree_16
abbrev rm_X5_append : Room := { frames := 0, cells := 0, slots := 0, locals := 0 }
theorem hd_X5_append : yX5_append.cls = RX5 ∧ yX5_append.cls ≠ "java/lang/invoke/MethodHandle" ∧ yX5_append.cls ≠ "java/lang/invoke/VarHandle" ∧ (parseMethodDescriptor yX5_append.desc).map (fun d => d.parameters.length) = some 1 := by decide +kernel
theorem w_X5_append_15 : Cond.fieldLink RX5 15 "TokenDoors$Tape" "length" "I" ∈ wsX5_append := by decide +kernel
theorem w_X5_append_inX5 : ∀ w ∈ wsX50, w ∈ wsX5_append := by decide +kernel
theorem w_X5_append_9 : Cond.fieldLink RX5 9 "TokenDoors$Tape" "bytes" "[B" ∈ wsX5_append := by decide +kernel
def f_X5_append (fu : Nat) (o : Nat) (p0 : Int32) (S : g_St) : Option (Int32 × g_St) :=
  if (S.1 o 1) < (160 : Int32) then (g_ld g_KC 90 (.inr (1, 160, false)) (S.2 o 0) fun a1 => g_ix (S.1 o 1) 160 fun i2 => g_zb (1 : Int32) (some ((1 : Int32), (g_u (g_u S.1 a1 i2 (vp_nar .byte ((Int32.toInt8 p0).toInt32))) o 1 (((g_u S.1 a1 i2 (vp_nar .byte ((Int32.toInt8 p0).toInt32))) o 1) + (1 : Int32)), S.2)))) else (g_zb (0 : Int32) (some ((0 : Int32), S)))
set_option maxRecDepth 100000 in
set_option maxHeartbeats 400000 in
theorem ct_X5_append {l : Launch} {D : va_G} {ad : Nat → Nat} {cy : Nat → ClassId} {zz : (Nat → Nat) × (Nat → Nat)} (hinj : ∀ i j, i < 90 → j < 90 → ad i = ad j → i = j) {fu : Nat} (o : Nat) (p0 : Int32) (hk_o : o < 90 ∧ g_KC o = g_kX5) {S : g_St} (z : Int32 × g_St) (h : f_X5_append fu o p0 S = some z) : g_Mi l g_KC 90 D ad cy zz yX5_append wsX5_append rm_X5_append [.ref (ad o), .int (p0)] S z := by
  refine g_ofi hinj (cc := cX5_append) (maxL := 2) (ret := (some .boolean)) (lv := [(0, .ref (ad o)), (1, .int (p0))]) (by decide) rfl (Nat.le_of_ble_eq_true rfl) rfl ?_
  intro x X hl hD ha hy hz
  subst hl hD ha hy hz
  unfold f_X5_append at h
  refine g_aload_n X dX5_append_0 0 rfl ?_
  refine g_geti X g_cX5 w_X5_append_inX5 1 (by decide) w_X5_append_15 hk_o rfl dX5_append_1 ?_
  refine g_sipush X (v := (160)) dX5_append_4 (by decide) ?_
  refine g_icmp_lt X 12 dX5_append_7 (by decide) h (fun c_7 h => ?_) (fun c_7 h => ?_)
  · skip
    refine g_aload_n X dX5_append_12 0 rfl ?_
    refine g_getr X g_cX5 w_X5_append_inX5 0 (by decide) w_X5_append_9 hk_o rfl dX5_append_13 h (fun a1 hk_a1 h => ?_)
    refine g_aload_n X dX5_append_16 0 rfl ?_
    refine g_geti X g_cX5 w_X5_append_inX5 1 (by decide) w_X5_append_15 hk_o rfl dX5_append_17 ?_
    refine g_iload_n X dX5_append_20 1 rfl ?_
    refine g_i2b X dX5_append_21 ?_
    refine g_bast X hk_a1 dX5_append_22 h (fun i2 _ h => ?_)
    refine g_aload_n X dX5_append_23 0 rfl ?_
    refine g_dup X dX5_append_24 rfl ?_
    refine g_geti X g_cX5 w_X5_append_inX5 1 (by decide) w_X5_append_15 hk_o rfl dX5_append_25 ?_
    refine g_iconst X (v := 1) dX5_append_28 (by decide) ?_
    refine g_iadd X dX5_append_29 ?_
    refine g_puti X g_cX5 w_X5_append_inX5 1 (by decide) w_X5_append_15 hk_o rfl rfl (t := .int) (by decide +kernel) rfl rfl dX5_append_30 ?_
    refine g_iconst X (v := 1) dX5_append_33 (by decide) ?_
    exact g_zret X h dX5_append_34
  · skip
    refine g_iconst X (v := 0) dX5_append_10 (by decide) ?_
    exact g_zret X h dX5_append_11
abbrev rm_X5_isLetter : Room := { frames := 0, cells := 0, slots := 0, locals := 0 }
theorem hd_X5_isLetter : yX5_isLetter.cls ≠ "java/lang/invoke/MethodHandle" ∧ yX5_isLetter.cls ≠ "java/lang/invoke/VarHandle" ∧ (parseMethodDescriptor yX5_isLetter.desc).map (fun d => d.parameters.length) = some 1 := by decide +kernel
def f_X5_isLetter (fu : Nat) (p0 : Int32) (S : g_St) : Option (Int32 × g_St) :=
  if p0 < (97 : Int32) then (g_zb (0 : Int32) (some ((0 : Int32), S))) else (if (122 : Int32) < p0 then (g_zb (0 : Int32) (some ((0 : Int32), S))) else (g_zb (1 : Int32) (some ((1 : Int32), S))))
set_option maxRecDepth 100000 in
set_option maxHeartbeats 400000 in
theorem ct_X5_isLetter {l : Launch} {D : va_G} {ad : Nat → Nat} {cy : Nat → ClassId} {zz : (Nat → Nat) × (Nat → Nat)} (hinj : ∀ i j, i < 90 → j < 90 → ad i = ad j → i = j) {fu : Nat} (p0 : Int32)  {S : g_St} (z : Int32 × g_St) (h : f_X5_isLetter fu p0 S = some z) : g_Mi l g_KC 90 D ad cy zz yX5_isLetter wsX5_isLetter rm_X5_isLetter [.int (p0)] S z := by
  refine g_ofi hinj (cc := cX5_isLetter) (maxL := 1) (ret := (some .boolean)) (lv := [(0, .int (p0))]) (by decide) rfl (Nat.le_of_ble_eq_true rfl) rfl ?_
  intro x X hl hD ha hy hz
  subst hl hD ha hy hz
  unfold f_X5_isLetter at h
  refine g_iload_n X dX5_isLetter_0 0 rfl ?_
  refine g_bipush X (v := (97)) dX5_isLetter_1 (by decide) ?_
  refine g_icmp_lt X 16 dX5_isLetter_3 (by decide) h (fun c_3 h => ?_) (fun c_3 h => ?_)
  · skip
    refine g_iconst X (v := 0) dX5_isLetter_16 (by decide) ?_
    exact g_zret X h dX5_isLetter_17
  · skip
    refine g_iload_n X dX5_isLetter_6 0 rfl ?_
    refine g_bipush X (v := (122)) dX5_isLetter_7 (by decide) ?_
    refine g_icmp_gt X 16 dX5_isLetter_9 (by decide) h (fun c_9 h => ?_) (fun c_9 h => ?_)
    · skip
      refine g_iconst X (v := 0) dX5_isLetter_16 (by decide) ?_
      exact g_zret X h dX5_isLetter_17
    · skip
      refine g_iconst X (v := 1) dX5_isLetter_12 (by decide) ?_
      refine g_goto X 17 dX5_isLetter_13 (by decide) ?_
      exact g_zret X h dX5_isLetter_17
abbrev rm_X5_takeName : Room := { frames := 1, cells := 0, slots := 0, locals := 20 }
theorem hd_X5_takeName : yX5_takeName.cls = RX5 ∧ yX5_takeName.cls ≠ "java/lang/invoke/MethodHandle" ∧ yX5_takeName.cls ≠ "java/lang/invoke/VarHandle" ∧ (parseMethodDescriptor yX5_takeName.desc).map (fun d => d.parameters.length) = some 0 := by decide +kernel
theorem w_X5_takeName_19 : Cond.fieldLink RX5 19 "TokenDoors$Tape" "next" "I" ∈ wsX5_takeName := by decide +kernel
theorem w_X5_takeName_inX5 : ∀ w ∈ wsX50, w ∈ wsX5_takeName := by decide +kernel
theorem w_X5_takeName_15 : Cond.fieldLink RX5 15 "TokenDoors$Tape" "length" "I" ∈ wsX5_takeName := by decide +kernel
theorem w_X5_takeName_9 : Cond.fieldLink RX5 9 "TokenDoors$Tape" "bytes" "[B" ∈ wsX5_takeName := by decide +kernel
def b_X5_takeName_0 (fu : Nat) (v0 : Nat) (S : g_St) : Option ((g_St) ⊕ (g_St)) :=
  if (S.1 v0 1) ≤ (S.1 v0 2) then (some (.inr S)) else (g_ld g_KC 90 (.inr (1, 160, false)) (S.2 v0 0) fun a1 => g_ix (S.1 v0 2) 160 fun i2 => g_bd (f_X5_isLetter fu ((S.1 a1 i2)) S) fun r3 Sr3 => if r3 = 0 then (some (.inr Sr3)) else (some (.inl (g_u Sr3.1 v0 2 ((Sr3.1 v0 2) + (1 : Int32)), Sr3.2))))
def f_X5_takeName (fu : Nat) (o : Nat) (S : g_St) : Option (Int32 × g_St) :=
  g_th (g_lp (fun t => b_X5_takeName_0 fu o t) fu S) fun e => match e with | S1 => some ((1 : Int32), S1)
set_option maxRecDepth 100000 in
set_option maxHeartbeats 400000 in
theorem vb_X5_takeName_0 {x : g_CX} {z : Int32 × g_St} {fu : Nat} (X : g_X 90 x cX5_takeName RX5 1 wsX5_takeName rm_X5_takeName (some .int)) (v0 : Nat) (hk_v0 : v0 < 90 ∧ g_KC v0 = g_kX5) (S : g_St) {r : (g_St) ⊕ (g_St)} (h : b_X5_takeName_0 fu v0 S = some r) (hc : Sum.elim (fun t : g_St => g_V g_KC 90 x 1 (g_qi g_KC 90 x z) t 0 [(0, .ref (g_ad x v0))] []) (fun e : g_St => g_V g_KC 90 x 1 (g_qi g_KC 90 x z) e 39 [] []) r) : g_V g_KC 90 x 1 (g_qi g_KC 90 x z) S 0 [(0, .ref (g_ad x v0))] [] := by
  unfold b_X5_takeName_0 at h
  refine g_aload_n X dX5_takeName_0 0 rfl ?_
  refine g_geti X g_cX5 w_X5_takeName_inX5 2 (by decide) w_X5_takeName_19 hk_v0 rfl dX5_takeName_1 ?_
  refine g_aload_n X dX5_takeName_4 0 rfl ?_
  refine g_geti X g_cX5 w_X5_takeName_inX5 1 (by decide) w_X5_takeName_15 hk_v0 rfl dX5_takeName_5 ?_
  refine g_icmp_ge X 39 dX5_takeName_8 (by decide) h (fun c_8 h => ?_) (fun c_8 h => ?_)
  · skip
    cases h
    exact g_sub [] _ rfl hc
  · skip
    refine g_aload_n X dX5_takeName_11 0 rfl ?_
    refine g_getr X g_cX5 w_X5_takeName_inX5 0 (by decide) w_X5_takeName_9 hk_v0 rfl dX5_takeName_12 h (fun a1 hk_a1 h => ?_)
    refine g_aload_n X dX5_takeName_15 0 rfl ?_
    refine g_geti X g_cX5 w_X5_takeName_inX5 2 (by decide) w_X5_takeName_19 hk_v0 rfl dX5_takeName_16 ?_
    refine g_bald X hk_a1 dX5_takeName_19 h (fun i2 _ h => ?_)
    refine g_callSi X [.int ((S.1 a1 i2))] rfl (va_cwS 1 X.2.2.2.2.1 gX5_takeName_X5_isLetter rfl rfl rfl hd_X5_isLetter ⟨Nat.le_of_ble_eq_true rfl, Nat.le_of_ble_eq_true rfl⟩) (Nat.le_of_ble_eq_true rfl) dX5_takeName_20 h (fun q hq => ct_X5_isLetter X.2.2.2.2.2.2.1 ((S.1 a1 i2))  _ hq) (fun r3 Sr3 h => ?_)
    refine g_if_eq X 39 dX5_takeName_23 (by decide) h (fun c_23 h => ?_) (fun c_23 h => ?_)
    · skip
      cases h
      exact g_sub [] _ rfl hc
    · skip
      refine g_aload_n X dX5_takeName_26 0 rfl ?_
      refine g_dup X dX5_takeName_27 rfl ?_
      refine g_geti X g_cX5 w_X5_takeName_inX5 2 (by decide) w_X5_takeName_19 hk_v0 rfl dX5_takeName_28 ?_
      refine g_iconst X (v := 1) dX5_takeName_31 (by decide) ?_
      refine g_iadd X dX5_takeName_32 ?_
      refine g_puti X g_cX5 w_X5_takeName_inX5 2 (by decide) w_X5_takeName_19 hk_v0 rfl rfl (t := .int) (by decide +kernel) rfl rfl dX5_takeName_33 ?_
      refine g_goto X 0 dX5_takeName_36 (by decide) ?_
      cases h
      exact g_sub [0] _ rfl hc
set_option maxRecDepth 100000 in
set_option maxHeartbeats 400000 in
theorem ct_X5_takeName {l : Launch} {D : va_G} {ad : Nat → Nat} {cy : Nat → ClassId} {zz : (Nat → Nat) × (Nat → Nat)} (hinj : ∀ i j, i < 90 → j < 90 → ad i = ad j → i = j) {fu : Nat} (o : Nat) (hk_o : o < 90 ∧ g_KC o = g_kX5) {S : g_St} (z : Int32 × g_St) (h : f_X5_takeName fu o S = some z) : g_Mi l g_KC 90 D ad cy zz yX5_takeName wsX5_takeName rm_X5_takeName [.ref (ad o)] S z := by
  refine g_ofi hinj (cc := cX5_takeName) (maxL := 1) (ret := (some .int)) (lv := [(0, .ref (ad o))]) (by decide) rfl (Nat.le_of_ble_eq_true rfl) rfl ?_
  intro x X hl hD ha hy hz
  subst hl hD ha hy hz
  unfold f_X5_takeName at h
  obtain ⟨e, he, h⟩ := g_th_s h
  refine g_sub [0] _ rfl ?_
  refine g_lp_w (body := (fun t => b_X5_takeName_0 fu o t)) (P := fun t : g_St => g_V g_KC 90 x 1 (g_qi g_KC 90 x z) t 0 [(0, .ref (g_ad x o))] []) (E := (fun e : g_St => g_V g_KC 90 x 1 (g_qi g_KC 90 x z) e 39 [] [])) (fun t r hb hc => vb_X5_takeName_0 X o  hk_o t hb hc) fu S e he ?_
  obtain ⟨S1, rfl⟩ : ∃ q, q = e := ⟨_, rfl⟩
  show g_V g_KC 90 x 1 (g_qi g_KC 90 x z) S1 39 [] []
  refine g_iconst X (v := 1) dX5_takeName_39 (by decide) ?_
  exact g_iret X h dX5_takeName_40
abbrev rm_X5_isFigure : Room := { frames := 0, cells := 0, slots := 0, locals := 0 }
theorem hd_X5_isFigure : yX5_isFigure.cls ≠ "java/lang/invoke/MethodHandle" ∧ yX5_isFigure.cls ≠ "java/lang/invoke/VarHandle" ∧ (parseMethodDescriptor yX5_isFigure.desc).map (fun d => d.parameters.length) = some 1 := by decide +kernel
def f_X5_isFigure (fu : Nat) (p0 : Int32) (S : g_St) : Option (Int32 × g_St) :=
  if p0 < (48 : Int32) then (g_zb (0 : Int32) (some ((0 : Int32), S))) else (if (57 : Int32) < p0 then (g_zb (0 : Int32) (some ((0 : Int32), S))) else (g_zb (1 : Int32) (some ((1 : Int32), S))))
set_option maxRecDepth 100000 in
set_option maxHeartbeats 400000 in
theorem ct_X5_isFigure {l : Launch} {D : va_G} {ad : Nat → Nat} {cy : Nat → ClassId} {zz : (Nat → Nat) × (Nat → Nat)} (hinj : ∀ i j, i < 90 → j < 90 → ad i = ad j → i = j) {fu : Nat} (p0 : Int32)  {S : g_St} (z : Int32 × g_St) (h : f_X5_isFigure fu p0 S = some z) : g_Mi l g_KC 90 D ad cy zz yX5_isFigure wsX5_isFigure rm_X5_isFigure [.int (p0)] S z := by
  refine g_ofi hinj (cc := cX5_isFigure) (maxL := 1) (ret := (some .boolean)) (lv := [(0, .int (p0))]) (by decide) rfl (Nat.le_of_ble_eq_true rfl) rfl ?_
  intro x X hl hD ha hy hz
  subst hl hD ha hy hz
  unfold f_X5_isFigure at h
  refine g_iload_n X dX5_isFigure_0 0 rfl ?_
  refine g_bipush X (v := (48)) dX5_isFigure_1 (by decide) ?_
  refine g_icmp_lt X 16 dX5_isFigure_3 (by decide) h (fun c_3 h => ?_) (fun c_3 h => ?_)
  · skip
    refine g_iconst X (v := 0) dX5_isFigure_16 (by decide) ?_
    exact g_zret X h dX5_isFigure_17
  · skip
    refine g_iload_n X dX5_isFigure_6 0 rfl ?_
    refine g_bipush X (v := (57)) dX5_isFigure_7 (by decide) ?_
    refine g_icmp_gt X 16 dX5_isFigure_9 (by decide) h (fun c_9 h => ?_) (fun c_9 h => ?_)
    · skip
      refine g_iconst X (v := 0) dX5_isFigure_16 (by decide) ?_
      exact g_zret X h dX5_isFigure_17
    · skip
      refine g_iconst X (v := 1) dX5_isFigure_12 (by decide) ?_
      refine g_goto X 17 dX5_isFigure_13 (by decide) ?_
      exact g_zret X h dX5_isFigure_17
abbrev rm_X5_takeNumber : Room := { frames := 1, cells := 0, slots := 0, locals := 20 }
theorem hd_X5_takeNumber : yX5_takeNumber.cls = RX5 ∧ yX5_takeNumber.cls ≠ "java/lang/invoke/MethodHandle" ∧ yX5_takeNumber.cls ≠ "java/lang/invoke/VarHandle" ∧ (parseMethodDescriptor yX5_takeNumber.desc).map (fun d => d.parameters.length) = some 0 := by decide +kernel
theorem w_X5_takeNumber_39 : Cond.fieldLink RX5 39 "TokenDoors$Tape" "value" "I" ∈ wsX5_takeNumber := by decide +kernel
theorem w_X5_takeNumber_inX5 : ∀ w ∈ wsX50, w ∈ wsX5_takeNumber := by decide +kernel
theorem w_X5_takeNumber_19 : Cond.fieldLink RX5 19 "TokenDoors$Tape" "next" "I" ∈ wsX5_takeNumber := by decide +kernel
theorem w_X5_takeNumber_15 : Cond.fieldLink RX5 15 "TokenDoors$Tape" "length" "I" ∈ wsX5_takeNumber := by decide +kernel
theorem w_X5_takeNumber_9 : Cond.fieldLink RX5 9 "TokenDoors$Tape" "bytes" "[B" ∈ wsX5_takeNumber := by decide +kernel
theorem w_X5_takeNumber_22 : Cond.fieldLink RX5 22 "TokenDoors$Tape" "start" "I" ∈ wsX5_takeNumber := by decide +kernel
def b_X5_takeNumber_5 (fu : Nat) (v0 : Nat) (S : g_St) : Option ((g_St) ⊕ (g_St)) :=
  if (S.1 v0 1) ≤ (S.1 v0 2) then (some (.inr S)) else (g_ld g_KC 90 (.inr (1, 160, false)) (S.2 v0 0) fun a1 => g_ix (S.1 v0 2) 160 fun i2 => g_bd (f_X5_isFigure fu ((S.1 a1 i2)) S) fun r3 Sr3 => if r3 = 0 then (some (.inr Sr3)) else (g_ld g_KC 90 (.inr (1, 160, false)) (Sr3.2 v0 0) fun a4 => g_ix (Sr3.1 v0 2) 160 fun i5 => g_nz (100 : Int32) (some (.inl (g_u (g_u Sr3.1 v0 4 (((((10 : Int32) * (Sr3.1 v0 4)) + (Sr3.1 a4 i5)) - (48 : Int32)) - ((((10 : Int32) * (Sr3.1 v0 4)) + (Sr3.1 a4 i5)) - (48 : Int32)) / (100 : Int32) * (100 : Int32))) v0 2 (((g_u Sr3.1 v0 4 (((((10 : Int32) * (Sr3.1 v0 4)) + (Sr3.1 a4 i5)) - (48 : Int32)) - ((((10 : Int32) * (Sr3.1 v0 4)) + (Sr3.1 a4 i5)) - (48 : Int32)) / (100 : Int32) * (100 : Int32))) v0 2) + (1 : Int32)), Sr3.2)))))
def f_X5_takeNumber (fu : Nat) (o : Nat) (S : g_St) : Option (Int32 × g_St) :=
  g_th (g_lp (fun t => b_X5_takeNumber_5 fu o t) fu (g_u S.1 o 4 (0 : Int32), S.2)) fun e => match e with | S1 => if (2 : Int32) < ((S1.1 o 2) - (S1.1 o 3)) then (some ((4 : Int32), S1)) else (some ((2 : Int32), S1))
set_option maxRecDepth 100000 in
set_option maxHeartbeats 400000 in
theorem vb_X5_takeNumber_5 {x : g_CX} {z : Int32 × g_St} {fu : Nat} (X : g_X 90 x cX5_takeNumber RX5 1 wsX5_takeNumber rm_X5_takeNumber (some .int)) (v0 : Nat) (hk_v0 : v0 < 90 ∧ g_KC v0 = g_kX5) (S : g_St) {r : (g_St) ⊕ (g_St)} (h : b_X5_takeNumber_5 fu v0 S = some r) (hc : Sum.elim (fun t : g_St => g_V g_KC 90 x 1 (g_qi g_KC 90 x z) t 5 [(0, .ref (g_ad x v0))] []) (fun e : g_St => g_V g_KC 90 x 1 (g_qi g_KC 90 x z) e 71 [(0, .ref (g_ad x v0))] []) r) : g_V g_KC 90 x 1 (g_qi g_KC 90 x z) S 5 [(0, .ref (g_ad x v0))] [] := by
  unfold b_X5_takeNumber_5 at h
  refine g_aload_n X dX5_takeNumber_5 0 rfl ?_
  refine g_geti X g_cX5 w_X5_takeNumber_inX5 2 (by decide) w_X5_takeNumber_19 hk_v0 rfl dX5_takeNumber_6 ?_
  refine g_aload_n X dX5_takeNumber_9 0 rfl ?_
  refine g_geti X g_cX5 w_X5_takeNumber_inX5 1 (by decide) w_X5_takeNumber_15 hk_v0 rfl dX5_takeNumber_10 ?_
  refine g_icmp_ge X 71 dX5_takeNumber_13 (by decide) h (fun c_13 h => ?_) (fun c_13 h => ?_)
  · skip
    cases h
    exact g_sub [0] _ rfl hc
  · skip
    refine g_aload_n X dX5_takeNumber_16 0 rfl ?_
    refine g_getr X g_cX5 w_X5_takeNumber_inX5 0 (by decide) w_X5_takeNumber_9 hk_v0 rfl dX5_takeNumber_17 h (fun a1 hk_a1 h => ?_)
    refine g_aload_n X dX5_takeNumber_20 0 rfl ?_
    refine g_geti X g_cX5 w_X5_takeNumber_inX5 2 (by decide) w_X5_takeNumber_19 hk_v0 rfl dX5_takeNumber_21 ?_
    refine g_bald X hk_a1 dX5_takeNumber_24 h (fun i2 _ h => ?_)
    refine g_callSi X [.int ((S.1 a1 i2))] rfl (va_cwS 1 X.2.2.2.2.1 gX5_takeNumber_X5_isFigure rfl rfl rfl hd_X5_isFigure ⟨Nat.le_of_ble_eq_true rfl, Nat.le_of_ble_eq_true rfl⟩) (Nat.le_of_ble_eq_true rfl) dX5_takeNumber_25 h (fun q hq => ct_X5_isFigure X.2.2.2.2.2.2.1 ((S.1 a1 i2))  _ hq) (fun r3 Sr3 h => ?_)
    refine g_if_eq X 71 dX5_takeNumber_28 (by decide) h (fun c_28 h => ?_) (fun c_28 h => ?_)
    · skip
      cases h
      exact g_sub [0] _ rfl hc
    · skip
      refine g_aload_n X dX5_takeNumber_31 0 rfl ?_
      refine g_bipush X (v := (10)) dX5_takeNumber_32 (by decide) ?_
      refine g_aload_n X dX5_takeNumber_34 0 rfl ?_
      refine g_geti X g_cX5 w_X5_takeNumber_inX5 4 (by decide) w_X5_takeNumber_39 hk_v0 rfl dX5_takeNumber_35 ?_
      refine g_imul X dX5_takeNumber_38 ?_
      refine g_aload_n X dX5_takeNumber_39 0 rfl ?_
      refine g_getr X g_cX5 w_X5_takeNumber_inX5 0 (by decide) w_X5_takeNumber_9 hk_v0 rfl dX5_takeNumber_40 h (fun a4 hk_a4 h => ?_)
      refine g_aload_n X dX5_takeNumber_43 0 rfl ?_
      refine g_geti X g_cX5 w_X5_takeNumber_inX5 2 (by decide) w_X5_takeNumber_19 hk_v0 rfl dX5_takeNumber_44 ?_
      refine g_bald X hk_a4 dX5_takeNumber_47 h (fun i5 _ h => ?_)
      refine g_iadd X dX5_takeNumber_48 ?_
      refine g_bipush X (v := (48)) dX5_takeNumber_49 (by decide) ?_
      refine g_isub X dX5_takeNumber_51 ?_
      refine g_bipush X (v := (100)) dX5_takeNumber_52 (by decide) ?_
      refine g_irem X dX5_takeNumber_54 h (fun h => ?_)
      refine g_puti X g_cX5 w_X5_takeNumber_inX5 4 (by decide) w_X5_takeNumber_39 hk_v0 rfl rfl (t := .int) (by decide +kernel) rfl rfl dX5_takeNumber_55 ?_
      refine g_aload_n X dX5_takeNumber_58 0 rfl ?_
      refine g_dup X dX5_takeNumber_59 rfl ?_
      refine g_geti X g_cX5 w_X5_takeNumber_inX5 2 (by decide) w_X5_takeNumber_19 hk_v0 rfl dX5_takeNumber_60 ?_
      refine g_iconst X (v := 1) dX5_takeNumber_63 (by decide) ?_
      refine g_iadd X dX5_takeNumber_64 ?_
      refine g_puti X g_cX5 w_X5_takeNumber_inX5 2 (by decide) w_X5_takeNumber_19 hk_v0 rfl rfl (t := .int) (by decide +kernel) rfl rfl dX5_takeNumber_65 ?_
      refine g_goto X 5 dX5_takeNumber_68 (by decide) ?_
      cases h
      exact g_sub [0] _ rfl hc
set_option maxRecDepth 100000 in
set_option maxHeartbeats 400000 in
theorem ct_X5_takeNumber {l : Launch} {D : va_G} {ad : Nat → Nat} {cy : Nat → ClassId} {zz : (Nat → Nat) × (Nat → Nat)} (hinj : ∀ i j, i < 90 → j < 90 → ad i = ad j → i = j) {fu : Nat} (o : Nat) (hk_o : o < 90 ∧ g_KC o = g_kX5) {S : g_St} (z : Int32 × g_St) (h : f_X5_takeNumber fu o S = some z) : g_Mi l g_KC 90 D ad cy zz yX5_takeNumber wsX5_takeNumber rm_X5_takeNumber [.ref (ad o)] S z := by
  refine g_ofi hinj (cc := cX5_takeNumber) (maxL := 1) (ret := (some .int)) (lv := [(0, .ref (ad o))]) (by decide) rfl (Nat.le_of_ble_eq_true rfl) rfl ?_
  intro x X hl hD ha hy hz
  subst hl hD ha hy hz
  unfold f_X5_takeNumber at h
  refine g_aload_n X dX5_takeNumber_0 0 rfl ?_
  refine g_iconst X (v := 0) dX5_takeNumber_1 (by decide) ?_
  refine g_puti X g_cX5 w_X5_takeNumber_inX5 4 (by decide) w_X5_takeNumber_39 hk_o rfl rfl (t := .int) (by decide +kernel) rfl rfl dX5_takeNumber_2 ?_
  obtain ⟨e, he, h⟩ := g_th_s h
  refine g_sub [0] _ rfl ?_
  refine g_lp_w (body := (fun t => b_X5_takeNumber_5 fu o t)) (P := fun t : g_St => g_V g_KC 90 x 1 (g_qi g_KC 90 x z) t 5 [(0, .ref (g_ad x o))] []) (E := (fun e : g_St => g_V g_KC 90 x 1 (g_qi g_KC 90 x z) e 71 [(0, .ref (g_ad x o))] [])) (fun t r hb hc => vb_X5_takeNumber_5 X o  hk_o t hb hc) fu (g_u S.1 o 4 (0 : Int32), S.2) e he ?_
  obtain ⟨S1, rfl⟩ : ∃ q, q = e := ⟨_, rfl⟩
  show g_V g_KC 90 x 1 (g_qi g_KC 90 x z) S1 71 [(0, .ref (g_ad x o))] []
  refine g_aload_n X dX5_takeNumber_71 0 rfl ?_
  refine g_geti X g_cX5 w_X5_takeNumber_inX5 2 (by decide) w_X5_takeNumber_19 hk_o rfl dX5_takeNumber_72 ?_
  refine g_aload_n X dX5_takeNumber_75 0 rfl ?_
  refine g_geti X g_cX5 w_X5_takeNumber_inX5 3 (by decide) w_X5_takeNumber_22 hk_o rfl dX5_takeNumber_76 ?_
  refine g_isub X dX5_takeNumber_79 ?_
  refine g_iconst X (v := 2) dX5_takeNumber_80 (by decide) ?_
  refine g_icmp_gt X 88 dX5_takeNumber_81 (by decide) h (fun c_81 h => ?_) (fun c_81 h => ?_)
  · skip
    refine g_iconst X (v := 4) dX5_takeNumber_88 (by decide) ?_
    exact g_iret X h dX5_takeNumber_89
  · skip
    refine g_iconst X (v := 2) dX5_takeNumber_84 (by decide) ?_
    refine g_goto X 89 dX5_takeNumber_85 (by decide) ?_
    exact g_iret X h dX5_takeNumber_89
abbrev rm_X5_advance : Room := { frames := 2, cells := 0, slots := 0, locals := 40 }
theorem hd_X5_advance : yX5_advance.cls = RX5 ∧ yX5_advance.cls ≠ "java/lang/invoke/MethodHandle" ∧ yX5_advance.cls ≠ "java/lang/invoke/VarHandle" ∧ (parseMethodDescriptor yX5_advance.desc).map (fun d => d.parameters.length) = some 0 := by decide +kernel
theorem w_X5_advance_19 : Cond.fieldLink RX5 19 "TokenDoors$Tape" "next" "I" ∈ wsX5_advance := by decide +kernel
theorem w_X5_advance_inX5 : ∀ w ∈ wsX50, w ∈ wsX5_advance := by decide +kernel
theorem w_X5_advance_15 : Cond.fieldLink RX5 15 "TokenDoors$Tape" "length" "I" ∈ wsX5_advance := by decide +kernel
theorem w_X5_advance_9 : Cond.fieldLink RX5 9 "TokenDoors$Tape" "bytes" "[B" ∈ wsX5_advance := by decide +kernel
theorem w_X5_advance_22 : Cond.fieldLink RX5 22 "TokenDoors$Tape" "start" "I" ∈ wsX5_advance := by decide +kernel
def b_X5_advance_0 (fu : Nat) (v0 : Nat) (S : g_St) : Option ((g_St) ⊕ (g_St)) :=
  if (S.1 v0 1) ≤ (S.1 v0 2) then (some (.inr S)) else (g_ld g_KC 90 (.inr (1, 160, false)) (S.2 v0 0) fun a1 => g_ix (S.1 v0 2) 160 fun i2 => if (S.1 a1 i2) = (32 : Int32) then (some (.inl (g_u S.1 v0 2 ((S.1 v0 2) + (1 : Int32)), S.2))) else (some (.inr S)))
def f_X5_advance (fu : Nat) (o : Nat) (S : g_St) : Option (Int32 × g_St) :=
  g_th (g_lp (fun t => b_X5_advance_0 fu o t) fu S) fun e => match e with | S1 => if ((g_u S1.1 o 3 (S1.1 o 2)) o 3) < ((g_u S1.1 o 3 (S1.1 o 2)) o 1) then (g_ld g_KC 90 (.inr (1, 160, false)) (S1.2 o 0) fun a3 => g_ix ((g_u S1.1 o 3 (S1.1 o 2)) o 3) 160 fun i4 => g_bd (f_X5_isLetter fu (((g_u S1.1 o 3 (S1.1 o 2)) a3 i4)) (g_u S1.1 o 3 (S1.1 o 2), S1.2)) fun r5 Sr5 => if r5 = 0 then (g_ld g_KC 90 (.inr (1, 160, false)) (Sr5.2 o 0) fun a6 => g_ix (Sr5.1 o 3) 160 fun i7 => g_bd (f_X5_isFigure fu ((Sr5.1 a6 i7)) Sr5) fun r8 Sr8 => if r8 = 0 then (g_ld g_KC 90 (.inr (1, 160, false)) (Sr8.2 o 0) fun a9 => g_ix ((g_u Sr8.1 o 2 ((Sr8.1 o 2) + (1 : Int32))) o 3) 160 fun i10 => if ((g_u Sr8.1 o 2 ((Sr8.1 o 2) + (1 : Int32))) a9 i10) = (59 : Int32) then (some ((3 : Int32), (g_u Sr8.1 o 2 ((Sr8.1 o 2) + (1 : Int32)), Sr8.2))) else (some ((4 : Int32), (g_u Sr8.1 o 2 ((Sr8.1 o 2) + (1 : Int32)), Sr8.2)))) else (g_bd (f_X5_takeNumber fu o Sr8) fun r11 Sr11 => some (r11, Sr11))) else (g_bd (f_X5_takeName fu o Sr5) fun r12 Sr12 => some (r12, Sr12))) else (some ((0 : Int32), (g_u S1.1 o 3 (S1.1 o 2), S1.2)))
set_option maxRecDepth 100000 in
set_option maxHeartbeats 400000 in
theorem vb_X5_advance_0 {x : g_CX} {z : Int32 × g_St} {fu : Nat} (X : g_X 90 x cX5_advance RX5 1 wsX5_advance rm_X5_advance (some .int)) (v0 : Nat) (hk_v0 : v0 < 90 ∧ g_KC v0 = g_kX5) (S : g_St) {r : (g_St) ⊕ (g_St)} (h : b_X5_advance_0 fu v0 S = some r) (hc : Sum.elim (fun t : g_St => g_V g_KC 90 x 1 (g_qi g_KC 90 x z) t 0 [(0, .ref (g_ad x v0))] []) (fun e : g_St => g_V g_KC 90 x 1 (g_qi g_KC 90 x z) e 38 [(0, .ref (g_ad x v0))] []) r) : g_V g_KC 90 x 1 (g_qi g_KC 90 x z) S 0 [(0, .ref (g_ad x v0))] [] := by
  unfold b_X5_advance_0 at h
  refine g_aload_n X dX5_advance_0 0 rfl ?_
  refine g_geti X g_cX5 w_X5_advance_inX5 2 (by decide) w_X5_advance_19 hk_v0 rfl dX5_advance_1 ?_
  refine g_aload_n X dX5_advance_4 0 rfl ?_
  refine g_geti X g_cX5 w_X5_advance_inX5 1 (by decide) w_X5_advance_15 hk_v0 rfl dX5_advance_5 ?_
  refine g_icmp_ge X 38 dX5_advance_8 (by decide) h (fun c_8 h => ?_) (fun c_8 h => ?_)
  · skip
    cases h
    exact g_sub [0] _ rfl hc
  · skip
    refine g_aload_n X dX5_advance_11 0 rfl ?_
    refine g_getr X g_cX5 w_X5_advance_inX5 0 (by decide) w_X5_advance_9 hk_v0 rfl dX5_advance_12 h (fun a1 hk_a1 h => ?_)
    refine g_aload_n X dX5_advance_15 0 rfl ?_
    refine g_geti X g_cX5 w_X5_advance_inX5 2 (by decide) w_X5_advance_19 hk_v0 rfl dX5_advance_16 ?_
    refine g_bald X hk_a1 dX5_advance_19 h (fun i2 _ h => ?_)
    refine g_bipush X (v := (32)) dX5_advance_20 (by decide) ?_
    refine g_icmp_ne X 38 dX5_advance_22 (by decide) h (fun c_22 h => ?_) (fun c_22 h => ?_)
    · skip
      cases h
      exact g_sub [0] _ rfl hc
    · skip
      refine g_aload_n X dX5_advance_25 0 rfl ?_
      refine g_dup X dX5_advance_26 rfl ?_
      refine g_geti X g_cX5 w_X5_advance_inX5 2 (by decide) w_X5_advance_19 hk_v0 rfl dX5_advance_27 ?_
      refine g_iconst X (v := 1) dX5_advance_30 (by decide) ?_
      refine g_iadd X dX5_advance_31 ?_
      refine g_puti X g_cX5 w_X5_advance_inX5 2 (by decide) w_X5_advance_19 hk_v0 rfl rfl (t := .int) (by decide +kernel) rfl rfl dX5_advance_32 ?_
      refine g_goto X 0 dX5_advance_35 (by decide) ?_
      cases h
      exact g_sub [0] _ rfl hc
set_option maxRecDepth 100000 in
set_option maxHeartbeats 400000 in
theorem ct_X5_advance {l : Launch} {D : va_G} {ad : Nat → Nat} {cy : Nat → ClassId} {zz : (Nat → Nat) × (Nat → Nat)} (hinj : ∀ i j, i < 90 → j < 90 → ad i = ad j → i = j) {fu : Nat} (o : Nat) (hk_o : o < 90 ∧ g_KC o = g_kX5) {S : g_St} (z : Int32 × g_St) (h : f_X5_advance fu o S = some z) : g_Mi l g_KC 90 D ad cy zz yX5_advance wsX5_advance rm_X5_advance [.ref (ad o)] S z := by
  refine g_ofi hinj (cc := cX5_advance) (maxL := 1) (ret := (some .int)) (lv := [(0, .ref (ad o))]) (by decide) rfl (Nat.le_of_ble_eq_true rfl) rfl ?_
  intro x X hl hD ha hy hz
  subst hl hD ha hy hz
  unfold f_X5_advance at h
  obtain ⟨e, he, h⟩ := g_th_s h
  refine g_sub [0] _ rfl ?_
  refine g_lp_w (body := (fun t => b_X5_advance_0 fu o t)) (P := fun t : g_St => g_V g_KC 90 x 1 (g_qi g_KC 90 x z) t 0 [(0, .ref (g_ad x o))] []) (E := (fun e : g_St => g_V g_KC 90 x 1 (g_qi g_KC 90 x z) e 38 [(0, .ref (g_ad x o))] [])) (fun t r hb hc => vb_X5_advance_0 X o  hk_o t hb hc) fu S e he ?_
  obtain ⟨S1, rfl⟩ : ∃ q, q = e := ⟨_, rfl⟩
  show g_V g_KC 90 x 1 (g_qi g_KC 90 x z) S1 38 [(0, .ref (g_ad x o))] []
  refine g_aload_n X dX5_advance_38 0 rfl ?_
  refine g_aload_n X dX5_advance_39 0 rfl ?_
  refine g_geti X g_cX5 w_X5_advance_inX5 2 (by decide) w_X5_advance_19 hk_o rfl dX5_advance_40 ?_
  refine g_puti X g_cX5 w_X5_advance_inX5 3 (by decide) w_X5_advance_22 hk_o rfl rfl (t := .int) (by decide +kernel) rfl rfl dX5_advance_43 ?_
  refine g_aload_n X dX5_advance_46 0 rfl ?_
  refine g_geti X g_cX5 w_X5_advance_inX5 3 (by decide) w_X5_advance_22 hk_o rfl dX5_advance_47 ?_
  refine g_aload_n X dX5_advance_50 0 rfl ?_
  refine g_geti X g_cX5 w_X5_advance_inX5 1 (by decide) w_X5_advance_15 hk_o rfl dX5_advance_51 ?_
  refine g_icmp_lt X 59 dX5_advance_54 (by decide) h (fun c_54 h => ?_) (fun c_54 h => ?_)
  · skip
    refine g_aload_n X dX5_advance_59 0 rfl ?_
    refine g_getr X g_cX5 w_X5_advance_inX5 0 (by decide) w_X5_advance_9 hk_o rfl dX5_advance_60 h (fun a3 hk_a3 h => ?_)
    refine g_aload_n X dX5_advance_63 0 rfl ?_
    refine g_geti X g_cX5 w_X5_advance_inX5 3 (by decide) w_X5_advance_22 hk_o rfl dX5_advance_64 ?_
    refine g_bald X hk_a3 dX5_advance_67 h (fun i4 _ h => ?_)
    refine g_callSi X [.int (((g_u S1.1 o 3 (S1.1 o 2)) a3 i4))] rfl (va_cwS 1 X.2.2.2.2.1 gX5_advance_X5_isLetter rfl rfl rfl hd_X5_isLetter ⟨Nat.le_of_ble_eq_true rfl, Nat.le_of_ble_eq_true rfl⟩) (Nat.le_of_ble_eq_true rfl) dX5_advance_68 h (fun q hq => ct_X5_isLetter X.2.2.2.2.2.2.1 (((g_u S1.1 o 3 (S1.1 o 2)) a3 i4))  _ hq) (fun r5 Sr5 h => ?_)
    refine g_if_eq X 79 dX5_advance_71 (by decide) h (fun c_71 h => ?_) (fun c_71 h => ?_)
    · skip
      refine g_aload_n X dX5_advance_79 0 rfl ?_
      refine g_getr X g_cX5 w_X5_advance_inX5 0 (by decide) w_X5_advance_9 hk_o rfl dX5_advance_80 h (fun a6 hk_a6 h => ?_)
      refine g_aload_n X dX5_advance_83 0 rfl ?_
      refine g_geti X g_cX5 w_X5_advance_inX5 3 (by decide) w_X5_advance_22 hk_o rfl dX5_advance_84 ?_
      refine g_bald X hk_a6 dX5_advance_87 h (fun i7 _ h => ?_)
      refine g_callSi X [.int ((Sr5.1 a6 i7))] rfl (va_cwS 1 X.2.2.2.2.1 gX5_advance_X5_isFigure rfl rfl rfl hd_X5_isFigure ⟨Nat.le_of_ble_eq_true rfl, Nat.le_of_ble_eq_true rfl⟩) (Nat.le_of_ble_eq_true rfl) dX5_advance_88 h (fun q hq => ct_X5_isFigure X.2.2.2.2.2.2.1 ((Sr5.1 a6 i7))  _ hq) (fun r8 Sr8 h => ?_)
      refine g_if_eq X 99 dX5_advance_91 (by decide) h (fun c_91 h => ?_) (fun c_91 h => ?_)
      · skip
        refine g_aload_n X dX5_advance_99 0 rfl ?_
        refine g_dup X dX5_advance_100 rfl ?_
        refine g_geti X g_cX5 w_X5_advance_inX5 2 (by decide) w_X5_advance_19 hk_o rfl dX5_advance_101 ?_
        refine g_iconst X (v := 1) dX5_advance_104 (by decide) ?_
        refine g_iadd X dX5_advance_105 ?_
        refine g_puti X g_cX5 w_X5_advance_inX5 2 (by decide) w_X5_advance_19 hk_o rfl rfl (t := .int) (by decide +kernel) rfl rfl dX5_advance_106 ?_
        refine g_aload_n X dX5_advance_109 0 rfl ?_
        refine g_getr X g_cX5 w_X5_advance_inX5 0 (by decide) w_X5_advance_9 hk_o rfl dX5_advance_110 h (fun a9 hk_a9 h => ?_)
        refine g_aload_n X dX5_advance_113 0 rfl ?_
        refine g_geti X g_cX5 w_X5_advance_inX5 3 (by decide) w_X5_advance_22 hk_o rfl dX5_advance_114 ?_
        refine g_bald X hk_a9 dX5_advance_117 h (fun i10 _ h => ?_)
        refine g_bipush X (v := (59)) dX5_advance_118 (by decide) ?_
        refine g_icmp_ne X 127 dX5_advance_120 (by decide) h (fun c_120 h => ?_) (fun c_120 h => ?_)
        · skip
          refine g_iconst X (v := 4) dX5_advance_127 (by decide) ?_
          exact g_iret X h dX5_advance_128
        · skip
          refine g_iconst X (v := 3) dX5_advance_123 (by decide) ?_
          refine g_goto X 128 dX5_advance_124 (by decide) ?_
          exact g_iret X h dX5_advance_128
      · skip
        refine g_aload_n X dX5_advance_94 0 rfl ?_
        refine g_callVi X g_cX5 hk_o [] rfl (cwV 0 X.2.2.2.2.1 gX5_advance_X5_takeNumber rfl rfl rfl hd_X5_takeNumber ⟨Nat.le_of_ble_eq_true rfl, Nat.le_of_ble_eq_true rfl⟩) (Nat.le_of_ble_eq_true rfl) dX5_advance_95 h (fun q hq => ct_X5_takeNumber X.2.2.2.2.2.2.1 o hk_o _ hq) (fun r11 Sr11 h => ?_)
        exact g_iret X h dX5_advance_98
    · skip
      refine g_aload_n X dX5_advance_74 0 rfl ?_
      refine g_callVi X g_cX5 hk_o [] rfl (cwV 0 X.2.2.2.2.1 gX5_advance_X5_takeName rfl rfl rfl hd_X5_takeName ⟨Nat.le_of_ble_eq_true rfl, Nat.le_of_ble_eq_true rfl⟩) (Nat.le_of_ble_eq_true rfl) dX5_advance_75 h (fun q hq => ct_X5_takeName X.2.2.2.2.2.2.1 o hk_o _ hq) (fun r12 Sr12 h => ?_)
      exact g_iret X h dX5_advance_78
  · skip
    refine g_iconst X (v := 0) dX5_advance_57 (by decide) ?_
    exact g_iret X h dX5_advance_58
abbrev rm_X5_nameIs : Room := { frames := 4, cells := 0, slots := 0, locals := 85 }
theorem hd_X5_nameIs : yX5_nameIs.cls = RX5 ∧ yX5_nameIs.cls ≠ "java/lang/invoke/MethodHandle" ∧ yX5_nameIs.cls ≠ "java/lang/invoke/VarHandle" ∧ (parseMethodDescriptor yX5_nameIs.desc).map (fun d => d.parameters.length) = some 1 := by decide +kernel
theorem w_X5_nameIs_19 : Cond.fieldLink RX5 19 "TokenDoors$Tape" "next" "I" ∈ wsX5_nameIs := by decide +kernel
theorem w_X5_nameIs_inX5 : ∀ w ∈ wsX50, w ∈ wsX5_nameIs := by decide +kernel
theorem w_X5_nameIs_22 : Cond.fieldLink RX5 22 "TokenDoors$Tape" "start" "I" ∈ wsX5_nameIs := by decide +kernel
theorem w_X5_nameIs_9 : Cond.fieldLink RX5 9 "TokenDoors$Tape" "bytes" "[B" ∈ wsX5_nameIs := by decide +kernel
def b_X5_nameIs_20 (fu : Nat) (v0 : Nat) (v1 : Nat) (v2 : Int32) (S : g_St) : Option ((Int32 × g_St) ⊕ ((g_St) ⊕ (Int32 × g_St))) :=
  if (nI (g_len.getD v1 0)) ≤ v2 then (some (.inr (.inl S))) else (g_ld g_KC 90 (.inr (1, 160, false)) (S.2 v0 0) fun a1 => g_ix ((S.1 v0 3) + v2) 160 fun i2 => g_ix v2 (g_len.getD v1 0) fun i3 => if (S.1 a1 i2) = (g_ch v1 i3) then (some (.inl ((v2 + 1), S))) else (g_zb (0 : Int32) (some (.inr (.inr ((0 : Int32), S))))))
def f_X5_nameIs (fu : Nat) (o : Nat) (p0 : Nat) (S : g_St) : Option (Int32 × g_St) :=
  if ((S.1 o 2) - (S.1 o 3)) = (nI (g_len.getD p0 0)) then (g_th (g_lp (fun t => b_X5_nameIs_20 fu o p0 t.1 t.2) fu ((0 : Int32), S)) fun e => match e with | .inl S1 => (g_zb (1 : Int32) (some ((1 : Int32), S1))) | .inr q => some q) else (g_zb (0 : Int32) (some ((0 : Int32), S)))
set_option maxRecDepth 100000 in
set_option maxHeartbeats 400000 in
theorem vb_X5_nameIs_20 {x : g_CX} {z : Int32 × g_St} {fu : Nat} (X : g_X 90 x cX5_nameIs RX5 3 wsX5_nameIs rm_X5_nameIs (some .boolean)) (v0 : Nat) (v1 : Nat) (v2 : Int32) (hk_v0 : v0 < 90 ∧ g_KC v0 = g_kX5) (hk_v1 : v1 < 5) (S : g_St) {r : (Int32 × g_St) ⊕ ((g_St) ⊕ (Int32 × g_St))} (h : b_X5_nameIs_20 fu v0 v1 v2 S = some r) (hc : Sum.elim (fun t : Int32 × g_St => g_V g_KC 90 x 3 (g_qi g_KC 90 x z) t.2 20 [(0, .ref (g_ad x v0)), (1, .ref ((g_zz x).1 v1)), (2, .int (t.1))] []) (fun b : (g_St) ⊕ (Int32 × g_St) => Sum.elim (fun e : g_St => g_V g_KC 90 x 3 (g_qi g_KC 90 x z) e 55 [] []) (fun q : Int32 × g_St => q = z) b) r) : g_V g_KC 90 x 3 (g_qi g_KC 90 x z) S 20 [(0, .ref (g_ad x v0)), (1, .ref ((g_zz x).1 v1)), (2, .int (v2))] [] := by
  unfold b_X5_nameIs_20 at h
  refine g_iload_n X dX5_nameIs_20 2 rfl ?_
  refine g_aload_n X dX5_nameIs_21 1 rfl ?_
  refine g_strlen X hk_v1 (cwV 0 X.2.2.2.2.1 gX5_nameIs_J0_length_8abf5 rfl rfl rfl hd_J0_length ⟨Nat.le_of_ble_eq_true rfl, Nat.le_of_ble_eq_true rfl⟩) (Nat.le_of_ble_eq_true rfl) dX5_nameIs_22 ?_
  refine g_icmp_ge X 55 dX5_nameIs_25 (by decide) h (fun c_25 h => ?_) (fun c_25 h => ?_)
  · skip
    cases h
    exact g_sub [] _ rfl hc
  · skip
    refine g_aload_n X dX5_nameIs_28 0 rfl ?_
    refine g_getr X g_cX5 w_X5_nameIs_inX5 0 (by decide) w_X5_nameIs_9 hk_v0 rfl dX5_nameIs_29 h (fun a1 hk_a1 h => ?_)
    refine g_aload_n X dX5_nameIs_32 0 rfl ?_
    refine g_geti X g_cX5 w_X5_nameIs_inX5 3 (by decide) w_X5_nameIs_22 hk_v0 rfl dX5_nameIs_33 ?_
    refine g_iload_n X dX5_nameIs_36 2 rfl ?_
    refine g_iadd X dX5_nameIs_37 ?_
    refine g_bald X hk_a1 dX5_nameIs_38 h (fun i2 _ h => ?_)
    refine g_aload_n X dX5_nameIs_39 1 rfl ?_
    refine g_iload_n X dX5_nameIs_40 2 rfl ?_
    refine g_strat X hk_v1 (cwV 1 X.2.2.2.2.1 gX5_nameIs_J0_charAt_5068e rfl rfl rfl hd_J0_charAt ⟨Nat.le_of_ble_eq_true rfl, Nat.le_of_ble_eq_true rfl⟩) (Nat.le_of_ble_eq_true rfl) dX5_nameIs_41 h (fun i3 _ h => ?_)
    refine g_icmp_eq X 49 dX5_nameIs_44 (by decide) h (fun c_44 h => ?_) (fun c_44 h => ?_)
    · skip
      refine g_iinc X [(2, _), (0, _), (1, _)] dX5_nameIs_49 2 rfl rfl (by decide) rfl ?_
      refine g_goto X 20 dX5_nameIs_52 (by decide) ?_
      cases h
      exact g_sub [1, 2, 0] _ rfl hc
    · skip
      refine g_iconst X (v := 0) dX5_nameIs_47 (by decide) ?_
      obtain ⟨hv, h⟩ := g_zb_s h
      cases h
      exact g_zret X (by rw [g_zb, if_pos hv]; exact congrArg some hc) dX5_nameIs_48
set_option maxRecDepth 100000 in
set_option maxHeartbeats 400000 in
theorem ct_X5_nameIs {l : Launch} {D : va_G} {ad : Nat → Nat} {cy : Nat → ClassId} {zz : (Nat → Nat) × (Nat → Nat)} (hinj : ∀ i j, i < 90 → j < 90 → ad i = ad j → i = j) {fu : Nat} (o : Nat) (p0 : Nat) (hk_o : o < 90 ∧ g_KC o = g_kX5) (hk_p0 : p0 < 5) {S : g_St} (z : Int32 × g_St) (h : f_X5_nameIs fu o p0 S = some z) : g_Mi l g_KC 90 D ad cy zz yX5_nameIs wsX5_nameIs rm_X5_nameIs [.ref (ad o), .ref (zz.1 p0)] S z := by
  refine g_ofi hinj (cc := cX5_nameIs) (maxL := 3) (ret := (some .boolean)) (lv := [(0, .ref (ad o)), (1, .ref (zz.1 p0))]) (by decide) rfl (Nat.le_of_ble_eq_true rfl) rfl ?_
  intro x X hl hD ha hy hz
  subst hl hD ha hy hz
  unfold f_X5_nameIs at h
  refine g_aload_n X dX5_nameIs_0 0 rfl ?_
  refine g_geti X g_cX5 w_X5_nameIs_inX5 2 (by decide) w_X5_nameIs_19 hk_o rfl dX5_nameIs_1 ?_
  refine g_aload_n X dX5_nameIs_4 0 rfl ?_
  refine g_geti X g_cX5 w_X5_nameIs_inX5 3 (by decide) w_X5_nameIs_22 hk_o rfl dX5_nameIs_5 ?_
  refine g_isub X dX5_nameIs_8 ?_
  refine g_aload_n X dX5_nameIs_9 1 rfl ?_
  refine g_strlen X hk_p0 (cwV 0 X.2.2.2.2.1 gX5_nameIs_J0_length_8abf5 rfl rfl rfl hd_J0_length ⟨Nat.le_of_ble_eq_true rfl, Nat.le_of_ble_eq_true rfl⟩) (Nat.le_of_ble_eq_true rfl) dX5_nameIs_10 ?_
  refine g_icmp_eq X 18 dX5_nameIs_13 (by decide) h (fun c_13 h => ?_) (fun c_13 h => ?_)
  · skip
    refine g_iconst X (v := 0) dX5_nameIs_18 (by decide) ?_
    refine g_istore_n X [(2, _), (0, _), (1, _)] dX5_nameIs_19 (by decide) rfl ?_
    obtain ⟨e, he, h⟩ := g_th_s h
    refine g_sub [1, 2, 0] _ rfl ?_
    refine g_lp_w (body := (fun t => b_X5_nameIs_20 fu o p0 t.1 t.2)) (P := fun t : Int32 × g_St => g_V g_KC 90 x 3 (g_qi g_KC 90 x z) t.2 20 [(0, .ref (g_ad x o)), (1, .ref ((g_zz x).1 p0)), (2, .int (t.1))] []) (E := (fun b : (g_St) ⊕ (Int32 × g_St) => Sum.elim (fun e : g_St => g_V g_KC 90 x 3 (g_qi g_KC 90 x z) e 55 [] []) (fun q : Int32 × g_St => q = z) b)) (fun t r hb hc => vb_X5_nameIs_20 X o p0 t.1 hk_o hk_p0 t.2 hb hc) fu ((0 : Int32), S) e he ?_
    rcases e with S1 | q
    · show g_V g_KC 90 x 3 (g_qi g_KC 90 x z) S1 55 [] []
      refine g_iconst X (v := 1) dX5_nameIs_55 (by decide) ?_
      exact g_zret X h dX5_nameIs_56
    · cases h; rfl
  · skip
    refine g_iconst X (v := 0) dX5_nameIs_16 (by decide) ?_
    exact g_zret X h dX5_nameIs_17
abbrev rm_J6_bitCount_0f7a4 : Room := { frames := 0, cells := 0, slots := 0, locals := 0 }
theorem hd_J6_bitCount_0f7a4 : yJ6_bitCount_0f7a4.cls ≠ "java/lang/invoke/MethodHandle" ∧ yJ6_bitCount_0f7a4.cls ≠ "java/lang/invoke/VarHandle" ∧ (parseMethodDescriptor yJ6_bitCount_0f7a4.desc).map (fun d => d.parameters.length) = some 1 := by decide +kernel
theorem w_J6_bitCount_0f7a4_265 : Cond.constant RJ6 265 (1431655765) ∈ wsJ6_bitCount_0f7a4 := by decide +kernel
theorem w_J6_bitCount_0f7a4_266 : Cond.constant RJ6 266 (858993459) ∈ wsJ6_bitCount_0f7a4 := by decide +kernel
theorem w_J6_bitCount_0f7a4_267 : Cond.constant RJ6 267 (252645135) ∈ wsJ6_bitCount_0f7a4 := by decide +kernel
def f_J6_bitCount_0f7a4 (fu : Nat) (p0 : Int32) (S : g_St) : Option (Int32 × g_St) :=
  some (((((((((p0 - ((Int32.toUInt32 p0 >>> (Int32.toUInt32 (1 : Int32) &&& Int32.toUInt32 31)).toInt32 &&& (1431655765 : Int32))) &&& (858993459 : Int32)) + ((Int32.toUInt32 (p0 - ((Int32.toUInt32 p0 >>> (Int32.toUInt32 (1 : Int32) &&& Int32.toUInt32 31)).toInt32 &&& (1431655765 : Int32))) >>> (Int32.toUInt32 (2 : Int32) &&& Int32.toUInt32 31)).toInt32 &&& (858993459 : Int32))) + (Int32.toUInt32 (((p0 - ((Int32.toUInt32 p0 >>> (Int32.toUInt32 (1 : Int32) &&& Int32.toUInt32 31)).toInt32 &&& (1431655765 : Int32))) &&& (858993459 : Int32)) + ((Int32.toUInt32 (p0 - ((Int32.toUInt32 p0 >>> (Int32.toUInt32 (1 : Int32) &&& Int32.toUInt32 31)).toInt32 &&& (1431655765 : Int32))) >>> (Int32.toUInt32 (2 : Int32) &&& Int32.toUInt32 31)).toInt32 &&& (858993459 : Int32))) >>> (Int32.toUInt32 (4 : Int32) &&& Int32.toUInt32 31)).toInt32) &&& (252645135 : Int32)) + (Int32.toUInt32 (((((p0 - ((Int32.toUInt32 p0 >>> (Int32.toUInt32 (1 : Int32) &&& Int32.toUInt32 31)).toInt32 &&& (1431655765 : Int32))) &&& (858993459 : Int32)) + ((Int32.toUInt32 (p0 - ((Int32.toUInt32 p0 >>> (Int32.toUInt32 (1 : Int32) &&& Int32.toUInt32 31)).toInt32 &&& (1431655765 : Int32))) >>> (Int32.toUInt32 (2 : Int32) &&& Int32.toUInt32 31)).toInt32 &&& (858993459 : Int32))) + (Int32.toUInt32 (((p0 - ((Int32.toUInt32 p0 >>> (Int32.toUInt32 (1 : Int32) &&& Int32.toUInt32 31)).toInt32 &&& (1431655765 : Int32))) &&& (858993459 : Int32)) + ((Int32.toUInt32 (p0 - ((Int32.toUInt32 p0 >>> (Int32.toUInt32 (1 : Int32) &&& Int32.toUInt32 31)).toInt32 &&& (1431655765 : Int32))) >>> (Int32.toUInt32 (2 : Int32) &&& Int32.toUInt32 31)).toInt32 &&& (858993459 : Int32))) >>> (Int32.toUInt32 (4 : Int32) &&& Int32.toUInt32 31)).toInt32) &&& (252645135 : Int32)) >>> (Int32.toUInt32 (8 : Int32) &&& Int32.toUInt32 31)).toInt32) + (Int32.toUInt32 ((((((p0 - ((Int32.toUInt32 p0 >>> (Int32.toUInt32 (1 : Int32) &&& Int32.toUInt32 31)).toInt32 &&& (1431655765 : Int32))) &&& (858993459 : Int32)) + ((Int32.toUInt32 (p0 - ((Int32.toUInt32 p0 >>> (Int32.toUInt32 (1 : Int32) &&& Int32.toUInt32 31)).toInt32 &&& (1431655765 : Int32))) >>> (Int32.toUInt32 (2 : Int32) &&& Int32.toUInt32 31)).toInt32 &&& (858993459 : Int32))) + (Int32.toUInt32 (((p0 - ((Int32.toUInt32 p0 >>> (Int32.toUInt32 (1 : Int32) &&& Int32.toUInt32 31)).toInt32 &&& (1431655765 : Int32))) &&& (858993459 : Int32)) + ((Int32.toUInt32 (p0 - ((Int32.toUInt32 p0 >>> (Int32.toUInt32 (1 : Int32) &&& Int32.toUInt32 31)).toInt32 &&& (1431655765 : Int32))) >>> (Int32.toUInt32 (2 : Int32) &&& Int32.toUInt32 31)).toInt32 &&& (858993459 : Int32))) >>> (Int32.toUInt32 (4 : Int32) &&& Int32.toUInt32 31)).toInt32) &&& (252645135 : Int32)) + (Int32.toUInt32 (((((p0 - ((Int32.toUInt32 p0 >>> (Int32.toUInt32 (1 : Int32) &&& Int32.toUInt32 31)).toInt32 &&& (1431655765 : Int32))) &&& (858993459 : Int32)) + ((Int32.toUInt32 (p0 - ((Int32.toUInt32 p0 >>> (Int32.toUInt32 (1 : Int32) &&& Int32.toUInt32 31)).toInt32 &&& (1431655765 : Int32))) >>> (Int32.toUInt32 (2 : Int32) &&& Int32.toUInt32 31)).toInt32 &&& (858993459 : Int32))) + (Int32.toUInt32 (((p0 - ((Int32.toUInt32 p0 >>> (Int32.toUInt32 (1 : Int32) &&& Int32.toUInt32 31)).toInt32 &&& (1431655765 : Int32))) &&& (858993459 : Int32)) + ((Int32.toUInt32 (p0 - ((Int32.toUInt32 p0 >>> (Int32.toUInt32 (1 : Int32) &&& Int32.toUInt32 31)).toInt32 &&& (1431655765 : Int32))) >>> (Int32.toUInt32 (2 : Int32) &&& Int32.toUInt32 31)).toInt32 &&& (858993459 : Int32))) >>> (Int32.toUInt32 (4 : Int32) &&& Int32.toUInt32 31)).toInt32) &&& (252645135 : Int32)) >>> (Int32.toUInt32 (8 : Int32) &&& Int32.toUInt32 31)).toInt32) >>> (Int32.toUInt32 (16 : Int32) &&& Int32.toUInt32 31)).toInt32) &&& (63 : Int32)), S)
set_option maxRecDepth 100000 in
set_option maxHeartbeats 400000 in
theorem ct_J6_bitCount_0f7a4 {l : Launch} {D : va_G} {ad : Nat → Nat} {cy : Nat → ClassId} {zz : (Nat → Nat) × (Nat → Nat)} (hinj : ∀ i j, i < 90 → j < 90 → ad i = ad j → i = j) {fu : Nat} (p0 : Int32)  {S : g_St} (z : Int32 × g_St) (h : f_J6_bitCount_0f7a4 fu p0 S = some z) : g_Mi l g_KC 90 D ad cy zz yJ6_bitCount_0f7a4 wsJ6_bitCount_0f7a4 rm_J6_bitCount_0f7a4 [.int (p0)] S z := by
  refine g_ofi hinj (cc := cJ6_bitCount_0f7a4) (maxL := 1) (ret := (some .int)) (lv := [(0, .int (p0))]) (by decide) rfl (Nat.le_of_ble_eq_true rfl) rfl ?_
  intro x X hl hD ha hy hz
  subst hl hD ha hy hz
  unfold f_J6_bitCount_0f7a4 at h
  refine g_iload_n X dJ6_bitCount_0f7a4_0 0 rfl ?_
  refine g_iload_n X dJ6_bitCount_0f7a4_1 0 rfl ?_
  refine g_iconst X (v := 1) dJ6_bitCount_0f7a4_2 (by decide) ?_
  refine g_iushr X dJ6_bitCount_0f7a4_3 ?_
  refine g_ldc_w X w_J6_bitCount_0f7a4_265 dJ6_bitCount_0f7a4_4 ?_
  refine g_iand X dJ6_bitCount_0f7a4_7 ?_
  refine g_isub X dJ6_bitCount_0f7a4_8 ?_
  refine g_istore_n X [(0, _)] dJ6_bitCount_0f7a4_9 (by decide) rfl ?_
  refine g_iload_n X dJ6_bitCount_0f7a4_10 0 rfl ?_
  refine g_ldc_w X w_J6_bitCount_0f7a4_266 dJ6_bitCount_0f7a4_11 ?_
  refine g_iand X dJ6_bitCount_0f7a4_14 ?_
  refine g_iload_n X dJ6_bitCount_0f7a4_15 0 rfl ?_
  refine g_iconst X (v := 2) dJ6_bitCount_0f7a4_16 (by decide) ?_
  refine g_iushr X dJ6_bitCount_0f7a4_17 ?_
  refine g_ldc_w X w_J6_bitCount_0f7a4_266 dJ6_bitCount_0f7a4_18 ?_
  refine g_iand X dJ6_bitCount_0f7a4_21 ?_
  refine g_iadd X dJ6_bitCount_0f7a4_22 ?_
  refine g_istore_n X [(0, _)] dJ6_bitCount_0f7a4_23 (by decide) rfl ?_
  refine g_iload_n X dJ6_bitCount_0f7a4_24 0 rfl ?_
  refine g_iload_n X dJ6_bitCount_0f7a4_25 0 rfl ?_
  refine g_iconst X (v := 4) dJ6_bitCount_0f7a4_26 (by decide) ?_
  refine g_iushr X dJ6_bitCount_0f7a4_27 ?_
  refine g_iadd X dJ6_bitCount_0f7a4_28 ?_
  refine g_ldc_w X w_J6_bitCount_0f7a4_267 dJ6_bitCount_0f7a4_29 ?_
  refine g_iand X dJ6_bitCount_0f7a4_32 ?_
  refine g_istore_n X [(0, _)] dJ6_bitCount_0f7a4_33 (by decide) rfl ?_
  refine g_iload_n X dJ6_bitCount_0f7a4_34 0 rfl ?_
  refine g_iload_n X dJ6_bitCount_0f7a4_35 0 rfl ?_
  refine g_bipush X (v := (8)) dJ6_bitCount_0f7a4_36 (by decide) ?_
  refine g_iushr X dJ6_bitCount_0f7a4_38 ?_
  refine g_iadd X dJ6_bitCount_0f7a4_39 ?_
  refine g_istore_n X [(0, _)] dJ6_bitCount_0f7a4_40 (by decide) rfl ?_
  refine g_iload_n X dJ6_bitCount_0f7a4_41 0 rfl ?_
  refine g_iload_n X dJ6_bitCount_0f7a4_42 0 rfl ?_
  refine g_bipush X (v := (16)) dJ6_bitCount_0f7a4_43 (by decide) ?_
  refine g_iushr X dJ6_bitCount_0f7a4_45 ?_
  refine g_iadd X dJ6_bitCount_0f7a4_46 ?_
  refine g_istore_n X [(0, _)] dJ6_bitCount_0f7a4_47 (by decide) rfl ?_
  refine g_iload_n X dJ6_bitCount_0f7a4_48 0 rfl ?_
  refine g_bipush X (v := (63)) dJ6_bitCount_0f7a4_49 (by decide) ?_
  refine g_iand X dJ6_bitCount_0f7a4_51 ?_
  exact g_iret X h dJ6_bitCount_0f7a4_52
