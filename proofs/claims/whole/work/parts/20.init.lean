theorem df_X0 : ∀ j, j < 3 → defaultValue (tyX0 j) = vp_V (g_zero (match g_kX0 with | .inl o => o.2 | .inr _ => [])) j := by decide +kernel
theorem df_X1 : ∀ j, j < 6 → defaultValue (tyX1 j) = vp_V (g_zero (match g_kX1 with | .inl o => o.2 | .inr _ => [])) j := by decide +kernel
theorem df_X2 : ∀ j, j < 7 → defaultValue (tyX2 j) = vp_V (g_zero (match g_kX2 with | .inl o => o.2 | .inr _ => [])) j := by decide +kernel
theorem df_X3 : ∀ j, j < 3 → defaultValue (tyX3 j) = vp_V (g_zero (match g_kX3 with | .inl o => o.2 | .inr _ => [])) j := by decide +kernel
theorem df_X4 : ∀ j, j < 4 → defaultValue (tyX4 j) = vp_V (g_zero (match g_kX4 with | .inl o => o.2 | .inr _ => [])) j := by decide +kernel
theorem df_X5 : ∀ j, j < 5 → defaultValue (tyX5 j) = vp_V (g_zero (match g_kX5 with | .inl o => o.2 | .inr _ => [])) j := by decide +kernel
theorem df_X6 : ∀ j, j < 3 → defaultValue (tyX6 j) = vp_V (g_zero (match g_kX6 with | .inl o => o.2 | .inr _ => [])) j := by decide +kernel
theorem df_X7 : ∀ j, j < 11 → defaultValue (tyX7 j) = vp_V (g_zero (match g_kX7 with | .inl o => o.2 | .inr _ => [])) j := by decide +kernel
theorem df_X8 : ∀ j, j < 27 → defaultValue (tyX8 j) = vp_V (g_zero (match g_kX8 with | .inl o => o.2 | .inr _ => [])) j := by decide +kernel
abbrev rmn_X0_init : Room := { frames := 1, cells := 0, slots := 0, locals := 12 }
theorem hdn_X0_init : yX0_init.cls ≠ "java/lang/invoke/MethodHandle" ∧ yX0_init.cls ≠ "java/lang/invoke/VarHandle" ∧ (parseMethodDescriptor yX0_init.desc).map (fun d => d.parameters.length) = some 0 := by decide +kernel
theorem w_X0_init_ob : Cond.methodLink RX0 1 objectInit ∈ wsX0_init := by decide +kernel
theorem w_X0_init_obi : Cond.instanceMethod objectInit ∈ wsX0_init := by decide +kernel
theorem w_X0_init_obc : Cond.code objectInit ⟨#[0xb1]⟩ 1 none ∈ wsX0_init := by decide +kernel
def z_X0_init (o N : Nat) (S : g_St) : g_St := S
set_option maxRecDepth 100000 in
set_option maxHeartbeats 1000000 in
theorem cn_X0_init {l : Launch} {K : Nat → g_Kd} {D : va_G} {base : Nat} {cy : Nat → ClassId} {ad : Nat → Nat} (o N : Nat) (S : g_St) (ho : o < N) : g_Mn l K D base cy yX0_init wsX0_init rmn_X0_init [.ref (ad o)] ad N S N (z_X0_init o N S) 0 0 := by
  refine n_of (av := fun ad => [.ref (ad o)]) (lv := fun ad => [(0, .ref (ad o))]) (cc := cX0_init) (maxL := 1) (by decide) rfl rfl (fun _ => Nat.le_of_ble_eq_true rfl) (fun _ => rfl) (fun ad' h => by simp only [h o ho]) ?_
  intro x X hl hD hy
  subst hl hD hy
  refine n_aload_n X dX0_init_0 0 (fun _ => rfl) ?_
  refine n_obj X w_X0_init_ob w_X0_init_obi w_X0_init_obc (by decide) (by decide) dX0_init_1 ?_
  exact n_ret X rfl rfl (by decide) (by decide) dX0_init_4

abbrev rmn_X1_init : Room := { frames := 1, cells := 0, slots := 0, locals := 12 }
theorem hdn_X1_init : yX1_init.cls ≠ "java/lang/invoke/MethodHandle" ∧ yX1_init.cls ≠ "java/lang/invoke/VarHandle" ∧ (parseMethodDescriptor yX1_init.desc).map (fun d => d.parameters.length) = some 0 := by decide +kernel
theorem w_X1_init_ob : Cond.methodLink RX1 3 objectInit ∈ wsX1_init := by decide +kernel
theorem w_X1_init_obi : Cond.instanceMethod objectInit ∈ wsX1_init := by decide +kernel
theorem w_X1_init_obc : Cond.code objectInit ⟨#[0xb1]⟩ 1 none ∈ wsX1_init := by decide +kernel
def z_X1_init (o N : Nat) (S : g_St) : g_St := S
set_option maxRecDepth 100000 in
set_option maxHeartbeats 1000000 in
theorem cn_X1_init {l : Launch} {K : Nat → g_Kd} {D : va_G} {base : Nat} {cy : Nat → ClassId} {ad : Nat → Nat} (o N : Nat) (S : g_St) (ho : o < N) : g_Mn l K D base cy yX1_init wsX1_init rmn_X1_init [.ref (ad o)] ad N S N (z_X1_init o N S) 0 0 := by
  refine n_of (av := fun ad => [.ref (ad o)]) (lv := fun ad => [(0, .ref (ad o))]) (cc := cX1_init) (maxL := 1) (by decide) rfl rfl (fun _ => Nat.le_of_ble_eq_true rfl) (fun _ => rfl) (fun ad' h => by simp only [h o ho]) ?_
  intro x X hl hD hy
  subst hl hD hy
  refine n_aload_n X dX1_init_0 0 (fun _ => rfl) ?_
  refine n_obj X w_X1_init_ob w_X1_init_obi w_X1_init_obc (by decide) (by decide) dX1_init_1 ?_
  exact n_ret X rfl rfl (by decide) (by decide) dX1_init_4

abbrev rmn_X3_init : Room := { frames := 1, cells := 2, slots := 12, locals := 12 }
theorem hdn_X3_init : yX3_init.cls ≠ "java/lang/invoke/MethodHandle" ∧ yX3_init.cls ≠ "java/lang/invoke/VarHandle" ∧ (parseMethodDescriptor yX3_init.desc).map (fun d => d.parameters.length) = some 0 := by decide +kernel
theorem w_X3_init_ob : Cond.methodLink RX3 3 objectInit ∈ wsX3_init := by decide +kernel
theorem w_X3_init_obi : Cond.instanceMethod objectInit ∈ wsX3_init := by decide +kernel
theorem w_X3_init_obc : Cond.code objectInit ⟨#[0xb1]⟩ 1 none ∈ wsX3_init := by decide +kernel
theorem w_X3_init_acint : Cond.arrayClass .int ∈ wsX3_init := by decide +kernel
theorem w_X3_init_9 : Cond.fieldLink RX3 9 "TokenDoors$Seen" "inTick" "[I" ∈ wsX3_init := by decide +kernel
theorem w_X3_init_inX3 : ∀ w ∈ wsX30, w ∈ wsX3_init := by decide +kernel
theorem w_X3_init_15 : Cond.fieldLink RX3 15 "TokenDoors$Seen" "let" "[I" ∈ wsX3_init := by decide +kernel
def t0_X3_init (o N : Nat) (S : g_St) : g_St := (S.1, g_u S.2 o 0 (some (N + 0)))
def t1_X3_init (o N : Nat) (S : g_St) : g_St := (t0_X3_init o N S)
def z_X3_init (o N : Nat) (S : g_St) : g_St := ((t0_X3_init o N S).1, g_u (t1_X3_init o N S).2 o 1 (some (N + 1)))
set_option maxRecDepth 100000 in
set_option maxHeartbeats 1000000 in
theorem cn_X3_init {l : Launch} {K : Nat → g_Kd} {D : va_G} {base : Nat} {cy : Nat → ClassId} {ad : Nat → Nat} (o N : Nat) (S : g_St) (ho : o < N) (hK_o : K o = g_kX3) (hK_0 : K (N + 0) = (.inr (0, 6, false))) (hK_1 : K (N + 1) = (.inr (0, 6, false))) : g_Mn l K D base cy yX3_init wsX3_init rmn_X3_init [.ref (ad o)] ad N S (N + 2) (z_X3_init o N S) 2 12 := by
  refine n_of (av := fun ad => [.ref (ad o)]) (lv := fun ad => [(0, .ref (ad o))]) (cc := cX3_init) (maxL := 1) (by decide) rfl rfl (fun _ => Nat.le_of_ble_eq_true rfl) (fun _ => rfl) (fun ad' h => by simp only [h o ho]) ?_
  intro x X hl hD hy
  subst hl hD hy
  refine n_aload_n X dX3_init_0 0 (fun _ => rfl) ?_
  refine n_obj X w_X3_init_ob w_X3_init_obi w_X3_init_obc (by decide) (by decide) dX3_init_1 ?_
  refine n_aload_n X dX3_init_4 0 (fun _ => rfl) ?_
  refine n_bipush X (v := 6) dX3_init_5 (by decide) ?_
  refine n_newa X .int 0 (ty := .int) rfl rfl (fun _ _ h => h) rfl w_X3_init_acint hK_0 (by decide) (by decide) (by decide) (by decide) (by decide) (by omega) (fun ad q => by have e0 : va_up ad N q o = ad o := va_up_ne _ _ (by omega); simp only [e0]) (fun ad q => by have e0 : va_up ad N q o = ad o := va_up_ne _ _ (by omega); simp only [e0]) dX3_init_7 ?_
  refine n_putr X g_cX3 w_X3_init_inX3 0 (by decide) w_X3_init_9 ⟨by omega, hK_o⟩ rfl rfl rfl (t := .array .int) (by decide +kernel) (fun _ => ⟨rfl, rfl⟩) (by omega) dX3_init_9 ?_
  refine n_aload_n X dX3_init_12 0 (fun _ => rfl) ?_
  refine n_bipush X (v := 6) dX3_init_13 (by decide) ?_
  refine n_newa X .int 0 (ty := .int) rfl rfl (fun _ _ h => h) rfl w_X3_init_acint hK_1 (by decide) (by decide) (by decide) (by decide) (by decide) (by omega) (fun ad q => by have e0 : va_up ad (N + 1) q o = ad o := va_up_ne _ _ (by omega); simp only [e0]) (fun ad q => by have e0 : va_up ad (N + 1) q o = ad o := va_up_ne _ _ (by omega); simp only [e0]) dX3_init_15 ?_
  refine n_putr X g_cX3 w_X3_init_inX3 1 (by decide) w_X3_init_15 ⟨by omega, hK_o⟩ rfl rfl rfl (t := .array .int) (by decide +kernel) (fun _ => ⟨rfl, rfl⟩) (by omega) dX3_init_17 ?_
  exact n_ret X rfl rfl (by decide) (by decide) dX3_init_20

abbrev rmn_X4_init : Room := { frames := 1, cells := 1, slots := 40, locals := 12 }
theorem hdn_X4_init : yX4_init.cls ≠ "java/lang/invoke/MethodHandle" ∧ yX4_init.cls ≠ "java/lang/invoke/VarHandle" ∧ (parseMethodDescriptor yX4_init.desc).map (fun d => d.parameters.length) = some 0 := by decide +kernel
theorem w_X4_init_ob : Cond.methodLink RX4 3 objectInit ∈ wsX4_init := by decide +kernel
theorem w_X4_init_obi : Cond.instanceMethod objectInit ∈ wsX4_init := by decide +kernel
theorem w_X4_init_obc : Cond.code objectInit ⟨#[0xb1]⟩ 1 none ∈ wsX4_init := by decide +kernel
theorem w_X4_init_acint : Cond.arrayClass .int ∈ wsX4_init := by decide +kernel
theorem w_X4_init_9 : Cond.fieldLink RX4 9 "TokenDoors$Sheet" "cells" "[I" ∈ wsX4_init := by decide +kernel
theorem w_X4_init_inX4 : ∀ w ∈ wsX40, w ∈ wsX4_init := by decide +kernel
def z_X4_init (o N : Nat) (S : g_St) : g_St := (S.1, g_u S.2 o 0 (some (N + 0)))
set_option maxRecDepth 100000 in
set_option maxHeartbeats 1000000 in
theorem cn_X4_init {l : Launch} {K : Nat → g_Kd} {D : va_G} {base : Nat} {cy : Nat → ClassId} {ad : Nat → Nat} (o N : Nat) (S : g_St) (ho : o < N) (hK_o : K o = g_kX4) (hK_0 : K (N + 0) = (.inr (0, 40, false))) : g_Mn l K D base cy yX4_init wsX4_init rmn_X4_init [.ref (ad o)] ad N S (N + 1) (z_X4_init o N S) 1 40 := by
  refine n_of (av := fun ad => [.ref (ad o)]) (lv := fun ad => [(0, .ref (ad o))]) (cc := cX4_init) (maxL := 1) (by decide) rfl rfl (fun _ => Nat.le_of_ble_eq_true rfl) (fun _ => rfl) (fun ad' h => by simp only [h o ho]) ?_
  intro x X hl hD hy
  subst hl hD hy
  refine n_aload_n X dX4_init_0 0 (fun _ => rfl) ?_
  refine n_obj X w_X4_init_ob w_X4_init_obi w_X4_init_obc (by decide) (by decide) dX4_init_1 ?_
  refine n_aload_n X dX4_init_4 0 (fun _ => rfl) ?_
  refine n_bipush X (v := 40) dX4_init_5 (by decide) ?_
  refine n_newa X .int 0 (ty := .int) rfl rfl (fun _ _ h => h) rfl w_X4_init_acint hK_0 (by decide) (by decide) (by decide) (by decide) (by decide) (by omega) (fun ad q => by have e0 : va_up ad N q o = ad o := va_up_ne _ _ (by omega); simp only [e0]) (fun ad q => by have e0 : va_up ad N q o = ad o := va_up_ne _ _ (by omega); simp only [e0]) dX4_init_7 ?_
  refine n_putr X g_cX4 w_X4_init_inX4 0 (by decide) w_X4_init_9 ⟨by omega, hK_o⟩ rfl rfl rfl (t := .array .int) (by decide +kernel) (fun _ => ⟨rfl, rfl⟩) (by omega) dX4_init_9 ?_
  exact n_ret X rfl rfl (by decide) (by decide) dX4_init_12

abbrev rmn_X5_init : Room := { frames := 1, cells := 1, slots := 160, locals := 12 }
theorem hdn_X5_init : yX5_init.cls ≠ "java/lang/invoke/MethodHandle" ∧ yX5_init.cls ≠ "java/lang/invoke/VarHandle" ∧ (parseMethodDescriptor yX5_init.desc).map (fun d => d.parameters.length) = some 0 := by decide +kernel
theorem w_X5_init_ob : Cond.methodLink RX5 3 objectInit ∈ wsX5_init := by decide +kernel
theorem w_X5_init_obi : Cond.instanceMethod objectInit ∈ wsX5_init := by decide +kernel
theorem w_X5_init_obc : Cond.code objectInit ⟨#[0xb1]⟩ 1 none ∈ wsX5_init := by decide +kernel
theorem w_X5_init_acbyte : Cond.arrayClass .byte ∈ wsX5_init := by decide +kernel
theorem w_X5_init_9 : Cond.fieldLink RX5 9 "TokenDoors$Tape" "bytes" "[B" ∈ wsX5_init := by decide +kernel
theorem w_X5_init_inX5 : ∀ w ∈ wsX50, w ∈ wsX5_init := by decide +kernel
def z_X5_init (o N : Nat) (S : g_St) : g_St := (S.1, g_u S.2 o 0 (some (N + 0)))
set_option maxRecDepth 100000 in
set_option maxHeartbeats 1000000 in
theorem cn_X5_init {l : Launch} {K : Nat → g_Kd} {D : va_G} {base : Nat} {cy : Nat → ClassId} {ad : Nat → Nat} (o N : Nat) (S : g_St) (ho : o < N) (hK_o : K o = g_kX5) (hK_0 : K (N + 0) = (.inr (1, 160, false))) : g_Mn l K D base cy yX5_init wsX5_init rmn_X5_init [.ref (ad o)] ad N S (N + 1) (z_X5_init o N S) 1 160 := by
  refine n_of (av := fun ad => [.ref (ad o)]) (lv := fun ad => [(0, .ref (ad o))]) (cc := cX5_init) (maxL := 1) (by decide) rfl rfl (fun _ => Nat.le_of_ble_eq_true rfl) (fun _ => rfl) (fun ad' h => by simp only [h o ho]) ?_
  intro x X hl hD hy
  subst hl hD hy
  refine n_aload_n X dX5_init_0 0 (fun _ => rfl) ?_
  refine n_obj X w_X5_init_ob w_X5_init_obi w_X5_init_obc (by decide) (by decide) dX5_init_1 ?_
  refine n_aload_n X dX5_init_4 0 (fun _ => rfl) ?_
  refine n_sipush X (v := 160) dX5_init_5 (by decide) ?_
  refine n_newa X .byte 1 (ty := .byte) rfl rfl (fun _ _ h => h) rfl w_X5_init_acbyte hK_0 (by decide) (by decide) (by decide) (by decide) (by decide) (by omega) (fun ad q => by have e0 : va_up ad N q o = ad o := va_up_ne _ _ (by omega); simp only [e0]) (fun ad q => by have e0 : va_up ad N q o = ad o := va_up_ne _ _ (by omega); simp only [e0]) dX5_init_8 ?_
  refine n_putr X g_cX5 w_X5_init_inX5 0 (by decide) w_X5_init_9 ⟨by omega, hK_o⟩ rfl rfl rfl (t := .array .byte) (by decide +kernel) (fun _ => ⟨rfl, rfl⟩) (by omega) dX5_init_10 ?_
  exact n_ret X rfl rfl (by decide) (by decide) dX5_init_13

abbrev rmn_X6_init : Room := { frames := 1, cells := 0, slots := 0, locals := 12 }
theorem hdn_X6_init : yX6_init.cls ≠ "java/lang/invoke/MethodHandle" ∧ yX6_init.cls ≠ "java/lang/invoke/VarHandle" ∧ (parseMethodDescriptor yX6_init.desc).map (fun d => d.parameters.length) = some 2 := by decide +kernel
theorem w_X6_init_ob : Cond.methodLink RX6 3 objectInit ∈ wsX6_init := by decide +kernel
theorem w_X6_init_obi : Cond.instanceMethod objectInit ∈ wsX6_init := by decide +kernel
theorem w_X6_init_obc : Cond.code objectInit ⟨#[0xb1]⟩ 1 none ∈ wsX6_init := by decide +kernel
theorem w_X6_init_9 : Cond.fieldLink RX6 9 "TokenDoors$Teller" "tape" "LTokenDoors$Tape;" ∈ wsX6_init := by decide +kernel
theorem w_X6_init_inX6 : ∀ w ∈ wsX60, w ∈ wsX6_init := by decide +kernel
theorem w_X6_init_15 : Cond.fieldLink RX6 15 "TokenDoors$Teller" "draft" "LTokenDoors$Hall;" ∈ wsX6_init := by decide +kernel
def t0_X6_init (o N : Nat) (S : g_St) (p0 : Nat) (p1 : Nat) : g_St := (S.1, g_u S.2 o 0 (some p0))
def t1_X6_init (o N : Nat) (S : g_St) (p0 : Nat) (p1 : Nat) : g_St := (t0_X6_init o N S p0 p1)
def z_X6_init (o N : Nat) (S : g_St) (p0 : Nat) (p1 : Nat) : g_St := ((t0_X6_init o N S p0 p1).1, g_u (t1_X6_init o N S p0 p1).2 o 1 (some p1))
set_option maxRecDepth 100000 in
set_option maxHeartbeats 1000000 in
theorem cn_X6_init {l : Launch} {K : Nat → g_Kd} {D : va_G} {base : Nat} {cy : Nat → ClassId} {ad : Nat → Nat} (o N : Nat) (S : g_St) (ho : o < N) (hK_o : K o = g_kX6) (p0 : Nat) (hp0 : p0 < N) (p1 : Nat) (hp1 : p1 < N) : g_Mn l K D base cy yX6_init wsX6_init rmn_X6_init [.ref (ad o), .ref (ad p0), .ref (ad p1)] ad N S N (z_X6_init o N S p0 p1) 0 0 := by
  refine n_of (av := fun ad => [.ref (ad o), .ref (ad p0), .ref (ad p1)]) (lv := fun ad => [(0, .ref (ad o)), (1, .ref (ad p0)), (2, .ref (ad p1))]) (cc := cX6_init) (maxL := 3) (by decide) rfl rfl (fun _ => Nat.le_of_ble_eq_true rfl) (fun _ => rfl) (fun ad' h => by simp only [h o ho, h p0 hp0, h p1 hp1]) ?_
  intro x X hl hD hy
  subst hl hD hy
  refine n_aload_n X dX6_init_0 0 (fun _ => rfl) ?_
  refine n_obj X w_X6_init_ob w_X6_init_obi w_X6_init_obc (by decide) (by decide) dX6_init_1 ?_
  refine n_aload_n X dX6_init_4 0 (fun _ => rfl) ?_
  refine n_aload_n X dX6_init_5 1 (fun _ => rfl) ?_
  refine n_putr X g_cX6 w_X6_init_inX6 0 (by decide) w_X6_init_9 ⟨by omega, hK_o⟩ rfl rfl rfl (t := .object "TokenDoors$Tape") (by decide +kernel) (fun _ => ⟨rfl, rfl⟩) (by omega) dX6_init_6 ?_
  refine n_aload_n X dX6_init_9 0 (fun _ => rfl) ?_
  refine n_aload_n X dX6_init_10 2 (fun _ => rfl) ?_
  refine n_putr X g_cX6 w_X6_init_inX6 1 (by decide) w_X6_init_15 ⟨by omega, hK_o⟩ rfl rfl rfl (t := .object "TokenDoors$Hall") (by decide +kernel) (fun _ => ⟨rfl, rfl⟩) (by omega) dX6_init_11 ?_
  exact n_ret X rfl rfl (by decide) (by decide) dX6_init_14

abbrev rmn_X2_init : Room := { frames := 2, cells := 14, slots := 60, locals := 32 }
theorem hdn_X2_init : yX2_init.cls ≠ "java/lang/invoke/MethodHandle" ∧ yX2_init.cls ≠ "java/lang/invoke/VarHandle" ∧ (parseMethodDescriptor yX2_init.desc).map (fun d => d.parameters.length) = some 0 := by decide +kernel
theorem w_X2_init_ob : Cond.methodLink RX2 3 objectInit ∈ wsX2_init := by decide +kernel
theorem w_X2_init_obi : Cond.instanceMethod objectInit ∈ wsX2_init := by decide +kernel
theorem w_X2_init_obc : Cond.code objectInit ⟨#[0xb1]⟩ 1 none ∈ wsX2_init := by decide +kernel
theorem w_X2_init_cl9 : Cond.classLink RX2 9 RX1 ∈ wsX2_init := by decide +kernel
theorem w_X2_init_11 : Cond.fieldLink RX2 11 "TokenDoors$Hall" "doors" "[LTokenDoors$Door;" ∈ wsX2_init := by decide +kernel
theorem w_X2_init_inX2 : ∀ w ∈ wsX20, w ∈ wsX2_init := by decide +kernel
theorem w_X2_init_cl17 : Cond.classLink RX2 17 RX0 ∈ wsX2_init := by decide +kernel
theorem w_X2_init_19 : Cond.fieldLink RX2 19 "TokenDoors$Hall" "crowds" "[LTokenDoors$Crowd;" ∈ wsX2_init := by decide +kernel
theorem w_X2_init_isX1 : Cond.instantiable RX1 6 ∈ wsX2_init := by decide +kernel
theorem w_X2_init_itX1 : Cond.initialized RX1 ∈ wsX2_init := by decide +kernel
theorem w_X2_init_inX1 : ∀ w ∈ wsX10, w ∈ wsX2_init := by decide +kernel
theorem w_X2_init_ml23 : Cond.methodLink RX2 23 yX1_init ∈ wsX2_init := by decide +kernel
theorem w_X2_init_imX1_init : Cond.instanceMethod yX1_init ∈ wsX2_init := by decide +kernel
theorem w_X2_init_isX0 : Cond.instantiable RX0 3 ∈ wsX2_init := by decide +kernel
theorem w_X2_init_itX0 : Cond.initialized RX0 ∈ wsX2_init := by decide +kernel
theorem w_X2_init_inX0 : ∀ w ∈ wsX00, w ∈ wsX2_init := by decide +kernel
theorem w_X2_init_ml24 : Cond.methodLink RX2 24 yX0_init ∈ wsX2_init := by decide +kernel
theorem w_X2_init_imX0_init : Cond.instanceMethod yX0_init ∈ wsX2_init := by decide +kernel
def t0_X2_init (o N : Nat) (S : g_St) : g_St := (S.1, g_u S.2 o 0 (some (N + 0)))
def t1_X2_init (o N : Nat) (S : g_St) : g_St := (t0_X2_init o N S)
def t2_X2_init (o N : Nat) (S : g_St) : g_St := ((t0_X2_init o N S).1, g_u (t1_X2_init o N S).2 o 1 (some (N + 1)))
def t3_X2_init (o N : Nat) (S : g_St) : g_St := (z_X1_init (N + 2) (N + 3) (t2_X2_init o N S))
def t4_X2_init (o N : Nat) (S : g_St) : g_St := (t3_X2_init o N S)
def t5_X2_init (o N : Nat) (S : g_St) : g_St := ((t3_X2_init o N S).1, g_u (t4_X2_init o N S).2 (N + 0) (0 : Int32).toNatClampNeg (some (N + 2)))
def t6_X2_init (o N : Nat) (S : g_St) : g_St := (z_X1_init (N + 3) (N + 4) (t5_X2_init o N S))
def t7_X2_init (o N : Nat) (S : g_St) : g_St := (t6_X2_init o N S)
def t8_X2_init (o N : Nat) (S : g_St) : g_St := ((t6_X2_init o N S).1, g_u (t7_X2_init o N S).2 (N + 0) (1 : Int32).toNatClampNeg (some (N + 3)))
def t9_X2_init (o N : Nat) (S : g_St) : g_St := (z_X1_init (N + 4) (N + 5) (t8_X2_init o N S))
def t10_X2_init (o N : Nat) (S : g_St) : g_St := (t9_X2_init o N S)
def t11_X2_init (o N : Nat) (S : g_St) : g_St := ((t9_X2_init o N S).1, g_u (t10_X2_init o N S).2 (N + 0) (2 : Int32).toNatClampNeg (some (N + 4)))
def t12_X2_init (o N : Nat) (S : g_St) : g_St := (z_X1_init (N + 5) (N + 6) (t11_X2_init o N S))
def t13_X2_init (o N : Nat) (S : g_St) : g_St := (t12_X2_init o N S)
def t14_X2_init (o N : Nat) (S : g_St) : g_St := ((t12_X2_init o N S).1, g_u (t13_X2_init o N S).2 (N + 0) (3 : Int32).toNatClampNeg (some (N + 5)))
def t15_X2_init (o N : Nat) (S : g_St) : g_St := (z_X0_init (N + 6) (N + 7) (t14_X2_init o N S))
def t16_X2_init (o N : Nat) (S : g_St) : g_St := (t15_X2_init o N S)
def t17_X2_init (o N : Nat) (S : g_St) : g_St := ((t15_X2_init o N S).1, g_u (t16_X2_init o N S).2 (N + 1) (0 : Int32).toNatClampNeg (some (N + 6)))
def t18_X2_init (o N : Nat) (S : g_St) : g_St := (z_X0_init (N + 7) (N + 8) (t17_X2_init o N S))
def t19_X2_init (o N : Nat) (S : g_St) : g_St := (t18_X2_init o N S)
def t20_X2_init (o N : Nat) (S : g_St) : g_St := ((t18_X2_init o N S).1, g_u (t19_X2_init o N S).2 (N + 1) (1 : Int32).toNatClampNeg (some (N + 7)))
def t21_X2_init (o N : Nat) (S : g_St) : g_St := (z_X0_init (N + 8) (N + 9) (t20_X2_init o N S))
def t22_X2_init (o N : Nat) (S : g_St) : g_St := (t21_X2_init o N S)
def t23_X2_init (o N : Nat) (S : g_St) : g_St := ((t21_X2_init o N S).1, g_u (t22_X2_init o N S).2 (N + 1) (2 : Int32).toNatClampNeg (some (N + 8)))
def t24_X2_init (o N : Nat) (S : g_St) : g_St := (z_X0_init (N + 9) (N + 10) (t23_X2_init o N S))
def t25_X2_init (o N : Nat) (S : g_St) : g_St := (t24_X2_init o N S)
def t26_X2_init (o N : Nat) (S : g_St) : g_St := ((t24_X2_init o N S).1, g_u (t25_X2_init o N S).2 (N + 1) (3 : Int32).toNatClampNeg (some (N + 9)))
def t27_X2_init (o N : Nat) (S : g_St) : g_St := (z_X0_init (N + 10) (N + 11) (t26_X2_init o N S))
def t28_X2_init (o N : Nat) (S : g_St) : g_St := (t27_X2_init o N S)
def t29_X2_init (o N : Nat) (S : g_St) : g_St := ((t27_X2_init o N S).1, g_u (t28_X2_init o N S).2 (N + 1) (4 : Int32).toNatClampNeg (some (N + 10)))
def t30_X2_init (o N : Nat) (S : g_St) : g_St := (z_X0_init (N + 11) (N + 12) (t29_X2_init o N S))
def t31_X2_init (o N : Nat) (S : g_St) : g_St := (t30_X2_init o N S)
def t32_X2_init (o N : Nat) (S : g_St) : g_St := ((t30_X2_init o N S).1, g_u (t31_X2_init o N S).2 (N + 1) (5 : Int32).toNatClampNeg (some (N + 11)))
def t33_X2_init (o N : Nat) (S : g_St) : g_St := (z_X0_init (N + 12) (N + 13) (t32_X2_init o N S))
def t34_X2_init (o N : Nat) (S : g_St) : g_St := (t33_X2_init o N S)
def t35_X2_init (o N : Nat) (S : g_St) : g_St := ((t33_X2_init o N S).1, g_u (t34_X2_init o N S).2 (N + 1) (6 : Int32).toNatClampNeg (some (N + 12)))
def t36_X2_init (o N : Nat) (S : g_St) : g_St := (z_X0_init (N + 13) (N + 14) (t35_X2_init o N S))
def t37_X2_init (o N : Nat) (S : g_St) : g_St := (t36_X2_init o N S)
def z_X2_init (o N : Nat) (S : g_St) : g_St := ((t36_X2_init o N S).1, g_u (t37_X2_init o N S).2 (N + 1) (7 : Int32).toNatClampNeg (some (N + 13)))
set_option maxRecDepth 100000 in
set_option maxHeartbeats 1000000 in
theorem cn_X2_init {l : Launch} {K : Nat → g_Kd} {D : va_G} {base : Nat} {cy : Nat → ClassId} {ad : Nat → Nat} (o N : Nat) (S : g_St) (ho : o < N) (hK_o : K o = g_kX2) (hK_0 : K (N + 0) = (.inr (3, 4, true))) (hK_1 : K (N + 1) = (.inr (4, 8, true))) (hK_2 : K (N + 2) = g_kX1) (hK_3 : K (N + 3) = g_kX1) (hK_4 : K (N + 4) = g_kX1) (hK_5 : K (N + 5) = g_kX1) (hK_6 : K (N + 6) = g_kX0) (hK_7 : K (N + 7) = g_kX0) (hK_8 : K (N + 8) = g_kX0) (hK_9 : K (N + 9) = g_kX0) (hK_10 : K (N + 10) = g_kX0) (hK_11 : K (N + 11) = g_kX0) (hK_12 : K (N + 12) = g_kX0) (hK_13 : K (N + 13) = g_kX0) : g_Mn l K D base cy yX2_init wsX2_init rmn_X2_init [.ref (ad o)] ad N S (N + 14) (z_X2_init o N S) 14 60 := by
  refine n_of (av := fun ad => [.ref (ad o)]) (lv := fun ad => [(0, .ref (ad o))]) (cc := cX2_init) (maxL := 2) (by decide) rfl rfl (fun _ => Nat.le_of_ble_eq_true rfl) (fun _ => rfl) (fun ad' h => by simp only [h o ho]) ?_
  intro x X hl hD hy
  subst hl hD hy
  refine n_aload_n X dX2_init_0 0 (fun _ => rfl) ?_
  refine n_obj X w_X2_init_ob w_X2_init_obi w_X2_init_obc (by decide) (by decide) dX2_init_1 ?_
  refine n_aload_n X dX2_init_4 0 (fun _ => rfl) ?_
  refine n_iconst X (v := 4) dX2_init_5 (by decide) ?_
  refine n_newq X 3 rfl w_X2_init_cl9 X.2.2.2.2.2.2.2.2.2.2.2.1 hK_0 (by decide) (by decide) (by decide) (by decide) (by decide) (by omega) (fun ad q => by have e0 : va_up ad N q o = ad o := va_up_ne _ _ (by omega); simp only [e0]) (fun ad q => by have e0 : va_up ad N q o = ad o := va_up_ne _ _ (by omega); simp only [e0]) dX2_init_6 ?_
  refine n_putr X g_cX2 w_X2_init_inX2 0 (by decide) w_X2_init_11 ⟨by omega, hK_o⟩ rfl rfl rfl (t := .array (.object "TokenDoors$Door")) (by decide +kernel) (fun _ => ⟨rfl, rfl⟩) (by omega) dX2_init_9 ?_
  refine n_aload_n X dX2_init_12 0 (fun _ => rfl) ?_
  refine n_bipush X (v := 8) dX2_init_13 (by decide) ?_
  refine n_newq X 4 rfl w_X2_init_cl17 X.2.2.2.2.2.2.2.2.2.2.2.2.1 hK_1 (by decide) (by decide) (by decide) (by decide) (by decide) (by omega) (fun ad q => by have e0 : va_up ad (N + 1) q o = ad o := va_up_ne _ _ (by omega); simp only [e0]) (fun ad q => by have e0 : va_up ad (N + 1) q o = ad o := va_up_ne _ _ (by omega); simp only [e0]) dX2_init_15 ?_
  refine n_putr X g_cX2 w_X2_init_inX2 1 (by decide) w_X2_init_19 ⟨by omega, hK_o⟩ rfl rfl rfl (t := .array (.object "TokenDoors$Crowd")) (by decide +kernel) (fun _ => ⟨rfl, rfl⟩) (by omega) dX2_init_18 ?_
  refine n_iconst X (v := 0) dX2_init_21 (by decide) ?_
  refine n_istore_n X (fun ad => [(1, .int 0), (0, .ref (ad o))]) dX2_init_22 (by decide) (fun _ => rfl) ?_
  refine n_iload_n X dX2_init_23 0 (fun _ => rfl) ?_
  refine n_iconst X (v := 4) dX2_init_24 (by decide) ?_
  refine n_ge_f X 47 dX2_init_25 (by decide) (by decide) ?_
  refine n_aload_n X dX2_init_28 1 (fun _ => rfl) ?_
  refine n_getr X g_cX2 w_X2_init_inX2 0 (by decide) w_X2_init_11 (a := (N + 0)) ⟨by omega, hK_o⟩ rfl (by simp [g_u, z_X1_init, z_X0_init, show ∀ k, ¬ o = N + k from fun k => by omega, show ¬ o = N by omega]) dX2_init_29 ?_
  refine n_iload_n X dX2_init_32 0 (fun _ => rfl) ?_
  refine n_new X g_cX1 w_X2_init_inX1 w_X2_init_cl9 w_X2_init_isX1 w_X2_init_itX1 hK_2 df_X1 (by decide) (by decide) (by omega) (fun ad q => by have e0 : va_up ad (N + 2) q o = ad o := va_up_ne _ _ (by omega); simp only [e0]) (fun ad q => by have e0 : va_up ad (N + 2) q (N + 0) = ad (N + 0) := va_up_ne _ _ (by omega); simp only [e0]) dX2_init_33 ?_
  refine n_dupr X dX2_init_36 ?_
  refine n_call X (fun ad => []) (fun _ => rfl) (cwI 0 X.2.2.2.2.1 gX2_init_X1_init rfl rfl rfl (X.2.2.2.2.1 _ w_X2_init_itX1) (X.2.2.2.2.1 _ w_X2_init_ml23) (X.2.2.2.2.1 _ w_X2_init_imX1_init) rfl hdn_X1_init ⟨Nat.le_of_ble_eq_true rfl, Nat.le_of_ble_eq_true rfl⟩) (fun _ => Nat.le_of_ble_eq_true rfl) (by decide) (by decide) (by omega) (fun ad ad' h => by simp only [h o (by omega)]) (fun ad ad' h => by simp only [h (N + 0) (by omega), h (N + 2) (by omega)]) dX2_init_37 (fun ad => cn_X1_init (N + 2) _ _ (by omega)) ?_
  refine n_aast X (n := 4) 3 g_cX1 rfl ⟨by omega, hK_0⟩ ⟨by omega, hK_2⟩ (show ¬ (_ ∨ _) by decide) dX2_init_40 ?_
  refine n_iinc X (fun ad => [(1, .int 1), (0, .ref (ad o))]) (v := 1) dX2_init_41 0 (fun _ => rfl) (by decide) (by decide) (fun _ => rfl) ?_
  refine n_goto X 23 dX2_init_44 (by decide) ?_
  refine n_iload_n X dX2_init_23 0 (fun _ => rfl) ?_
  refine n_iconst X (v := 4) dX2_init_24 (by decide) ?_
  refine n_ge_f X 47 dX2_init_25 (by decide) (by decide) ?_
  refine n_aload_n X dX2_init_28 1 (fun _ => rfl) ?_
  refine n_getr X g_cX2 w_X2_init_inX2 0 (by decide) w_X2_init_11 (a := (N + 0)) ⟨by omega, hK_o⟩ rfl (by simp [g_u, z_X1_init, z_X0_init, show ∀ k, ¬ o = N + k from fun k => by omega, show ¬ o = N by omega]) dX2_init_29 ?_
  refine n_iload_n X dX2_init_32 0 (fun _ => rfl) ?_
  refine n_new X g_cX1 w_X2_init_inX1 w_X2_init_cl9 w_X2_init_isX1 w_X2_init_itX1 hK_3 df_X1 (by decide) (by decide) (by omega) (fun ad q => by have e0 : va_up ad (N + 3) q o = ad o := va_up_ne _ _ (by omega); simp only [e0]) (fun ad q => by have e0 : va_up ad (N + 3) q (N + 0) = ad (N + 0) := va_up_ne _ _ (by omega); simp only [e0]) dX2_init_33 ?_
  refine n_dupr X dX2_init_36 ?_
  refine n_call X (fun ad => []) (fun _ => rfl) (cwI 0 X.2.2.2.2.1 gX2_init_X1_init rfl rfl rfl (X.2.2.2.2.1 _ w_X2_init_itX1) (X.2.2.2.2.1 _ w_X2_init_ml23) (X.2.2.2.2.1 _ w_X2_init_imX1_init) rfl hdn_X1_init ⟨Nat.le_of_ble_eq_true rfl, Nat.le_of_ble_eq_true rfl⟩) (fun _ => Nat.le_of_ble_eq_true rfl) (by decide) (by decide) (by omega) (fun ad ad' h => by simp only [h o (by omega)]) (fun ad ad' h => by simp only [h (N + 0) (by omega), h (N + 3) (by omega)]) dX2_init_37 (fun ad => cn_X1_init (N + 3) _ _ (by omega)) ?_
  refine n_aast X (n := 4) 3 g_cX1 rfl ⟨by omega, hK_0⟩ ⟨by omega, hK_3⟩ (show ¬ (_ ∨ _) by decide) dX2_init_40 ?_
  refine n_iinc X (fun ad => [(1, .int 2), (0, .ref (ad o))]) (v := 2) dX2_init_41 0 (fun _ => rfl) (by decide) (by decide) (fun _ => rfl) ?_
  refine n_goto X 23 dX2_init_44 (by decide) ?_
  refine n_iload_n X dX2_init_23 0 (fun _ => rfl) ?_
  refine n_iconst X (v := 4) dX2_init_24 (by decide) ?_
  refine n_ge_f X 47 dX2_init_25 (by decide) (by decide) ?_
  refine n_aload_n X dX2_init_28 1 (fun _ => rfl) ?_
  refine n_getr X g_cX2 w_X2_init_inX2 0 (by decide) w_X2_init_11 (a := (N + 0)) ⟨by omega, hK_o⟩ rfl (by simp [g_u, z_X1_init, z_X0_init, show ∀ k, ¬ o = N + k from fun k => by omega, show ¬ o = N by omega]) dX2_init_29 ?_
  refine n_iload_n X dX2_init_32 0 (fun _ => rfl) ?_
  refine n_new X g_cX1 w_X2_init_inX1 w_X2_init_cl9 w_X2_init_isX1 w_X2_init_itX1 hK_4 df_X1 (by decide) (by decide) (by omega) (fun ad q => by have e0 : va_up ad (N + 4) q o = ad o := va_up_ne _ _ (by omega); simp only [e0]) (fun ad q => by have e0 : va_up ad (N + 4) q (N + 0) = ad (N + 0) := va_up_ne _ _ (by omega); simp only [e0]) dX2_init_33 ?_
  refine n_dupr X dX2_init_36 ?_
  refine n_call X (fun ad => []) (fun _ => rfl) (cwI 0 X.2.2.2.2.1 gX2_init_X1_init rfl rfl rfl (X.2.2.2.2.1 _ w_X2_init_itX1) (X.2.2.2.2.1 _ w_X2_init_ml23) (X.2.2.2.2.1 _ w_X2_init_imX1_init) rfl hdn_X1_init ⟨Nat.le_of_ble_eq_true rfl, Nat.le_of_ble_eq_true rfl⟩) (fun _ => Nat.le_of_ble_eq_true rfl) (by decide) (by decide) (by omega) (fun ad ad' h => by simp only [h o (by omega)]) (fun ad ad' h => by simp only [h (N + 0) (by omega), h (N + 4) (by omega)]) dX2_init_37 (fun ad => cn_X1_init (N + 4) _ _ (by omega)) ?_
  refine n_aast X (n := 4) 3 g_cX1 rfl ⟨by omega, hK_0⟩ ⟨by omega, hK_4⟩ (show ¬ (_ ∨ _) by decide) dX2_init_40 ?_
  refine n_iinc X (fun ad => [(1, .int 3), (0, .ref (ad o))]) (v := 3) dX2_init_41 0 (fun _ => rfl) (by decide) (by decide) (fun _ => rfl) ?_
  refine n_goto X 23 dX2_init_44 (by decide) ?_
  refine n_iload_n X dX2_init_23 0 (fun _ => rfl) ?_
  refine n_iconst X (v := 4) dX2_init_24 (by decide) ?_
  refine n_ge_f X 47 dX2_init_25 (by decide) (by decide) ?_
  refine n_aload_n X dX2_init_28 1 (fun _ => rfl) ?_
  refine n_getr X g_cX2 w_X2_init_inX2 0 (by decide) w_X2_init_11 (a := (N + 0)) ⟨by omega, hK_o⟩ rfl (by simp [g_u, z_X1_init, z_X0_init, show ∀ k, ¬ o = N + k from fun k => by omega, show ¬ o = N by omega]) dX2_init_29 ?_
  refine n_iload_n X dX2_init_32 0 (fun _ => rfl) ?_
  refine n_new X g_cX1 w_X2_init_inX1 w_X2_init_cl9 w_X2_init_isX1 w_X2_init_itX1 hK_5 df_X1 (by decide) (by decide) (by omega) (fun ad q => by have e0 : va_up ad (N + 5) q o = ad o := va_up_ne _ _ (by omega); simp only [e0]) (fun ad q => by have e0 : va_up ad (N + 5) q (N + 0) = ad (N + 0) := va_up_ne _ _ (by omega); simp only [e0]) dX2_init_33 ?_
  refine n_dupr X dX2_init_36 ?_
  refine n_call X (fun ad => []) (fun _ => rfl) (cwI 0 X.2.2.2.2.1 gX2_init_X1_init rfl rfl rfl (X.2.2.2.2.1 _ w_X2_init_itX1) (X.2.2.2.2.1 _ w_X2_init_ml23) (X.2.2.2.2.1 _ w_X2_init_imX1_init) rfl hdn_X1_init ⟨Nat.le_of_ble_eq_true rfl, Nat.le_of_ble_eq_true rfl⟩) (fun _ => Nat.le_of_ble_eq_true rfl) (by decide) (by decide) (by omega) (fun ad ad' h => by simp only [h o (by omega)]) (fun ad ad' h => by simp only [h (N + 0) (by omega), h (N + 5) (by omega)]) dX2_init_37 (fun ad => cn_X1_init (N + 5) _ _ (by omega)) ?_
  refine n_aast X (n := 4) 3 g_cX1 rfl ⟨by omega, hK_0⟩ ⟨by omega, hK_5⟩ (show ¬ (_ ∨ _) by decide) dX2_init_40 ?_
  refine n_iinc X (fun ad => [(1, .int 4), (0, .ref (ad o))]) (v := 4) dX2_init_41 0 (fun _ => rfl) (by decide) (by decide) (fun _ => rfl) ?_
  refine n_goto X 23 dX2_init_44 (by decide) ?_
  refine n_iload_n X dX2_init_23 0 (fun _ => rfl) ?_
  refine n_iconst X (v := 4) dX2_init_24 (by decide) ?_
  refine n_ge_t X 47 dX2_init_25 (by decide) (by decide) ?_
  refine n_iconst X (v := 0) dX2_init_47 (by decide) ?_
  refine n_istore_n X (fun ad => [(1, .int 0), (0, .ref (ad o))]) dX2_init_48 (by decide) (fun _ => rfl) ?_
  refine n_iload_n X dX2_init_49 0 (fun _ => rfl) ?_
  refine n_bipush X (v := 8) dX2_init_50 (by decide) ?_
  refine n_ge_f X 74 dX2_init_52 (by decide) (by decide) ?_
  refine n_aload_n X dX2_init_55 1 (fun _ => rfl) ?_
  refine n_getr X g_cX2 w_X2_init_inX2 1 (by decide) w_X2_init_19 (a := (N + 1)) ⟨by omega, hK_o⟩ rfl (by simp [g_u, z_X1_init, z_X0_init, show ∀ k, ¬ o = N + k from fun k => by omega, show ¬ o = N by omega]) dX2_init_56 ?_
  refine n_iload_n X dX2_init_59 0 (fun _ => rfl) ?_
  refine n_new X g_cX0 w_X2_init_inX0 w_X2_init_cl17 w_X2_init_isX0 w_X2_init_itX0 hK_6 df_X0 (by decide) (by decide) (by omega) (fun ad q => by have e0 : va_up ad (N + 6) q o = ad o := va_up_ne _ _ (by omega); simp only [e0]) (fun ad q => by have e0 : va_up ad (N + 6) q (N + 1) = ad (N + 1) := va_up_ne _ _ (by omega); simp only [e0]) dX2_init_60 ?_
  refine n_dupr X dX2_init_63 ?_
  refine n_call X (fun ad => []) (fun _ => rfl) (cwI 0 X.2.2.2.2.1 gX2_init_X0_init rfl rfl rfl (X.2.2.2.2.1 _ w_X2_init_itX0) (X.2.2.2.2.1 _ w_X2_init_ml24) (X.2.2.2.2.1 _ w_X2_init_imX0_init) rfl hdn_X0_init ⟨Nat.le_of_ble_eq_true rfl, Nat.le_of_ble_eq_true rfl⟩) (fun _ => Nat.le_of_ble_eq_true rfl) (by decide) (by decide) (by omega) (fun ad ad' h => by simp only [h o (by omega)]) (fun ad ad' h => by simp only [h (N + 1) (by omega), h (N + 6) (by omega)]) dX2_init_64 (fun ad => cn_X0_init (N + 6) _ _ (by omega)) ?_
  refine n_aast X (n := 8) 4 g_cX0 rfl ⟨by omega, hK_1⟩ ⟨by omega, hK_6⟩ (show ¬ (_ ∨ _) by decide) dX2_init_67 ?_
  refine n_iinc X (fun ad => [(1, .int 1), (0, .ref (ad o))]) (v := 1) dX2_init_68 0 (fun _ => rfl) (by decide) (by decide) (fun _ => rfl) ?_
  refine n_goto X 49 dX2_init_71 (by decide) ?_
  refine n_iload_n X dX2_init_49 0 (fun _ => rfl) ?_
  refine n_bipush X (v := 8) dX2_init_50 (by decide) ?_
  refine n_ge_f X 74 dX2_init_52 (by decide) (by decide) ?_
  refine n_aload_n X dX2_init_55 1 (fun _ => rfl) ?_
  refine n_getr X g_cX2 w_X2_init_inX2 1 (by decide) w_X2_init_19 (a := (N + 1)) ⟨by omega, hK_o⟩ rfl (by simp [g_u, z_X1_init, z_X0_init, show ∀ k, ¬ o = N + k from fun k => by omega, show ¬ o = N by omega]) dX2_init_56 ?_
  refine n_iload_n X dX2_init_59 0 (fun _ => rfl) ?_
  refine n_new X g_cX0 w_X2_init_inX0 w_X2_init_cl17 w_X2_init_isX0 w_X2_init_itX0 hK_7 df_X0 (by decide) (by decide) (by omega) (fun ad q => by have e0 : va_up ad (N + 7) q o = ad o := va_up_ne _ _ (by omega); simp only [e0]) (fun ad q => by have e0 : va_up ad (N + 7) q (N + 1) = ad (N + 1) := va_up_ne _ _ (by omega); simp only [e0]) dX2_init_60 ?_
  refine n_dupr X dX2_init_63 ?_
  refine n_call X (fun ad => []) (fun _ => rfl) (cwI 0 X.2.2.2.2.1 gX2_init_X0_init rfl rfl rfl (X.2.2.2.2.1 _ w_X2_init_itX0) (X.2.2.2.2.1 _ w_X2_init_ml24) (X.2.2.2.2.1 _ w_X2_init_imX0_init) rfl hdn_X0_init ⟨Nat.le_of_ble_eq_true rfl, Nat.le_of_ble_eq_true rfl⟩) (fun _ => Nat.le_of_ble_eq_true rfl) (by decide) (by decide) (by omega) (fun ad ad' h => by simp only [h o (by omega)]) (fun ad ad' h => by simp only [h (N + 1) (by omega), h (N + 7) (by omega)]) dX2_init_64 (fun ad => cn_X0_init (N + 7) _ _ (by omega)) ?_
  refine n_aast X (n := 8) 4 g_cX0 rfl ⟨by omega, hK_1⟩ ⟨by omega, hK_7⟩ (show ¬ (_ ∨ _) by decide) dX2_init_67 ?_
  refine n_iinc X (fun ad => [(1, .int 2), (0, .ref (ad o))]) (v := 2) dX2_init_68 0 (fun _ => rfl) (by decide) (by decide) (fun _ => rfl) ?_
  refine n_goto X 49 dX2_init_71 (by decide) ?_
  refine n_iload_n X dX2_init_49 0 (fun _ => rfl) ?_
  refine n_bipush X (v := 8) dX2_init_50 (by decide) ?_
  refine n_ge_f X 74 dX2_init_52 (by decide) (by decide) ?_
  refine n_aload_n X dX2_init_55 1 (fun _ => rfl) ?_
  refine n_getr X g_cX2 w_X2_init_inX2 1 (by decide) w_X2_init_19 (a := (N + 1)) ⟨by omega, hK_o⟩ rfl (by simp [g_u, z_X1_init, z_X0_init, show ∀ k, ¬ o = N + k from fun k => by omega, show ¬ o = N by omega]) dX2_init_56 ?_
  refine n_iload_n X dX2_init_59 0 (fun _ => rfl) ?_
  refine n_new X g_cX0 w_X2_init_inX0 w_X2_init_cl17 w_X2_init_isX0 w_X2_init_itX0 hK_8 df_X0 (by decide) (by decide) (by omega) (fun ad q => by have e0 : va_up ad (N + 8) q o = ad o := va_up_ne _ _ (by omega); simp only [e0]) (fun ad q => by have e0 : va_up ad (N + 8) q (N + 1) = ad (N + 1) := va_up_ne _ _ (by omega); simp only [e0]) dX2_init_60 ?_
  refine n_dupr X dX2_init_63 ?_
  refine n_call X (fun ad => []) (fun _ => rfl) (cwI 0 X.2.2.2.2.1 gX2_init_X0_init rfl rfl rfl (X.2.2.2.2.1 _ w_X2_init_itX0) (X.2.2.2.2.1 _ w_X2_init_ml24) (X.2.2.2.2.1 _ w_X2_init_imX0_init) rfl hdn_X0_init ⟨Nat.le_of_ble_eq_true rfl, Nat.le_of_ble_eq_true rfl⟩) (fun _ => Nat.le_of_ble_eq_true rfl) (by decide) (by decide) (by omega) (fun ad ad' h => by simp only [h o (by omega)]) (fun ad ad' h => by simp only [h (N + 1) (by omega), h (N + 8) (by omega)]) dX2_init_64 (fun ad => cn_X0_init (N + 8) _ _ (by omega)) ?_
  refine n_aast X (n := 8) 4 g_cX0 rfl ⟨by omega, hK_1⟩ ⟨by omega, hK_8⟩ (show ¬ (_ ∨ _) by decide) dX2_init_67 ?_
  refine n_iinc X (fun ad => [(1, .int 3), (0, .ref (ad o))]) (v := 3) dX2_init_68 0 (fun _ => rfl) (by decide) (by decide) (fun _ => rfl) ?_
  refine n_goto X 49 dX2_init_71 (by decide) ?_
  refine n_iload_n X dX2_init_49 0 (fun _ => rfl) ?_
  refine n_bipush X (v := 8) dX2_init_50 (by decide) ?_
  refine n_ge_f X 74 dX2_init_52 (by decide) (by decide) ?_
  refine n_aload_n X dX2_init_55 1 (fun _ => rfl) ?_
  refine n_getr X g_cX2 w_X2_init_inX2 1 (by decide) w_X2_init_19 (a := (N + 1)) ⟨by omega, hK_o⟩ rfl (by simp [g_u, z_X1_init, z_X0_init, show ∀ k, ¬ o = N + k from fun k => by omega, show ¬ o = N by omega]) dX2_init_56 ?_
  refine n_iload_n X dX2_init_59 0 (fun _ => rfl) ?_
  refine n_new X g_cX0 w_X2_init_inX0 w_X2_init_cl17 w_X2_init_isX0 w_X2_init_itX0 hK_9 df_X0 (by decide) (by decide) (by omega) (fun ad q => by have e0 : va_up ad (N + 9) q o = ad o := va_up_ne _ _ (by omega); simp only [e0]) (fun ad q => by have e0 : va_up ad (N + 9) q (N + 1) = ad (N + 1) := va_up_ne _ _ (by omega); simp only [e0]) dX2_init_60 ?_
  refine n_dupr X dX2_init_63 ?_
  refine n_call X (fun ad => []) (fun _ => rfl) (cwI 0 X.2.2.2.2.1 gX2_init_X0_init rfl rfl rfl (X.2.2.2.2.1 _ w_X2_init_itX0) (X.2.2.2.2.1 _ w_X2_init_ml24) (X.2.2.2.2.1 _ w_X2_init_imX0_init) rfl hdn_X0_init ⟨Nat.le_of_ble_eq_true rfl, Nat.le_of_ble_eq_true rfl⟩) (fun _ => Nat.le_of_ble_eq_true rfl) (by decide) (by decide) (by omega) (fun ad ad' h => by simp only [h o (by omega)]) (fun ad ad' h => by simp only [h (N + 1) (by omega), h (N + 9) (by omega)]) dX2_init_64 (fun ad => cn_X0_init (N + 9) _ _ (by omega)) ?_
  refine n_aast X (n := 8) 4 g_cX0 rfl ⟨by omega, hK_1⟩ ⟨by omega, hK_9⟩ (show ¬ (_ ∨ _) by decide) dX2_init_67 ?_
  refine n_iinc X (fun ad => [(1, .int 4), (0, .ref (ad o))]) (v := 4) dX2_init_68 0 (fun _ => rfl) (by decide) (by decide) (fun _ => rfl) ?_
  refine n_goto X 49 dX2_init_71 (by decide) ?_
  refine n_iload_n X dX2_init_49 0 (fun _ => rfl) ?_
  refine n_bipush X (v := 8) dX2_init_50 (by decide) ?_
  refine n_ge_f X 74 dX2_init_52 (by decide) (by decide) ?_
  refine n_aload_n X dX2_init_55 1 (fun _ => rfl) ?_
  refine n_getr X g_cX2 w_X2_init_inX2 1 (by decide) w_X2_init_19 (a := (N + 1)) ⟨by omega, hK_o⟩ rfl (by simp [g_u, z_X1_init, z_X0_init, show ∀ k, ¬ o = N + k from fun k => by omega, show ¬ o = N by omega]) dX2_init_56 ?_
  refine n_iload_n X dX2_init_59 0 (fun _ => rfl) ?_
  refine n_new X g_cX0 w_X2_init_inX0 w_X2_init_cl17 w_X2_init_isX0 w_X2_init_itX0 hK_10 df_X0 (by decide) (by decide) (by omega) (fun ad q => by have e0 : va_up ad (N + 10) q o = ad o := va_up_ne _ _ (by omega); simp only [e0]) (fun ad q => by have e0 : va_up ad (N + 10) q (N + 1) = ad (N + 1) := va_up_ne _ _ (by omega); simp only [e0]) dX2_init_60 ?_
  refine n_dupr X dX2_init_63 ?_
  refine n_call X (fun ad => []) (fun _ => rfl) (cwI 0 X.2.2.2.2.1 gX2_init_X0_init rfl rfl rfl (X.2.2.2.2.1 _ w_X2_init_itX0) (X.2.2.2.2.1 _ w_X2_init_ml24) (X.2.2.2.2.1 _ w_X2_init_imX0_init) rfl hdn_X0_init ⟨Nat.le_of_ble_eq_true rfl, Nat.le_of_ble_eq_true rfl⟩) (fun _ => Nat.le_of_ble_eq_true rfl) (by decide) (by decide) (by omega) (fun ad ad' h => by simp only [h o (by omega)]) (fun ad ad' h => by simp only [h (N + 1) (by omega), h (N + 10) (by omega)]) dX2_init_64 (fun ad => cn_X0_init (N + 10) _ _ (by omega)) ?_
  refine n_aast X (n := 8) 4 g_cX0 rfl ⟨by omega, hK_1⟩ ⟨by omega, hK_10⟩ (show ¬ (_ ∨ _) by decide) dX2_init_67 ?_
  refine n_iinc X (fun ad => [(1, .int 5), (0, .ref (ad o))]) (v := 5) dX2_init_68 0 (fun _ => rfl) (by decide) (by decide) (fun _ => rfl) ?_
  refine n_goto X 49 dX2_init_71 (by decide) ?_
  refine n_iload_n X dX2_init_49 0 (fun _ => rfl) ?_
  refine n_bipush X (v := 8) dX2_init_50 (by decide) ?_
  refine n_ge_f X 74 dX2_init_52 (by decide) (by decide) ?_
  refine n_aload_n X dX2_init_55 1 (fun _ => rfl) ?_
  refine n_getr X g_cX2 w_X2_init_inX2 1 (by decide) w_X2_init_19 (a := (N + 1)) ⟨by omega, hK_o⟩ rfl (by simp [g_u, z_X1_init, z_X0_init, show ∀ k, ¬ o = N + k from fun k => by omega, show ¬ o = N by omega]) dX2_init_56 ?_
  refine n_iload_n X dX2_init_59 0 (fun _ => rfl) ?_
  refine n_new X g_cX0 w_X2_init_inX0 w_X2_init_cl17 w_X2_init_isX0 w_X2_init_itX0 hK_11 df_X0 (by decide) (by decide) (by omega) (fun ad q => by have e0 : va_up ad (N + 11) q o = ad o := va_up_ne _ _ (by omega); simp only [e0]) (fun ad q => by have e0 : va_up ad (N + 11) q (N + 1) = ad (N + 1) := va_up_ne _ _ (by omega); simp only [e0]) dX2_init_60 ?_
  refine n_dupr X dX2_init_63 ?_
  refine n_call X (fun ad => []) (fun _ => rfl) (cwI 0 X.2.2.2.2.1 gX2_init_X0_init rfl rfl rfl (X.2.2.2.2.1 _ w_X2_init_itX0) (X.2.2.2.2.1 _ w_X2_init_ml24) (X.2.2.2.2.1 _ w_X2_init_imX0_init) rfl hdn_X0_init ⟨Nat.le_of_ble_eq_true rfl, Nat.le_of_ble_eq_true rfl⟩) (fun _ => Nat.le_of_ble_eq_true rfl) (by decide) (by decide) (by omega) (fun ad ad' h => by simp only [h o (by omega)]) (fun ad ad' h => by simp only [h (N + 1) (by omega), h (N + 11) (by omega)]) dX2_init_64 (fun ad => cn_X0_init (N + 11) _ _ (by omega)) ?_
  refine n_aast X (n := 8) 4 g_cX0 rfl ⟨by omega, hK_1⟩ ⟨by omega, hK_11⟩ (show ¬ (_ ∨ _) by decide) dX2_init_67 ?_
  refine n_iinc X (fun ad => [(1, .int 6), (0, .ref (ad o))]) (v := 6) dX2_init_68 0 (fun _ => rfl) (by decide) (by decide) (fun _ => rfl) ?_
  refine n_goto X 49 dX2_init_71 (by decide) ?_
  refine n_iload_n X dX2_init_49 0 (fun _ => rfl) ?_
  refine n_bipush X (v := 8) dX2_init_50 (by decide) ?_
  refine n_ge_f X 74 dX2_init_52 (by decide) (by decide) ?_
  refine n_aload_n X dX2_init_55 1 (fun _ => rfl) ?_
  refine n_getr X g_cX2 w_X2_init_inX2 1 (by decide) w_X2_init_19 (a := (N + 1)) ⟨by omega, hK_o⟩ rfl (by simp [g_u, z_X1_init, z_X0_init, show ∀ k, ¬ o = N + k from fun k => by omega, show ¬ o = N by omega]) dX2_init_56 ?_
  refine n_iload_n X dX2_init_59 0 (fun _ => rfl) ?_
  refine n_new X g_cX0 w_X2_init_inX0 w_X2_init_cl17 w_X2_init_isX0 w_X2_init_itX0 hK_12 df_X0 (by decide) (by decide) (by omega) (fun ad q => by have e0 : va_up ad (N + 12) q o = ad o := va_up_ne _ _ (by omega); simp only [e0]) (fun ad q => by have e0 : va_up ad (N + 12) q (N + 1) = ad (N + 1) := va_up_ne _ _ (by omega); simp only [e0]) dX2_init_60 ?_
  refine n_dupr X dX2_init_63 ?_
  refine n_call X (fun ad => []) (fun _ => rfl) (cwI 0 X.2.2.2.2.1 gX2_init_X0_init rfl rfl rfl (X.2.2.2.2.1 _ w_X2_init_itX0) (X.2.2.2.2.1 _ w_X2_init_ml24) (X.2.2.2.2.1 _ w_X2_init_imX0_init) rfl hdn_X0_init ⟨Nat.le_of_ble_eq_true rfl, Nat.le_of_ble_eq_true rfl⟩) (fun _ => Nat.le_of_ble_eq_true rfl) (by decide) (by decide) (by omega) (fun ad ad' h => by simp only [h o (by omega)]) (fun ad ad' h => by simp only [h (N + 1) (by omega), h (N + 12) (by omega)]) dX2_init_64 (fun ad => cn_X0_init (N + 12) _ _ (by omega)) ?_
  refine n_aast X (n := 8) 4 g_cX0 rfl ⟨by omega, hK_1⟩ ⟨by omega, hK_12⟩ (show ¬ (_ ∨ _) by decide) dX2_init_67 ?_
  refine n_iinc X (fun ad => [(1, .int 7), (0, .ref (ad o))]) (v := 7) dX2_init_68 0 (fun _ => rfl) (by decide) (by decide) (fun _ => rfl) ?_
  refine n_goto X 49 dX2_init_71 (by decide) ?_
  refine n_iload_n X dX2_init_49 0 (fun _ => rfl) ?_
  refine n_bipush X (v := 8) dX2_init_50 (by decide) ?_
  refine n_ge_f X 74 dX2_init_52 (by decide) (by decide) ?_
  refine n_aload_n X dX2_init_55 1 (fun _ => rfl) ?_
  refine n_getr X g_cX2 w_X2_init_inX2 1 (by decide) w_X2_init_19 (a := (N + 1)) ⟨by omega, hK_o⟩ rfl (by simp [g_u, z_X1_init, z_X0_init, show ∀ k, ¬ o = N + k from fun k => by omega, show ¬ o = N by omega]) dX2_init_56 ?_
  refine n_iload_n X dX2_init_59 0 (fun _ => rfl) ?_
  refine n_new X g_cX0 w_X2_init_inX0 w_X2_init_cl17 w_X2_init_isX0 w_X2_init_itX0 hK_13 df_X0 (by decide) (by decide) (by omega) (fun ad q => by have e0 : va_up ad (N + 13) q o = ad o := va_up_ne _ _ (by omega); simp only [e0]) (fun ad q => by have e0 : va_up ad (N + 13) q (N + 1) = ad (N + 1) := va_up_ne _ _ (by omega); simp only [e0]) dX2_init_60 ?_
  refine n_dupr X dX2_init_63 ?_
  refine n_call X (fun ad => []) (fun _ => rfl) (cwI 0 X.2.2.2.2.1 gX2_init_X0_init rfl rfl rfl (X.2.2.2.2.1 _ w_X2_init_itX0) (X.2.2.2.2.1 _ w_X2_init_ml24) (X.2.2.2.2.1 _ w_X2_init_imX0_init) rfl hdn_X0_init ⟨Nat.le_of_ble_eq_true rfl, Nat.le_of_ble_eq_true rfl⟩) (fun _ => Nat.le_of_ble_eq_true rfl) (by decide) (by decide) (by omega) (fun ad ad' h => by simp only [h o (by omega)]) (fun ad ad' h => by simp only [h (N + 1) (by omega), h (N + 13) (by omega)]) dX2_init_64 (fun ad => cn_X0_init (N + 13) _ _ (by omega)) ?_
  refine n_aast X (n := 8) 4 g_cX0 rfl ⟨by omega, hK_1⟩ ⟨by omega, hK_13⟩ (show ¬ (_ ∨ _) by decide) dX2_init_67 ?_
  refine n_iinc X (fun ad => [(1, .int 8), (0, .ref (ad o))]) (v := 8) dX2_init_68 0 (fun _ => rfl) (by decide) (by decide) (fun _ => rfl) ?_
  refine n_goto X 49 dX2_init_71 (by decide) ?_
  refine n_iload_n X dX2_init_49 0 (fun _ => rfl) ?_
  refine n_bipush X (v := 8) dX2_init_50 (by decide) ?_
  refine n_ge_t X 74 dX2_init_52 (by decide) (by decide) ?_
  exact n_ret X rfl rfl (by decide) (by decide) dX2_init_74

