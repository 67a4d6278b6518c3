abbrev rmn_X7_init : Room := { frames := 3, cells := 89, slots := 1096, locals := 53 }
theorem hdn_X7_init : yX7_init.cls ≠ "java/lang/invoke/MethodHandle" ∧ yX7_init.cls ≠ "java/lang/invoke/VarHandle" ∧ (parseMethodDescriptor yX7_init.desc).map (fun d => d.parameters.length) = some 0 := by decide +kernel
theorem w_X7_init_ob : Cond.methodLink RX7 1 objectInit ∈ wsX7_init := by decide +kernel
theorem w_X7_init_obi : Cond.instanceMethod objectInit ∈ wsX7_init := by decide +kernel
theorem w_X7_init_obc : Cond.code objectInit ⟨#[0xb1]⟩ 1 none ∈ wsX7_init := by decide +kernel
theorem w_X7_init_cl7 : Cond.classLink RX7 7 RX2 ∈ wsX7_init := by decide +kernel
theorem w_X7_init_isX2 : Cond.instantiable RX2 7 ∈ wsX7_init := by decide +kernel
theorem w_X7_init_itX2 : Cond.initialized RX2 ∈ wsX7_init := by decide +kernel
theorem w_X7_init_inX2 : ∀ w ∈ wsX20, w ∈ wsX7_init := by decide +kernel
theorem w_X7_init_ml9 : Cond.methodLink RX7 9 yX2_init ∈ wsX7_init := by decide +kernel
theorem w_X7_init_imX2_init : Cond.instanceMethod yX2_init ∈ wsX7_init := by decide +kernel
theorem w_X7_init_10 : Cond.fieldLink RX7 10 "TokenDoors" "now" "LTokenDoors$Hall;" ∈ wsX7_init := by decide +kernel
theorem w_X7_init_inX7 : ∀ w ∈ wsX70, w ∈ wsX7_init := by decide +kernel
theorem w_X7_init_16 : Cond.fieldLink RX7 16 "TokenDoors" "trial" "LTokenDoors$Hall;" ∈ wsX7_init := by decide +kernel
theorem w_X7_init_19 : Cond.fieldLink RX7 19 "TokenDoors" "images" "[LTokenDoors$Hall;" ∈ wsX7_init := by decide +kernel
theorem w_X7_init_acboolean : Cond.arrayClass .boolean ∈ wsX7_init := by decide +kernel
theorem w_X7_init_23 : Cond.fieldLink RX7 23 "TokenDoors" "kept" "[Z" ∈ wsX7_init := by decide +kernel
theorem w_X7_init_cl27 : Cond.classLink RX7 27 RX5 ∈ wsX7_init := by decide +kernel
theorem w_X7_init_isX5 : Cond.instantiable RX5 5 ∈ wsX7_init := by decide +kernel
theorem w_X7_init_itX5 : Cond.initialized RX5 ∈ wsX7_init := by decide +kernel
theorem w_X7_init_inX5 : ∀ w ∈ wsX50, w ∈ wsX7_init := by decide +kernel
theorem w_X7_init_ml29 : Cond.methodLink RX7 29 yX5_init ∈ wsX7_init := by decide +kernel
theorem w_X7_init_imX5_init : Cond.instanceMethod yX5_init ∈ wsX7_init := by decide +kernel
theorem w_X7_init_30 : Cond.fieldLink RX7 30 "TokenDoors" "tape" "LTokenDoors$Tape;" ∈ wsX7_init := by decide +kernel
theorem w_X7_init_cl34 : Cond.classLink RX7 34 RX6 ∈ wsX7_init := by decide +kernel
theorem w_X7_init_isX6 : Cond.instantiable RX6 3 ∈ wsX7_init := by decide +kernel
theorem w_X7_init_itX6 : Cond.initialized RX6 ∈ wsX7_init := by decide +kernel
theorem w_X7_init_inX6 : ∀ w ∈ wsX60, w ∈ wsX7_init := by decide +kernel
theorem w_X7_init_ml36 : Cond.methodLink RX7 36 yX6_init ∈ wsX7_init := by decide +kernel
theorem w_X7_init_imX6_init : Cond.instanceMethod yX6_init ∈ wsX7_init := by decide +kernel
theorem w_X7_init_39 : Cond.fieldLink RX7 39 "TokenDoors" "teller" "LTokenDoors$Teller;" ∈ wsX7_init := by decide +kernel
theorem w_X7_init_cl43 : Cond.classLink RX7 43 RX3 ∈ wsX7_init := by decide +kernel
theorem w_X7_init_isX3 : Cond.instantiable RX3 3 ∈ wsX7_init := by decide +kernel
theorem w_X7_init_itX3 : Cond.initialized RX3 ∈ wsX7_init := by decide +kernel
theorem w_X7_init_inX3 : ∀ w ∈ wsX30, w ∈ wsX7_init := by decide +kernel
theorem w_X7_init_ml45 : Cond.methodLink RX7 45 yX3_init ∈ wsX7_init := by decide +kernel
theorem w_X7_init_imX3_init : Cond.instanceMethod yX3_init ∈ wsX7_init := by decide +kernel
theorem w_X7_init_46 : Cond.fieldLink RX7 46 "TokenDoors" "seen" "LTokenDoors$Seen;" ∈ wsX7_init := by decide +kernel
theorem w_X7_init_cl50 : Cond.classLink RX7 50 RX4 ∈ wsX7_init := by decide +kernel
theorem w_X7_init_52 : Cond.fieldLink RX7 52 "TokenDoors" "sheets" "[LTokenDoors$Sheet;" ∈ wsX7_init := by decide +kernel
theorem w_X7_init_cl56 : Cond.classLink RX7 56 "[[I" ∈ wsX7_init := by decide +kernel
theorem w_X7_init_acint : Cond.arrayClass .int ∈ wsX7_init := by decide +kernel
theorem w_X7_init_58 : Cond.fieldLink RX7 58 "TokenDoors" "letByRate" "[[I" ∈ wsX7_init := by decide +kernel
theorem w_X7_init_61 : Cond.fieldLink RX7 61 "TokenDoors" "letByTick" "[I" ∈ wsX7_init := by decide +kernel
theorem w_X7_init_isX4 : Cond.instantiable RX4 4 ∈ wsX7_init := by decide +kernel
theorem w_X7_init_itX4 : Cond.initialized RX4 ∈ wsX7_init := by decide +kernel
theorem w_X7_init_inX4 : ∀ w ∈ wsX40, w ∈ wsX7_init := by decide +kernel
theorem w_X7_init_ml65 : Cond.methodLink RX7 65 yX4_init ∈ wsX7_init := by decide +kernel
theorem w_X7_init_imX4_init : Cond.instanceMethod yX4_init ∈ wsX7_init := by decide +kernel
def t0_X7_init (S : g_St) : g_St := (z_X2_init 1 2 S)
def t1_X7_init (S : g_St) : g_St := (t0_X7_init S)
def t2_X7_init (S : g_St) : g_St := ((t0_X7_init S).1, g_u (t1_X7_init S).2 0 0 (some 1))
def t3_X7_init (S : g_St) : g_St := (z_X2_init 16 17 (t2_X7_init S))
def t4_X7_init (S : g_St) : g_St := (t3_X7_init S)
def t5_X7_init (S : g_St) : g_St := ((t3_X7_init S).1, g_u (t4_X7_init S).2 0 1 (some 16))
def t6_X7_init (S : g_St) : g_St := (t5_X7_init S)
def t7_X7_init (S : g_St) : g_St := ((t5_X7_init S).1, g_u (t6_X7_init S).2 0 2 (some 31))
def t8_X7_init (S : g_St) : g_St := (t7_X7_init S)
def t9_X7_init (S : g_St) : g_St := ((t7_X7_init S).1, g_u (t8_X7_init S).2 0 3 (some 32))
def t10_X7_init (S : g_St) : g_St := (z_X5_init 33 34 (t9_X7_init S))
def t11_X7_init (S : g_St) : g_St := (t10_X7_init S)
def t12_X7_init (S : g_St) : g_St := ((t10_X7_init S).1, g_u (t11_X7_init S).2 0 4 (some 33))
def t13_X7_init (S : g_St) : g_St := (z_X6_init 35 36 (t12_X7_init S) 33 16)
def t14_X7_init (S : g_St) : g_St := (t13_X7_init S)
def t15_X7_init (S : g_St) : g_St := ((t13_X7_init S).1, g_u (t14_X7_init S).2 0 5 (some 35))
def t16_X7_init (S : g_St) : g_St := (z_X3_init 36 37 (t15_X7_init S))
def t17_X7_init (S : g_St) : g_St := (t16_X7_init S)
def t18_X7_init (S : g_St) : g_St := ((t16_X7_init S).1, g_u (t17_X7_init S).2 0 6 (some 36))
def t19_X7_init (S : g_St) : g_St := (t18_X7_init S)
def t20_X7_init (S : g_St) : g_St := ((t18_X7_init S).1, g_u (t19_X7_init S).2 0 7 (some 39))
def t21_X7_init (S : g_St) : g_St := (g_rows (t20_X7_init S) 40 10)
def t22_X7_init (S : g_St) : g_St := (t21_X7_init S)
def t23_X7_init (S : g_St) : g_St := ((t21_X7_init S).1, g_u (t22_X7_init S).2 0 8 (some 40))
def t24_X7_init (S : g_St) : g_St := (t23_X7_init S)
def t25_X7_init (S : g_St) : g_St := ((t23_X7_init S).1, g_u (t24_X7_init S).2 0 9 (some 51))
def t26_X7_init (S : g_St) : g_St := (z_X2_init 52 53 (t25_X7_init S))
def t27_X7_init (S : g_St) : g_St := (t26_X7_init S)
def t28_X7_init (S : g_St) : g_St := ((t26_X7_init S).1, g_u (t27_X7_init S).2 31 (0 : Int32).toNatClampNeg (some 52))
def t29_X7_init (S : g_St) : g_St := (z_X2_init 67 68 (t28_X7_init S))
def t30_X7_init (S : g_St) : g_St := (t29_X7_init S)
def t31_X7_init (S : g_St) : g_St := ((t29_X7_init S).1, g_u (t30_X7_init S).2 31 (1 : Int32).toNatClampNeg (some 67))
def t32_X7_init (S : g_St) : g_St := (z_X4_init 82 83 (t31_X7_init S))
def t33_X7_init (S : g_St) : g_St := (t32_X7_init S)
def t34_X7_init (S : g_St) : g_St := ((t32_X7_init S).1, g_u (t33_X7_init S).2 39 (0 : Int32).toNatClampNeg (some 82))
def t35_X7_init (S : g_St) : g_St := (z_X4_init 84 85 (t34_X7_init S))
def t36_X7_init (S : g_St) : g_St := (t35_X7_init S)
def t37_X7_init (S : g_St) : g_St := ((t35_X7_init S).1, g_u (t36_X7_init S).2 39 (1 : Int32).toNatClampNeg (some 84))
def t38_X7_init (S : g_St) : g_St := (z_X4_init 86 87 (t37_X7_init S))
def t39_X7_init (S : g_St) : g_St := (t38_X7_init S)
def t40_X7_init (S : g_St) : g_St := ((t38_X7_init S).1, g_u (t39_X7_init S).2 39 (2 : Int32).toNatClampNeg (some 86))
def t41_X7_init (S : g_St) : g_St := (z_X4_init 88 89 (t40_X7_init S))
def t42_X7_init (S : g_St) : g_St := (t41_X7_init S)
def z_X7_init (o N : Nat) (S : g_St) : g_St := ((t41_X7_init S).1, g_u (t42_X7_init S).2 39 (3 : Int32).toNatClampNeg (some 88))
set_option maxRecDepth 100000 in
set_option maxHeartbeats 1000000 in
theorem cn_X7_init {l : Launch} {D : va_G} {base : Nat} {cy : Nat → ClassId} {ad : Nat → Nat} (S : g_St) : g_Mn l g_KC D base cy yX7_init wsX7_init rmn_X7_init [.ref (ad 0)] ad 1 S 90 (z_X7_init 0 1 S) 89 1096 := by
  refine n_of (av := fun ad => [.ref (ad 0)]) (lv := fun ad => [(0, .ref (ad 0))]) (cc := cX7_init) (maxL := 2) (by decide) rfl rfl (fun _ => Nat.le_of_ble_eq_true rfl) (fun _ => rfl) (fun ad' h => by simp only [h 0 (by decide)]) ?_
  intro x X hl hD hy
  subst hl hD hy
  refine n_aload_n X dX7_init_0 0 (fun _ => rfl) ?_
  refine n_obj X w_X7_init_ob w_X7_init_obi w_X7_init_obc (by decide) (by decide) dX7_init_1 ?_
  refine n_aload_n X dX7_init_4 0 (fun _ => rfl) ?_
  refine n_new X g_cX2 w_X7_init_inX2 w_X7_init_cl7 w_X7_init_isX2 w_X7_init_itX2 rfl df_X2 (by decide) (by decide) (by decide) (fun ad q => by have e0 : va_up ad 1 q 0 = ad 0 := va_up_ne _ _ (by decide); simp only [e0]) (fun ad q => by have e0 : va_up ad 1 q 0 = ad 0 := va_up_ne _ _ (by decide); simp only [e0]) dX7_init_5 ?_
  refine n_dupr X dX7_init_8 ?_
  refine n_call X (fun ad => []) (fun _ => rfl) (cwI 0 X.2.2.2.2.1 gX7_init_X2_init rfl rfl rfl (X.2.2.2.2.1 _ w_X7_init_itX2) (X.2.2.2.2.1 _ w_X7_init_ml9) (X.2.2.2.2.1 _ w_X7_init_imX2_init) rfl hdn_X2_init ⟨Nat.le_of_ble_eq_true rfl, Nat.le_of_ble_eq_true rfl⟩) (fun _ => Nat.le_of_ble_eq_true rfl) (by decide) (by decide) (by decide) (fun ad ad' h => by simp only [h 0 (by decide)]) (fun ad ad' h => by simp only [h 0 (by decide), h 1 (by decide)]) dX7_init_9 (fun ad => cn_X2_init 1 _ _ (by decide) rfl rfl rfl rfl rfl rfl rfl rfl rfl rfl rfl rfl rfl rfl rfl) ?_
  refine n_putr X g_cX7 w_X7_init_inX7 0 (by decide) w_X7_init_10 ⟨by decide, rfl⟩ rfl rfl rfl (t := .object "TokenDoors$Hall") (by decide +kernel) (fun _ => ⟨rfl, rfl⟩) (by decide) dX7_init_12 ?_
  refine n_aload_n X dX7_init_15 0 (fun _ => rfl) ?_
  refine n_new X g_cX2 w_X7_init_inX2 w_X7_init_cl7 w_X7_init_isX2 w_X7_init_itX2 rfl df_X2 (by decide) (by decide) (by decide) (fun ad q => by have e0 : va_up ad 16 q 0 = ad 0 := va_up_ne _ _ (by decide); simp only [e0]) (fun ad q => by have e0 : va_up ad 16 q 0 = ad 0 := va_up_ne _ _ (by decide); simp only [e0]) dX7_init_16 ?_
  refine n_dupr X dX7_init_19 ?_
  refine n_call X (fun ad => []) (fun _ => rfl) (cwI 0 X.2.2.2.2.1 gX7_init_X2_init rfl rfl rfl (X.2.2.2.2.1 _ w_X7_init_itX2) (X.2.2.2.2.1 _ w_X7_init_ml9) (X.2.2.2.2.1 _ w_X7_init_imX2_init) rfl hdn_X2_init ⟨Nat.le_of_ble_eq_true rfl, Nat.le_of_ble_eq_true rfl⟩) (fun _ => Nat.le_of_ble_eq_true rfl) (by decide) (by decide) (by decide) (fun ad ad' h => by simp only [h 0 (by decide)]) (fun ad ad' h => by simp only [h 0 (by decide), h 16 (by decide)]) dX7_init_20 (fun ad => cn_X2_init 16 _ _ (by decide) rfl rfl rfl rfl rfl rfl rfl rfl rfl rfl rfl rfl rfl rfl rfl) ?_
  refine n_putr X g_cX7 w_X7_init_inX7 1 (by decide) w_X7_init_16 ⟨by decide, rfl⟩ rfl rfl rfl (t := .object "TokenDoors$Hall") (by decide +kernel) (fun _ => ⟨rfl, rfl⟩) (by decide) dX7_init_23 ?_
  refine n_aload_n X dX7_init_26 0 (fun _ => rfl) ?_
  refine n_iconst X (v := 2) dX7_init_27 (by decide) ?_
  refine n_newq X 5 rfl w_X7_init_cl7 X.2.2.2.2.2.2.2.2.2.2.2.2.2.1 rfl (by decide) (by decide) (by decide) (by decide) (by decide) (by decide) (fun ad q => by have e0 : va_up ad 31 q 0 = ad 0 := va_up_ne _ _ (by decide); simp only [e0]) (fun ad q => by have e0 : va_up ad 31 q 0 = ad 0 := va_up_ne _ _ (by decide); simp only [e0]) dX7_init_28 ?_
  refine n_putr X g_cX7 w_X7_init_inX7 2 (by decide) w_X7_init_19 ⟨by decide, rfl⟩ rfl rfl rfl (t := .array (.object "TokenDoors$Hall")) (by decide +kernel) (fun _ => ⟨rfl, rfl⟩) (by decide) dX7_init_31 ?_
  refine n_aload_n X dX7_init_34 0 (fun _ => rfl) ?_
  refine n_iconst X (v := 2) dX7_init_35 (by decide) ?_
  refine n_newa X .boolean 2 (ty := .boolean) rfl rfl (fun _ _ h => h) rfl w_X7_init_acboolean rfl (by decide) (by decide) (by decide) (by decide) (by decide) (by decide) (fun ad q => by have e0 : va_up ad 32 q 0 = ad 0 := va_up_ne _ _ (by decide); simp only [e0]) (fun ad q => by have e0 : va_up ad 32 q 0 = ad 0 := va_up_ne _ _ (by decide); simp only [e0]) dX7_init_36 ?_
  refine n_putr X g_cX7 w_X7_init_inX7 3 (by decide) w_X7_init_23 ⟨by decide, rfl⟩ rfl rfl rfl (t := .array .boolean) (by decide +kernel) (fun _ => ⟨rfl, rfl⟩) (by decide) dX7_init_38 ?_
  refine n_aload_n X dX7_init_41 0 (fun _ => rfl) ?_
  refine n_new X g_cX5 w_X7_init_inX5 w_X7_init_cl27 w_X7_init_isX5 w_X7_init_itX5 rfl df_X5 (by decide) (by decide) (by decide) (fun ad q => by have e0 : va_up ad 33 q 0 = ad 0 := va_up_ne _ _ (by decide); simp only [e0]) (fun ad q => by have e0 : va_up ad 33 q 0 = ad 0 := va_up_ne _ _ (by decide); simp only [e0]) dX7_init_42 ?_
  refine n_dupr X dX7_init_45 ?_
  refine n_call X (fun ad => []) (fun _ => rfl) (cwI 0 X.2.2.2.2.1 gX7_init_X5_init rfl rfl rfl (X.2.2.2.2.1 _ w_X7_init_itX5) (X.2.2.2.2.1 _ w_X7_init_ml29) (X.2.2.2.2.1 _ w_X7_init_imX5_init) rfl hdn_X5_init ⟨Nat.le_of_ble_eq_true rfl, Nat.le_of_ble_eq_true rfl⟩) (fun _ => Nat.le_of_ble_eq_true rfl) (by decide) (by decide) (by decide) (fun ad ad' h => by simp only [h 0 (by decide)]) (fun ad ad' h => by simp only [h 0 (by decide), h 33 (by decide)]) dX7_init_46 (fun ad => cn_X5_init 33 _ _ (by decide) rfl rfl) ?_
  refine n_putr X g_cX7 w_X7_init_inX7 4 (by decide) w_X7_init_30 ⟨by decide, rfl⟩ rfl rfl rfl (t := .object "TokenDoors$Tape") (by decide +kernel) (fun _ => ⟨rfl, rfl⟩) (by decide) dX7_init_49 ?_
  refine n_aload_n X dX7_init_52 0 (fun _ => rfl) ?_
  refine n_new X g_cX6 w_X7_init_inX6 w_X7_init_cl34 w_X7_init_isX6 w_X7_init_itX6 rfl df_X6 (by decide) (by decide) (by decide) (fun ad q => by have e0 : va_up ad 35 q 0 = ad 0 := va_up_ne _ _ (by decide); simp only [e0]) (fun ad q => by have e0 : va_up ad 35 q 0 = ad 0 := va_up_ne _ _ (by decide); simp only [e0]) dX7_init_53 ?_
  refine n_dupr X dX7_init_56 ?_
  refine n_aload_n X dX7_init_57 0 (fun _ => rfl) ?_
  refine n_getr X g_cX7 w_X7_init_inX7 4 (by decide) w_X7_init_30 (a := 33) ⟨by decide, rfl⟩ rfl rfl dX7_init_58 ?_
  refine n_aload_n X dX7_init_61 0 (fun _ => rfl) ?_
  refine n_getr X g_cX7 w_X7_init_inX7 1 (by decide) w_X7_init_16 (a := 16) ⟨by decide, rfl⟩ rfl rfl dX7_init_62 ?_
  refine n_call X (fun ad => [.ref (ad 33), .ref (ad 16)]) (fun _ => rfl) (cwI 2 X.2.2.2.2.1 gX7_init_X6_init rfl rfl rfl (X.2.2.2.2.1 _ w_X7_init_itX6) (X.2.2.2.2.1 _ w_X7_init_ml36) (X.2.2.2.2.1 _ w_X7_init_imX6_init) rfl hdn_X6_init ⟨Nat.le_of_ble_eq_true rfl, Nat.le_of_ble_eq_true rfl⟩) (fun _ => Nat.le_of_ble_eq_true rfl) (by decide) (by decide) (by decide) (fun ad ad' h => by simp only [h 0 (by decide)]) (fun ad ad' h => by simp only [h 0 (by decide), h 35 (by decide)]) dX7_init_65 (fun ad => cn_X6_init 35 _ _ (by decide) rfl  33 (by decide) 16 (by decide)) ?_
  refine n_putr X g_cX7 w_X7_init_inX7 5 (by decide) w_X7_init_39 ⟨by decide, rfl⟩ rfl rfl rfl (t := .object "TokenDoors$Teller") (by decide +kernel) (fun _ => ⟨rfl, rfl⟩) (by decide) dX7_init_68 ?_
  refine n_aload_n X dX7_init_71 0 (fun _ => rfl) ?_
  refine n_new X g_cX3 w_X7_init_inX3 w_X7_init_cl43 w_X7_init_isX3 w_X7_init_itX3 rfl df_X3 (by decide) (by decide) (by decide) (fun ad q => by have e0 : va_up ad 36 q 0 = ad 0 := va_up_ne _ _ (by decide); simp only [e0]) (fun ad q => by have e0 : va_up ad 36 q 0 = ad 0 := va_up_ne _ _ (by decide); simp only [e0]) dX7_init_72 ?_
  refine n_dupr X dX7_init_75 ?_
  refine n_call X (fun ad => []) (fun _ => rfl) (cwI 0 X.2.2.2.2.1 gX7_init_X3_init rfl rfl rfl (X.2.2.2.2.1 _ w_X7_init_itX3) (X.2.2.2.2.1 _ w_X7_init_ml45) (X.2.2.2.2.1 _ w_X7_init_imX3_init) rfl hdn_X3_init ⟨Nat.le_of_ble_eq_true rfl, Nat.le_of_ble_eq_true rfl⟩) (fun _ => Nat.le_of_ble_eq_true rfl) (by decide) (by decide) (by decide) (fun ad ad' h => by simp only [h 0 (by decide)]) (fun ad ad' h => by simp only [h 0 (by decide), h 36 (by decide)]) dX7_init_76 (fun ad => cn_X3_init 36 _ _ (by decide) rfl rfl rfl) ?_
  refine n_putr X g_cX7 w_X7_init_inX7 6 (by decide) w_X7_init_46 ⟨by decide, rfl⟩ rfl rfl rfl (t := .object "TokenDoors$Seen") (by decide +kernel) (fun _ => ⟨rfl, rfl⟩) (by decide) dX7_init_79 ?_
  refine n_aload_n X dX7_init_82 0 (fun _ => rfl) ?_
  refine n_iconst X (v := 4) dX7_init_83 (by decide) ?_
  refine n_newq X 6 rfl w_X7_init_cl50 X.2.2.2.2.2.2.2.2.2.2.2.2.2.2.1 rfl (by decide) (by decide) (by decide) (by decide) (by decide) (by decide) (fun ad q => by have e0 : va_up ad 39 q 0 = ad 0 := va_up_ne _ _ (by decide); simp only [e0]) (fun ad q => by have e0 : va_up ad 39 q 0 = ad 0 := va_up_ne _ _ (by decide); simp only [e0]) dX7_init_84 ?_
  refine n_putr X g_cX7 w_X7_init_inX7 7 (by decide) w_X7_init_52 ⟨by decide, rfl⟩ rfl rfl rfl (t := .array (.object "TokenDoors$Sheet")) (by decide +kernel) (fun _ => ⟨rfl, rfl⟩) (by decide) dX7_init_87 ?_
  refine n_aload_n X dX7_init_90 0 (fun _ => rfl) ?_
  refine n_bipush X (v := 10) dX7_init_91 (by decide) ?_
  refine n_bipush X (v := 41) dX7_init_93 (by decide) ?_
  refine n_mna X (n := 10) (k := 41) w_X7_init_cl56 w_X7_init_acint X.2.2.2.2.2.2.2.2.2.2.2.2.2.2.2 (by decide) (by decide) rfl (by decide) (fun ad ad' h => by simp only [h 0 (by decide)]) (fun ad ad' h => by simp only [h 0 (by decide)]) dX7_init_95 ?_
  refine n_putr X g_cX7 w_X7_init_inX7 8 (by decide) w_X7_init_58 ⟨by decide, rfl⟩ rfl rfl rfl (t := .array (.array .int)) (by decide +kernel) (fun _ => ⟨rfl, rfl⟩) (by decide) dX7_init_99 ?_
  refine n_aload_n X dX7_init_102 0 (fun _ => rfl) ?_
  refine n_bipush X (v := 41) dX7_init_103 (by decide) ?_
  refine n_newa X .int 0 (ty := .int) rfl rfl (fun _ _ h => h) rfl w_X7_init_acint rfl (by decide) (by decide) (by decide) (by decide) (by decide) (by decide) (fun ad q => by have e0 : va_up ad 51 q 0 = ad 0 := va_up_ne _ _ (by decide); simp only [e0]) (fun ad q => by have e0 : va_up ad 51 q 0 = ad 0 := va_up_ne _ _ (by decide); simp only [e0]) dX7_init_105 ?_
  refine n_putr X g_cX7 w_X7_init_inX7 9 (by decide) w_X7_init_61 ⟨by decide, rfl⟩ rfl rfl rfl (t := .array .int) (by decide +kernel) (fun _ => ⟨rfl, rfl⟩) (by decide) dX7_init_107 ?_
  refine n_iconst X (v := 0) dX7_init_110 (by decide) ?_
  refine n_istore_n X (fun ad => [(1, .int 0), (0, .ref (ad 0))]) dX7_init_111 (by decide) (fun _ => rfl) ?_
  refine n_iload_n X dX7_init_112 0 (fun _ => rfl) ?_
  refine n_iconst X (v := 2) dX7_init_113 (by decide) ?_
  refine n_ge_f X 136 dX7_init_114 (by decide) (by decide) ?_
  refine n_aload_n X dX7_init_117 1 (fun _ => rfl) ?_
  refine n_getr X g_cX7 w_X7_init_inX7 2 (by decide) w_X7_init_19 (a := 31) ⟨by decide, rfl⟩ rfl rfl dX7_init_118 ?_
  refine n_iload_n X dX7_init_121 0 (fun _ => rfl) ?_
  refine n_new X g_cX2 w_X7_init_inX2 w_X7_init_cl7 w_X7_init_isX2 w_X7_init_itX2 rfl df_X2 (by decide) (by decide) (by decide) (fun ad q => by have e0 : va_up ad 52 q 0 = ad 0 := va_up_ne _ _ (by decide); simp only [e0]) (fun ad q => by have e0 : va_up ad 52 q 31 = ad 31 := va_up_ne _ _ (by decide); simp only [e0]) dX7_init_122 ?_
  refine n_dupr X dX7_init_125 ?_
  refine n_call X (fun ad => []) (fun _ => rfl) (cwI 0 X.2.2.2.2.1 gX7_init_X2_init rfl rfl rfl (X.2.2.2.2.1 _ w_X7_init_itX2) (X.2.2.2.2.1 _ w_X7_init_ml9) (X.2.2.2.2.1 _ w_X7_init_imX2_init) rfl hdn_X2_init ⟨Nat.le_of_ble_eq_true rfl, Nat.le_of_ble_eq_true rfl⟩) (fun _ => Nat.le_of_ble_eq_true rfl) (by decide) (by decide) (by decide) (fun ad ad' h => by simp only [h 0 (by decide)]) (fun ad ad' h => by simp only [h 31 (by decide), h 52 (by decide)]) dX7_init_126 (fun ad => cn_X2_init 52 _ _ (by decide) rfl rfl rfl rfl rfl rfl rfl rfl rfl rfl rfl rfl rfl rfl rfl) ?_
  refine n_aast X (n := 2) 5 g_cX2 rfl ⟨by decide, rfl⟩ ⟨by decide, rfl⟩ (show ¬ (_ ∨ _) by decide) dX7_init_129 ?_
  refine n_iinc X (fun ad => [(1, .int 1), (0, .ref (ad 0))]) (v := 1) dX7_init_130 0 (fun _ => rfl) (by decide) (by decide) (fun _ => rfl) ?_
  refine n_goto X 112 dX7_init_133 (by decide) ?_
  refine n_iload_n X dX7_init_112 0 (fun _ => rfl) ?_
  refine n_iconst X (v := 2) dX7_init_113 (by decide) ?_
  refine n_ge_f X 136 dX7_init_114 (by decide) (by decide) ?_
  refine n_aload_n X dX7_init_117 1 (fun _ => rfl) ?_
  refine n_getr X g_cX7 w_X7_init_inX7 2 (by decide) w_X7_init_19 (a := 31) ⟨by decide, rfl⟩ rfl rfl dX7_init_118 ?_
  refine n_iload_n X dX7_init_121 0 (fun _ => rfl) ?_
  refine n_new X g_cX2 w_X7_init_inX2 w_X7_init_cl7 w_X7_init_isX2 w_X7_init_itX2 rfl df_X2 (by decide) (by decide) (by decide) (fun ad q => by have e0 : va_up ad 67 q 0 = ad 0 := va_up_ne _ _ (by decide); simp only [e0]) (fun ad q => by have e0 : va_up ad 67 q 31 = ad 31 := va_up_ne _ _ (by decide); simp only [e0]) dX7_init_122 ?_
  refine n_dupr X dX7_init_125 ?_
  refine n_call X (fun ad => []) (fun _ => rfl) (cwI 0 X.2.2.2.2.1 gX7_init_X2_init rfl rfl rfl (X.2.2.2.2.1 _ w_X7_init_itX2) (X.2.2.2.2.1 _ w_X7_init_ml9) (X.2.2.2.2.1 _ w_X7_init_imX2_init) rfl hdn_X2_init ⟨Nat.le_of_ble_eq_true rfl, Nat.le_of_ble_eq_true rfl⟩) (fun _ => Nat.le_of_ble_eq_true rfl) (by decide) (by decide) (by decide) (fun ad ad' h => by simp only [h 0 (by decide)]) (fun ad ad' h => by simp only [h 31 (by decide), h 67 (by decide)]) dX7_init_126 (fun ad => cn_X2_init 67 _ _ (by decide) rfl rfl rfl rfl rfl rfl rfl rfl rfl rfl rfl rfl rfl rfl rfl) ?_
  refine n_aast X (n := 2) 5 g_cX2 rfl ⟨by decide, rfl⟩ ⟨by decide, rfl⟩ (show ¬ (_ ∨ _) by decide) dX7_init_129 ?_
  refine n_iinc X (fun ad => [(1, .int 2), (0, .ref (ad 0))]) (v := 2) dX7_init_130 0 (fun _ => rfl) (by decide) (by decide) (fun _ => rfl) ?_
  refine n_goto X 112 dX7_init_133 (by decide) ?_
  refine n_iload_n X dX7_init_112 0 (fun _ => rfl) ?_
  refine n_iconst X (v := 2) dX7_init_113 (by decide) ?_
  refine n_ge_t X 136 dX7_init_114 (by decide) (by decide) ?_
  refine n_iconst X (v := 0) dX7_init_136 (by decide) ?_
  refine n_istore_n X (fun ad => [(1, .int 0), (0, .ref (ad 0))]) dX7_init_137 (by decide) (fun _ => rfl) ?_
  refine n_iload_n X dX7_init_138 0 (fun _ => rfl) ?_
  refine n_iconst X (v := 4) dX7_init_139 (by decide) ?_
  refine n_ge_f X 162 dX7_init_140 (by decide) (by decide) ?_
  refine n_aload_n X dX7_init_143 1 (fun _ => rfl) ?_
  refine n_getr X g_cX7 w_X7_init_inX7 7 (by decide) w_X7_init_52 (a := 39) ⟨by decide, rfl⟩ rfl rfl dX7_init_144 ?_
  refine n_iload_n X dX7_init_147 0 (fun _ => rfl) ?_
  refine n_new X g_cX4 w_X7_init_inX4 w_X7_init_cl50 w_X7_init_isX4 w_X7_init_itX4 rfl df_X4 (by decide) (by decide) (by decide) (fun ad q => by have e0 : va_up ad 82 q 0 = ad 0 := va_up_ne _ _ (by decide); simp only [e0]) (fun ad q => by have e0 : va_up ad 82 q 39 = ad 39 := va_up_ne _ _ (by decide); simp only [e0]) dX7_init_148 ?_
  refine n_dupr X dX7_init_151 ?_
  refine n_call X (fun ad => []) (fun _ => rfl) (cwI 0 X.2.2.2.2.1 gX7_init_X4_init rfl rfl rfl (X.2.2.2.2.1 _ w_X7_init_itX4) (X.2.2.2.2.1 _ w_X7_init_ml65) (X.2.2.2.2.1 _ w_X7_init_imX4_init) rfl hdn_X4_init ⟨Nat.le_of_ble_eq_true rfl, Nat.le_of_ble_eq_true rfl⟩) (fun _ => Nat.le_of_ble_eq_true rfl) (by decide) (by decide) (by decide) (fun ad ad' h => by simp only [h 0 (by decide)]) (fun ad ad' h => by simp only [h 39 (by decide), h 82 (by decide)]) dX7_init_152 (fun ad => cn_X4_init 82 _ _ (by decide) rfl rfl) ?_
  refine n_aast X (n := 4) 6 g_cX4 rfl ⟨by decide, rfl⟩ ⟨by decide, rfl⟩ (show ¬ (_ ∨ _) by decide) dX7_init_155 ?_
  refine n_iinc X (fun ad => [(1, .int 1), (0, .ref (ad 0))]) (v := 1) dX7_init_156 0 (fun _ => rfl) (by decide) (by decide) (fun _ => rfl) ?_
  refine n_goto X 138 dX7_init_159 (by decide) ?_
  refine n_iload_n X dX7_init_138 0 (fun _ => rfl) ?_
  refine n_iconst X (v := 4) dX7_init_139 (by decide) ?_
  refine n_ge_f X 162 dX7_init_140 (by decide) (by decide) ?_
  refine n_aload_n X dX7_init_143 1 (fun _ => rfl) ?_
  refine n_getr X g_cX7 w_X7_init_inX7 7 (by decide) w_X7_init_52 (a := 39) ⟨by decide, rfl⟩ rfl rfl dX7_init_144 ?_
  refine n_iload_n X dX7_init_147 0 (fun _ => rfl) ?_
  refine n_new X g_cX4 w_X7_init_inX4 w_X7_init_cl50 w_X7_init_isX4 w_X7_init_itX4 rfl df_X4 (by decide) (by decide) (by decide) (fun ad q => by have e0 : va_up ad 84 q 0 = ad 0 := va_up_ne _ _ (by decide); simp only [e0]) (fun ad q => by have e0 : va_up ad 84 q 39 = ad 39 := va_up_ne _ _ (by decide); simp only [e0]) dX7_init_148 ?_
  refine n_dupr X dX7_init_151 ?_
  refine n_call X (fun ad => []) (fun _ => rfl) (cwI 0 X.2.2.2.2.1 gX7_init_X4_init rfl rfl rfl (X.2.2.2.2.1 _ w_X7_init_itX4) (X.2.2.2.2.1 _ w_X7_init_ml65) (X.2.2.2.2.1 _ w_X7_init_imX4_init) rfl hdn_X4_init ⟨Nat.le_of_ble_eq_true rfl, Nat.le_of_ble_eq_true rfl⟩) (fun _ => Nat.le_of_ble_eq_true rfl) (by decide) (by decide) (by decide) (fun ad ad' h => by simp only [h 0 (by decide)]) (fun ad ad' h => by simp only [h 39 (by decide), h 84 (by decide)]) dX7_init_152 (fun ad => cn_X4_init 84 _ _ (by decide) rfl rfl) ?_
  refine n_aast X (n := 4) 6 g_cX4 rfl ⟨by decide, rfl⟩ ⟨by decide, rfl⟩ (show ¬ (_ ∨ _) by decide) dX7_init_155 ?_
  refine n_iinc X (fun ad => [(1, .int 2), (0, .ref (ad 0))]) (v := 2) dX7_init_156 0 (fun _ => rfl) (by decide) (by decide) (fun _ => rfl) ?_
  refine n_goto X 138 dX7_init_159 (by decide) ?_
  refine n_iload_n X dX7_init_138 0 (fun _ => rfl) ?_
  refine n_iconst X (v := 4) dX7_init_139 (by decide) ?_
  refine n_ge_f X 162 dX7_init_140 (by decide) (by decide) ?_
  refine n_aload_n X dX7_init_143 1 (fun _ => rfl) ?_
  refine n_getr X g_cX7 w_X7_init_inX7 7 (by decide) w_X7_init_52 (a := 39) ⟨by decide, rfl⟩ rfl rfl dX7_init_144 ?_
  refine n_iload_n X dX7_init_147 0 (fun _ => rfl) ?_
  refine n_new X g_cX4 w_X7_init_inX4 w_X7_init_cl50 w_X7_init_isX4 w_X7_init_itX4 rfl df_X4 (by decide) (by decide) (by decide) (fun ad q => by have e0 : va_up ad 86 q 0 = ad 0 := va_up_ne _ _ (by decide); simp only [e0]) (fun ad q => by have e0 : va_up ad 86 q 39 = ad 39 := va_up_ne _ _ (by decide); simp only [e0]) dX7_init_148 ?_
  refine n_dupr X dX7_init_151 ?_
  refine n_call X (fun ad => []) (fun _ => rfl) (cwI 0 X.2.2.2.2.1 gX7_init_X4_init rfl rfl rfl (X.2.2.2.2.1 _ w_X7_init_itX4) (X.2.2.2.2.1 _ w_X7_init_ml65) (X.2.2.2.2.1 _ w_X7_init_imX4_init) rfl hdn_X4_init ⟨Nat.le_of_ble_eq_true rfl, Nat.le_of_ble_eq_true rfl⟩) (fun _ => Nat.le_of_ble_eq_true rfl) (by decide) (by decide) (by decide) (fun ad ad' h => by simp only [h 0 (by decide)]) (fun ad ad' h => by simp only [h 39 (by decide), h 86 (by decide)]) dX7_init_152 (fun ad => cn_X4_init 86 _ _ (by decide) rfl rfl) ?_
  refine n_aast X (n := 4) 6 g_cX4 rfl ⟨by decide, rfl⟩ ⟨by decide, rfl⟩ (show ¬ (_ ∨ _) by decide) dX7_init_155 ?_
  refine n_iinc X (fun ad => [(1, .int 3), (0, .ref (ad 0))]) (v := 3) dX7_init_156 0 (fun _ => rfl) (by decide) (by decide) (fun _ => rfl) ?_
  refine n_goto X 138 dX7_init_159 (by decide) ?_
  refine n_iload_n X dX7_init_138 0 (fun _ => rfl) ?_
  refine n_iconst X (v := 4) dX7_init_139 (by decide) ?_
  refine n_ge_f X 162 dX7_init_140 (by decide) (by decide) ?_
  refine n_aload_n X dX7_init_143 1 (fun _ => rfl) ?_
  refine n_getr X g_cX7 w_X7_init_inX7 7 (by decide) w_X7_init_52 (a := 39) ⟨by decide, rfl⟩ rfl rfl dX7_init_144 ?_
  refine n_iload_n X dX7_init_147 0 (fun _ => rfl) ?_
  refine n_new X g_cX4 w_X7_init_inX4 w_X7_init_cl50 w_X7_init_isX4 w_X7_init_itX4 rfl df_X4 (by decide) (by decide) (by decide) (fun ad q => by have e0 : va_up ad 88 q 0 = ad 0 := va_up_ne _ _ (by decide); simp only [e0]) (fun ad q => by have e0 : va_up ad 88 q 39 = ad 39 := va_up_ne _ _ (by decide); simp only [e0]) dX7_init_148 ?_
  refine n_dupr X dX7_init_151 ?_
  refine n_call X (fun ad => []) (fun _ => rfl) (cwI 0 X.2.2.2.2.1 gX7_init_X4_init rfl rfl rfl (X.2.2.2.2.1 _ w_X7_init_itX4) (X.2.2.2.2.1 _ w_X7_init_ml65) (X.2.2.2.2.1 _ w_X7_init_imX4_init) rfl hdn_X4_init ⟨Nat.le_of_ble_eq_true rfl, Nat.le_of_ble_eq_true rfl⟩) (fun _ => Nat.le_of_ble_eq_true rfl) (by decide) (by decide) (by decide) (fun ad ad' h => by simp only [h 0 (by decide)]) (fun ad ad' h => by simp only [h 39 (by decide), h 88 (by decide)]) dX7_init_152 (fun ad => cn_X4_init 88 _ _ (by decide) rfl rfl) ?_
  refine n_aast X (n := 4) 6 g_cX4 rfl ⟨by decide, rfl⟩ ⟨by decide, rfl⟩ (show ¬ (_ ∨ _) by decide) dX7_init_155 ?_
  refine n_iinc X (fun ad => [(1, .int 4), (0, .ref (ad 0))]) (v := 4) dX7_init_156 0 (fun _ => rfl) (by decide) (by decide) (fun _ => rfl) ?_
  refine n_goto X 138 dX7_init_159 (by decide) ?_
  refine n_iload_n X dX7_init_138 0 (fun _ => rfl) ?_
  refine n_iconst X (v := 4) dX7_init_139 (by decide) ?_
  refine n_ge_t X 162 dX7_init_140 (by decide) (by decide) ?_
  exact n_ret X rfl rfl (by decide) (by decide) dX7_init_162
