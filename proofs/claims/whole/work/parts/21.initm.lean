abbrev rmn_X8_init : Room := { frames := 1, cells := 12, slots := 1101, locals := 12 }
theorem hdn_X8_init : yX8_init.cls ≠ "java/lang/invoke/MethodHandle" ∧ yX8_init.cls ≠ "java/lang/invoke/VarHandle" ∧ (parseMethodDescriptor yX8_init.desc).map (fun d => d.parameters.length) = some 0 := by decide +kernel
theorem w_X8_init_ob : Cond.methodLink RX8 1 objectInit ∈ wsX8_init := by decide +kernel
theorem w_X8_init_obi : Cond.instanceMethod objectInit ∈ wsX8_init := by decide +kernel
theorem w_X8_init_obc : Cond.code objectInit ⟨#[0xb1]⟩ 1 none ∈ wsX8_init := by decide +kernel
theorem w_X8_init_acint : Cond.arrayClass .int ∈ wsX8_init := by decide +kernel
theorem w_X8_init_7 : Cond.fieldLink RX8 7 "TokenDoorsModel" "state" "[I" ∈ wsX8_init := by decide +kernel
theorem w_X8_init_inX8 : ∀ w ∈ wsX80, w ∈ wsX8_init := by decide +kernel
theorem w_X8_init_13 : Cond.fieldLink RX8 13 "TokenDoorsModel" "readPage" "[I" ∈ wsX8_init := by decide +kernel
theorem w_X8_init_16 : Cond.fieldLink RX8 16 "TokenDoorsModel" "tape" "[I" ∈ wsX8_init := by decide +kernel
theorem w_X8_init_19 : Cond.fieldLink RX8 19 "TokenDoorsModel" "ends" "[I" ∈ wsX8_init := by decide +kernel
theorem w_X8_init_22 : Cond.fieldLink RX8 22 "TokenDoorsModel" "letters" "[I" ∈ wsX8_init := by decide +kernel
theorem w_X8_init_25 : Cond.fieldLink RX8 25 "TokenDoorsModel" "opened" "I" ∈ wsX8_init := by decide +kernel
theorem w_X8_init_29 : Cond.fieldLink RX8 29 "TokenDoorsModel" "turnedBy" "[I" ∈ wsX8_init := by decide +kernel
theorem w_X8_init_32 : Cond.fieldLink RX8 32 "TokenDoorsModel" "seen" "[I" ∈ wsX8_init := by decide +kernel
theorem w_X8_init_35 : Cond.fieldLink RX8 35 "TokenDoorsModel" "letBy" "[I" ∈ wsX8_init := by decide +kernel
theorem w_X8_init_acboolean : Cond.arrayClass .boolean ∈ wsX8_init := by decide +kernel
theorem w_X8_init_38 : Cond.fieldLink RX8 38 "TokenDoorsModel" "isKept" "[Z" ∈ wsX8_init := by decide +kernel
theorem w_X8_init_42 : Cond.fieldLink RX8 42 "TokenDoorsModel" "lanes" "[I" ∈ wsX8_init := by decide +kernel
theorem w_X8_init_45 : Cond.fieldLink RX8 45 "TokenDoorsModel" "lengths" "[I" ∈ wsX8_init := by decide +kernel
theorem w_X8_init_48 : Cond.fieldLink RX8 48 "TokenDoorsModel" "cells" "[I" ∈ wsX8_init := by decide +kernel
def t0_X8_init (S : g_St) : g_St := (S.1, g_u S.2 0 0 (some 1))
def t1_X8_init (S : g_St) : g_St := (t0_X8_init S)
def t2_X8_init (S : g_St) : g_St := ((t0_X8_init S).1, g_u (t1_X8_init S).2 0 1 (some 2))
def t3_X8_init (S : g_St) : g_St := (t2_X8_init S)
def t4_X8_init (S : g_St) : g_St := ((t2_X8_init S).1, g_u (t3_X8_init S).2 0 2 (some 3))
def t5_X8_init (S : g_St) : g_St := (t4_X8_init S)
def t6_X8_init (S : g_St) : g_St := (g_u (t4_X8_init S).1 4 (0 : Int32).toNatClampNeg 0, (t5_X8_init S).2)
def t7_X8_init (S : g_St) : g_St := (t6_X8_init S)
def t8_X8_init (S : g_St) : g_St := (g_u (t6_X8_init S).1 4 (1 : Int32).toNatClampNeg 5, (t7_X8_init S).2)
def t9_X8_init (S : g_St) : g_St := (t8_X8_init S)
def t10_X8_init (S : g_St) : g_St := (g_u (t8_X8_init S).1 4 (2 : Int32).toNatClampNeg 9, (t9_X8_init S).2)
def t11_X8_init (S : g_St) : g_St := (t10_X8_init S)
def t12_X8_init (S : g_St) : g_St := (g_u (t10_X8_init S).1 4 (3 : Int32).toNatClampNeg 15, (t11_X8_init S).2)
def t13_X8_init (S : g_St) : g_St := (t12_X8_init S)
def t14_X8_init (S : g_St) : g_St := (g_u (t12_X8_init S).1 4 (4 : Int32).toNatClampNeg 19, (t13_X8_init S).2)
def t15_X8_init (S : g_St) : g_St := (t14_X8_init S)
def t16_X8_init (S : g_St) : g_St := (g_u (t14_X8_init S).1 4 (5 : Int32).toNatClampNeg 24, (t15_X8_init S).2)
def t17_X8_init (S : g_St) : g_St := (t16_X8_init S)
def t18_X8_init (S : g_St) : g_St := ((t16_X8_init S).1, g_u (t17_X8_init S).2 0 11 (some 4))
def t19_X8_init (S : g_St) : g_St := (t18_X8_init S)
def t20_X8_init (S : g_St) : g_St := (g_u (t18_X8_init S).1 5 (0 : Int32).toNatClampNeg 116, (t19_X8_init S).2)
def t21_X8_init (S : g_St) : g_St := (t20_X8_init S)
def t22_X8_init (S : g_St) : g_St := (g_u (t20_X8_init S).1 5 (1 : Int32).toNatClampNeg 111, (t21_X8_init S).2)
def t23_X8_init (S : g_St) : g_St := (t22_X8_init S)
def t24_X8_init (S : g_St) : g_St := (g_u (t22_X8_init S).1 5 (2 : Int32).toNatClampNeg 107, (t23_X8_init S).2)
def t25_X8_init (S : g_St) : g_St := (t24_X8_init S)
def t26_X8_init (S : g_St) : g_St := (g_u (t24_X8_init S).1 5 (3 : Int32).toNatClampNeg 101, (t25_X8_init S).2)
def t27_X8_init (S : g_St) : g_St := (t26_X8_init S)
def t28_X8_init (S : g_St) : g_St := (g_u (t26_X8_init S).1 5 (4 : Int32).toNatClampNeg 110, (t27_X8_init S).2)
def t29_X8_init (S : g_St) : g_St := (t28_X8_init S)
def t30_X8_init (S : g_St) : g_St := (g_u (t28_X8_init S).1 5 (5 : Int32).toNatClampNeg 108, (t29_X8_init S).2)
def t31_X8_init (S : g_St) : g_St := (t30_X8_init S)
def t32_X8_init (S : g_St) : g_St := (g_u (t30_X8_init S).1 5 (6 : Int32).toNatClampNeg 101, (t31_X8_init S).2)
def t33_X8_init (S : g_St) : g_St := (t32_X8_init S)
def t34_X8_init (S : g_St) : g_St := (g_u (t32_X8_init S).1 5 (7 : Int32).toNatClampNeg 97, (t33_X8_init S).2)
def t35_X8_init (S : g_St) : g_St := (t34_X8_init S)
def t36_X8_init (S : g_St) : g_St := (g_u (t34_X8_init S).1 5 (8 : Int32).toNatClampNeg 107, (t35_X8_init S).2)
def t37_X8_init (S : g_St) : g_St := (t36_X8_init S)
def t38_X8_init (S : g_St) : g_St := (g_u (t36_X8_init S).1 5 (9 : Int32).toNatClampNeg 119, (t37_X8_init S).2)
def t39_X8_init (S : g_St) : g_St := (t38_X8_init S)
def t40_X8_init (S : g_St) : g_St := (g_u (t38_X8_init S).1 5 (10 : Int32).toNatClampNeg 105, (t39_X8_init S).2)
def t41_X8_init (S : g_St) : g_St := (t40_X8_init S)
def t42_X8_init (S : g_St) : g_St := (g_u (t40_X8_init S).1 5 (11 : Int32).toNatClampNeg 110, (t41_X8_init S).2)
def t43_X8_init (S : g_St) : g_St := (t42_X8_init S)
def t44_X8_init (S : g_St) : g_St := (g_u (t42_X8_init S).1 5 (12 : Int32).toNatClampNeg 100, (t43_X8_init S).2)
def t45_X8_init (S : g_St) : g_St := (t44_X8_init S)
def t46_X8_init (S : g_St) : g_St := (g_u (t44_X8_init S).1 5 (13 : Int32).toNatClampNeg 111, (t45_X8_init S).2)
def t47_X8_init (S : g_St) : g_St := (t46_X8_init S)
def t48_X8_init (S : g_St) : g_St := (g_u (t46_X8_init S).1 5 (14 : Int32).toNatClampNeg 119, (t47_X8_init S).2)
def t49_X8_init (S : g_St) : g_St := (t48_X8_init S)
def t50_X8_init (S : g_St) : g_St := (g_u (t48_X8_init S).1 5 (15 : Int32).toNatClampNeg 104, (t49_X8_init S).2)
def t51_X8_init (S : g_St) : g_St := (t50_X8_init S)
def t52_X8_init (S : g_St) : g_St := (g_u (t50_X8_init S).1 5 (16 : Int32).toNatClampNeg 97, (t51_X8_init S).2)
def t53_X8_init (S : g_St) : g_St := (t52_X8_init S)
def t54_X8_init (S : g_St) : g_St := (g_u (t52_X8_init S).1 5 (17 : Int32).toNatClampNeg 108, (t53_X8_init S).2)
def t55_X8_init (S : g_St) : g_St := (t54_X8_init S)
def t56_X8_init (S : g_St) : g_St := (g_u (t54_X8_init S).1 5 (18 : Int32).toNatClampNeg 102, (t55_X8_init S).2)
def t57_X8_init (S : g_St) : g_St := (t56_X8_init S)
def t58_X8_init (S : g_St) : g_St := (g_u (t56_X8_init S).1 5 (19 : Int32).toNatClampNeg 99, (t57_X8_init S).2)
def t59_X8_init (S : g_St) : g_St := (t58_X8_init S)
def t60_X8_init (S : g_St) : g_St := (g_u (t58_X8_init S).1 5 (20 : Int32).toNatClampNeg 114, (t59_X8_init S).2)
def t61_X8_init (S : g_St) : g_St := (t60_X8_init S)
def t62_X8_init (S : g_St) : g_St := (g_u (t60_X8_init S).1 5 (21 : Int32).toNatClampNeg 111, (t61_X8_init S).2)
def t63_X8_init (S : g_St) : g_St := (t62_X8_init S)
def t64_X8_init (S : g_St) : g_St := (g_u (t62_X8_init S).1 5 (22 : Int32).toNatClampNeg 119, (t63_X8_init S).2)
def t65_X8_init (S : g_St) : g_St := (t64_X8_init S)
def t66_X8_init (S : g_St) : g_St := (g_u (t64_X8_init S).1 5 (23 : Int32).toNatClampNeg 100, (t65_X8_init S).2)
def t67_X8_init (S : g_St) : g_St := (t66_X8_init S)
def t68_X8_init (S : g_St) : g_St := ((t66_X8_init S).1, g_u (t67_X8_init S).2 0 12 (some 5))
def t69_X8_init (S : g_St) : g_St := (t68_X8_init S)
def t70_X8_init (S : g_St) : g_St := (g_u (t68_X8_init S).1 0 13 ((-4)), (t69_X8_init S).2)
def t71_X8_init (S : g_St) : g_St := (t70_X8_init S)
def t72_X8_init (S : g_St) : g_St := ((t70_X8_init S).1, g_u (t71_X8_init S).2 0 18 (some 6))
def t73_X8_init (S : g_St) : g_St := (t72_X8_init S)
def t74_X8_init (S : g_St) : g_St := ((t72_X8_init S).1, g_u (t73_X8_init S).2 0 19 (some 7))
def t75_X8_init (S : g_St) : g_St := (t74_X8_init S)
def t76_X8_init (S : g_St) : g_St := ((t74_X8_init S).1, g_u (t75_X8_init S).2 0 21 (some 8))
def t77_X8_init (S : g_St) : g_St := (t76_X8_init S)
def t78_X8_init (S : g_St) : g_St := ((t76_X8_init S).1, g_u (t77_X8_init S).2 0 22 (some 9))
def t79_X8_init (S : g_St) : g_St := (t78_X8_init S)
def t80_X8_init (S : g_St) : g_St := (g_u (t78_X8_init S).1 10 (0 : Int32).toNatClampNeg ((-4)), (t79_X8_init S).2)
def t81_X8_init (S : g_St) : g_St := (t80_X8_init S)
def t82_X8_init (S : g_St) : g_St := (g_u (t80_X8_init S).1 10 (1 : Int32).toNatClampNeg ((-4)), (t81_X8_init S).2)
def t83_X8_init (S : g_St) : g_St := (t82_X8_init S)
def t84_X8_init (S : g_St) : g_St := (g_u (t82_X8_init S).1 10 (2 : Int32).toNatClampNeg ((-4)), (t83_X8_init S).2)
def t85_X8_init (S : g_St) : g_St := (t84_X8_init S)
def t86_X8_init (S : g_St) : g_St := (g_u (t84_X8_init S).1 10 (3 : Int32).toNatClampNeg ((-4)), (t85_X8_init S).2)
def t87_X8_init (S : g_St) : g_St := (t86_X8_init S)
def t88_X8_init (S : g_St) : g_St := ((t86_X8_init S).1, g_u (t87_X8_init S).2 0 23 (some 10))
def t89_X8_init (S : g_St) : g_St := (t88_X8_init S)
def t90_X8_init (S : g_St) : g_St := ((t88_X8_init S).1, g_u (t89_X8_init S).2 0 24 (some 11))
def t91_X8_init (S : g_St) : g_St := (t90_X8_init S)
def z_X8_init (o N : Nat) (S : g_St) : g_St := ((t90_X8_init S).1, g_u (t91_X8_init S).2 0 25 (some 12))
set_option maxRecDepth 100000 in
set_option maxHeartbeats 1000000 in
theorem cn_X8_init {l : Launch} {D : va_G} {base : Nat} {cy : Nat → ClassId} {ad : Nat → Nat} (S : g_St) : g_Mn l g_KM D base cy yX8_init wsX8_init rmn_X8_init [.ref (ad 0)] ad 1 S 13 (z_X8_init 0 1 S) 12 1101 := by
  refine n_of (av := fun ad => [.ref (ad 0)]) (lv := fun ad => [(0, .ref (ad 0))]) (cc := cX8_init) (maxL := 1) (by decide) rfl rfl (fun _ => Nat.le_of_ble_eq_true rfl) (fun _ => rfl) (fun ad' h => by simp only [h 0 (by decide)]) ?_
  intro x X hl hD hy
  subst hl hD hy
  refine n_aload_n X dX8_init_0 0 (fun _ => rfl) ?_
  refine n_obj X w_X8_init_ob w_X8_init_obi w_X8_init_obc (by decide) (by decide) dX8_init_1 ?_
  refine n_aload_n X dX8_init_4 0 (fun _ => rfl) ?_
  refine n_sipush X (v := 270) dX8_init_5 (by decide) ?_
  refine n_newa X .int 0 (ty := .int) rfl rfl (fun _ _ h => h) rfl w_X8_init_acint rfl (by decide) (by decide) (by decide) (by decide) (by decide) (by decide) (fun ad q => by have e0 : va_up ad 1 q 0 = ad 0 := va_up_ne _ _ (by decide); simp only [e0]) (fun ad q => by have e0 : va_up ad 1 q 0 = ad 0 := va_up_ne _ _ (by decide); simp only [e0]) dX8_init_8 ?_
  refine n_putr X g_cX8 w_X8_init_inX8 0 (by decide) w_X8_init_7 ⟨by decide, rfl⟩ rfl rfl rfl (t := .array .int) (by decide +kernel) (fun _ => ⟨rfl, rfl⟩) (by decide) dX8_init_10 ?_
  refine n_aload_n X dX8_init_13 0 (fun _ => rfl) ?_
  refine n_bipush X (v := 45) dX8_init_14 (by decide) ?_
  refine n_newa X .int 0 (ty := .int) rfl rfl (fun _ _ h => h) rfl w_X8_init_acint rfl (by decide) (by decide) (by decide) (by decide) (by decide) (by decide) (fun ad q => by have e0 : va_up ad 2 q 0 = ad 0 := va_up_ne _ _ (by decide); simp only [e0]) (fun ad q => by have e0 : va_up ad 2 q 0 = ad 0 := va_up_ne _ _ (by decide); simp only [e0]) dX8_init_16 ?_
  refine n_putr X g_cX8 w_X8_init_inX8 1 (by decide) w_X8_init_13 ⟨by decide, rfl⟩ rfl rfl rfl (t := .array .int) (by decide +kernel) (fun _ => ⟨rfl, rfl⟩) (by decide) dX8_init_18 ?_
  refine n_aload_n X dX8_init_21 0 (fun _ => rfl) ?_
  refine n_sipush X (v := 160) dX8_init_22 (by decide) ?_
  refine n_newa X .int 0 (ty := .int) rfl rfl (fun _ _ h => h) rfl w_X8_init_acint rfl (by decide) (by decide) (by decide) (by decide) (by decide) (by decide) (fun ad q => by have e0 : va_up ad 3 q 0 = ad 0 := va_up_ne _ _ (by decide); simp only [e0]) (fun ad q => by have e0 : va_up ad 3 q 0 = ad 0 := va_up_ne _ _ (by decide); simp only [e0]) dX8_init_25 ?_
  refine n_putr X g_cX8 w_X8_init_inX8 2 (by decide) w_X8_init_16 ⟨by decide, rfl⟩ rfl rfl rfl (t := .array .int) (by decide +kernel) (fun _ => ⟨rfl, rfl⟩) (by decide) dX8_init_27 ?_
  refine n_aload_n X dX8_init_30 0 (fun _ => rfl) ?_
  refine n_bipush X (v := 6) dX8_init_31 (by decide) ?_
  refine n_newa X .int 0 (ty := .int) rfl rfl (fun _ _ h => h) rfl w_X8_init_acint rfl (by decide) (by decide) (by decide) (by decide) (by decide) (by decide) (fun ad q => by have e0 : va_up ad 4 q 0 = ad 0 := va_up_ne _ _ (by decide); simp only [e0]) (fun ad q => by have e0 : va_up ad 4 q 0 = ad 0 := va_up_ne _ _ (by decide); simp only [e0]) dX8_init_33 ?_
  refine n_dupr X dX8_init_35 ?_
  refine n_iconst X (v := 0) dX8_init_36 (by decide) ?_
  refine n_iconst X (v := 0) dX8_init_37 (by decide) ?_
  refine n_iast X (n := 6) ⟨by decide, rfl⟩ (show ¬ (_ ∨ _) by decide) dX8_init_38 ?_
  refine n_dupr X dX8_init_39 ?_
  refine n_iconst X (v := 1) dX8_init_40 (by decide) ?_
  refine n_iconst X (v := 5) dX8_init_41 (by decide) ?_
  refine n_iast X (n := 6) ⟨by decide, rfl⟩ (show ¬ (_ ∨ _) by decide) dX8_init_42 ?_
  refine n_dupr X dX8_init_43 ?_
  refine n_iconst X (v := 2) dX8_init_44 (by decide) ?_
  refine n_bipush X (v := 9) dX8_init_45 (by decide) ?_
  refine n_iast X (n := 6) ⟨by decide, rfl⟩ (show ¬ (_ ∨ _) by decide) dX8_init_47 ?_
  refine n_dupr X dX8_init_48 ?_
  refine n_iconst X (v := 3) dX8_init_49 (by decide) ?_
  refine n_bipush X (v := 15) dX8_init_50 (by decide) ?_
  refine n_iast X (n := 6) ⟨by decide, rfl⟩ (show ¬ (_ ∨ _) by decide) dX8_init_52 ?_
  refine n_dupr X dX8_init_53 ?_
  refine n_iconst X (v := 4) dX8_init_54 (by decide) ?_
  refine n_bipush X (v := 19) dX8_init_55 (by decide) ?_
  refine n_iast X (n := 6) ⟨by decide, rfl⟩ (show ¬ (_ ∨ _) by decide) dX8_init_57 ?_
  refine n_dupr X dX8_init_58 ?_
  refine n_iconst X (v := 5) dX8_init_59 (by decide) ?_
  refine n_bipush X (v := 24) dX8_init_60 (by decide) ?_
  refine n_iast X (n := 6) ⟨by decide, rfl⟩ (show ¬ (_ ∨ _) by decide) dX8_init_62 ?_
  refine n_putr X g_cX8 w_X8_init_inX8 11 (by decide) w_X8_init_19 ⟨by decide, rfl⟩ rfl rfl rfl (t := .array .int) (by decide +kernel) (fun _ => ⟨rfl, rfl⟩) (by decide) dX8_init_63 ?_
  refine n_aload_n X dX8_init_66 0 (fun _ => rfl) ?_
  refine n_bipush X (v := 24) dX8_init_67 (by decide) ?_
  refine n_newa X .int 0 (ty := .int) rfl rfl (fun _ _ h => h) rfl w_X8_init_acint rfl (by decide) (by decide) (by decide) (by decide) (by decide) (by decide) (fun ad q => by have e0 : va_up ad 5 q 0 = ad 0 := va_up_ne _ _ (by decide); simp only [e0]) (fun ad q => by have e0 : va_up ad 5 q 0 = ad 0 := va_up_ne _ _ (by decide); simp only [e0]) dX8_init_69 ?_
  refine n_dupr X dX8_init_71 ?_
  refine n_iconst X (v := 0) dX8_init_72 (by decide) ?_
  refine n_bipush X (v := 116) dX8_init_73 (by decide) ?_
  refine n_iast X (n := 24) ⟨by decide, rfl⟩ (show ¬ (_ ∨ _) by decide) dX8_init_75 ?_
  refine n_dupr X dX8_init_76 ?_
  refine n_iconst X (v := 1) dX8_init_77 (by decide) ?_
  refine n_bipush X (v := 111) dX8_init_78 (by decide) ?_
  refine n_iast X (n := 24) ⟨by decide, rfl⟩ (show ¬ (_ ∨ _) by decide) dX8_init_80 ?_
  refine n_dupr X dX8_init_81 ?_
  refine n_iconst X (v := 2) dX8_init_82 (by decide) ?_
  refine n_bipush X (v := 107) dX8_init_83 (by decide) ?_
  refine n_iast X (n := 24) ⟨by decide, rfl⟩ (show ¬ (_ ∨ _) by decide) dX8_init_85 ?_
  refine n_dupr X dX8_init_86 ?_
  refine n_iconst X (v := 3) dX8_init_87 (by decide) ?_
  refine n_bipush X (v := 101) dX8_init_88 (by decide) ?_
  refine n_iast X (n := 24) ⟨by decide, rfl⟩ (show ¬ (_ ∨ _) by decide) dX8_init_90 ?_
  refine n_dupr X dX8_init_91 ?_
  refine n_iconst X (v := 4) dX8_init_92 (by decide) ?_
  refine n_bipush X (v := 110) dX8_init_93 (by decide) ?_
  refine n_iast X (n := 24) ⟨by decide, rfl⟩ (show ¬ (_ ∨ _) by decide) dX8_init_95 ?_
  refine n_dupr X dX8_init_96 ?_
  refine n_iconst X (v := 5) dX8_init_97 (by decide) ?_
  refine n_bipush X (v := 108) dX8_init_98 (by decide) ?_
  refine n_iast X (n := 24) ⟨by decide, rfl⟩ (show ¬ (_ ∨ _) by decide) dX8_init_100 ?_
  refine n_dupr X dX8_init_101 ?_
  refine n_bipush X (v := 6) dX8_init_102 (by decide) ?_
  refine n_bipush X (v := 101) dX8_init_104 (by decide) ?_
  refine n_iast X (n := 24) ⟨by decide, rfl⟩ (show ¬ (_ ∨ _) by decide) dX8_init_106 ?_
  refine n_dupr X dX8_init_107 ?_
  refine n_bipush X (v := 7) dX8_init_108 (by decide) ?_
  refine n_bipush X (v := 97) dX8_init_110 (by decide) ?_
  refine n_iast X (n := 24) ⟨by decide, rfl⟩ (show ¬ (_ ∨ _) by decide) dX8_init_112 ?_
  refine n_dupr X dX8_init_113 ?_
  refine n_bipush X (v := 8) dX8_init_114 (by decide) ?_
  refine n_bipush X (v := 107) dX8_init_116 (by decide) ?_
  refine n_iast X (n := 24) ⟨by decide, rfl⟩ (show ¬ (_ ∨ _) by decide) dX8_init_118 ?_
  refine n_dupr X dX8_init_119 ?_
  refine n_bipush X (v := 9) dX8_init_120 (by decide) ?_
  refine n_bipush X (v := 119) dX8_init_122 (by decide) ?_
  refine n_iast X (n := 24) ⟨by decide, rfl⟩ (show ¬ (_ ∨ _) by decide) dX8_init_124 ?_
  refine n_dupr X dX8_init_125 ?_
  refine n_bipush X (v := 10) dX8_init_126 (by decide) ?_
  refine n_bipush X (v := 105) dX8_init_128 (by decide) ?_
  refine n_iast X (n := 24) ⟨by decide, rfl⟩ (show ¬ (_ ∨ _) by decide) dX8_init_130 ?_
  refine n_dupr X dX8_init_131 ?_
  refine n_bipush X (v := 11) dX8_init_132 (by decide) ?_
  refine n_bipush X (v := 110) dX8_init_134 (by decide) ?_
  refine n_iast X (n := 24) ⟨by decide, rfl⟩ (show ¬ (_ ∨ _) by decide) dX8_init_136 ?_
  refine n_dupr X dX8_init_137 ?_
  refine n_bipush X (v := 12) dX8_init_138 (by decide) ?_
  refine n_bipush X (v := 100) dX8_init_140 (by decide) ?_
  refine n_iast X (n := 24) ⟨by decide, rfl⟩ (show ¬ (_ ∨ _) by decide) dX8_init_142 ?_
  refine n_dupr X dX8_init_143 ?_
  refine n_bipush X (v := 13) dX8_init_144 (by decide) ?_
  refine n_bipush X (v := 111) dX8_init_146 (by decide) ?_
  refine n_iast X (n := 24) ⟨by decide, rfl⟩ (show ¬ (_ ∨ _) by decide) dX8_init_148 ?_
  refine n_dupr X dX8_init_149 ?_
  refine n_bipush X (v := 14) dX8_init_150 (by decide) ?_
  refine n_bipush X (v := 119) dX8_init_152 (by decide) ?_
  refine n_iast X (n := 24) ⟨by decide, rfl⟩ (show ¬ (_ ∨ _) by decide) dX8_init_154 ?_
  refine n_dupr X dX8_init_155 ?_
  refine n_bipush X (v := 15) dX8_init_156 (by decide) ?_
  refine n_bipush X (v := 104) dX8_init_158 (by decide) ?_
  refine n_iast X (n := 24) ⟨by decide, rfl⟩ (show ¬ (_ ∨ _) by decide) dX8_init_160 ?_
  refine n_dupr X dX8_init_161 ?_
  refine n_bipush X (v := 16) dX8_init_162 (by decide) ?_
  refine n_bipush X (v := 97) dX8_init_164 (by decide) ?_
  refine n_iast X (n := 24) ⟨by decide, rfl⟩ (show ¬ (_ ∨ _) by decide) dX8_init_166 ?_
  refine n_dupr X dX8_init_167 ?_
  refine n_bipush X (v := 17) dX8_init_168 (by decide) ?_
  refine n_bipush X (v := 108) dX8_init_170 (by decide) ?_
  refine n_iast X (n := 24) ⟨by decide, rfl⟩ (show ¬ (_ ∨ _) by decide) dX8_init_172 ?_
  refine n_dupr X dX8_init_173 ?_
  refine n_bipush X (v := 18) dX8_init_174 (by decide) ?_
  refine n_bipush X (v := 102) dX8_init_176 (by decide) ?_
  refine n_iast X (n := 24) ⟨by decide, rfl⟩ (show ¬ (_ ∨ _) by decide) dX8_init_178 ?_
  refine n_dupr X dX8_init_179 ?_
  refine n_bipush X (v := 19) dX8_init_180 (by decide) ?_
  refine n_bipush X (v := 99) dX8_init_182 (by decide) ?_
  refine n_iast X (n := 24) ⟨by decide, rfl⟩ (show ¬ (_ ∨ _) by decide) dX8_init_184 ?_
  refine n_dupr X dX8_init_185 ?_
  refine n_bipush X (v := 20) dX8_init_186 (by decide) ?_
  refine n_bipush X (v := 114) dX8_init_188 (by decide) ?_
  refine n_iast X (n := 24) ⟨by decide, rfl⟩ (show ¬ (_ ∨ _) by decide) dX8_init_190 ?_
  refine n_dupr X dX8_init_191 ?_
  refine n_bipush X (v := 21) dX8_init_192 (by decide) ?_
  refine n_bipush X (v := 111) dX8_init_194 (by decide) ?_
  refine n_iast X (n := 24) ⟨by decide, rfl⟩ (show ¬ (_ ∨ _) by decide) dX8_init_196 ?_
  refine n_dupr X dX8_init_197 ?_
  refine n_bipush X (v := 22) dX8_init_198 (by decide) ?_
  refine n_bipush X (v := 119) dX8_init_200 (by decide) ?_
  refine n_iast X (n := 24) ⟨by decide, rfl⟩ (show ¬ (_ ∨ _) by decide) dX8_init_202 ?_
  refine n_dupr X dX8_init_203 ?_
  refine n_bipush X (v := 23) dX8_init_204 (by decide) ?_
  refine n_bipush X (v := 100) dX8_init_206 (by decide) ?_
  refine n_iast X (n := 24) ⟨by decide, rfl⟩ (show ¬ (_ ∨ _) by decide) dX8_init_208 ?_
  refine n_putr X g_cX8 w_X8_init_inX8 12 (by decide) w_X8_init_22 ⟨by decide, rfl⟩ rfl rfl rfl (t := .array .int) (by decide +kernel) (fun _ => ⟨rfl, rfl⟩) (by decide) dX8_init_209 ?_
  refine n_aload_n X dX8_init_212 0 (fun _ => rfl) ?_
  refine n_bipush X (v := (-4)) dX8_init_213 (by decide) ?_
  refine n_puti X g_cX8 w_X8_init_inX8 13 (by decide) w_X8_init_25 ⟨by decide, rfl⟩ rfl rfl (by decide +kernel) dX8_init_215 ?_
  refine n_aload_n X dX8_init_218 0 (fun _ => rfl) ?_
  refine n_iconst X (v := 4) dX8_init_219 (by decide) ?_
  refine n_newa X .int 0 (ty := .int) rfl rfl (fun _ _ h => h) rfl w_X8_init_acint rfl (by decide) (by decide) (by decide) (by decide) (by decide) (by decide) (fun ad q => by have e0 : va_up ad 6 q 0 = ad 0 := va_up_ne _ _ (by decide); simp only [e0]) (fun ad q => by have e0 : va_up ad 6 q 0 = ad 0 := va_up_ne _ _ (by decide); simp only [e0]) dX8_init_220 ?_
  refine n_putr X g_cX8 w_X8_init_inX8 18 (by decide) w_X8_init_29 ⟨by decide, rfl⟩ rfl rfl rfl (t := .array .int) (by decide +kernel) (fun _ => ⟨rfl, rfl⟩) (by decide) dX8_init_222 ?_
  refine n_aload_n X dX8_init_225 0 (fun _ => rfl) ?_
  refine n_bipush X (v := 12) dX8_init_226 (by decide) ?_
  refine n_newa X .int 0 (ty := .int) rfl rfl (fun _ _ h => h) rfl w_X8_init_acint rfl (by decide) (by decide) (by decide) (by decide) (by decide) (by decide) (fun ad q => by have e0 : va_up ad 7 q 0 = ad 0 := va_up_ne _ _ (by decide); simp only [e0]) (fun ad q => by have e0 : va_up ad 7 q 0 = ad 0 := va_up_ne _ _ (by decide); simp only [e0]) dX8_init_228 ?_
  refine n_putr X g_cX8 w_X8_init_inX8 19 (by decide) w_X8_init_32 ⟨by decide, rfl⟩ rfl rfl rfl (t := .array .int) (by decide +kernel) (fun _ => ⟨rfl, rfl⟩) (by decide) dX8_init_230 ?_
  refine n_aload_n X dX8_init_233 0 (fun _ => rfl) ?_
  refine n_sipush X (v := 410) dX8_init_234 (by decide) ?_
  refine n_newa X .int 0 (ty := .int) rfl rfl (fun _ _ h => h) rfl w_X8_init_acint rfl (by decide) (by decide) (by decide) (by decide) (by decide) (by decide) (fun ad q => by have e0 : va_up ad 8 q 0 = ad 0 := va_up_ne _ _ (by decide); simp only [e0]) (fun ad q => by have e0 : va_up ad 8 q 0 = ad 0 := va_up_ne _ _ (by decide); simp only [e0]) dX8_init_237 ?_
  refine n_putr X g_cX8 w_X8_init_inX8 21 (by decide) w_X8_init_35 ⟨by decide, rfl⟩ rfl rfl rfl (t := .array .int) (by decide +kernel) (fun _ => ⟨rfl, rfl⟩) (by decide) dX8_init_239 ?_
  refine n_aload_n X dX8_init_242 0 (fun _ => rfl) ?_
  refine n_iconst X (v := 2) dX8_init_243 (by decide) ?_
  refine n_newa X .boolean 2 (ty := .boolean) rfl rfl (fun _ _ h => h) rfl w_X8_init_acboolean rfl (by decide) (by decide) (by decide) (by decide) (by decide) (by decide) (fun ad q => by have e0 : va_up ad 9 q 0 = ad 0 := va_up_ne _ _ (by decide); simp only [e0]) (fun ad q => by have e0 : va_up ad 9 q 0 = ad 0 := va_up_ne _ _ (by decide); simp only [e0]) dX8_init_244 ?_
  refine n_putr X g_cX8 w_X8_init_inX8 22 (by decide) w_X8_init_38 ⟨by decide, rfl⟩ rfl rfl rfl (t := .array .boolean) (by decide +kernel) (fun _ => ⟨rfl, rfl⟩) (by decide) dX8_init_246 ?_
  refine n_aload_n X dX8_init_249 0 (fun _ => rfl) ?_
  refine n_iconst X (v := 4) dX8_init_250 (by decide) ?_
  refine n_newa X .int 0 (ty := .int) rfl rfl (fun _ _ h => h) rfl w_X8_init_acint rfl (by decide) (by decide) (by decide) (by decide) (by decide) (by decide) (fun ad q => by have e0 : va_up ad 10 q 0 = ad 0 := va_up_ne _ _ (by decide); simp only [e0]) (fun ad q => by have e0 : va_up ad 10 q 0 = ad 0 := va_up_ne _ _ (by decide); simp only [e0]) dX8_init_251 ?_
  refine n_dupr X dX8_init_253 ?_
  refine n_iconst X (v := 0) dX8_init_254 (by decide) ?_
  refine n_bipush X (v := (-4)) dX8_init_255 (by decide) ?_
  refine n_iast X (n := 4) ⟨by decide, rfl⟩ (show ¬ (_ ∨ _) by decide) dX8_init_257 ?_
  refine n_dupr X dX8_init_258 ?_
  refine n_iconst X (v := 1) dX8_init_259 (by decide) ?_
  refine n_bipush X (v := (-4)) dX8_init_260 (by decide) ?_
  refine n_iast X (n := 4) ⟨by decide, rfl⟩ (show ¬ (_ ∨ _) by decide) dX8_init_262 ?_
  refine n_dupr X dX8_init_263 ?_
  refine n_iconst X (v := 2) dX8_init_264 (by decide) ?_
  refine n_bipush X (v := (-4)) dX8_init_265 (by decide) ?_
  refine n_iast X (n := 4) ⟨by decide, rfl⟩ (show ¬ (_ ∨ _) by decide) dX8_init_267 ?_
  refine n_dupr X dX8_init_268 ?_
  refine n_iconst X (v := 3) dX8_init_269 (by decide) ?_
  refine n_bipush X (v := (-4)) dX8_init_270 (by decide) ?_
  refine n_iast X (n := 4) ⟨by decide, rfl⟩ (show ¬ (_ ∨ _) by decide) dX8_init_272 ?_
  refine n_putr X g_cX8 w_X8_init_inX8 23 (by decide) w_X8_init_42 ⟨by decide, rfl⟩ rfl rfl rfl (t := .array .int) (by decide +kernel) (fun _ => ⟨rfl, rfl⟩) (by decide) dX8_init_273 ?_
  refine n_aload_n X dX8_init_276 0 (fun _ => rfl) ?_
  refine n_iconst X (v := 4) dX8_init_277 (by decide) ?_
  refine n_newa X .int 0 (ty := .int) rfl rfl (fun _ _ h => h) rfl w_X8_init_acint rfl (by decide) (by decide) (by decide) (by decide) (by decide) (by decide) (fun ad q => by have e0 : va_up ad 11 q 0 = ad 0 := va_up_ne _ _ (by decide); simp only [e0]) (fun ad q => by have e0 : va_up ad 11 q 0 = ad 0 := va_up_ne _ _ (by decide); simp only [e0]) dX8_init_278 ?_
  refine n_putr X g_cX8 w_X8_init_inX8 24 (by decide) w_X8_init_45 ⟨by decide, rfl⟩ rfl rfl rfl (t := .array .int) (by decide +kernel) (fun _ => ⟨rfl, rfl⟩) (by decide) dX8_init_280 ?_
  refine n_aload_n X dX8_init_283 0 (fun _ => rfl) ?_
  refine n_sipush X (v := 160) dX8_init_284 (by decide) ?_
  refine n_newa X .int 0 (ty := .int) rfl rfl (fun _ _ h => h) rfl w_X8_init_acint rfl (by decide) (by decide) (by decide) (by decide) (by decide) (by decide) (fun ad q => by have e0 : va_up ad 12 q 0 = ad 0 := va_up_ne _ _ (by decide); simp only [e0]) (fun ad q => by have e0 : va_up ad 12 q 0 = ad 0 := va_up_ne _ _ (by decide); simp only [e0]) dX8_init_287 ?_
  refine n_putr X g_cX8 w_X8_init_inX8 25 (by decide) w_X8_init_48 ⟨by decide, rfl⟩ rfl rfl rfl (t := .array .int) (by decide +kernel) (fun _ => ⟨rfl, rfl⟩) (by decide) dX8_init_289 ?_
  exact n_ret X rfl rfl (by decide) (by decide) dX8_init_292
