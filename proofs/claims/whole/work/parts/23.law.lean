/-! ===== the law: two pools ===== -/
abbrev g_AL (s : State) : Nat → Prop := fun q => s.heap.size ≤ q
def g_LV (x : g_CX) (ad2 : Nat → Nat) (Q : State → Prop) (Sc Sm : g_St) (pc : Nat) (lv : List (Nat × Value)) (st : List Value) : Prop :=
  ∀ (H : Heap) (locs : List Loc) (ls : Array Slot), va_P (g_D x) vwCl (g_pw g_KC 90 (g_ad x) (g_cy x) Sc) H → va_P (g_D x) vwCl (g_pw g_KM 13 ad2 (g_cy x) Sm) H → va_S (g_AL (g_s x)) (g_s x).heap H locs → lv_has ls 4 lv → W (g_p x) (g_l x) (g_e x) (g_R x) (g_s x) (g_m x) (g_args x) (g_below x) (g_meth x) (g_c x) H locs 600000 7302250 Q (F0 (g_m x) pc ls st)
def g_LX (x : g_CX) (ad2 : Nat → Nat) (b L : Nat) (xs : Nat → Int32) : Prop :=
  (g_p x).tables.exec = Jvm.exec ∧ (g_c x).code = cL_law ∧ (g_c x).maxLocals = 4 ∧ (g_s x).vm.findClass RL = some (g_m x).cls ∧ (∀ w ∈ wsL_law, w.before (g_args x) (g_s x) = true) ∧ va_K (g_D x) vwCl (g_tys (g_cy x)) (g_s x) ∧ (∀ i j, i < 90 → j < 90 → g_ad x i = g_ad x j → i = j) ∧ (∀ i j, i < 13 → j < 13 → ad2 i = ad2 j → i = j) ∧ (∀ i j, i < 90 → j < 13 → g_ad x i ≠ ad2 j) ∧ (∀ i, i < 90 → (g_s x).heap.size ≤ g_ad x i) ∧ (∀ i, i < 13 → (g_s x).heap.size ≤ ad2 i) ∧ g_R x = room_1 ∧ va_X b L xs (g_s x) (g_s x).heap ∧ b < (g_s x).heap.size ∧ g_Z (g_zz x) (g_AL (g_s x)) (g_s x) (g_s x).heap
theorem g_Z_narrow {zz : (Nat → Nat) × (Nat → Nat)} {A B : Nat → Prop} {U : State} {H : Heap} (h : g_Z zz A U H) (hAB : ∀ q, B q → A q) : g_Z zz B U H := ⟨h.1.narrow hAB, h.2.1, h.2.2.1.narrow hAB, h.2.2.2.narrow hAB⟩
theorem g_pw_kept {K : Nat → g_Kd} {N : Nat} {D : va_G} {ad : Nat → Nat} {cy : Nat → ClassId} {S : g_St} {H H1 : Heap} (hP : va_P D vwCl (g_pw K N ad cy S) H) (h : ∀ i, i < N → ad i < H.size → H1[ad i]? = H[ad i]?) : va_P D vwCl (g_pw K N ad cy S) H1 := by
  refine hP.kept (fun k q hq => ?_)
  have hk : k < N := by
    have := (List.getElem?_eq_some_iff.mp hq).1
    rwa [g_pw_len] at this
  have hl := (hP k q hq).lt
  rw [g_at ⟨hk, rfl⟩] at hq
  cases hq
  exact h k hk hl
section GLV
variable {x : g_CX} {ad2 : Nat → Nat} {b L : Nat} {xs : Nat → Int32} {Q : State → Prop} {Sc Sm : g_St} {pc : Nat} {lv : List (Nat × Value)} {rest : List Value}

theorem l_iconst (X : g_LX x ad2 b L xs) {n : Int} {v : Int32} (d : decode cL_law pc = .ok (.iconst n, 1)) (hv : Int32.ofInt n = v)
    (k : g_LV x ad2 Q Sc Sm (pc + 1) lv (.int v :: rest)) : g_LV x ad2 Q Sc Sm pc lv rest := fun H locs ls hP hM hS hl => lv_iconst X.1 X.2.1 d hv (k H locs ls hP hM hS hl)
theorem l_bipush (X : g_LX x ad2 b L xs) {n : Int} {v : Int32} (d : decode cL_law pc = .ok (.bipush n, 2)) (hv : (Int8.ofInt n).toInt32 = v)
    (k : g_LV x ad2 Q Sc Sm (pc + 2) lv (.int v :: rest)) : g_LV x ad2 Q Sc Sm pc lv rest := fun H locs ls hP hM hS hl => lv_bipush X.1 X.2.1 d hv (k H locs ls hP hM hS hl)
theorem l_iload_n (X : g_LX x ad2 b L xs) {i : Fin 4} {v : Int32} (d : decode cL_law pc = .ok (.iload_n i, 1)) (j : Nat) (h : lv[j]? = some ((i : Nat), .int v))
    (k : g_LV x ad2 Q Sc Sm (pc + 1) lv (.int v :: rest)) : g_LV x ad2 Q Sc Sm pc lv rest := fun H locs ls hP hM hS hl => lv_iload_n X.1 X.2.1 d rfl (lv_at hl j h) (k H locs ls hP hM hS hl)
theorem l_aload_n (X : g_LX x ad2 b L xs) {i : Fin 4} {v : Nat} (d : decode cL_law pc = .ok (.aload_n i, 1)) (j : Nat) (h : lv[j]? = some ((i : Nat), .ref v))
    (k : g_LV x ad2 Q Sc Sm (pc + 1) lv (.ref v :: rest)) : g_LV x ad2 Q Sc Sm pc lv rest := fun H locs ls hP hM hS hl => lv_aload_n X.1 X.2.1 d rfl (lv_at hl j h) (k H locs ls hP hM hS hl)
theorem l_iadd (X : g_LX x ad2 b L xs) {a b : Int32} (d : decode cL_law pc = .ok (.iadd, 1))
    (k : g_LV x ad2 Q Sc Sm (pc + 1) lv (.int (a + b) :: rest)) : g_LV x ad2 Q Sc Sm pc lv (.int b :: .int a :: rest) := fun H locs ls hP hM hS hl => lv_iadd X.1 X.2.1 d (k H locs ls hP hM hS hl)
theorem l_isub (X : g_LX x ad2 b L xs) {a b : Int32} (d : decode cL_law pc = .ok (.isub, 1))
    (k : g_LV x ad2 Q Sc Sm (pc + 1) lv (.int (a - b) :: rest)) : g_LV x ad2 Q Sc Sm pc lv (.int b :: .int a :: rest) := fun H locs ls hP hM hS hl => lv_isub X.1 X.2.1 d (k H locs ls hP hM hS hl)
theorem l_iand (X : g_LX x ad2 b L xs) {a b : Int32} (d : decode cL_law pc = .ok (.iand, 1))
    (k : g_LV x ad2 Q Sc Sm (pc + 1) lv (.int (a &&& b) :: rest)) : g_LV x ad2 Q Sc Sm pc lv (.int b :: .int a :: rest) := fun H locs ls hP hM hS hl => lv_iand X.1 X.2.1 d (k H locs ls hP hM hS hl)
theorem l_iinc (X : g_LX x ad2 b L xs) (lv' : List (Nat × Value)) {i : Nat} {n : Int} {a v : Int32} (d : decode cL_law pc = .ok (.iinc i n, 3)) (j : Nat) (hj : lv[j]? = some (i, .int a)) (hv : a + Int32.ofInt n = v) (hn : i < 4) (hl2 : (i, Value.int v) :: lv.filter (fun q => !(q.1 == i) && !(q.1 + 1 == i && q.2.category == 2)) = lv')
    (k : g_LV x ad2 Q Sc Sm (pc + 3) lv' rest) : g_LV x ad2 Q Sc Sm pc lv rest := fun H locs ls hP hM hS hl => lv_iinc X.1 X.2.1 d hl hj hv hn hl2 (fun ls hl => k H locs ls hP hM hS hl)
theorem l_goto (X : g_LX x ad2 b L xs) {off : Int} (tgt : Nat) (d : decode cL_law pc = .ok (.goto off, 3)) (ht : (pc : Int) + off = (tgt : Int))
    (k : g_LV x ad2 Q Sc Sm tgt lv rest) : g_LV x ad2 Q Sc Sm pc lv rest := fun H locs ls hP hM hS hl => lv_goto X.1 X.2.1 d ht (k H locs ls hP hM hS hl)
theorem l_sub (ks : List Nat) (lv' : List (Nat × Value)) (h : lv_pick lv ks = lv') (k : g_LV x ad2 Q Sc Sm pc lv' rest) : g_LV x ad2 Q Sc Sm pc lv rest := fun H locs ls hP hM hS hl => k H locs ls hP hM hS (lv_sub hl ks h)
theorem l_gt (X : g_LX x ad2 b L xs) {off : Int} (tgt : Nat) {a b : Int32} (d : decode cL_law pc = .ok (.if_icmp .gt off, 3)) (ht : (pc : Int) + off = (tgt : Int))
    (kt : b < a → g_LV x ad2 Q Sc Sm tgt lv rest) (kf : ¬ b < a → g_LV x ad2 Q Sc Sm (pc + 3) lv rest) : g_LV x ad2 Q Sc Sm pc lv (.int b :: .int a :: rest) := fun H locs ls hP hM hS hl => lv_icmp_gt X.1 X.2.1 d ht (fun q => kt q H locs ls hP hM hS hl) (fun q => kf q H locs ls hP hM hS hl)
theorem l_same (X : g_LX x ad2 b L xs) {off : Int} (tgt : Nat) {a : Int32} (d : decode cL_law pc = .ok (.if_icmp .eq off, 3)) (ht : (pc : Int) + off = (tgt : Int))
    (k : g_LV x ad2 Q Sc Sm tgt lv rest) : g_LV x ad2 Q Sc Sm pc lv (.int a :: .int a :: rest) := fun H locs ls hP hM hS hl => lv_icmp_eq X.1 X.2.1 d ht (fun _ => k H locs ls hP hM hS hl) (fun q => absurd rfl q)
theorem l_samel (X : g_LX x ad2 b L xs) {off : Int} (tgt : Nat) {a : Int64} (d : decode cL_law pc = .ok (.lcmp, 1)) (d2 : decode cL_law (pc + 1) = .ok (.ifCond .eq off, 3)) (ht : ((pc + 1 : Nat) : Int) + off = (tgt : Int))
    (k : g_LV x ad2 Q Sc Sm tgt lv rest) : g_LV x ad2 Q Sc Sm pc lv (.long a :: .long a :: rest) := by
  intro H locs ls hP hM hS hl
  refine W.lcmp X.1 X.2.1 d ?_
  have h0 : lg_cmp a a = 0 := by simp [lg_cmp]
  exact lv_if_eq X.1 X.2.1 d2 ht (fun _ => k H locs ls hP hM hS hl) (fun q => absurd h0 q)
theorem l_tableIn (X : g_LX x ad2 b L xs) {dflt lo hi : Int} {offs : Array Int} {len : Nat} {a : Int32} {off : Int} (tgt : Nat) (d : decode cL_law pc = .ok (.tableswitch dflt lo hi offs, len)) (h1 : ¬ a.toInt < lo) (h2 : ¬ hi < a.toInt) (ho : offs[(a.toInt - lo).toNat]? = some off) (ht : (pc : Int) + off = (tgt : Int))
    (k : g_LV x ad2 Q Sc Sm tgt lv rest) : g_LV x ad2 Q Sc Sm pc lv (.int a :: rest) := fun H locs ls hP hM hS hl => lv_tableIn X.1 X.2.1 d h1 h2 ho ht (k H locs ls hP hM hS hl)
theorem l_tableOut (X : g_LX x ad2 b L xs) {dflt lo hi : Int} {offs : Array Int} {len : Nat} {a : Int32} (tgt : Nat) (d : decode cL_law pc = .ok (.tableswitch dflt lo hi offs, len)) (h1 : a.toInt < lo ∨ hi < a.toInt) (ht : (pc : Int) + dflt = (tgt : Int))
    (k : g_LV x ad2 Q Sc Sm tgt lv rest) : g_LV x ad2 Q Sc Sm pc lv (.int a :: rest) := fun H locs ls hP hM hS hl => lv_tableOut X.1 X.2.1 d h1 ht (k H locs ls hP hM hS hl)
theorem l_slen (X : g_LX x ad2 b L xs) (d : decode cL_law pc = .ok (.arraylength, 1))
    (k : g_LV x ad2 Q Sc Sm (pc + 1) lv (.int (nI L) :: rest)) : g_LV x ad2 Q Sc Sm pc lv (.ref b :: rest) := fun H locs ls hP hM hS hl =>
  va_slen X.1 X.2.1 X.2.2.2.2.2.2.2.2.2.2.2.2.1 X.2.2.2.2.2.2.2.2.2.2.2.2.2.1 (Nat.not_le.mpr X.2.2.2.2.2.2.2.2.2.2.2.2.2.1) hS d (k H locs ls hP hM hS hl)
theorem l_sld (X : g_LX x ad2 b L xs) {j : Nat} {i : Int32} (hi : i = nI j) (hj : j < L) (hL : L < 2 ^ 31) (d : decode cL_law pc = .ok (.iaload, 1))
    (k : g_LV x ad2 Q Sc Sm (pc + 1) lv (.int (xs j) :: rest)) : g_LV x ad2 Q Sc Sm pc lv (.int i :: .ref b :: rest) := by
  intro H locs ls hP hM hS hl
  subst hi
  refine va_sld X.1 X.2.1 X.2.2.2.2.2.2.2.2.2.2.2.2.1 X.2.2.2.2.2.2.2.2.2.2.2.2.2.1 (Nat.not_le.mpr X.2.2.2.2.2.2.2.2.2.2.2.2.2.1) hS (vp_in_nI hj hL) d ?_
  rw [nI_clamp (by omega)]
  exact k H locs ls hP hM hS hl
theorem l_callci (X : g_LX x ad2 b L xs) {y : MethodName} {bytes : ByteArray} {maxL n index : Nat} {rt : Option FieldType} {ws : List Cond} {rm1 : Room} (As : List Value) (hn : As.length = n) (cw : CallW room_1 (g_s x) (g_args x) RL RX7 index y bytes maxL rt ws rm1 0 0 n) (hr : (rest.map fun v => v.category).sum ≤ 8) (d : decode cL_law pc = .ok (.invokevirtual index, 3)) {r : Int32} {S1 : g_St}
    (hC : g_Mi (g_l x) g_KC 90 (g_D x) (g_ad x) (g_cy x) (g_zz x) y ws rm1 (.ref ((g_ad x) 0) :: As) Sc (r, S1))
    (kk : g_LV x ad2 Q S1 Sm (pc + 3) lv (.int r :: rest)) : g_LV x ad2 Q Sc Sm pc lv (As.reverse ++ .ref ((g_ad x) 0) :: rest) := by
  intro H locs ls hP hM hS hl
  have hR := X.2.2.2.2.2.2.2.2.2.2.2.1
  have hZ := X.2.2.2.2.2.2.2.2.2.2.2.2.2.2
  have hAA : ∀ q, g_A 90 (g_ad x) q → g_AL (g_s x) q := fun q hq => by
    obtain ⟨i, hi, rfl⟩ := hq
    exact X.2.2.2.2.2.2.2.2.2.1 i hi
  refine va_calli (va_runV (As := As) (rest := rest) (index := index) (ws := ws) (rm := rm1) (C := RX7) (cc := cL_law) (nL := 4) (Ts := wsL_law) (own := RL) ⟨X.1, X.2.1, X.2.2.1, X.2.2.2.1, X.2.2.2.2.1⟩ hC (by rw [hR]; exact cw) ⟨g_blind, va_recv X.2.2.2.2.2.1 hP g_cX7.1 (g_at (i := 0) (kd := g_kX7) ⟨by decide, rfl⟩), fun U hU hW => ⟨rfl, by rw [hU]; exact hP, va_K.moved hW.alike X.2.2.2.2.2.1, g_Z_narrow (g_Z_at hZ hS hU hW) hAA⟩⟩ rfl hn hl.1 rfl (lv_room hr) d ⟨by rw [hR]; exact Nat.le_refl _, by rw [hR]; exact Nat.le_refl _⟩) hS (fun q _ h => hAA q h) hAA (fun r0 u t H1 locs1 ht _ hp hB _ hk hS1 => ?_)
  cases hp
  rw [ht] at hB
  exact kk H1 locs1 ls hB (g_pw_kept hM (fun i hi hz => hk _ hz (fun ⟨j, hj, e⟩ => X.2.2.2.2.2.2.2.2.1 j i hj hi e.symm))) hS1 hl
theorem l_callmi (X : g_LX x ad2 b L xs) {y : MethodName} {bytes : ByteArray} {maxL n index : Nat} {rt : Option FieldType} {ws : List Cond} {rm1 : Room} (As : List Value) (hn : As.length = n) (cw : CallW room_1 (g_s x) (g_args x) RL RX8 index y bytes maxL rt ws rm1 0 0 n) (hr : (rest.map fun v => v.category).sum ≤ 8) (d : decode cL_law pc = .ok (.invokevirtual index, 3)) {r : Int32} {S1 : g_St}
    (hC : g_Mi (g_l x) g_KM 13 (g_D x) ad2 (g_cy x) (g_zz x) y ws rm1 (.ref (ad2 0) :: As) Sm (r, S1))
    (kk : g_LV x ad2 Q Sc S1 (pc + 3) lv (.int r :: rest)) : g_LV x ad2 Q Sc Sm pc lv (As.reverse ++ .ref (ad2 0) :: rest) := by
  intro H locs ls hP hM hS hl
  have hR := X.2.2.2.2.2.2.2.2.2.2.2.1
  have hZ := X.2.2.2.2.2.2.2.2.2.2.2.2.2.2
  have hAA : ∀ q, g_A 13 ad2 q → g_AL (g_s x) q := fun q hq => by
    obtain ⟨i, hi, rfl⟩ := hq
    exact X.2.2.2.2.2.2.2.2.2.2.1 i hi
  refine va_calli (va_runV (As := As) (rest := rest) (index := index) (ws := ws) (rm := rm1) (C := RX8) (cc := cL_law) (nL := 4) (Ts := wsL_law) (own := RL) ⟨X.1, X.2.1, X.2.2.1, X.2.2.2.1, X.2.2.2.2.1⟩ hC (by rw [hR]; exact cw) ⟨g_blind, va_recv X.2.2.2.2.2.1 hM g_cX8.1 (g_at (i := 0) (kd := g_kX8) ⟨by decide, rfl⟩), fun U hU hW => ⟨rfl, by rw [hU]; exact hM, va_K.moved hW.alike X.2.2.2.2.2.1, g_Z_narrow (g_Z_at hZ hS hU hW) hAA⟩⟩ rfl hn hl.1 rfl (lv_room hr) d ⟨by rw [hR]; exact Nat.le_refl _, by rw [hR]; exact Nat.le_refl _⟩) hS (fun q _ h => hAA q h) hAA (fun r0 u t H1 locs1 ht _ hp hB _ hk hS1 => ?_)
  cases hp
  rw [ht] at hB
  exact kk H1 locs1 ls (g_pw_kept hP (fun i hi hz => hk _ hz (fun ⟨j, hj, e⟩ => X.2.2.2.2.2.2.2.2.1 i j hi hj e))) hB hS1 hl
theorem l_callcl (X : g_LX x ad2 b L xs) {y : MethodName} {bytes : ByteArray} {maxL n index : Nat} {rt : Option FieldType} {ws : List Cond} {rm1 : Room} (As : List Value) (hn : As.length = n) (cw : CallW room_1 (g_s x) (g_args x) RL RX7 index y bytes maxL rt ws rm1 0 0 n) (hr : (rest.map fun v => v.category).sum ≤ 8) (d : decode cL_law pc = .ok (.invokevirtual index, 3)) {r : Int64} {S1 : g_St}
    (hC : g_Ml (g_l x) g_KC 90 (g_D x) (g_ad x) (g_cy x) (g_zz x) y ws rm1 (.ref ((g_ad x) 0) :: As) Sc (r, S1))
    (kk : g_LV x ad2 Q S1 Sm (pc + 3) lv (.long r :: rest)) : g_LV x ad2 Q Sc Sm pc lv (As.reverse ++ .ref ((g_ad x) 0) :: rest) := by
  intro H locs ls hP hM hS hl
  have hR := X.2.2.2.2.2.2.2.2.2.2.2.1
  have hZ := X.2.2.2.2.2.2.2.2.2.2.2.2.2.2
  have hAA : ∀ q, g_A 90 (g_ad x) q → g_AL (g_s x) q := fun q hq => by
    obtain ⟨i, hi, rfl⟩ := hq
    exact X.2.2.2.2.2.2.2.2.2.1 i hi
  refine va_calll (va_runV (As := As) (rest := rest) (index := index) (ws := ws) (rm := rm1) (C := RX7) (cc := cL_law) (nL := 4) (Ts := wsL_law) (own := RL) ⟨X.1, X.2.1, X.2.2.1, X.2.2.2.1, X.2.2.2.2.1⟩ hC (by rw [hR]; exact cw) ⟨g_blind, va_recv X.2.2.2.2.2.1 hP g_cX7.1 (g_at (i := 0) (kd := g_kX7) ⟨by decide, rfl⟩), fun U hU hW => ⟨rfl, by rw [hU]; exact hP, va_K.moved hW.alike X.2.2.2.2.2.1, g_Z_narrow (g_Z_at hZ hS hU hW) hAA⟩⟩ rfl hn hl.1 rfl (lv_room hr) d ⟨by rw [hR]; exact Nat.le_refl _, by rw [hR]; exact Nat.le_refl _⟩) hS (fun q _ h => hAA q h) hAA (fun r0 u t H1 locs1 ht _ hp hB _ hk hS1 => ?_)
  cases hp
  rw [ht] at hB
  exact kk H1 locs1 ls hB (g_pw_kept hM (fun i hi hz => hk _ hz (fun ⟨j, hj, e⟩ => X.2.2.2.2.2.2.2.2.1 j i hj hi e.symm))) hS1 hl
theorem l_callml (X : g_LX x ad2 b L xs) {y : MethodName} {bytes : ByteArray} {maxL n index : Nat} {rt : Option FieldType} {ws : List Cond} {rm1 : Room} (As : List Value) (hn : As.length = n) (cw : CallW room_1 (g_s x) (g_args x) RL RX8 index y bytes maxL rt ws rm1 0 0 n) (hr : (rest.map fun v => v.category).sum ≤ 8) (d : decode cL_law pc = .ok (.invokevirtual index, 3)) {r : Int64} {S1 : g_St}
    (hC : g_Ml (g_l x) g_KM 13 (g_D x) ad2 (g_cy x) (g_zz x) y ws rm1 (.ref (ad2 0) :: As) Sm (r, S1))
    (kk : g_LV x ad2 Q Sc S1 (pc + 3) lv (.long r :: rest)) : g_LV x ad2 Q Sc Sm pc lv (As.reverse ++ .ref (ad2 0) :: rest) := by
  intro H locs ls hP hM hS hl
  have hR := X.2.2.2.2.2.2.2.2.2.2.2.1
  have hZ := X.2.2.2.2.2.2.2.2.2.2.2.2.2.2
  have hAA : ∀ q, g_A 13 ad2 q → g_AL (g_s x) q := fun q hq => by
    obtain ⟨i, hi, rfl⟩ := hq
    exact X.2.2.2.2.2.2.2.2.2.2.1 i hi
  refine va_calll (va_runV (As := As) (rest := rest) (index := index) (ws := ws) (rm := rm1) (C := RX8) (cc := cL_law) (nL := 4) (Ts := wsL_law) (own := RL) ⟨X.1, X.2.1, X.2.2.1, X.2.2.2.1, X.2.2.2.2.1⟩ hC (by rw [hR]; exact cw) ⟨g_blind, va_recv X.2.2.2.2.2.1 hM g_cX8.1 (g_at (i := 0) (kd := g_kX8) ⟨by decide, rfl⟩), fun U hU hW => ⟨rfl, by rw [hU]; exact hM, va_K.moved hW.alike X.2.2.2.2.2.1, g_Z_narrow (g_Z_at hZ hS hU hW) hAA⟩⟩ rfl hn hl.1 rfl (lv_room hr) d ⟨by rw [hR]; exact Nat.le_refl _, by rw [hR]; exact Nat.le_refl _⟩) hS (fun q _ h => hAA q h) hAA (fun r0 u t H1 locs1 ht _ hp hB _ hk hS1 => ?_)
  cases hp
  rw [ht] at hB
  exact kk H1 locs1 ls (g_pw_kept hP (fun i hi hz => hk _ hz (fun ⟨j, hj, e⟩ => X.2.2.2.2.2.2.2.2.1 i j hi hj e))) hB hS1 hl
end GLV
set_option maxRecDepth 100000 in
set_option maxHeartbeats 400000 in
theorem lc_feed {x : g_CX} {ad2 : Nat → Nat} {b L : Nat} {xs : Nat → Int32} {Q : State → Prop} {Sc Sm : g_St} (X : g_LX x ad2 b L xs) {fu i : Nat} (hi : i + 5 ≤ L) (hL : L < 2 ^ 31) {r : Int32} {Sc1 Sm1 : g_St} (h1 : f_X7_feed fu 0 (xs (i + 1)) Sc = some (r, Sc1)) (h2 : f_X8_feed fu 0 (xs (i + 1)) Sm = some (r, Sm1)) (k : g_LV x ad2 Q Sc1 Sm1 1447 [(0, .ref b), (1, .ref (g_ad x 0)), (2, .ref (ad2 0)), (3, .int (nI i))] []) : g_LV x ad2 Q Sc Sm 212 [(0, .ref b), (1, .ref (g_ad x 0)), (2, .ref (ad2 0)), (3, .int (nI i))] [] := by
  refine l_aload_n X dL_law_212 1 rfl ?_
  refine l_aload_n X dL_law_213 0 rfl ?_
  refine l_iload_n X dL_law_214 3 rfl ?_
  refine l_iconst X (v := 1) dL_law_215 (by decide) ?_
  refine l_iadd X dL_law_216 ?_
  refine l_sld X (j := i + 1) (by rw [show (1 : Int32) = nI 1 from rfl, nI_add]) (by omega) (by omega) dL_law_217 ?_
  refine l_callci X [.int (xs (i + 1))] rfl (cwV 1 X.2.2.2.2.1 gL_law_X7_feed rfl rfl rfl hd_X7_feed ⟨Nat.le_of_ble_eq_true rfl, Nat.le_of_ble_eq_true rfl⟩) (Nat.le_of_ble_eq_true rfl) dL_law_218 (ct_X7_feed X.2.2.2.2.2.2.1 0 (xs (i + 1)) ⟨by decide, rfl⟩ _ h1) ?_
  refine l_aload_n X dL_law_221 2 rfl ?_
  refine l_aload_n X dL_law_222 0 rfl ?_
  refine l_iload_n X dL_law_223 3 rfl ?_
  refine l_iconst X (v := 1) dL_law_224 (by decide) ?_
  refine l_iadd X dL_law_225 ?_
  refine l_sld X (j := i + 1) (by rw [show (1 : Int32) = nI 1 from rfl, nI_add]) (by omega) (by omega) dL_law_226 ?_
  refine l_callmi X [.int (xs (i + 1))] rfl (cwV 1 X.2.2.2.2.1 gL_law_X8_feed rfl rfl rfl hd_X8_feed ⟨Nat.le_of_ble_eq_true rfl, Nat.le_of_ble_eq_true rfl⟩) (Nat.le_of_ble_eq_true rfl) dL_law_227 (ct_X8_feed X.2.2.2.2.2.2.2.1 0 (xs (i + 1)) ⟨by decide, rfl⟩ _ h2) ?_
  refine l_same X 1447 dL_law_230 (by decide) ?_
  exact k
set_option maxRecDepth 100000 in
set_option maxHeartbeats 400000 in
theorem lc_end {x : g_CX} {ad2 : Nat → Nat} {b L : Nat} {xs : Nat → Int32} {Q : State → Prop} {Sc Sm : g_St} (X : g_LX x ad2 b L xs) {fu i : Nat} (hi : i + 5 ≤ L) (hL : L < 2 ^ 31) {r : Int32} {Sc1 Sm1 : g_St} (h1 : f_X7_end fu 0 (xs (i + 1)) Sc = some (r, Sc1)) (h2 : f_X8_end fu 0 (xs (i + 1)) Sm = some (r, Sm1)) (k : g_LV x ad2 Q Sc1 Sm1 1447 [(0, .ref b), (1, .ref (g_ad x 0)), (2, .ref (ad2 0)), (3, .int (nI i))] []) : g_LV x ad2 Q Sc Sm 235 [(0, .ref b), (1, .ref (g_ad x 0)), (2, .ref (ad2 0)), (3, .int (nI i))] [] := by
  refine l_aload_n X dL_law_235 1 rfl ?_
  refine l_aload_n X dL_law_236 0 rfl ?_
  refine l_iload_n X dL_law_237 3 rfl ?_
  refine l_iconst X (v := 1) dL_law_238 (by decide) ?_
  refine l_iadd X dL_law_239 ?_
  refine l_sld X (j := i + 1) (by rw [show (1 : Int32) = nI 1 from rfl, nI_add]) (by omega) (by omega) dL_law_240 ?_
  refine l_callci X [.int (xs (i + 1))] rfl (cwV 1 X.2.2.2.2.1 gL_law_X7_end rfl rfl rfl hd_X7_end ⟨Nat.le_of_ble_eq_true rfl, Nat.le_of_ble_eq_true rfl⟩) (Nat.le_of_ble_eq_true rfl) dL_law_241 (ct_X7_end X.2.2.2.2.2.2.1 0 (xs (i + 1)) ⟨by decide, rfl⟩ _ h1) ?_
  refine l_aload_n X dL_law_244 2 rfl ?_
  refine l_aload_n X dL_law_245 0 rfl ?_
  refine l_iload_n X dL_law_246 3 rfl ?_
  refine l_iconst X (v := 1) dL_law_247 (by decide) ?_
  refine l_iadd X dL_law_248 ?_
  refine l_sld X (j := i + 1) (by rw [show (1 : Int32) = nI 1 from rfl, nI_add]) (by omega) (by omega) dL_law_249 ?_
  refine l_callmi X [.int (xs (i + 1))] rfl (cwV 1 X.2.2.2.2.1 gL_law_X8_end rfl rfl rfl hd_X8_end ⟨Nat.le_of_ble_eq_true rfl, Nat.le_of_ble_eq_true rfl⟩) (Nat.le_of_ble_eq_true rfl) dL_law_250 (ct_X8_end X.2.2.2.2.2.2.2.1 0 (xs (i + 1)) ⟨by decide, rfl⟩ _ h2) ?_
  refine l_same X 1447 dL_law_253 (by decide) ?_
  exact k
set_option maxRecDepth 100000 in
set_option maxHeartbeats 400000 in
theorem lc_text {x : g_CX} {ad2 : Nat → Nat} {b L : Nat} {xs : Nat → Int32} {Q : State → Prop} {Sc Sm : g_St} (X : g_LX x ad2 b L xs) {fu i : Nat} (hi : i + 5 ≤ L) (hL : L < 2 ^ 31) {r : Int32} {Sc1 Sm1 : g_St} (h1 : f_X7_text fu 0  Sc = some (r, Sc1)) (h2 : f_X8_text fu 0  Sm = some (r, Sm1)) (k : g_LV x ad2 Q Sc1 Sm1 1447 [(0, .ref b), (1, .ref (g_ad x 0)), (2, .ref (ad2 0)), (3, .int (nI i))] []) : g_LV x ad2 Q Sc Sm 258 [(0, .ref b), (1, .ref (g_ad x 0)), (2, .ref (ad2 0)), (3, .int (nI i))] [] := by
  refine l_aload_n X dL_law_258 1 rfl ?_
  refine l_callci X [] rfl (cwV 0 X.2.2.2.2.1 gL_law_X7_text rfl rfl rfl hd_X7_text ⟨Nat.le_of_ble_eq_true rfl, Nat.le_of_ble_eq_true rfl⟩) (Nat.le_of_ble_eq_true rfl) dL_law_259 (ct_X7_text X.2.2.2.2.2.2.1 0  ⟨by decide, rfl⟩ _ h1) ?_
  refine l_aload_n X dL_law_262 2 rfl ?_
  refine l_callmi X [] rfl (cwV 0 X.2.2.2.2.1 gL_law_X8_text rfl rfl rfl hd_X8_text ⟨Nat.le_of_ble_eq_true rfl, Nat.le_of_ble_eq_true rfl⟩) (Nat.le_of_ble_eq_true rfl) dL_law_263 (ct_X8_text X.2.2.2.2.2.2.2.1 0  ⟨by decide, rfl⟩ _ h2) ?_
  refine l_same X 1447 dL_law_266 (by decide) ?_
  exact k
set_option maxRecDepth 100000 in
set_option maxHeartbeats 400000 in
theorem lc_fault {x : g_CX} {ad2 : Nat → Nat} {b L : Nat} {xs : Nat → Int32} {Q : State → Prop} {Sc Sm : g_St} (X : g_LX x ad2 b L xs) {fu i : Nat} (hi : i + 5 ≤ L) (hL : L < 2 ^ 31) {r : Int32} {Sc1 Sm1 : g_St} (h1 : f_X7_fault fu 0  Sc = some (r, Sc1)) (h2 : f_X8_fault fu 0  Sm = some (r, Sm1)) (k : g_LV x ad2 Q Sc1 Sm1 1447 [(0, .ref b), (1, .ref (g_ad x 0)), (2, .ref (ad2 0)), (3, .int (nI i))] []) : g_LV x ad2 Q Sc Sm 271 [(0, .ref b), (1, .ref (g_ad x 0)), (2, .ref (ad2 0)), (3, .int (nI i))] [] := by
  refine l_aload_n X dL_law_271 1 rfl ?_
  refine l_callci X [] rfl (cwV 0 X.2.2.2.2.1 gL_law_X7_fault rfl rfl rfl hd_X7_fault ⟨Nat.le_of_ble_eq_true rfl, Nat.le_of_ble_eq_true rfl⟩) (Nat.le_of_ble_eq_true rfl) dL_law_272 (ct_X7_fault X.2.2.2.2.2.2.1 0  ⟨by decide, rfl⟩ _ h1) ?_
  refine l_aload_n X dL_law_275 2 rfl ?_
  refine l_callmi X [] rfl (cwV 0 X.2.2.2.2.1 gL_law_X8_fault rfl rfl rfl hd_X8_fault ⟨Nat.le_of_ble_eq_true rfl, Nat.le_of_ble_eq_true rfl⟩) (Nat.le_of_ble_eq_true rfl) dL_law_276 (ct_X8_fault X.2.2.2.2.2.2.2.1 0  ⟨by decide, rfl⟩ _ h2) ?_
  refine l_same X 1447 dL_law_279 (by decide) ?_
  exact k
set_option maxRecDepth 100000 in
set_option maxHeartbeats 400000 in
theorem lc_rule {x : g_CX} {ad2 : Nat → Nat} {b L : Nat} {xs : Nat → Int32} {Q : State → Prop} {Sc Sm : g_St} (X : g_LX x ad2 b L xs) {fu i : Nat} (hi : i + 5 ≤ L) (hL : L < 2 ^ 31) {r : Int32} {Sc1 Sm1 : g_St} (h1 : f_X7_rule fu 0 (xs (i + 1)) Sc = some (r, Sc1)) (h2 : f_X8_rule fu 0 (xs (i + 1)) Sm = some (r, Sm1)) (k : g_LV x ad2 Q Sc1 Sm1 1447 [(0, .ref b), (1, .ref (g_ad x 0)), (2, .ref (ad2 0)), (3, .int (nI i))] []) : g_LV x ad2 Q Sc Sm 284 [(0, .ref b), (1, .ref (g_ad x 0)), (2, .ref (ad2 0)), (3, .int (nI i))] [] := by
  refine l_aload_n X dL_law_284 1 rfl ?_
  refine l_aload_n X dL_law_285 0 rfl ?_
  refine l_iload_n X dL_law_286 3 rfl ?_
  refine l_iconst X (v := 1) dL_law_287 (by decide) ?_
  refine l_iadd X dL_law_288 ?_
  refine l_sld X (j := i + 1) (by rw [show (1 : Int32) = nI 1 from rfl, nI_add]) (by omega) (by omega) dL_law_289 ?_
  refine l_callci X [.int (xs (i + 1))] rfl (cwV 1 X.2.2.2.2.1 gL_law_X7_rule rfl rfl rfl hd_X7_rule ⟨Nat.le_of_ble_eq_true rfl, Nat.le_of_ble_eq_true rfl⟩) (Nat.le_of_ble_eq_true rfl) dL_law_290 (ct_X7_rule X.2.2.2.2.2.2.1 0 (xs (i + 1)) ⟨by decide, rfl⟩ _ h1) ?_
  refine l_aload_n X dL_law_293 2 rfl ?_
  refine l_aload_n X dL_law_294 0 rfl ?_
  refine l_iload_n X dL_law_295 3 rfl ?_
  refine l_iconst X (v := 1) dL_law_296 (by decide) ?_
  refine l_iadd X dL_law_297 ?_
  refine l_sld X (j := i + 1) (by rw [show (1 : Int32) = nI 1 from rfl, nI_add]) (by omega) (by omega) dL_law_298 ?_
  refine l_callmi X [.int (xs (i + 1))] rfl (cwV 1 X.2.2.2.2.1 gL_law_X8_rule rfl rfl rfl hd_X8_rule ⟨Nat.le_of_ble_eq_true rfl, Nat.le_of_ble_eq_true rfl⟩) (Nat.le_of_ble_eq_true rfl) dL_law_299 (ct_X8_rule X.2.2.2.2.2.2.2.1 0 (xs (i + 1)) ⟨by decide, rfl⟩ _ h2) ?_
  refine l_same X 1447 dL_law_302 (by decide) ?_
  exact k
set_option maxRecDepth 100000 in
set_option maxHeartbeats 400000 in
theorem lc_door {x : g_CX} {ad2 : Nat → Nat} {b L : Nat} {xs : Nat → Int32} {Q : State → Prop} {Sc Sm : g_St} (X : g_LX x ad2 b L xs) {fu i : Nat} (hi : i + 5 ≤ L) (hL : L < 2 ^ 31) {r : Int32} {Sc1 Sm1 : g_St} (h1 : f_X7_door fu 0 (xs (i + 1)) (xs (i + 2)) Sc = some (r, Sc1)) (h2 : f_X8_door fu 0 (xs (i + 1)) (xs (i + 2)) Sm = some (r, Sm1)) (k : g_LV x ad2 Q Sc1 Sm1 1447 [(0, .ref b), (1, .ref (g_ad x 0)), (2, .ref (ad2 0)), (3, .int (nI i))] []) : g_LV x ad2 Q Sc Sm 307 [(0, .ref b), (1, .ref (g_ad x 0)), (2, .ref (ad2 0)), (3, .int (nI i))] [] := by
  refine l_aload_n X dL_law_307 1 rfl ?_
  refine l_aload_n X dL_law_308 0 rfl ?_
  refine l_iload_n X dL_law_309 3 rfl ?_
  refine l_iconst X (v := 1) dL_law_310 (by decide) ?_
  refine l_iadd X dL_law_311 ?_
  refine l_sld X (j := i + 1) (by rw [show (1 : Int32) = nI 1 from rfl, nI_add]) (by omega) (by omega) dL_law_312 ?_
  refine l_aload_n X dL_law_313 0 rfl ?_
  refine l_iload_n X dL_law_314 3 rfl ?_
  refine l_iconst X (v := 2) dL_law_315 (by decide) ?_
  refine l_iadd X dL_law_316 ?_
  refine l_sld X (j := i + 2) (by rw [show (2 : Int32) = nI 2 from rfl, nI_add]) (by omega) (by omega) dL_law_317 ?_
  refine l_callci X [.int (xs (i + 1)), .int (xs (i + 2))] rfl (cwV 2 X.2.2.2.2.1 gL_law_X7_door rfl rfl rfl hd_X7_door ⟨Nat.le_of_ble_eq_true rfl, Nat.le_of_ble_eq_true rfl⟩) (Nat.le_of_ble_eq_true rfl) dL_law_318 (ct_X7_door X.2.2.2.2.2.2.1 0 (xs (i + 1)) (xs (i + 2)) ⟨by decide, rfl⟩ _ h1) ?_
  refine l_aload_n X dL_law_321 2 rfl ?_
  refine l_aload_n X dL_law_322 0 rfl ?_
  refine l_iload_n X dL_law_323 3 rfl ?_
  refine l_iconst X (v := 1) dL_law_324 (by decide) ?_
  refine l_iadd X dL_law_325 ?_
  refine l_sld X (j := i + 1) (by rw [show (1 : Int32) = nI 1 from rfl, nI_add]) (by omega) (by omega) dL_law_326 ?_
  refine l_aload_n X dL_law_327 0 rfl ?_
  refine l_iload_n X dL_law_328 3 rfl ?_
  refine l_iconst X (v := 2) dL_law_329 (by decide) ?_
  refine l_iadd X dL_law_330 ?_
  refine l_sld X (j := i + 2) (by rw [show (2 : Int32) = nI 2 from rfl, nI_add]) (by omega) (by omega) dL_law_331 ?_
  refine l_callmi X [.int (xs (i + 1)), .int (xs (i + 2))] rfl (cwV 2 X.2.2.2.2.1 gL_law_X8_door rfl rfl rfl hd_X8_door ⟨Nat.le_of_ble_eq_true rfl, Nat.le_of_ble_eq_true rfl⟩) (Nat.le_of_ble_eq_true rfl) dL_law_332 (ct_X8_door X.2.2.2.2.2.2.2.1 0 (xs (i + 1)) (xs (i + 2)) ⟨by decide, rfl⟩ _ h2) ?_
  refine l_same X 1447 dL_law_335 (by decide) ?_
  exact k
set_option maxRecDepth 100000 in
set_option maxHeartbeats 400000 in
theorem lc_crowd {x : g_CX} {ad2 : Nat → Nat} {b L : Nat} {xs : Nat → Int32} {Q : State → Prop} {Sc Sm : g_St} (X : g_LX x ad2 b L xs) {fu i : Nat} (hi : i + 5 ≤ L) (hL : L < 2 ^ 31) {r : Int32} {Sc1 Sm1 : g_St} (h1 : f_X7_crowd fu 0 (xs (i + 1)) (xs (i + 2)) Sc = some (r, Sc1)) (h2 : f_X8_crowd fu 0 (xs (i + 1)) (xs (i + 2)) Sm = some (r, Sm1)) (k : g_LV x ad2 Q Sc1 Sm1 1447 [(0, .ref b), (1, .ref (g_ad x 0)), (2, .ref (ad2 0)), (3, .int (nI i))] []) : g_LV x ad2 Q Sc Sm 340 [(0, .ref b), (1, .ref (g_ad x 0)), (2, .ref (ad2 0)), (3, .int (nI i))] [] := by
  refine l_aload_n X dL_law_340 1 rfl ?_
  refine l_aload_n X dL_law_341 0 rfl ?_
  refine l_iload_n X dL_law_342 3 rfl ?_
  refine l_iconst X (v := 1) dL_law_343 (by decide) ?_
  refine l_iadd X dL_law_344 ?_
  refine l_sld X (j := i + 1) (by rw [show (1 : Int32) = nI 1 from rfl, nI_add]) (by omega) (by omega) dL_law_345 ?_
  refine l_aload_n X dL_law_346 0 rfl ?_
  refine l_iload_n X dL_law_347 3 rfl ?_
  refine l_iconst X (v := 2) dL_law_348 (by decide) ?_
  refine l_iadd X dL_law_349 ?_
  refine l_sld X (j := i + 2) (by rw [show (2 : Int32) = nI 2 from rfl, nI_add]) (by omega) (by omega) dL_law_350 ?_
  refine l_callci X [.int (xs (i + 1)), .int (xs (i + 2))] rfl (cwV 2 X.2.2.2.2.1 gL_law_X7_crowd rfl rfl rfl hd_X7_crowd ⟨Nat.le_of_ble_eq_true rfl, Nat.le_of_ble_eq_true rfl⟩) (Nat.le_of_ble_eq_true rfl) dL_law_351 (ct_X7_crowd X.2.2.2.2.2.2.1 0 (xs (i + 1)) (xs (i + 2)) ⟨by decide, rfl⟩ _ h1) ?_
  refine l_aload_n X dL_law_354 2 rfl ?_
  refine l_aload_n X dL_law_355 0 rfl ?_
  refine l_iload_n X dL_law_356 3 rfl ?_
  refine l_iconst X (v := 1) dL_law_357 (by decide) ?_
  refine l_iadd X dL_law_358 ?_
  refine l_sld X (j := i + 1) (by rw [show (1 : Int32) = nI 1 from rfl, nI_add]) (by omega) (by omega) dL_law_359 ?_
  refine l_aload_n X dL_law_360 0 rfl ?_
  refine l_iload_n X dL_law_361 3 rfl ?_
  refine l_iconst X (v := 2) dL_law_362 (by decide) ?_
  refine l_iadd X dL_law_363 ?_
  refine l_sld X (j := i + 2) (by rw [show (2 : Int32) = nI 2 from rfl, nI_add]) (by omega) (by omega) dL_law_364 ?_
  refine l_callmi X [.int (xs (i + 1)), .int (xs (i + 2))] rfl (cwV 2 X.2.2.2.2.1 gL_law_X8_crowd rfl rfl rfl hd_X8_crowd ⟨Nat.le_of_ble_eq_true rfl, Nat.le_of_ble_eq_true rfl⟩) (Nat.le_of_ble_eq_true rfl) dL_law_365 (ct_X8_crowd X.2.2.2.2.2.2.2.1 0 (xs (i + 1)) (xs (i + 2)) ⟨by decide, rfl⟩ _ h2) ?_
  refine l_same X 1447 dL_law_368 (by decide) ?_
  exact k
set_option maxRecDepth 100000 in
set_option maxHeartbeats 400000 in
theorem lc_alter {x : g_CX} {ad2 : Nat → Nat} {b L : Nat} {xs : Nat → Int32} {Q : State → Prop} {Sc Sm : g_St} (X : g_LX x ad2 b L xs) {fu i : Nat} (hi : i + 5 ≤ L) (hL : L < 2 ^ 31) {r : Int32} {Sc1 Sm1 : g_St} (h1 : f_X7_alter fu 0 (xs (i + 1)) (xs (i + 2)) (xs (i + 3)) Sc = some (r, Sc1)) (h2 : f_X8_alter fu 0 (xs (i + 1)) (xs (i + 2)) (xs (i + 3)) Sm = some (r, Sm1)) (k : g_LV x ad2 Q Sc1 Sm1 1447 [(0, .ref b), (1, .ref (g_ad x 0)), (2, .ref (ad2 0)), (3, .int (nI i))] []) : g_LV x ad2 Q Sc Sm 373 [(0, .ref b), (1, .ref (g_ad x 0)), (2, .ref (ad2 0)), (3, .int (nI i))] [] := by
  refine l_aload_n X dL_law_373 1 rfl ?_
  refine l_aload_n X dL_law_374 0 rfl ?_
  refine l_iload_n X dL_law_375 3 rfl ?_
  refine l_iconst X (v := 1) dL_law_376 (by decide) ?_
  refine l_iadd X dL_law_377 ?_
  refine l_sld X (j := i + 1) (by rw [show (1 : Int32) = nI 1 from rfl, nI_add]) (by omega) (by omega) dL_law_378 ?_
  refine l_aload_n X dL_law_379 0 rfl ?_
  refine l_iload_n X dL_law_380 3 rfl ?_
  refine l_iconst X (v := 2) dL_law_381 (by decide) ?_
  refine l_iadd X dL_law_382 ?_
  refine l_sld X (j := i + 2) (by rw [show (2 : Int32) = nI 2 from rfl, nI_add]) (by omega) (by omega) dL_law_383 ?_
  refine l_aload_n X dL_law_384 0 rfl ?_
  refine l_iload_n X dL_law_385 3 rfl ?_
  refine l_iconst X (v := 3) dL_law_386 (by decide) ?_
  refine l_iadd X dL_law_387 ?_
  refine l_sld X (j := i + 3) (by rw [show (3 : Int32) = nI 3 from rfl, nI_add]) (by omega) (by omega) dL_law_388 ?_
  refine l_callci X [.int (xs (i + 1)), .int (xs (i + 2)), .int (xs (i + 3))] rfl (cwV 3 X.2.2.2.2.1 gL_law_X7_alter rfl rfl rfl hd_X7_alter ⟨Nat.le_of_ble_eq_true rfl, Nat.le_of_ble_eq_true rfl⟩) (Nat.le_of_ble_eq_true rfl) dL_law_389 (ct_X7_alter X.2.2.2.2.2.2.1 0 (xs (i + 1)) (xs (i + 2)) (xs (i + 3)) ⟨by decide, rfl⟩ _ h1) ?_
  refine l_aload_n X dL_law_392 2 rfl ?_
  refine l_aload_n X dL_law_393 0 rfl ?_
  refine l_iload_n X dL_law_394 3 rfl ?_
  refine l_iconst X (v := 1) dL_law_395 (by decide) ?_
  refine l_iadd X dL_law_396 ?_
  refine l_sld X (j := i + 1) (by rw [show (1 : Int32) = nI 1 from rfl, nI_add]) (by omega) (by omega) dL_law_397 ?_
  refine l_aload_n X dL_law_398 0 rfl ?_
  refine l_iload_n X dL_law_399 3 rfl ?_
  refine l_iconst X (v := 2) dL_law_400 (by decide) ?_
  refine l_iadd X dL_law_401 ?_
  refine l_sld X (j := i + 2) (by rw [show (2 : Int32) = nI 2 from rfl, nI_add]) (by omega) (by omega) dL_law_402 ?_
  refine l_aload_n X dL_law_403 0 rfl ?_
  refine l_iload_n X dL_law_404 3 rfl ?_
  refine l_iconst X (v := 3) dL_law_405 (by decide) ?_
  refine l_iadd X dL_law_406 ?_
  refine l_sld X (j := i + 3) (by rw [show (3 : Int32) = nI 3 from rfl, nI_add]) (by omega) (by omega) dL_law_407 ?_
  refine l_callmi X [.int (xs (i + 1)), .int (xs (i + 2)), .int (xs (i + 3))] rfl (cwV 3 X.2.2.2.2.1 gL_law_X8_alter rfl rfl rfl hd_X8_alter ⟨Nat.le_of_ble_eq_true rfl, Nat.le_of_ble_eq_true rfl⟩) (Nat.le_of_ble_eq_true rfl) dL_law_408 (ct_X8_alter X.2.2.2.2.2.2.2.1 0 (xs (i + 1)) (xs (i + 2)) (xs (i + 3)) ⟨by decide, rfl⟩ _ h2) ?_
  refine l_same X 1447 dL_law_411 (by decide) ?_
  exact k
set_option maxRecDepth 100000 in
set_option maxHeartbeats 400000 in
theorem lc_hang {x : g_CX} {ad2 : Nat → Nat} {b L : Nat} {xs : Nat → Int32} {Q : State → Prop} {Sc Sm : g_St} (X : g_LX x ad2 b L xs) {fu i : Nat} (hi : i + 5 ≤ L) (hL : L < 2 ^ 31) {r : Int32} {Sc1 Sm1 : g_St} (h1 : f_X7_hang fu 0 (xs (i + 1)) (xs (i + 2)) (xs (i + 3)) Sc = some (r, Sc1)) (h2 : f_X8_hang fu 0 (xs (i + 1)) (xs (i + 2)) (xs (i + 3)) Sm = some (r, Sm1)) (k : g_LV x ad2 Q Sc1 Sm1 1447 [(0, .ref b), (1, .ref (g_ad x 0)), (2, .ref (ad2 0)), (3, .int (nI i))] []) : g_LV x ad2 Q Sc Sm 416 [(0, .ref b), (1, .ref (g_ad x 0)), (2, .ref (ad2 0)), (3, .int (nI i))] [] := by
  refine l_aload_n X dL_law_416 1 rfl ?_
  refine l_aload_n X dL_law_417 0 rfl ?_
  refine l_iload_n X dL_law_418 3 rfl ?_
  refine l_iconst X (v := 1) dL_law_419 (by decide) ?_
  refine l_iadd X dL_law_420 ?_
  refine l_sld X (j := i + 1) (by rw [show (1 : Int32) = nI 1 from rfl, nI_add]) (by omega) (by omega) dL_law_421 ?_
  refine l_aload_n X dL_law_422 0 rfl ?_
  refine l_iload_n X dL_law_423 3 rfl ?_
  refine l_iconst X (v := 2) dL_law_424 (by decide) ?_
  refine l_iadd X dL_law_425 ?_
  refine l_sld X (j := i + 2) (by rw [show (2 : Int32) = nI 2 from rfl, nI_add]) (by omega) (by omega) dL_law_426 ?_
  refine l_aload_n X dL_law_427 0 rfl ?_
  refine l_iload_n X dL_law_428 3 rfl ?_
  refine l_iconst X (v := 3) dL_law_429 (by decide) ?_
  refine l_iadd X dL_law_430 ?_
  refine l_sld X (j := i + 3) (by rw [show (3 : Int32) = nI 3 from rfl, nI_add]) (by omega) (by omega) dL_law_431 ?_
  refine l_callci X [.int (xs (i + 1)), .int (xs (i + 2)), .int (xs (i + 3))] rfl (cwV 3 X.2.2.2.2.1 gL_law_X7_hang rfl rfl rfl hd_X7_hang ⟨Nat.le_of_ble_eq_true rfl, Nat.le_of_ble_eq_true rfl⟩) (Nat.le_of_ble_eq_true rfl) dL_law_432 (ct_X7_hang X.2.2.2.2.2.2.1 0 (xs (i + 1)) (xs (i + 2)) (xs (i + 3)) ⟨by decide, rfl⟩ _ h1) ?_
  refine l_aload_n X dL_law_435 2 rfl ?_
  refine l_aload_n X dL_law_436 0 rfl ?_
  refine l_iload_n X dL_law_437 3 rfl ?_
  refine l_iconst X (v := 1) dL_law_438 (by decide) ?_
  refine l_iadd X dL_law_439 ?_
  refine l_sld X (j := i + 1) (by rw [show (1 : Int32) = nI 1 from rfl, nI_add]) (by omega) (by omega) dL_law_440 ?_
  refine l_aload_n X dL_law_441 0 rfl ?_
  refine l_iload_n X dL_law_442 3 rfl ?_
  refine l_iconst X (v := 2) dL_law_443 (by decide) ?_
  refine l_iadd X dL_law_444 ?_
  refine l_sld X (j := i + 2) (by rw [show (2 : Int32) = nI 2 from rfl, nI_add]) (by omega) (by omega) dL_law_445 ?_
  refine l_aload_n X dL_law_446 0 rfl ?_
  refine l_iload_n X dL_law_447 3 rfl ?_
  refine l_iconst X (v := 3) dL_law_448 (by decide) ?_
  refine l_iadd X dL_law_449 ?_
  refine l_sld X (j := i + 3) (by rw [show (3 : Int32) = nI 3 from rfl, nI_add]) (by omega) (by omega) dL_law_450 ?_
  refine l_callmi X [.int (xs (i + 1)), .int (xs (i + 2)), .int (xs (i + 3))] rfl (cwV 3 X.2.2.2.2.1 gL_law_X8_hang rfl rfl rfl hd_X8_hang ⟨Nat.le_of_ble_eq_true rfl, Nat.le_of_ble_eq_true rfl⟩) (Nat.le_of_ble_eq_true rfl) dL_law_451 (ct_X8_hang X.2.2.2.2.2.2.2.1 0 (xs (i + 1)) (xs (i + 2)) (xs (i + 3)) ⟨by decide, rfl⟩ _ h2) ?_
  refine l_same X 1447 dL_law_454 (by decide) ?_
  exact k
set_option maxRecDepth 100000 in
set_option maxHeartbeats 400000 in
theorem lc_cut {x : g_CX} {ad2 : Nat → Nat} {b L : Nat} {xs : Nat → Int32} {Q : State → Prop} {Sc Sm : g_St} (X : g_LX x ad2 b L xs) {fu i : Nat} (hi : i + 5 ≤ L) (hL : L < 2 ^ 31) {r : Int32} {Sc1 Sm1 : g_St} (h1 : f_X7_cut fu 0 (xs (i + 1)) Sc = some (r, Sc1)) (h2 : f_X8_cut fu 0 (xs (i + 1)) Sm = some (r, Sm1)) (k : g_LV x ad2 Q Sc1 Sm1 1447 [(0, .ref b), (1, .ref (g_ad x 0)), (2, .ref (ad2 0)), (3, .int (nI i))] []) : g_LV x ad2 Q Sc Sm 459 [(0, .ref b), (1, .ref (g_ad x 0)), (2, .ref (ad2 0)), (3, .int (nI i))] [] := by
  refine l_aload_n X dL_law_459 1 rfl ?_
  refine l_aload_n X dL_law_460 0 rfl ?_
  refine l_iload_n X dL_law_461 3 rfl ?_
  refine l_iconst X (v := 1) dL_law_462 (by decide) ?_
  refine l_iadd X dL_law_463 ?_
  refine l_sld X (j := i + 1) (by rw [show (1 : Int32) = nI 1 from rfl, nI_add]) (by omega) (by omega) dL_law_464 ?_
  refine l_callci X [.int (xs (i + 1))] rfl (cwV 1 X.2.2.2.2.1 gL_law_X7_cut rfl rfl rfl hd_X7_cut ⟨Nat.le_of_ble_eq_true rfl, Nat.le_of_ble_eq_true rfl⟩) (Nat.le_of_ble_eq_true rfl) dL_law_465 (ct_X7_cut X.2.2.2.2.2.2.1 0 (xs (i + 1)) ⟨by decide, rfl⟩ _ h1) ?_
  refine l_aload_n X dL_law_468 2 rfl ?_
  refine l_aload_n X dL_law_469 0 rfl ?_
  refine l_iload_n X dL_law_470 3 rfl ?_
  refine l_iconst X (v := 1) dL_law_471 (by decide) ?_
  refine l_iadd X dL_law_472 ?_
  refine l_sld X (j := i + 1) (by rw [show (1 : Int32) = nI 1 from rfl, nI_add]) (by omega) (by omega) dL_law_473 ?_
  refine l_callmi X [.int (xs (i + 1))] rfl (cwV 1 X.2.2.2.2.1 gL_law_X8_cut rfl rfl rfl hd_X8_cut ⟨Nat.le_of_ble_eq_true rfl, Nat.le_of_ble_eq_true rfl⟩) (Nat.le_of_ble_eq_true rfl) dL_law_474 (ct_X8_cut X.2.2.2.2.2.2.2.1 0 (xs (i + 1)) ⟨by decide, rfl⟩ _ h2) ?_
  refine l_same X 1447 dL_law_477 (by decide) ?_
  exact k
set_option maxRecDepth 100000 in
set_option maxHeartbeats 400000 in
theorem lc_come {x : g_CX} {ad2 : Nat → Nat} {b L : Nat} {xs : Nat → Int32} {Q : State → Prop} {Sc Sm : g_St} (X : g_LX x ad2 b L xs) {fu i : Nat} (hi : i + 5 ≤ L) (hL : L < 2 ^ 31) {r : Int32} {Sc1 Sm1 : g_St} (h1 : f_X7_come fu 0 (xs (i + 1)) (xs (i + 2)) (xs (i + 3)) Sc = some (r, Sc1)) (h2 : f_X8_come fu 0 (xs (i + 1)) (xs (i + 2)) (xs (i + 3)) Sm = some (r, Sm1)) (k : g_LV x ad2 Q Sc1 Sm1 1447 [(0, .ref b), (1, .ref (g_ad x 0)), (2, .ref (ad2 0)), (3, .int (nI i))] []) : g_LV x ad2 Q Sc Sm 482 [(0, .ref b), (1, .ref (g_ad x 0)), (2, .ref (ad2 0)), (3, .int (nI i))] [] := by
  refine l_aload_n X dL_law_482 1 rfl ?_
  refine l_aload_n X dL_law_483 0 rfl ?_
  refine l_iload_n X dL_law_484 3 rfl ?_
  refine l_iconst X (v := 1) dL_law_485 (by decide) ?_
  refine l_iadd X dL_law_486 ?_
  refine l_sld X (j := i + 1) (by rw [show (1 : Int32) = nI 1 from rfl, nI_add]) (by omega) (by omega) dL_law_487 ?_
  refine l_aload_n X dL_law_488 0 rfl ?_
  refine l_iload_n X dL_law_489 3 rfl ?_
  refine l_iconst X (v := 2) dL_law_490 (by decide) ?_
  refine l_iadd X dL_law_491 ?_
  refine l_sld X (j := i + 2) (by rw [show (2 : Int32) = nI 2 from rfl, nI_add]) (by omega) (by omega) dL_law_492 ?_
  refine l_aload_n X dL_law_493 0 rfl ?_
  refine l_iload_n X dL_law_494 3 rfl ?_
  refine l_iconst X (v := 3) dL_law_495 (by decide) ?_
  refine l_iadd X dL_law_496 ?_
  refine l_sld X (j := i + 3) (by rw [show (3 : Int32) = nI 3 from rfl, nI_add]) (by omega) (by omega) dL_law_497 ?_
  refine l_callci X [.int (xs (i + 1)), .int (xs (i + 2)), .int (xs (i + 3))] rfl (cwV 3 X.2.2.2.2.1 gL_law_X7_come rfl rfl rfl hd_X7_come ⟨Nat.le_of_ble_eq_true rfl, Nat.le_of_ble_eq_true rfl⟩) (Nat.le_of_ble_eq_true rfl) dL_law_498 (ct_X7_come X.2.2.2.2.2.2.1 0 (xs (i + 1)) (xs (i + 2)) (xs (i + 3)) ⟨by decide, rfl⟩ _ h1) ?_
  refine l_aload_n X dL_law_501 2 rfl ?_
  refine l_aload_n X dL_law_502 0 rfl ?_
  refine l_iload_n X dL_law_503 3 rfl ?_
  refine l_iconst X (v := 1) dL_law_504 (by decide) ?_
  refine l_iadd X dL_law_505 ?_
  refine l_sld X (j := i + 1) (by rw [show (1 : Int32) = nI 1 from rfl, nI_add]) (by omega) (by omega) dL_law_506 ?_
  refine l_aload_n X dL_law_507 0 rfl ?_
  refine l_iload_n X dL_law_508 3 rfl ?_
  refine l_iconst X (v := 2) dL_law_509 (by decide) ?_
  refine l_iadd X dL_law_510 ?_
  refine l_sld X (j := i + 2) (by rw [show (2 : Int32) = nI 2 from rfl, nI_add]) (by omega) (by omega) dL_law_511 ?_
  refine l_aload_n X dL_law_512 0 rfl ?_
  refine l_iload_n X dL_law_513 3 rfl ?_
  refine l_iconst X (v := 3) dL_law_514 (by decide) ?_
  refine l_iadd X dL_law_515 ?_
  refine l_sld X (j := i + 3) (by rw [show (3 : Int32) = nI 3 from rfl, nI_add]) (by omega) (by omega) dL_law_516 ?_
  refine l_callmi X [.int (xs (i + 1)), .int (xs (i + 2)), .int (xs (i + 3))] rfl (cwV 3 X.2.2.2.2.1 gL_law_X8_come rfl rfl rfl hd_X8_come ⟨Nat.le_of_ble_eq_true rfl, Nat.le_of_ble_eq_true rfl⟩) (Nat.le_of_ble_eq_true rfl) dL_law_517 (ct_X8_come X.2.2.2.2.2.2.2.1 0 (xs (i + 1)) (xs (i + 2)) (xs (i + 3)) ⟨by decide, rfl⟩ _ h2) ?_
  refine l_same X 1447 dL_law_520 (by decide) ?_
  exact k
set_option maxRecDepth 100000 in
set_option maxHeartbeats 400000 in
theorem lc_leave {x : g_CX} {ad2 : Nat → Nat} {b L : Nat} {xs : Nat → Int32} {Q : State → Prop} {Sc Sm : g_St} (X : g_LX x ad2 b L xs) {fu i : Nat} (hi : i + 5 ≤ L) (hL : L < 2 ^ 31) {r : Int32} {Sc1 Sm1 : g_St} (h1 : f_X7_leave fu 0 (xs (i + 1)) Sc = some (r, Sc1)) (h2 : f_X8_leave fu 0 (xs (i + 1)) Sm = some (r, Sm1)) (k : g_LV x ad2 Q Sc1 Sm1 1447 [(0, .ref b), (1, .ref (g_ad x 0)), (2, .ref (ad2 0)), (3, .int (nI i))] []) : g_LV x ad2 Q Sc Sm 525 [(0, .ref b), (1, .ref (g_ad x 0)), (2, .ref (ad2 0)), (3, .int (nI i))] [] := by
  refine l_aload_n X dL_law_525 1 rfl ?_
  refine l_aload_n X dL_law_526 0 rfl ?_
  refine l_iload_n X dL_law_527 3 rfl ?_
  refine l_iconst X (v := 1) dL_law_528 (by decide) ?_
  refine l_iadd X dL_law_529 ?_
  refine l_sld X (j := i + 1) (by rw [show (1 : Int32) = nI 1 from rfl, nI_add]) (by omega) (by omega) dL_law_530 ?_
  refine l_callci X [.int (xs (i + 1))] rfl (cwV 1 X.2.2.2.2.1 gL_law_X7_leave rfl rfl rfl hd_X7_leave ⟨Nat.le_of_ble_eq_true rfl, Nat.le_of_ble_eq_true rfl⟩) (Nat.le_of_ble_eq_true rfl) dL_law_531 (ct_X7_leave X.2.2.2.2.2.2.1 0 (xs (i + 1)) ⟨by decide, rfl⟩ _ h1) ?_
  refine l_aload_n X dL_law_534 2 rfl ?_
  refine l_aload_n X dL_law_535 0 rfl ?_
  refine l_iload_n X dL_law_536 3 rfl ?_
  refine l_iconst X (v := 1) dL_law_537 (by decide) ?_
  refine l_iadd X dL_law_538 ?_
  refine l_sld X (j := i + 1) (by rw [show (1 : Int32) = nI 1 from rfl, nI_add]) (by omega) (by omega) dL_law_539 ?_
  refine l_callmi X [.int (xs (i + 1))] rfl (cwV 1 X.2.2.2.2.1 gL_law_X8_leave rfl rfl rfl hd_X8_leave ⟨Nat.le_of_ble_eq_true rfl, Nat.le_of_ble_eq_true rfl⟩) (Nat.le_of_ble_eq_true rfl) dL_law_540 (ct_X8_leave X.2.2.2.2.2.2.2.1 0 (xs (i + 1)) ⟨by decide, rfl⟩ _ h2) ?_
  refine l_same X 1447 dL_law_543 (by decide) ?_
  exact k
set_option maxRecDepth 100000 in
set_option maxHeartbeats 400000 in
theorem lc_pass {x : g_CX} {ad2 : Nat → Nat} {b L : Nat} {xs : Nat → Int32} {Q : State → Prop} {Sc Sm : g_St} (X : g_LX x ad2 b L xs) {fu i : Nat} (hi : i + 5 ≤ L) (hL : L < 2 ^ 31) {r : Int32} {Sc1 Sm1 : g_St} (h1 : f_X7_pass fu 0  Sc = some (r, Sc1)) (h2 : f_X8_pass fu 0  Sm = some (r, Sm1)) (k : g_LV x ad2 Q Sc1 Sm1 1447 [(0, .ref b), (1, .ref (g_ad x 0)), (2, .ref (ad2 0)), (3, .int (nI i))] []) : g_LV x ad2 Q Sc Sm 548 [(0, .ref b), (1, .ref (g_ad x 0)), (2, .ref (ad2 0)), (3, .int (nI i))] [] := by
  refine l_aload_n X dL_law_548 1 rfl ?_
  refine l_callci X [] rfl (cwV 0 X.2.2.2.2.1 gL_law_X7_pass rfl rfl rfl hd_X7_pass ⟨Nat.le_of_ble_eq_true rfl, Nat.le_of_ble_eq_true rfl⟩) (Nat.le_of_ble_eq_true rfl) dL_law_549 (ct_X7_pass X.2.2.2.2.2.2.1 0  ⟨by decide, rfl⟩ _ h1) ?_
  refine l_aload_n X dL_law_552 2 rfl ?_
  refine l_callmi X [] rfl (cwV 0 X.2.2.2.2.1 gL_law_X8_pass rfl rfl rfl hd_X8_pass ⟨Nat.le_of_ble_eq_true rfl, Nat.le_of_ble_eq_true rfl⟩) (Nat.le_of_ble_eq_true rfl) dL_law_553 (ct_X8_pass X.2.2.2.2.2.2.2.1 0  ⟨by decide, rfl⟩ _ h2) ?_
  refine l_same X 1447 dL_law_556 (by decide) ?_
  exact k
set_option maxRecDepth 100000 in
set_option maxHeartbeats 400000 in
theorem lc_ticks {x : g_CX} {ad2 : Nat → Nat} {b L : Nat} {xs : Nat → Int32} {Q : State → Prop} {Sc Sm : g_St} (X : g_LX x ad2 b L xs) {fu i : Nat} (hi : i + 5 ≤ L) (hL : L < 2 ^ 31) {r : Int32} {Sc1 Sm1 : g_St} (h1 : f_X7_ticks fu 0 (xs (i + 1)) Sc = some (r, Sc1)) (h2 : f_X8_ticks fu 0 (xs (i + 1)) Sm = some (r, Sm1)) (k : g_LV x ad2 Q Sc1 Sm1 1447 [(0, .ref b), (1, .ref (g_ad x 0)), (2, .ref (ad2 0)), (3, .int (nI i))] []) : g_LV x ad2 Q Sc Sm 561 [(0, .ref b), (1, .ref (g_ad x 0)), (2, .ref (ad2 0)), (3, .int (nI i))] [] := by
  refine l_aload_n X dL_law_561 1 rfl ?_
  refine l_aload_n X dL_law_562 0 rfl ?_
  refine l_iload_n X dL_law_563 3 rfl ?_
  refine l_iconst X (v := 1) dL_law_564 (by decide) ?_
  refine l_iadd X dL_law_565 ?_
  refine l_sld X (j := i + 1) (by rw [show (1 : Int32) = nI 1 from rfl, nI_add]) (by omega) (by omega) dL_law_566 ?_
  refine l_callci X [.int (xs (i + 1))] rfl (cwV 1 X.2.2.2.2.1 gL_law_X7_ticks rfl rfl rfl hd_X7_ticks ⟨Nat.le_of_ble_eq_true rfl, Nat.le_of_ble_eq_true rfl⟩) (Nat.le_of_ble_eq_true rfl) dL_law_567 (ct_X7_ticks X.2.2.2.2.2.2.1 0 (xs (i + 1)) ⟨by decide, rfl⟩ _ h1) ?_
  refine l_aload_n X dL_law_570 2 rfl ?_
  refine l_aload_n X dL_law_571 0 rfl ?_
  refine l_iload_n X dL_law_572 3 rfl ?_
  refine l_iconst X (v := 1) dL_law_573 (by decide) ?_
  refine l_iadd X dL_law_574 ?_
  refine l_sld X (j := i + 1) (by rw [show (1 : Int32) = nI 1 from rfl, nI_add]) (by omega) (by omega) dL_law_575 ?_
  refine l_callmi X [.int (xs (i + 1))] rfl (cwV 1 X.2.2.2.2.1 gL_law_X8_ticks rfl rfl rfl hd_X8_ticks ⟨Nat.le_of_ble_eq_true rfl, Nat.le_of_ble_eq_true rfl⟩) (Nat.le_of_ble_eq_true rfl) dL_law_576 (ct_X8_ticks X.2.2.2.2.2.2.2.1 0 (xs (i + 1)) ⟨by decide, rfl⟩ _ h2) ?_
  refine l_same X 1447 dL_law_579 (by decide) ?_
  exact k
set_option maxRecDepth 100000 in
set_option maxHeartbeats 400000 in
theorem lc_runs {x : g_CX} {ad2 : Nat → Nat} {b L : Nat} {xs : Nat → Int32} {Q : State → Prop} {Sc Sm : g_St} (X : g_LX x ad2 b L xs) {fu i : Nat} (hi : i + 5 ≤ L) (hL : L < 2 ^ 31) {r : Int32} {Sc1 Sm1 : g_St} (h1 : f_X7_runs fu 0 (xs (i + 1)) (xs (i + 2)) Sc = some (r, Sc1)) (h2 : f_X8_runs fu 0 (xs (i + 1)) (xs (i + 2)) Sm = some (r, Sm1)) (k : g_LV x ad2 Q Sc1 Sm1 1447 [(0, .ref b), (1, .ref (g_ad x 0)), (2, .ref (ad2 0)), (3, .int (nI i))] []) : g_LV x ad2 Q Sc Sm 584 [(0, .ref b), (1, .ref (g_ad x 0)), (2, .ref (ad2 0)), (3, .int (nI i))] [] := by
  refine l_aload_n X dL_law_584 1 rfl ?_
  refine l_aload_n X dL_law_585 0 rfl ?_
  refine l_iload_n X dL_law_586 3 rfl ?_
  refine l_iconst X (v := 1) dL_law_587 (by decide) ?_
  refine l_iadd X dL_law_588 ?_
  refine l_sld X (j := i + 1) (by rw [show (1 : Int32) = nI 1 from rfl, nI_add]) (by omega) (by omega) dL_law_589 ?_
  refine l_aload_n X dL_law_590 0 rfl ?_
  refine l_iload_n X dL_law_591 3 rfl ?_
  refine l_iconst X (v := 2) dL_law_592 (by decide) ?_
  refine l_iadd X dL_law_593 ?_
  refine l_sld X (j := i + 2) (by rw [show (2 : Int32) = nI 2 from rfl, nI_add]) (by omega) (by omega) dL_law_594 ?_
  refine l_callci X [.int (xs (i + 1)), .int (xs (i + 2))] rfl (cwV 2 X.2.2.2.2.1 gL_law_X7_runs rfl rfl rfl hd_X7_runs ⟨Nat.le_of_ble_eq_true rfl, Nat.le_of_ble_eq_true rfl⟩) (Nat.le_of_ble_eq_true rfl) dL_law_595 (ct_X7_runs X.2.2.2.2.2.2.1 0 (xs (i + 1)) (xs (i + 2)) ⟨by decide, rfl⟩ _ h1) ?_
  refine l_aload_n X dL_law_598 2 rfl ?_
  refine l_aload_n X dL_law_599 0 rfl ?_
  refine l_iload_n X dL_law_600 3 rfl ?_
  refine l_iconst X (v := 1) dL_law_601 (by decide) ?_
  refine l_iadd X dL_law_602 ?_
  refine l_sld X (j := i + 1) (by rw [show (1 : Int32) = nI 1 from rfl, nI_add]) (by omega) (by omega) dL_law_603 ?_
  refine l_aload_n X dL_law_604 0 rfl ?_
  refine l_iload_n X dL_law_605 3 rfl ?_
  refine l_iconst X (v := 2) dL_law_606 (by decide) ?_
  refine l_iadd X dL_law_607 ?_
  refine l_sld X (j := i + 2) (by rw [show (2 : Int32) = nI 2 from rfl, nI_add]) (by omega) (by omega) dL_law_608 ?_
  refine l_callmi X [.int (xs (i + 1)), .int (xs (i + 2))] rfl (cwV 2 X.2.2.2.2.1 gL_law_X8_runs rfl rfl rfl hd_X8_runs ⟨Nat.le_of_ble_eq_true rfl, Nat.le_of_ble_eq_true rfl⟩) (Nat.le_of_ble_eq_true rfl) dL_law_609 (ct_X8_runs X.2.2.2.2.2.2.2.1 0 (xs (i + 1)) (xs (i + 2)) ⟨by decide, rfl⟩ _ h2) ?_
  refine l_same X 1447 dL_law_612 (by decide) ?_
  exact k
set_option maxRecDepth 100000 in
set_option maxHeartbeats 400000 in
theorem lc_ahead {x : g_CX} {ad2 : Nat → Nat} {b L : Nat} {xs : Nat → Int32} {Q : State → Prop} {Sc Sm : g_St} (X : g_LX x ad2 b L xs) {fu i : Nat} (hi : i + 5 ≤ L) (hL : L < 2 ^ 31) {r : Int32} {Sc1 Sm1 : g_St} (h1 : f_X7_ahead fu 0 (xs (i + 1)) (xs (i + 2)) Sc = some (r, Sc1)) (h2 : f_X8_ahead fu 0 (xs (i + 1)) (xs (i + 2)) Sm = some (r, Sm1)) (k : g_LV x ad2 Q Sc1 Sm1 1447 [(0, .ref b), (1, .ref (g_ad x 0)), (2, .ref (ad2 0)), (3, .int (nI i))] []) : g_LV x ad2 Q Sc Sm 617 [(0, .ref b), (1, .ref (g_ad x 0)), (2, .ref (ad2 0)), (3, .int (nI i))] [] := by
  refine l_aload_n X dL_law_617 1 rfl ?_
  refine l_aload_n X dL_law_618 0 rfl ?_
  refine l_iload_n X dL_law_619 3 rfl ?_
  refine l_iconst X (v := 1) dL_law_620 (by decide) ?_
  refine l_iadd X dL_law_621 ?_
  refine l_sld X (j := i + 1) (by rw [show (1 : Int32) = nI 1 from rfl, nI_add]) (by omega) (by omega) dL_law_622 ?_
  refine l_aload_n X dL_law_623 0 rfl ?_
  refine l_iload_n X dL_law_624 3 rfl ?_
  refine l_iconst X (v := 2) dL_law_625 (by decide) ?_
  refine l_iadd X dL_law_626 ?_
  refine l_sld X (j := i + 2) (by rw [show (2 : Int32) = nI 2 from rfl, nI_add]) (by omega) (by omega) dL_law_627 ?_
  refine l_callci X [.int (xs (i + 1)), .int (xs (i + 2))] rfl (cwV 2 X.2.2.2.2.1 gL_law_X7_ahead rfl rfl rfl hd_X7_ahead ⟨Nat.le_of_ble_eq_true rfl, Nat.le_of_ble_eq_true rfl⟩) (Nat.le_of_ble_eq_true rfl) dL_law_628 (ct_X7_ahead X.2.2.2.2.2.2.1 0 (xs (i + 1)) (xs (i + 2)) ⟨by decide, rfl⟩ _ h1) ?_
  refine l_aload_n X dL_law_631 2 rfl ?_
  refine l_aload_n X dL_law_632 0 rfl ?_
  refine l_iload_n X dL_law_633 3 rfl ?_
  refine l_iconst X (v := 1) dL_law_634 (by decide) ?_
  refine l_iadd X dL_law_635 ?_
  refine l_sld X (j := i + 1) (by rw [show (1 : Int32) = nI 1 from rfl, nI_add]) (by omega) (by omega) dL_law_636 ?_
  refine l_aload_n X dL_law_637 0 rfl ?_
  refine l_iload_n X dL_law_638 3 rfl ?_
  refine l_iconst X (v := 2) dL_law_639 (by decide) ?_
  refine l_iadd X dL_law_640 ?_
  refine l_sld X (j := i + 2) (by rw [show (2 : Int32) = nI 2 from rfl, nI_add]) (by omega) (by omega) dL_law_641 ?_
  refine l_callmi X [.int (xs (i + 1)), .int (xs (i + 2))] rfl (cwV 2 X.2.2.2.2.1 gL_law_X8_ahead rfl rfl rfl hd_X8_ahead ⟨Nat.le_of_ble_eq_true rfl, Nat.le_of_ble_eq_true rfl⟩) (Nat.le_of_ble_eq_true rfl) dL_law_642 (ct_X8_ahead X.2.2.2.2.2.2.2.1 0 (xs (i + 1)) (xs (i + 2)) ⟨by decide, rfl⟩ _ h2) ?_
  refine l_same X 1447 dL_law_645 (by decide) ?_
  exact k
set_option maxRecDepth 100000 in
set_option maxHeartbeats 400000 in
theorem lc_lets {x : g_CX} {ad2 : Nat → Nat} {b L : Nat} {xs : Nat → Int32} {Q : State → Prop} {Sc Sm : g_St} (X : g_LX x ad2 b L xs) {fu i : Nat} (hi : i + 5 ≤ L) (hL : L < 2 ^ 31) {r : Int32} {Sc1 Sm1 : g_St} (h1 : f_X7_lets fu 0 (xs (i + 1)) Sc = some (r, Sc1)) (h2 : f_X8_lets fu 0 (xs (i + 1)) Sm = some (r, Sm1)) (k : g_LV x ad2 Q Sc1 Sm1 1447 [(0, .ref b), (1, .ref (g_ad x 0)), (2, .ref (ad2 0)), (3, .int (nI i))] []) : g_LV x ad2 Q Sc Sm 650 [(0, .ref b), (1, .ref (g_ad x 0)), (2, .ref (ad2 0)), (3, .int (nI i))] [] := by
  refine l_aload_n X dL_law_650 1 rfl ?_
  refine l_aload_n X dL_law_651 0 rfl ?_
  refine l_iload_n X dL_law_652 3 rfl ?_
  refine l_iconst X (v := 1) dL_law_653 (by decide) ?_
  refine l_iadd X dL_law_654 ?_
  refine l_sld X (j := i + 1) (by rw [show (1 : Int32) = nI 1 from rfl, nI_add]) (by omega) (by omega) dL_law_655 ?_
  refine l_callci X [.int (xs (i + 1))] rfl (cwV 1 X.2.2.2.2.1 gL_law_X7_lets rfl rfl rfl hd_X7_lets ⟨Nat.le_of_ble_eq_true rfl, Nat.le_of_ble_eq_true rfl⟩) (Nat.le_of_ble_eq_true rfl) dL_law_656 (ct_X7_lets X.2.2.2.2.2.2.1 0 (xs (i + 1)) ⟨by decide, rfl⟩ _ h1) ?_
  refine l_aload_n X dL_law_659 2 rfl ?_
  refine l_aload_n X dL_law_660 0 rfl ?_
  refine l_iload_n X dL_law_661 3 rfl ?_
  refine l_iconst X (v := 1) dL_law_662 (by decide) ?_
  refine l_iadd X dL_law_663 ?_
  refine l_sld X (j := i + 1) (by rw [show (1 : Int32) = nI 1 from rfl, nI_add]) (by omega) (by omega) dL_law_664 ?_
  refine l_callmi X [.int (xs (i + 1))] rfl (cwV 1 X.2.2.2.2.1 gL_law_X8_lets rfl rfl rfl hd_X8_lets ⟨Nat.le_of_ble_eq_true rfl, Nat.le_of_ble_eq_true rfl⟩) (Nat.le_of_ble_eq_true rfl) dL_law_665 (ct_X8_lets X.2.2.2.2.2.2.2.1 0 (xs (i + 1)) ⟨by decide, rfl⟩ _ h2) ?_
  refine l_same X 1447 dL_law_668 (by decide) ?_
  exact k
set_option maxRecDepth 100000 in
set_option maxHeartbeats 400000 in
theorem lc_turns {x : g_CX} {ad2 : Nat → Nat} {b L : Nat} {xs : Nat → Int32} {Q : State → Prop} {Sc Sm : g_St} (X : g_LX x ad2 b L xs) {fu i : Nat} (hi : i + 5 ≤ L) (hL : L < 2 ^ 31) {r : Int32} {Sc1 Sm1 : g_St} (h1 : f_X7_turns fu 0 (xs (i + 1)) (xs (i + 2)) Sc = some (r, Sc1)) (h2 : f_X8_turns fu 0 (xs (i + 1)) (xs (i + 2)) Sm = some (r, Sm1)) (k : g_LV x ad2 Q Sc1 Sm1 1447 [(0, .ref b), (1, .ref (g_ad x 0)), (2, .ref (ad2 0)), (3, .int (nI i))] []) : g_LV x ad2 Q Sc Sm 673 [(0, .ref b), (1, .ref (g_ad x 0)), (2, .ref (ad2 0)), (3, .int (nI i))] [] := by
  refine l_aload_n X dL_law_673 1 rfl ?_
  refine l_aload_n X dL_law_674 0 rfl ?_
  refine l_iload_n X dL_law_675 3 rfl ?_
  refine l_iconst X (v := 1) dL_law_676 (by decide) ?_
  refine l_iadd X dL_law_677 ?_
  refine l_sld X (j := i + 1) (by rw [show (1 : Int32) = nI 1 from rfl, nI_add]) (by omega) (by omega) dL_law_678 ?_
  refine l_aload_n X dL_law_679 0 rfl ?_
  refine l_iload_n X dL_law_680 3 rfl ?_
  refine l_iconst X (v := 2) dL_law_681 (by decide) ?_
  refine l_iadd X dL_law_682 ?_
  refine l_sld X (j := i + 2) (by rw [show (2 : Int32) = nI 2 from rfl, nI_add]) (by omega) (by omega) dL_law_683 ?_
  refine l_callci X [.int (xs (i + 1)), .int (xs (i + 2))] rfl (cwV 2 X.2.2.2.2.1 gL_law_X7_turns rfl rfl rfl hd_X7_turns ⟨Nat.le_of_ble_eq_true rfl, Nat.le_of_ble_eq_true rfl⟩) (Nat.le_of_ble_eq_true rfl) dL_law_684 (ct_X7_turns X.2.2.2.2.2.2.1 0 (xs (i + 1)) (xs (i + 2)) ⟨by decide, rfl⟩ _ h1) ?_
  refine l_aload_n X dL_law_687 2 rfl ?_
  refine l_aload_n X dL_law_688 0 rfl ?_
  refine l_iload_n X dL_law_689 3 rfl ?_
  refine l_iconst X (v := 1) dL_law_690 (by decide) ?_
  refine l_iadd X dL_law_691 ?_
  refine l_sld X (j := i + 1) (by rw [show (1 : Int32) = nI 1 from rfl, nI_add]) (by omega) (by omega) dL_law_692 ?_
  refine l_aload_n X dL_law_693 0 rfl ?_
  refine l_iload_n X dL_law_694 3 rfl ?_
  refine l_iconst X (v := 2) dL_law_695 (by decide) ?_
  refine l_iadd X dL_law_696 ?_
  refine l_sld X (j := i + 2) (by rw [show (2 : Int32) = nI 2 from rfl, nI_add]) (by omega) (by omega) dL_law_697 ?_
  refine l_callmi X [.int (xs (i + 1)), .int (xs (i + 2))] rfl (cwV 2 X.2.2.2.2.1 gL_law_X8_turns rfl rfl rfl hd_X8_turns ⟨Nat.le_of_ble_eq_true rfl, Nat.le_of_ble_eq_true rfl⟩) (Nat.le_of_ble_eq_true rfl) dL_law_698 (ct_X8_turns X.2.2.2.2.2.2.2.1 0 (xs (i + 1)) (xs (i + 2)) ⟨by decide, rfl⟩ _ h2) ?_
  refine l_same X 1447 dL_law_701 (by decide) ?_
  exact k
set_option maxRecDepth 100000 in
set_option maxHeartbeats 400000 in
theorem lc_when {x : g_CX} {ad2 : Nat → Nat} {b L : Nat} {xs : Nat → Int32} {Q : State → Prop} {Sc Sm : g_St} (X : g_LX x ad2 b L xs) {fu i : Nat} (hi : i + 5 ≤ L) (hL : L < 2 ^ 31) {r : Int32} {Sc1 Sm1 : g_St} (h1 : f_X7_when fu 0  Sc = some (r, Sc1)) (h2 : f_X8_when fu 0  Sm = some (r, Sm1)) (k : g_LV x ad2 Q Sc1 Sm1 1447 [(0, .ref b), (1, .ref (g_ad x 0)), (2, .ref (ad2 0)), (3, .int (nI i))] []) : g_LV x ad2 Q Sc Sm 706 [(0, .ref b), (1, .ref (g_ad x 0)), (2, .ref (ad2 0)), (3, .int (nI i))] [] := by
  refine l_aload_n X dL_law_706 1 rfl ?_
  refine l_callci X [] rfl (cwV 0 X.2.2.2.2.1 gL_law_X7_when rfl rfl rfl hd_X7_when ⟨Nat.le_of_ble_eq_true rfl, Nat.le_of_ble_eq_true rfl⟩) (Nat.le_of_ble_eq_true rfl) dL_law_707 (ct_X7_when X.2.2.2.2.2.2.1 0  ⟨by decide, rfl⟩ _ h1) ?_
  refine l_aload_n X dL_law_710 2 rfl ?_
  refine l_callmi X [] rfl (cwV 0 X.2.2.2.2.1 gL_law_X8_when rfl rfl rfl hd_X8_when ⟨Nat.le_of_ble_eq_true rfl, Nat.le_of_ble_eq_true rfl⟩) (Nat.le_of_ble_eq_true rfl) dL_law_711 (ct_X8_when X.2.2.2.2.2.2.2.1 0  ⟨by decide, rfl⟩ _ h2) ?_
  refine l_same X 1447 dL_law_714 (by decide) ?_
  exact k
set_option maxRecDepth 100000 in
set_option maxHeartbeats 400000 in
theorem lc_depth {x : g_CX} {ad2 : Nat → Nat} {b L : Nat} {xs : Nat → Int32} {Q : State → Prop} {Sc Sm : g_St} (X : g_LX x ad2 b L xs) {fu i : Nat} (hi : i + 5 ≤ L) (hL : L < 2 ^ 31) {r : Int32} {Sc1 Sm1 : g_St} (h1 : f_X7_depth fu 0 (xs (i + 1)) (xs (i + 2)) Sc = some (r, Sc1)) (h2 : f_X8_depth fu 0 (xs (i + 1)) (xs (i + 2)) Sm = some (r, Sm1)) (k : g_LV x ad2 Q Sc1 Sm1 1447 [(0, .ref b), (1, .ref (g_ad x 0)), (2, .ref (ad2 0)), (3, .int (nI i))] []) : g_LV x ad2 Q Sc Sm 719 [(0, .ref b), (1, .ref (g_ad x 0)), (2, .ref (ad2 0)), (3, .int (nI i))] [] := by
  refine l_aload_n X dL_law_719 1 rfl ?_
  refine l_aload_n X dL_law_720 0 rfl ?_
  refine l_iload_n X dL_law_721 3 rfl ?_
  refine l_iconst X (v := 1) dL_law_722 (by decide) ?_
  refine l_iadd X dL_law_723 ?_
  refine l_sld X (j := i + 1) (by rw [show (1 : Int32) = nI 1 from rfl, nI_add]) (by omega) (by omega) dL_law_724 ?_
  refine l_aload_n X dL_law_725 0 rfl ?_
  refine l_iload_n X dL_law_726 3 rfl ?_
  refine l_iconst X (v := 2) dL_law_727 (by decide) ?_
  refine l_iadd X dL_law_728 ?_
  refine l_sld X (j := i + 2) (by rw [show (2 : Int32) = nI 2 from rfl, nI_add]) (by omega) (by omega) dL_law_729 ?_
  refine l_callci X [.int (xs (i + 1)), .int (xs (i + 2))] rfl (cwV 2 X.2.2.2.2.1 gL_law_X7_depth rfl rfl rfl hd_X7_depth ⟨Nat.le_of_ble_eq_true rfl, Nat.le_of_ble_eq_true rfl⟩) (Nat.le_of_ble_eq_true rfl) dL_law_730 (ct_X7_depth X.2.2.2.2.2.2.1 0 (xs (i + 1)) (xs (i + 2)) ⟨by decide, rfl⟩ _ h1) ?_
  refine l_aload_n X dL_law_733 2 rfl ?_
  refine l_aload_n X dL_law_734 0 rfl ?_
  refine l_iload_n X dL_law_735 3 rfl ?_
  refine l_iconst X (v := 1) dL_law_736 (by decide) ?_
  refine l_iadd X dL_law_737 ?_
  refine l_sld X (j := i + 1) (by rw [show (1 : Int32) = nI 1 from rfl, nI_add]) (by omega) (by omega) dL_law_738 ?_
  refine l_aload_n X dL_law_739 0 rfl ?_
  refine l_iload_n X dL_law_740 3 rfl ?_
  refine l_iconst X (v := 2) dL_law_741 (by decide) ?_
  refine l_iadd X dL_law_742 ?_
  refine l_sld X (j := i + 2) (by rw [show (2 : Int32) = nI 2 from rfl, nI_add]) (by omega) (by omega) dL_law_743 ?_
  refine l_callmi X [.int (xs (i + 1)), .int (xs (i + 2))] rfl (cwV 2 X.2.2.2.2.1 gL_law_X8_depth rfl rfl rfl hd_X8_depth ⟨Nat.le_of_ble_eq_true rfl, Nat.le_of_ble_eq_true rfl⟩) (Nat.le_of_ble_eq_true rfl) dL_law_744 (ct_X8_depth X.2.2.2.2.2.2.2.1 0 (xs (i + 1)) (xs (i + 2)) ⟨by decide, rfl⟩ _ h2) ?_
  refine l_same X 1447 dL_law_747 (by decide) ?_
  exact k
set_option maxRecDepth 100000 in
set_option maxHeartbeats 400000 in
theorem lc_rate {x : g_CX} {ad2 : Nat → Nat} {b L : Nat} {xs : Nat → Int32} {Q : State → Prop} {Sc Sm : g_St} (X : g_LX x ad2 b L xs) {fu i : Nat} (hi : i + 5 ≤ L) (hL : L < 2 ^ 31) {r : Int32} {Sc1 Sm1 : g_St} (h1 : f_X7_rate fu 0 (xs (i + 1)) (xs (i + 2)) Sc = some (r, Sc1)) (h2 : f_X8_rate fu 0 (xs (i + 1)) (xs (i + 2)) Sm = some (r, Sm1)) (k : g_LV x ad2 Q Sc1 Sm1 1447 [(0, .ref b), (1, .ref (g_ad x 0)), (2, .ref (ad2 0)), (3, .int (nI i))] []) : g_LV x ad2 Q Sc Sm 752 [(0, .ref b), (1, .ref (g_ad x 0)), (2, .ref (ad2 0)), (3, .int (nI i))] [] := by
  refine l_aload_n X dL_law_752 1 rfl ?_
  refine l_aload_n X dL_law_753 0 rfl ?_
  refine l_iload_n X dL_law_754 3 rfl ?_
  refine l_iconst X (v := 1) dL_law_755 (by decide) ?_
  refine l_iadd X dL_law_756 ?_
  refine l_sld X (j := i + 1) (by rw [show (1 : Int32) = nI 1 from rfl, nI_add]) (by omega) (by omega) dL_law_757 ?_
  refine l_aload_n X dL_law_758 0 rfl ?_
  refine l_iload_n X dL_law_759 3 rfl ?_
  refine l_iconst X (v := 2) dL_law_760 (by decide) ?_
  refine l_iadd X dL_law_761 ?_
  refine l_sld X (j := i + 2) (by rw [show (2 : Int32) = nI 2 from rfl, nI_add]) (by omega) (by omega) dL_law_762 ?_
  refine l_callci X [.int (xs (i + 1)), .int (xs (i + 2))] rfl (cwV 2 X.2.2.2.2.1 gL_law_X7_rate rfl rfl rfl hd_X7_rate ⟨Nat.le_of_ble_eq_true rfl, Nat.le_of_ble_eq_true rfl⟩) (Nat.le_of_ble_eq_true rfl) dL_law_763 (ct_X7_rate X.2.2.2.2.2.2.1 0 (xs (i + 1)) (xs (i + 2)) ⟨by decide, rfl⟩ _ h1) ?_
  refine l_aload_n X dL_law_766 2 rfl ?_
  refine l_aload_n X dL_law_767 0 rfl ?_
  refine l_iload_n X dL_law_768 3 rfl ?_
  refine l_iconst X (v := 1) dL_law_769 (by decide) ?_
  refine l_iadd X dL_law_770 ?_
  refine l_sld X (j := i + 1) (by rw [show (1 : Int32) = nI 1 from rfl, nI_add]) (by omega) (by omega) dL_law_771 ?_
  refine l_aload_n X dL_law_772 0 rfl ?_
  refine l_iload_n X dL_law_773 3 rfl ?_
  refine l_iconst X (v := 2) dL_law_774 (by decide) ?_
  refine l_iadd X dL_law_775 ?_
  refine l_sld X (j := i + 2) (by rw [show (2 : Int32) = nI 2 from rfl, nI_add]) (by omega) (by omega) dL_law_776 ?_
  refine l_callmi X [.int (xs (i + 1)), .int (xs (i + 2))] rfl (cwV 2 X.2.2.2.2.1 gL_law_X8_rate rfl rfl rfl hd_X8_rate ⟨Nat.le_of_ble_eq_true rfl, Nat.le_of_ble_eq_true rfl⟩) (Nat.le_of_ble_eq_true rfl) dL_law_777 (ct_X8_rate X.2.2.2.2.2.2.2.1 0 (xs (i + 1)) (xs (i + 2)) ⟨by decide, rfl⟩ _ h2) ?_
  refine l_same X 1447 dL_law_780 (by decide) ?_
  exact k
set_option maxRecDepth 100000 in
set_option maxHeartbeats 400000 in
theorem lc_swap {x : g_CX} {ad2 : Nat → Nat} {b L : Nat} {xs : Nat → Int32} {Q : State → Prop} {Sc Sm : g_St} (X : g_LX x ad2 b L xs) {fu i : Nat} (hi : i + 5 ≤ L) (hL : L < 2 ^ 31) {r : Int32} {Sc1 Sm1 : g_St} (h1 : f_X7_swap fu 0 (xs (i + 1)) (xs (i + 2)) Sc = some (r, Sc1)) (h2 : f_X8_swap fu 0 (xs (i + 1)) (xs (i + 2)) Sm = some (r, Sm1)) (k : g_LV x ad2 Q Sc1 Sm1 1447 [(0, .ref b), (1, .ref (g_ad x 0)), (2, .ref (ad2 0)), (3, .int (nI i))] []) : g_LV x ad2 Q Sc Sm 785 [(0, .ref b), (1, .ref (g_ad x 0)), (2, .ref (ad2 0)), (3, .int (nI i))] [] := by
  refine l_aload_n X dL_law_785 1 rfl ?_
  refine l_aload_n X dL_law_786 0 rfl ?_
  refine l_iload_n X dL_law_787 3 rfl ?_
  refine l_iconst X (v := 1) dL_law_788 (by decide) ?_
  refine l_iadd X dL_law_789 ?_
  refine l_sld X (j := i + 1) (by rw [show (1 : Int32) = nI 1 from rfl, nI_add]) (by omega) (by omega) dL_law_790 ?_
  refine l_aload_n X dL_law_791 0 rfl ?_
  refine l_iload_n X dL_law_792 3 rfl ?_
  refine l_iconst X (v := 2) dL_law_793 (by decide) ?_
  refine l_iadd X dL_law_794 ?_
  refine l_sld X (j := i + 2) (by rw [show (2 : Int32) = nI 2 from rfl, nI_add]) (by omega) (by omega) dL_law_795 ?_
  refine l_callci X [.int (xs (i + 1)), .int (xs (i + 2))] rfl (cwV 2 X.2.2.2.2.1 gL_law_X7_swap rfl rfl rfl hd_X7_swap ⟨Nat.le_of_ble_eq_true rfl, Nat.le_of_ble_eq_true rfl⟩) (Nat.le_of_ble_eq_true rfl) dL_law_796 (ct_X7_swap X.2.2.2.2.2.2.1 0 (xs (i + 1)) (xs (i + 2)) ⟨by decide, rfl⟩ _ h1) ?_
  refine l_aload_n X dL_law_799 2 rfl ?_
  refine l_aload_n X dL_law_800 0 rfl ?_
  refine l_iload_n X dL_law_801 3 rfl ?_
  refine l_iconst X (v := 1) dL_law_802 (by decide) ?_
  refine l_iadd X dL_law_803 ?_
  refine l_sld X (j := i + 1) (by rw [show (1 : Int32) = nI 1 from rfl, nI_add]) (by omega) (by omega) dL_law_804 ?_
  refine l_aload_n X dL_law_805 0 rfl ?_
  refine l_iload_n X dL_law_806 3 rfl ?_
  refine l_iconst X (v := 2) dL_law_807 (by decide) ?_
  refine l_iadd X dL_law_808 ?_
  refine l_sld X (j := i + 2) (by rw [show (2 : Int32) = nI 2 from rfl, nI_add]) (by omega) (by omega) dL_law_809 ?_
  refine l_callmi X [.int (xs (i + 1)), .int (xs (i + 2))] rfl (cwV 2 X.2.2.2.2.1 gL_law_X8_swap rfl rfl rfl hd_X8_swap ⟨Nat.le_of_ble_eq_true rfl, Nat.le_of_ble_eq_true rfl⟩) (Nat.le_of_ble_eq_true rfl) dL_law_810 (ct_X8_swap X.2.2.2.2.2.2.2.1 0 (xs (i + 1)) (xs (i + 2)) ⟨by decide, rfl⟩ _ h2) ?_
  refine l_same X 1447 dL_law_813 (by decide) ?_
  exact k
set_option maxRecDepth 100000 in
set_option maxHeartbeats 400000 in
theorem lc_open {x : g_CX} {ad2 : Nat → Nat} {b L : Nat} {xs : Nat → Int32} {Q : State → Prop} {Sc Sm : g_St} (X : g_LX x ad2 b L xs) {fu i : Nat} (hi : i + 5 ≤ L) (hL : L < 2 ^ 31) {r : Int32} {Sc1 Sm1 : g_St} (h1 : f_X7_open fu 0 (xs (i + 1)) (xs (i + 2)) Sc = some (r, Sc1)) (h2 : f_X8_open fu 0 (xs (i + 1)) (xs (i + 2)) Sm = some (r, Sm1)) (k : g_LV x ad2 Q Sc1 Sm1 1447 [(0, .ref b), (1, .ref (g_ad x 0)), (2, .ref (ad2 0)), (3, .int (nI i))] []) : g_LV x ad2 Q Sc Sm 818 [(0, .ref b), (1, .ref (g_ad x 0)), (2, .ref (ad2 0)), (3, .int (nI i))] [] := by
  refine l_aload_n X dL_law_818 1 rfl ?_
  refine l_aload_n X dL_law_819 0 rfl ?_
  refine l_iload_n X dL_law_820 3 rfl ?_
  refine l_iconst X (v := 1) dL_law_821 (by decide) ?_
  refine l_iadd X dL_law_822 ?_
  refine l_sld X (j := i + 1) (by rw [show (1 : Int32) = nI 1 from rfl, nI_add]) (by omega) (by omega) dL_law_823 ?_
  refine l_aload_n X dL_law_824 0 rfl ?_
  refine l_iload_n X dL_law_825 3 rfl ?_
  refine l_iconst X (v := 2) dL_law_826 (by decide) ?_
  refine l_iadd X dL_law_827 ?_
  refine l_sld X (j := i + 2) (by rw [show (2 : Int32) = nI 2 from rfl, nI_add]) (by omega) (by omega) dL_law_828 ?_
  refine l_callci X [.int (xs (i + 1)), .int (xs (i + 2))] rfl (cwV 2 X.2.2.2.2.1 gL_law_X7_open rfl rfl rfl hd_X7_open ⟨Nat.le_of_ble_eq_true rfl, Nat.le_of_ble_eq_true rfl⟩) (Nat.le_of_ble_eq_true rfl) dL_law_829 (ct_X7_open X.2.2.2.2.2.2.1 0 (xs (i + 1)) (xs (i + 2)) ⟨by decide, rfl⟩ _ h1) ?_
  refine l_aload_n X dL_law_832 2 rfl ?_
  refine l_aload_n X dL_law_833 0 rfl ?_
  refine l_iload_n X dL_law_834 3 rfl ?_
  refine l_iconst X (v := 1) dL_law_835 (by decide) ?_
  refine l_iadd X dL_law_836 ?_
  refine l_sld X (j := i + 1) (by rw [show (1 : Int32) = nI 1 from rfl, nI_add]) (by omega) (by omega) dL_law_837 ?_
  refine l_aload_n X dL_law_838 0 rfl ?_
  refine l_iload_n X dL_law_839 3 rfl ?_
  refine l_iconst X (v := 2) dL_law_840 (by decide) ?_
  refine l_iadd X dL_law_841 ?_
  refine l_sld X (j := i + 2) (by rw [show (2 : Int32) = nI 2 from rfl, nI_add]) (by omega) (by omega) dL_law_842 ?_
  refine l_callmi X [.int (xs (i + 1)), .int (xs (i + 2))] rfl (cwV 2 X.2.2.2.2.1 gL_law_X8_open rfl rfl rfl hd_X8_open ⟨Nat.le_of_ble_eq_true rfl, Nat.le_of_ble_eq_true rfl⟩) (Nat.le_of_ble_eq_true rfl) dL_law_843 (ct_X8_open X.2.2.2.2.2.2.2.1 0 (xs (i + 1)) (xs (i + 2)) ⟨by decide, rfl⟩ _ h2) ?_
  refine l_same X 1447 dL_law_846 (by decide) ?_
  exact k
set_option maxRecDepth 100000 in
set_option maxHeartbeats 400000 in
theorem lc_kind {x : g_CX} {ad2 : Nat → Nat} {b L : Nat} {xs : Nat → Int32} {Q : State → Prop} {Sc Sm : g_St} (X : g_LX x ad2 b L xs) {fu i : Nat} (hi : i + 5 ≤ L) (hL : L < 2 ^ 31) {r : Int32} {Sc1 Sm1 : g_St} (h1 : f_X7_kind fu 0 (xs (i + 1)) (xs (i + 2)) (xs (i + 3)) Sc = some (r, Sc1)) (h2 : f_X8_kind fu 0 (xs (i + 1)) (xs (i + 2)) (xs (i + 3)) Sm = some (r, Sm1)) (k : g_LV x ad2 Q Sc1 Sm1 1447 [(0, .ref b), (1, .ref (g_ad x 0)), (2, .ref (ad2 0)), (3, .int (nI i))] []) : g_LV x ad2 Q Sc Sm 851 [(0, .ref b), (1, .ref (g_ad x 0)), (2, .ref (ad2 0)), (3, .int (nI i))] [] := by
  refine l_aload_n X dL_law_851 1 rfl ?_
  refine l_aload_n X dL_law_852 0 rfl ?_
  refine l_iload_n X dL_law_853 3 rfl ?_
  refine l_iconst X (v := 1) dL_law_854 (by decide) ?_
  refine l_iadd X dL_law_855 ?_
  refine l_sld X (j := i + 1) (by rw [show (1 : Int32) = nI 1 from rfl, nI_add]) (by omega) (by omega) dL_law_856 ?_
  refine l_aload_n X dL_law_857 0 rfl ?_
  refine l_iload_n X dL_law_858 3 rfl ?_
  refine l_iconst X (v := 2) dL_law_859 (by decide) ?_
  refine l_iadd X dL_law_860 ?_
  refine l_sld X (j := i + 2) (by rw [show (2 : Int32) = nI 2 from rfl, nI_add]) (by omega) (by omega) dL_law_861 ?_
  refine l_aload_n X dL_law_862 0 rfl ?_
  refine l_iload_n X dL_law_863 3 rfl ?_
  refine l_iconst X (v := 3) dL_law_864 (by decide) ?_
  refine l_iadd X dL_law_865 ?_
  refine l_sld X (j := i + 3) (by rw [show (3 : Int32) = nI 3 from rfl, nI_add]) (by omega) (by omega) dL_law_866 ?_
  refine l_callci X [.int (xs (i + 1)), .int (xs (i + 2)), .int (xs (i + 3))] rfl (cwV 3 X.2.2.2.2.1 gL_law_X7_kind rfl rfl rfl hd_X7_kind ⟨Nat.le_of_ble_eq_true rfl, Nat.le_of_ble_eq_true rfl⟩) (Nat.le_of_ble_eq_true rfl) dL_law_867 (ct_X7_kind X.2.2.2.2.2.2.1 0 (xs (i + 1)) (xs (i + 2)) (xs (i + 3)) ⟨by decide, rfl⟩ _ h1) ?_
  refine l_aload_n X dL_law_870 2 rfl ?_
  refine l_aload_n X dL_law_871 0 rfl ?_
  refine l_iload_n X dL_law_872 3 rfl ?_
  refine l_iconst X (v := 1) dL_law_873 (by decide) ?_
  refine l_iadd X dL_law_874 ?_
  refine l_sld X (j := i + 1) (by rw [show (1 : Int32) = nI 1 from rfl, nI_add]) (by omega) (by omega) dL_law_875 ?_
  refine l_aload_n X dL_law_876 0 rfl ?_
  refine l_iload_n X dL_law_877 3 rfl ?_
  refine l_iconst X (v := 2) dL_law_878 (by decide) ?_
  refine l_iadd X dL_law_879 ?_
  refine l_sld X (j := i + 2) (by rw [show (2 : Int32) = nI 2 from rfl, nI_add]) (by omega) (by omega) dL_law_880 ?_
  refine l_aload_n X dL_law_881 0 rfl ?_
  refine l_iload_n X dL_law_882 3 rfl ?_
  refine l_iconst X (v := 3) dL_law_883 (by decide) ?_
  refine l_iadd X dL_law_884 ?_
  refine l_sld X (j := i + 3) (by rw [show (3 : Int32) = nI 3 from rfl, nI_add]) (by omega) (by omega) dL_law_885 ?_
  refine l_callmi X [.int (xs (i + 1)), .int (xs (i + 2)), .int (xs (i + 3))] rfl (cwV 3 X.2.2.2.2.1 gL_law_X8_kind rfl rfl rfl hd_X8_kind ⟨Nat.le_of_ble_eq_true rfl, Nat.le_of_ble_eq_true rfl⟩) (Nat.le_of_ble_eq_true rfl) dL_law_886 (ct_X8_kind X.2.2.2.2.2.2.2.1 0 (xs (i + 1)) (xs (i + 2)) (xs (i + 3)) ⟨by decide, rfl⟩ _ h2) ?_
  refine l_same X 1447 dL_law_889 (by decide) ?_
  exact k
set_option maxRecDepth 100000 in
set_option maxHeartbeats 400000 in
theorem lc_fill {x : g_CX} {ad2 : Nat → Nat} {b L : Nat} {xs : Nat → Int32} {Q : State → Prop} {Sc Sm : g_St} (X : g_LX x ad2 b L xs) {fu i : Nat} (hi : i + 5 ≤ L) (hL : L < 2 ^ 31) {r : Int32} {Sc1 Sm1 : g_St} (h1 : f_X7_fill fu 0 (xs (i + 1)) (xs (i + 2)) (xs (i + 3)) Sc = some (r, Sc1)) (h2 : f_X8_fill fu 0 (xs (i + 1)) (xs (i + 2)) (xs (i + 3)) Sm = some (r, Sm1)) (k : g_LV x ad2 Q Sc1 Sm1 1447 [(0, .ref b), (1, .ref (g_ad x 0)), (2, .ref (ad2 0)), (3, .int (nI i))] []) : g_LV x ad2 Q Sc Sm 894 [(0, .ref b), (1, .ref (g_ad x 0)), (2, .ref (ad2 0)), (3, .int (nI i))] [] := by
  refine l_aload_n X dL_law_894 1 rfl ?_
  refine l_aload_n X dL_law_895 0 rfl ?_
  refine l_iload_n X dL_law_896 3 rfl ?_
  refine l_iconst X (v := 1) dL_law_897 (by decide) ?_
  refine l_iadd X dL_law_898 ?_
  refine l_sld X (j := i + 1) (by rw [show (1 : Int32) = nI 1 from rfl, nI_add]) (by omega) (by omega) dL_law_899 ?_
  refine l_aload_n X dL_law_900 0 rfl ?_
  refine l_iload_n X dL_law_901 3 rfl ?_
  refine l_iconst X (v := 2) dL_law_902 (by decide) ?_
  refine l_iadd X dL_law_903 ?_
  refine l_sld X (j := i + 2) (by rw [show (2 : Int32) = nI 2 from rfl, nI_add]) (by omega) (by omega) dL_law_904 ?_
  refine l_aload_n X dL_law_905 0 rfl ?_
  refine l_iload_n X dL_law_906 3 rfl ?_
  refine l_iconst X (v := 3) dL_law_907 (by decide) ?_
  refine l_iadd X dL_law_908 ?_
  refine l_sld X (j := i + 3) (by rw [show (3 : Int32) = nI 3 from rfl, nI_add]) (by omega) (by omega) dL_law_909 ?_
  refine l_callci X [.int (xs (i + 1)), .int (xs (i + 2)), .int (xs (i + 3))] rfl (cwV 3 X.2.2.2.2.1 gL_law_X7_fill rfl rfl rfl hd_X7_fill ⟨Nat.le_of_ble_eq_true rfl, Nat.le_of_ble_eq_true rfl⟩) (Nat.le_of_ble_eq_true rfl) dL_law_910 (ct_X7_fill X.2.2.2.2.2.2.1 0 (xs (i + 1)) (xs (i + 2)) (xs (i + 3)) ⟨by decide, rfl⟩ _ h1) ?_
  refine l_aload_n X dL_law_913 2 rfl ?_
  refine l_aload_n X dL_law_914 0 rfl ?_
  refine l_iload_n X dL_law_915 3 rfl ?_
  refine l_iconst X (v := 1) dL_law_916 (by decide) ?_
  refine l_iadd X dL_law_917 ?_
  refine l_sld X (j := i + 1) (by rw [show (1 : Int32) = nI 1 from rfl, nI_add]) (by omega) (by omega) dL_law_918 ?_
  refine l_aload_n X dL_law_919 0 rfl ?_
  refine l_iload_n X dL_law_920 3 rfl ?_
  refine l_iconst X (v := 2) dL_law_921 (by decide) ?_
  refine l_iadd X dL_law_922 ?_
  refine l_sld X (j := i + 2) (by rw [show (2 : Int32) = nI 2 from rfl, nI_add]) (by omega) (by omega) dL_law_923 ?_
  refine l_aload_n X dL_law_924 0 rfl ?_
  refine l_iload_n X dL_law_925 3 rfl ?_
  refine l_iconst X (v := 3) dL_law_926 (by decide) ?_
  refine l_iadd X dL_law_927 ?_
  refine l_sld X (j := i + 3) (by rw [show (3 : Int32) = nI 3 from rfl, nI_add]) (by omega) (by omega) dL_law_928 ?_
  refine l_callmi X [.int (xs (i + 1)), .int (xs (i + 2)), .int (xs (i + 3))] rfl (cwV 3 X.2.2.2.2.1 gL_law_X8_fill rfl rfl rfl hd_X8_fill ⟨Nat.le_of_ble_eq_true rfl, Nat.le_of_ble_eq_true rfl⟩) (Nat.le_of_ble_eq_true rfl) dL_law_929 (ct_X8_fill X.2.2.2.2.2.2.2.1 0 (xs (i + 1)) (xs (i + 2)) (xs (i + 3)) ⟨by decide, rfl⟩ _ h2) ?_
  refine l_same X 1447 dL_law_932 (by decide) ?_
  exact k
set_option maxRecDepth 100000 in
set_option maxHeartbeats 400000 in
theorem lc_luck {x : g_CX} {ad2 : Nat → Nat} {b L : Nat} {xs : Nat → Int32} {Q : State → Prop} {Sc Sm : g_St} (X : g_LX x ad2 b L xs) {fu i : Nat} (hi : i + 5 ≤ L) (hL : L < 2 ^ 31) {r : Int64} {Sc1 Sm1 : g_St} (h1 : f_X7_luck fu 0 (xs (i + 1)) (xs (i + 2)) (xs (i + 3)) Sc = some (r, Sc1)) (h2 : f_X8_luck fu 0 (xs (i + 1)) (xs (i + 2)) (xs (i + 3)) Sm = some (r, Sm1)) (k : g_LV x ad2 Q Sc1 Sm1 1447 [(0, .ref b), (1, .ref (g_ad x 0)), (2, .ref (ad2 0)), (3, .int (nI i))] []) : g_LV x ad2 Q Sc Sm 937 [(0, .ref b), (1, .ref (g_ad x 0)), (2, .ref (ad2 0)), (3, .int (nI i))] [] := by
  refine l_aload_n X dL_law_937 1 rfl ?_
  refine l_aload_n X dL_law_938 0 rfl ?_
  refine l_iload_n X dL_law_939 3 rfl ?_
  refine l_iconst X (v := 1) dL_law_940 (by decide) ?_
  refine l_iadd X dL_law_941 ?_
  refine l_sld X (j := i + 1) (by rw [show (1 : Int32) = nI 1 from rfl, nI_add]) (by omega) (by omega) dL_law_942 ?_
  refine l_aload_n X dL_law_943 0 rfl ?_
  refine l_iload_n X dL_law_944 3 rfl ?_
  refine l_iconst X (v := 2) dL_law_945 (by decide) ?_
  refine l_iadd X dL_law_946 ?_
  refine l_sld X (j := i + 2) (by rw [show (2 : Int32) = nI 2 from rfl, nI_add]) (by omega) (by omega) dL_law_947 ?_
  refine l_aload_n X dL_law_948 0 rfl ?_
  refine l_iload_n X dL_law_949 3 rfl ?_
  refine l_iconst X (v := 3) dL_law_950 (by decide) ?_
  refine l_iadd X dL_law_951 ?_
  refine l_sld X (j := i + 3) (by rw [show (3 : Int32) = nI 3 from rfl, nI_add]) (by omega) (by omega) dL_law_952 ?_
  refine l_callcl X [.int (xs (i + 1)), .int (xs (i + 2)), .int (xs (i + 3))] rfl (cwV 3 X.2.2.2.2.1 gL_law_X7_luck rfl rfl rfl hd_X7_luck ⟨Nat.le_of_ble_eq_true rfl, Nat.le_of_ble_eq_true rfl⟩) (Nat.le_of_ble_eq_true rfl) dL_law_953 (ct_X7_luck X.2.2.2.2.2.2.1 0 (xs (i + 1)) (xs (i + 2)) (xs (i + 3)) ⟨by decide, rfl⟩ _ h1) ?_
  refine l_aload_n X dL_law_956 2 rfl ?_
  refine l_aload_n X dL_law_957 0 rfl ?_
  refine l_iload_n X dL_law_958 3 rfl ?_
  refine l_iconst X (v := 1) dL_law_959 (by decide) ?_
  refine l_iadd X dL_law_960 ?_
  refine l_sld X (j := i + 1) (by rw [show (1 : Int32) = nI 1 from rfl, nI_add]) (by omega) (by omega) dL_law_961 ?_
  refine l_aload_n X dL_law_962 0 rfl ?_
  refine l_iload_n X dL_law_963 3 rfl ?_
  refine l_iconst X (v := 2) dL_law_964 (by decide) ?_
  refine l_iadd X dL_law_965 ?_
  refine l_sld X (j := i + 2) (by rw [show (2 : Int32) = nI 2 from rfl, nI_add]) (by omega) (by omega) dL_law_966 ?_
  refine l_aload_n X dL_law_967 0 rfl ?_
  refine l_iload_n X dL_law_968 3 rfl ?_
  refine l_iconst X (v := 3) dL_law_969 (by decide) ?_
  refine l_iadd X dL_law_970 ?_
  refine l_sld X (j := i + 3) (by rw [show (3 : Int32) = nI 3 from rfl, nI_add]) (by omega) (by omega) dL_law_971 ?_
  refine l_callml X [.int (xs (i + 1)), .int (xs (i + 2)), .int (xs (i + 3))] rfl (cwV 3 X.2.2.2.2.1 gL_law_X8_luck rfl rfl rfl hd_X8_luck ⟨Nat.le_of_ble_eq_true rfl, Nat.le_of_ble_eq_true rfl⟩) (Nat.le_of_ble_eq_true rfl) dL_law_972 (ct_X8_luck X.2.2.2.2.2.2.2.1 0 (xs (i + 1)) (xs (i + 2)) (xs (i + 3)) ⟨by decide, rfl⟩ _ h2) ?_
  refine l_samel X 1447 dL_law_975 dL_law_976 (by decide) ?_
  exact k
set_option maxRecDepth 100000 in
set_option maxHeartbeats 400000 in
theorem lc_mean {x : g_CX} {ad2 : Nat → Nat} {b L : Nat} {xs : Nat → Int32} {Q : State → Prop} {Sc Sm : g_St} (X : g_LX x ad2 b L xs) {fu i : Nat} (hi : i + 5 ≤ L) (hL : L < 2 ^ 31) {r : Int64} {Sc1 Sm1 : g_St} (h1 : f_X7_mean fu 0 (xs (i + 1)) (xs (i + 2)) (xs (i + 3)) Sc = some (r, Sc1)) (h2 : f_X8_mean fu 0 (xs (i + 1)) (xs (i + 2)) (xs (i + 3)) Sm = some (r, Sm1)) (k : g_LV x ad2 Q Sc1 Sm1 1447 [(0, .ref b), (1, .ref (g_ad x 0)), (2, .ref (ad2 0)), (3, .int (nI i))] []) : g_LV x ad2 Q Sc Sm 981 [(0, .ref b), (1, .ref (g_ad x 0)), (2, .ref (ad2 0)), (3, .int (nI i))] [] := by
  refine l_aload_n X dL_law_981 1 rfl ?_
  refine l_aload_n X dL_law_982 0 rfl ?_
  refine l_iload_n X dL_law_983 3 rfl ?_
  refine l_iconst X (v := 1) dL_law_984 (by decide) ?_
  refine l_iadd X dL_law_985 ?_
  refine l_sld X (j := i + 1) (by rw [show (1 : Int32) = nI 1 from rfl, nI_add]) (by omega) (by omega) dL_law_986 ?_
  refine l_aload_n X dL_law_987 0 rfl ?_
  refine l_iload_n X dL_law_988 3 rfl ?_
  refine l_iconst X (v := 2) dL_law_989 (by decide) ?_
  refine l_iadd X dL_law_990 ?_
  refine l_sld X (j := i + 2) (by rw [show (2 : Int32) = nI 2 from rfl, nI_add]) (by omega) (by omega) dL_law_991 ?_
  refine l_aload_n X dL_law_992 0 rfl ?_
  refine l_iload_n X dL_law_993 3 rfl ?_
  refine l_iconst X (v := 3) dL_law_994 (by decide) ?_
  refine l_iadd X dL_law_995 ?_
  refine l_sld X (j := i + 3) (by rw [show (3 : Int32) = nI 3 from rfl, nI_add]) (by omega) (by omega) dL_law_996 ?_
  refine l_callcl X [.int (xs (i + 1)), .int (xs (i + 2)), .int (xs (i + 3))] rfl (cwV 3 X.2.2.2.2.1 gL_law_X7_mean rfl rfl rfl hd_X7_mean ⟨Nat.le_of_ble_eq_true rfl, Nat.le_of_ble_eq_true rfl⟩) (Nat.le_of_ble_eq_true rfl) dL_law_997 (ct_X7_mean X.2.2.2.2.2.2.1 0 (xs (i + 1)) (xs (i + 2)) (xs (i + 3)) ⟨by decide, rfl⟩ _ h1) ?_
  refine l_aload_n X dL_law_1000 2 rfl ?_
  refine l_aload_n X dL_law_1001 0 rfl ?_
  refine l_iload_n X dL_law_1002 3 rfl ?_
  refine l_iconst X (v := 1) dL_law_1003 (by decide) ?_
  refine l_iadd X dL_law_1004 ?_
  refine l_sld X (j := i + 1) (by rw [show (1 : Int32) = nI 1 from rfl, nI_add]) (by omega) (by omega) dL_law_1005 ?_
  refine l_aload_n X dL_law_1006 0 rfl ?_
  refine l_iload_n X dL_law_1007 3 rfl ?_
  refine l_iconst X (v := 2) dL_law_1008 (by decide) ?_
  refine l_iadd X dL_law_1009 ?_
  refine l_sld X (j := i + 2) (by rw [show (2 : Int32) = nI 2 from rfl, nI_add]) (by omega) (by omega) dL_law_1010 ?_
  refine l_aload_n X dL_law_1011 0 rfl ?_
  refine l_iload_n X dL_law_1012 3 rfl ?_
  refine l_iconst X (v := 3) dL_law_1013 (by decide) ?_
  refine l_iadd X dL_law_1014 ?_
  refine l_sld X (j := i + 3) (by rw [show (3 : Int32) = nI 3 from rfl, nI_add]) (by omega) (by omega) dL_law_1015 ?_
  refine l_callml X [.int (xs (i + 1)), .int (xs (i + 2)), .int (xs (i + 3))] rfl (cwV 3 X.2.2.2.2.1 gL_law_X8_mean rfl rfl rfl hd_X8_mean ⟨Nat.le_of_ble_eq_true rfl, Nat.le_of_ble_eq_true rfl⟩) (Nat.le_of_ble_eq_true rfl) dL_law_1016 (ct_X8_mean X.2.2.2.2.2.2.2.1 0 (xs (i + 1)) (xs (i + 2)) (xs (i + 3)) ⟨by decide, rfl⟩ _ h2) ?_
  refine l_samel X 1447 dL_law_1019 dL_law_1020 (by decide) ?_
  exact k
set_option maxRecDepth 100000 in
set_option maxHeartbeats 400000 in
theorem lc_see {x : g_CX} {ad2 : Nat → Nat} {b L : Nat} {xs : Nat → Int32} {Q : State → Prop} {Sc Sm : g_St} (X : g_LX x ad2 b L xs) {fu i : Nat} (hi : i + 5 ≤ L) (hL : L < 2 ^ 31) {r : Int32} {Sc1 Sm1 : g_St} (h1 : f_X7_see fu 0 (xs (i + 1)) (xs (i + 2)) Sc = some (r, Sc1)) (h2 : f_X8_see fu 0 (xs (i + 1)) (xs (i + 2)) Sm = some (r, Sm1)) (k : g_LV x ad2 Q Sc1 Sm1 1447 [(0, .ref b), (1, .ref (g_ad x 0)), (2, .ref (ad2 0)), (3, .int (nI i))] []) : g_LV x ad2 Q Sc Sm 1025 [(0, .ref b), (1, .ref (g_ad x 0)), (2, .ref (ad2 0)), (3, .int (nI i))] [] := by
  refine l_aload_n X dL_law_1025 1 rfl ?_
  refine l_aload_n X dL_law_1026 0 rfl ?_
  refine l_iload_n X dL_law_1027 3 rfl ?_
  refine l_iconst X (v := 1) dL_law_1028 (by decide) ?_
  refine l_iadd X dL_law_1029 ?_
  refine l_sld X (j := i + 1) (by rw [show (1 : Int32) = nI 1 from rfl, nI_add]) (by omega) (by omega) dL_law_1030 ?_
  refine l_aload_n X dL_law_1031 0 rfl ?_
  refine l_iload_n X dL_law_1032 3 rfl ?_
  refine l_iconst X (v := 2) dL_law_1033 (by decide) ?_
  refine l_iadd X dL_law_1034 ?_
  refine l_sld X (j := i + 2) (by rw [show (2 : Int32) = nI 2 from rfl, nI_add]) (by omega) (by omega) dL_law_1035 ?_
  refine l_callci X [.int (xs (i + 1)), .int (xs (i + 2))] rfl (cwV 2 X.2.2.2.2.1 gL_law_X7_see rfl rfl rfl hd_X7_see ⟨Nat.le_of_ble_eq_true rfl, Nat.le_of_ble_eq_true rfl⟩) (Nat.le_of_ble_eq_true rfl) dL_law_1036 (ct_X7_see X.2.2.2.2.2.2.1 0 (xs (i + 1)) (xs (i + 2)) ⟨by decide, rfl⟩ _ h1) ?_
  refine l_aload_n X dL_law_1039 2 rfl ?_
  refine l_aload_n X dL_law_1040 0 rfl ?_
  refine l_iload_n X dL_law_1041 3 rfl ?_
  refine l_iconst X (v := 1) dL_law_1042 (by decide) ?_
  refine l_iadd X dL_law_1043 ?_
  refine l_sld X (j := i + 1) (by rw [show (1 : Int32) = nI 1 from rfl, nI_add]) (by omega) (by omega) dL_law_1044 ?_
  refine l_aload_n X dL_law_1045 0 rfl ?_
  refine l_iload_n X dL_law_1046 3 rfl ?_
  refine l_iconst X (v := 2) dL_law_1047 (by decide) ?_
  refine l_iadd X dL_law_1048 ?_
  refine l_sld X (j := i + 2) (by rw [show (2 : Int32) = nI 2 from rfl, nI_add]) (by omega) (by omega) dL_law_1049 ?_
  refine l_callmi X [.int (xs (i + 1)), .int (xs (i + 2))] rfl (cwV 2 X.2.2.2.2.1 gL_law_X8_see rfl rfl rfl hd_X8_see ⟨Nat.le_of_ble_eq_true rfl, Nat.le_of_ble_eq_true rfl⟩) (Nat.le_of_ble_eq_true rfl) dL_law_1050 (ct_X8_see X.2.2.2.2.2.2.2.1 0 (xs (i + 1)) (xs (i + 2)) ⟨by decide, rfl⟩ _ h2) ?_
  refine l_same X 1447 dL_law_1053 (by decide) ?_
  exact k
set_option maxRecDepth 100000 in
set_option maxHeartbeats 400000 in
theorem lc_forget {x : g_CX} {ad2 : Nat → Nat} {b L : Nat} {xs : Nat → Int32} {Q : State → Prop} {Sc Sm : g_St} (X : g_LX x ad2 b L xs) {fu i : Nat} (hi : i + 5 ≤ L) (hL : L < 2 ^ 31) {r : Int32} {Sc1 Sm1 : g_St} (h1 : f_X7_forget fu 0 (xs (i + 1)) Sc = some (r, Sc1)) (h2 : f_X8_forget fu 0 (xs (i + 1)) Sm = some (r, Sm1)) (k : g_LV x ad2 Q Sc1 Sm1 1447 [(0, .ref b), (1, .ref (g_ad x 0)), (2, .ref (ad2 0)), (3, .int (nI i))] []) : g_LV x ad2 Q Sc Sm 1058 [(0, .ref b), (1, .ref (g_ad x 0)), (2, .ref (ad2 0)), (3, .int (nI i))] [] := by
  refine l_aload_n X dL_law_1058 1 rfl ?_
  refine l_aload_n X dL_law_1059 0 rfl ?_
  refine l_iload_n X dL_law_1060 3 rfl ?_
  refine l_iconst X (v := 1) dL_law_1061 (by decide) ?_
  refine l_iadd X dL_law_1062 ?_
  refine l_sld X (j := i + 1) (by rw [show (1 : Int32) = nI 1 from rfl, nI_add]) (by omega) (by omega) dL_law_1063 ?_
  refine l_callci X [.int (xs (i + 1))] rfl (cwV 1 X.2.2.2.2.1 gL_law_X7_forget rfl rfl rfl hd_X7_forget ⟨Nat.le_of_ble_eq_true rfl, Nat.le_of_ble_eq_true rfl⟩) (Nat.le_of_ble_eq_true rfl) dL_law_1064 (ct_X7_forget X.2.2.2.2.2.2.1 0 (xs (i + 1)) ⟨by decide, rfl⟩ _ h1) ?_
  refine l_aload_n X dL_law_1067 2 rfl ?_
  refine l_aload_n X dL_law_1068 0 rfl ?_
  refine l_iload_n X dL_law_1069 3 rfl ?_
  refine l_iconst X (v := 1) dL_law_1070 (by decide) ?_
  refine l_iadd X dL_law_1071 ?_
  refine l_sld X (j := i + 1) (by rw [show (1 : Int32) = nI 1 from rfl, nI_add]) (by omega) (by omega) dL_law_1072 ?_
  refine l_callmi X [.int (xs (i + 1))] rfl (cwV 1 X.2.2.2.2.1 gL_law_X8_forget rfl rfl rfl hd_X8_forget ⟨Nat.le_of_ble_eq_true rfl, Nat.le_of_ble_eq_true rfl⟩) (Nat.le_of_ble_eq_true rfl) dL_law_1073 (ct_X8_forget X.2.2.2.2.2.2.2.1 0 (xs (i + 1)) ⟨by decide, rfl⟩ _ h2) ?_
  refine l_same X 1447 dL_law_1076 (by decide) ?_
  exact k
set_option maxRecDepth 100000 in
set_option maxHeartbeats 400000 in
theorem lc_kinds {x : g_CX} {ad2 : Nat → Nat} {b L : Nat} {xs : Nat → Int32} {Q : State → Prop} {Sc Sm : g_St} (X : g_LX x ad2 b L xs) {fu i : Nat} (hi : i + 5 ≤ L) (hL : L < 2 ^ 31) {r : Int32} {Sc1 Sm1 : g_St} (h1 : f_X7_kinds fu 0 (xs (i + 1)) Sc = some (r, Sc1)) (h2 : f_X8_kinds fu 0 (xs (i + 1)) Sm = some (r, Sm1)) (k : g_LV x ad2 Q Sc1 Sm1 1447 [(0, .ref b), (1, .ref (g_ad x 0)), (2, .ref (ad2 0)), (3, .int (nI i))] []) : g_LV x ad2 Q Sc Sm 1081 [(0, .ref b), (1, .ref (g_ad x 0)), (2, .ref (ad2 0)), (3, .int (nI i))] [] := by
  refine l_aload_n X dL_law_1081 1 rfl ?_
  refine l_aload_n X dL_law_1082 0 rfl ?_
  refine l_iload_n X dL_law_1083 3 rfl ?_
  refine l_iconst X (v := 1) dL_law_1084 (by decide) ?_
  refine l_iadd X dL_law_1085 ?_
  refine l_sld X (j := i + 1) (by rw [show (1 : Int32) = nI 1 from rfl, nI_add]) (by omega) (by omega) dL_law_1086 ?_
  refine l_callci X [.int (xs (i + 1))] rfl (cwV 1 X.2.2.2.2.1 gL_law_X7_kinds rfl rfl rfl hd_X7_kinds ⟨Nat.le_of_ble_eq_true rfl, Nat.le_of_ble_eq_true rfl⟩) (Nat.le_of_ble_eq_true rfl) dL_law_1087 (ct_X7_kinds X.2.2.2.2.2.2.1 0 (xs (i + 1)) ⟨by decide, rfl⟩ _ h1) ?_
  refine l_aload_n X dL_law_1090 2 rfl ?_
  refine l_aload_n X dL_law_1091 0 rfl ?_
  refine l_iload_n X dL_law_1092 3 rfl ?_
  refine l_iconst X (v := 1) dL_law_1093 (by decide) ?_
  refine l_iadd X dL_law_1094 ?_
  refine l_sld X (j := i + 1) (by rw [show (1 : Int32) = nI 1 from rfl, nI_add]) (by omega) (by omega) dL_law_1095 ?_
  refine l_callmi X [.int (xs (i + 1))] rfl (cwV 1 X.2.2.2.2.1 gL_law_X8_kinds rfl rfl rfl hd_X8_kinds ⟨Nat.le_of_ble_eq_true rfl, Nat.le_of_ble_eq_true rfl⟩) (Nat.le_of_ble_eq_true rfl) dL_law_1096 (ct_X8_kinds X.2.2.2.2.2.2.2.1 0 (xs (i + 1)) ⟨by decide, rfl⟩ _ h2) ?_
  refine l_same X 1447 dL_law_1099 (by decide) ?_
  exact k
set_option maxRecDepth 100000 in
set_option maxHeartbeats 400000 in
theorem lc_depths {x : g_CX} {ad2 : Nat → Nat} {b L : Nat} {xs : Nat → Int32} {Q : State → Prop} {Sc Sm : g_St} (X : g_LX x ad2 b L xs) {fu i : Nat} (hi : i + 5 ≤ L) (hL : L < 2 ^ 31) {r : Int32} {Sc1 Sm1 : g_St} (h1 : f_X7_depths fu 0 (xs (i + 1)) Sc = some (r, Sc1)) (h2 : f_X8_depths fu 0 (xs (i + 1)) Sm = some (r, Sm1)) (k : g_LV x ad2 Q Sc1 Sm1 1447 [(0, .ref b), (1, .ref (g_ad x 0)), (2, .ref (ad2 0)), (3, .int (nI i))] []) : g_LV x ad2 Q Sc Sm 1104 [(0, .ref b), (1, .ref (g_ad x 0)), (2, .ref (ad2 0)), (3, .int (nI i))] [] := by
  refine l_aload_n X dL_law_1104 1 rfl ?_
  refine l_aload_n X dL_law_1105 0 rfl ?_
  refine l_iload_n X dL_law_1106 3 rfl ?_
  refine l_iconst X (v := 1) dL_law_1107 (by decide) ?_
  refine l_iadd X dL_law_1108 ?_
  refine l_sld X (j := i + 1) (by rw [show (1 : Int32) = nI 1 from rfl, nI_add]) (by omega) (by omega) dL_law_1109 ?_
  refine l_callci X [.int (xs (i + 1))] rfl (cwV 1 X.2.2.2.2.1 gL_law_X7_depths rfl rfl rfl hd_X7_depths ⟨Nat.le_of_ble_eq_true rfl, Nat.le_of_ble_eq_true rfl⟩) (Nat.le_of_ble_eq_true rfl) dL_law_1110 (ct_X7_depths X.2.2.2.2.2.2.1 0 (xs (i + 1)) ⟨by decide, rfl⟩ _ h1) ?_
  refine l_aload_n X dL_law_1113 2 rfl ?_
  refine l_aload_n X dL_law_1114 0 rfl ?_
  refine l_iload_n X dL_law_1115 3 rfl ?_
  refine l_iconst X (v := 1) dL_law_1116 (by decide) ?_
  refine l_iadd X dL_law_1117 ?_
  refine l_sld X (j := i + 1) (by rw [show (1 : Int32) = nI 1 from rfl, nI_add]) (by omega) (by omega) dL_law_1118 ?_
  refine l_callmi X [.int (xs (i + 1))] rfl (cwV 1 X.2.2.2.2.1 gL_law_X8_depths rfl rfl rfl hd_X8_depths ⟨Nat.le_of_ble_eq_true rfl, Nat.le_of_ble_eq_true rfl⟩) (Nat.le_of_ble_eq_true rfl) dL_law_1119 (ct_X8_depths X.2.2.2.2.2.2.2.1 0 (xs (i + 1)) ⟨by decide, rfl⟩ _ h2) ?_
  refine l_same X 1447 dL_law_1122 (by decide) ?_
  exact k
set_option maxRecDepth 100000 in
set_option maxHeartbeats 400000 in
theorem lc_rates {x : g_CX} {ad2 : Nat → Nat} {b L : Nat} {xs : Nat → Int32} {Q : State → Prop} {Sc Sm : g_St} (X : g_LX x ad2 b L xs) {fu i : Nat} (hi : i + 5 ≤ L) (hL : L < 2 ^ 31) {r : Int32} {Sc1 Sm1 : g_St} (h1 : f_X7_rates fu 0 (xs (i + 1)) Sc = some (r, Sc1)) (h2 : f_X8_rates fu 0 (xs (i + 1)) Sm = some (r, Sm1)) (k : g_LV x ad2 Q Sc1 Sm1 1447 [(0, .ref b), (1, .ref (g_ad x 0)), (2, .ref (ad2 0)), (3, .int (nI i))] []) : g_LV x ad2 Q Sc Sm 1127 [(0, .ref b), (1, .ref (g_ad x 0)), (2, .ref (ad2 0)), (3, .int (nI i))] [] := by
  refine l_aload_n X dL_law_1127 1 rfl ?_
  refine l_aload_n X dL_law_1128 0 rfl ?_
  refine l_iload_n X dL_law_1129 3 rfl ?_
  refine l_iconst X (v := 1) dL_law_1130 (by decide) ?_
  refine l_iadd X dL_law_1131 ?_
  refine l_sld X (j := i + 1) (by rw [show (1 : Int32) = nI 1 from rfl, nI_add]) (by omega) (by omega) dL_law_1132 ?_
  refine l_callci X [.int (xs (i + 1))] rfl (cwV 1 X.2.2.2.2.1 gL_law_X7_rates rfl rfl rfl hd_X7_rates ⟨Nat.le_of_ble_eq_true rfl, Nat.le_of_ble_eq_true rfl⟩) (Nat.le_of_ble_eq_true rfl) dL_law_1133 (ct_X7_rates X.2.2.2.2.2.2.1 0 (xs (i + 1)) ⟨by decide, rfl⟩ _ h1) ?_
  refine l_aload_n X dL_law_1136 2 rfl ?_
  refine l_aload_n X dL_law_1137 0 rfl ?_
  refine l_iload_n X dL_law_1138 3 rfl ?_
  refine l_iconst X (v := 1) dL_law_1139 (by decide) ?_
  refine l_iadd X dL_law_1140 ?_
  refine l_sld X (j := i + 1) (by rw [show (1 : Int32) = nI 1 from rfl, nI_add]) (by omega) (by omega) dL_law_1141 ?_
  refine l_callmi X [.int (xs (i + 1))] rfl (cwV 1 X.2.2.2.2.1 gL_law_X8_rates rfl rfl rfl hd_X8_rates ⟨Nat.le_of_ble_eq_true rfl, Nat.le_of_ble_eq_true rfl⟩) (Nat.le_of_ble_eq_true rfl) dL_law_1142 (ct_X8_rates X.2.2.2.2.2.2.2.1 0 (xs (i + 1)) ⟨by decide, rfl⟩ _ h2) ?_
  refine l_same X 1447 dL_law_1145 (by decide) ?_
  exact k
set_option maxRecDepth 100000 in
set_option maxHeartbeats 400000 in
theorem lc_ask {x : g_CX} {ad2 : Nat → Nat} {b L : Nat} {xs : Nat → Int32} {Q : State → Prop} {Sc Sm : g_St} (X : g_LX x ad2 b L xs) {fu i : Nat} (hi : i + 5 ≤ L) (hL : L < 2 ^ 31) {r : Int32} {Sc1 Sm1 : g_St} (h1 : f_X7_ask fu 0 (xs (i + 1)) (xs (i + 2)) Sc = some (r, Sc1)) (h2 : f_X8_ask fu 0 (xs (i + 1)) (xs (i + 2)) Sm = some (r, Sm1)) (k : g_LV x ad2 Q Sc1 Sm1 1447 [(0, .ref b), (1, .ref (g_ad x 0)), (2, .ref (ad2 0)), (3, .int (nI i))] []) : g_LV x ad2 Q Sc Sm 1150 [(0, .ref b), (1, .ref (g_ad x 0)), (2, .ref (ad2 0)), (3, .int (nI i))] [] := by
  refine l_aload_n X dL_law_1150 1 rfl ?_
  refine l_aload_n X dL_law_1151 0 rfl ?_
  refine l_iload_n X dL_law_1152 3 rfl ?_
  refine l_iconst X (v := 1) dL_law_1153 (by decide) ?_
  refine l_iadd X dL_law_1154 ?_
  refine l_sld X (j := i + 1) (by rw [show (1 : Int32) = nI 1 from rfl, nI_add]) (by omega) (by omega) dL_law_1155 ?_
  refine l_aload_n X dL_law_1156 0 rfl ?_
  refine l_iload_n X dL_law_1157 3 rfl ?_
  refine l_iconst X (v := 2) dL_law_1158 (by decide) ?_
  refine l_iadd X dL_law_1159 ?_
  refine l_sld X (j := i + 2) (by rw [show (2 : Int32) = nI 2 from rfl, nI_add]) (by omega) (by omega) dL_law_1160 ?_
  refine l_callci X [.int (xs (i + 1)), .int (xs (i + 2))] rfl (cwV 2 X.2.2.2.2.1 gL_law_X7_ask rfl rfl rfl hd_X7_ask ⟨Nat.le_of_ble_eq_true rfl, Nat.le_of_ble_eq_true rfl⟩) (Nat.le_of_ble_eq_true rfl) dL_law_1161 (ct_X7_ask X.2.2.2.2.2.2.1 0 (xs (i + 1)) (xs (i + 2)) ⟨by decide, rfl⟩ _ h1) ?_
  refine l_aload_n X dL_law_1164 2 rfl ?_
  refine l_aload_n X dL_law_1165 0 rfl ?_
  refine l_iload_n X dL_law_1166 3 rfl ?_
  refine l_iconst X (v := 1) dL_law_1167 (by decide) ?_
  refine l_iadd X dL_law_1168 ?_
  refine l_sld X (j := i + 1) (by rw [show (1 : Int32) = nI 1 from rfl, nI_add]) (by omega) (by omega) dL_law_1169 ?_
  refine l_aload_n X dL_law_1170 0 rfl ?_
  refine l_iload_n X dL_law_1171 3 rfl ?_
  refine l_iconst X (v := 2) dL_law_1172 (by decide) ?_
  refine l_iadd X dL_law_1173 ?_
  refine l_sld X (j := i + 2) (by rw [show (2 : Int32) = nI 2 from rfl, nI_add]) (by omega) (by omega) dL_law_1174 ?_
  refine l_callmi X [.int (xs (i + 1)), .int (xs (i + 2))] rfl (cwV 2 X.2.2.2.2.1 gL_law_X8_ask rfl rfl rfl hd_X8_ask ⟨Nat.le_of_ble_eq_true rfl, Nat.le_of_ble_eq_true rfl⟩) (Nat.le_of_ble_eq_true rfl) dL_law_1175 (ct_X8_ask X.2.2.2.2.2.2.2.1 0 (xs (i + 1)) (xs (i + 2)) ⟨by decide, rfl⟩ _ h2) ?_
  refine l_same X 1447 dL_law_1178 (by decide) ?_
  exact k
set_option maxRecDepth 100000 in
set_option maxHeartbeats 400000 in
theorem lc_drift {x : g_CX} {ad2 : Nat → Nat} {b L : Nat} {xs : Nat → Int32} {Q : State → Prop} {Sc Sm : g_St} (X : g_LX x ad2 b L xs) {fu i : Nat} (hi : i + 5 ≤ L) (hL : L < 2 ^ 31) {r : Int32} {Sc1 Sm1 : g_St} (h1 : f_X7_drift fu 0 (xs (i + 1)) (xs (i + 2)) (xs (i + 3)) Sc = some (r, Sc1)) (h2 : f_X8_drift fu 0 (xs (i + 1)) (xs (i + 2)) (xs (i + 3)) Sm = some (r, Sm1)) (k : g_LV x ad2 Q Sc1 Sm1 1447 [(0, .ref b), (1, .ref (g_ad x 0)), (2, .ref (ad2 0)), (3, .int (nI i))] []) : g_LV x ad2 Q Sc Sm 1183 [(0, .ref b), (1, .ref (g_ad x 0)), (2, .ref (ad2 0)), (3, .int (nI i))] [] := by
  refine l_aload_n X dL_law_1183 1 rfl ?_
  refine l_aload_n X dL_law_1184 0 rfl ?_
  refine l_iload_n X dL_law_1185 3 rfl ?_
  refine l_iconst X (v := 1) dL_law_1186 (by decide) ?_
  refine l_iadd X dL_law_1187 ?_
  refine l_sld X (j := i + 1) (by rw [show (1 : Int32) = nI 1 from rfl, nI_add]) (by omega) (by omega) dL_law_1188 ?_
  refine l_aload_n X dL_law_1189 0 rfl ?_
  refine l_iload_n X dL_law_1190 3 rfl ?_
  refine l_iconst X (v := 2) dL_law_1191 (by decide) ?_
  refine l_iadd X dL_law_1192 ?_
  refine l_sld X (j := i + 2) (by rw [show (2 : Int32) = nI 2 from rfl, nI_add]) (by omega) (by omega) dL_law_1193 ?_
  refine l_aload_n X dL_law_1194 0 rfl ?_
  refine l_iload_n X dL_law_1195 3 rfl ?_
  refine l_iconst X (v := 3) dL_law_1196 (by decide) ?_
  refine l_iadd X dL_law_1197 ?_
  refine l_sld X (j := i + 3) (by rw [show (3 : Int32) = nI 3 from rfl, nI_add]) (by omega) (by omega) dL_law_1198 ?_
  refine l_callci X [.int (xs (i + 1)), .int (xs (i + 2)), .int (xs (i + 3))] rfl (cwV 3 X.2.2.2.2.1 gL_law_X7_drift rfl rfl rfl hd_X7_drift ⟨Nat.le_of_ble_eq_true rfl, Nat.le_of_ble_eq_true rfl⟩) (Nat.le_of_ble_eq_true rfl) dL_law_1199 (ct_X7_drift X.2.2.2.2.2.2.1 0 (xs (i + 1)) (xs (i + 2)) (xs (i + 3)) ⟨by decide, rfl⟩ _ h1) ?_
  refine l_aload_n X dL_law_1202 2 rfl ?_
  refine l_aload_n X dL_law_1203 0 rfl ?_
  refine l_iload_n X dL_law_1204 3 rfl ?_
  refine l_iconst X (v := 1) dL_law_1205 (by decide) ?_
  refine l_iadd X dL_law_1206 ?_
  refine l_sld X (j := i + 1) (by rw [show (1 : Int32) = nI 1 from rfl, nI_add]) (by omega) (by omega) dL_law_1207 ?_
  refine l_aload_n X dL_law_1208 0 rfl ?_
  refine l_iload_n X dL_law_1209 3 rfl ?_
  refine l_iconst X (v := 2) dL_law_1210 (by decide) ?_
  refine l_iadd X dL_law_1211 ?_
  refine l_sld X (j := i + 2) (by rw [show (2 : Int32) = nI 2 from rfl, nI_add]) (by omega) (by omega) dL_law_1212 ?_
  refine l_aload_n X dL_law_1213 0 rfl ?_
  refine l_iload_n X dL_law_1214 3 rfl ?_
  refine l_iconst X (v := 3) dL_law_1215 (by decide) ?_
  refine l_iadd X dL_law_1216 ?_
  refine l_sld X (j := i + 3) (by rw [show (3 : Int32) = nI 3 from rfl, nI_add]) (by omega) (by omega) dL_law_1217 ?_
  refine l_callmi X [.int (xs (i + 1)), .int (xs (i + 2)), .int (xs (i + 3))] rfl (cwV 3 X.2.2.2.2.1 gL_law_X8_drift rfl rfl rfl hd_X8_drift ⟨Nat.le_of_ble_eq_true rfl, Nat.le_of_ble_eq_true rfl⟩) (Nat.le_of_ble_eq_true rfl) dL_law_1218 (ct_X8_drift X.2.2.2.2.2.2.2.1 0 (xs (i + 1)) (xs (i + 2)) (xs (i + 3)) ⟨by decide, rfl⟩ _ h2) ?_
  refine l_same X 1447 dL_law_1221 (by decide) ?_
  exact k
set_option maxRecDepth 100000 in
set_option maxHeartbeats 400000 in
theorem lc_keep {x : g_CX} {ad2 : Nat → Nat} {b L : Nat} {xs : Nat → Int32} {Q : State → Prop} {Sc Sm : g_St} (X : g_LX x ad2 b L xs) {fu i : Nat} (hi : i + 5 ≤ L) (hL : L < 2 ^ 31) {r : Int32} {Sc1 Sm1 : g_St} (h1 : f_X7_keep fu 0 (xs (i + 1)) Sc = some (r, Sc1)) (h2 : f_X8_keep fu 0 (xs (i + 1)) Sm = some (r, Sm1)) (k : g_LV x ad2 Q Sc1 Sm1 1447 [(0, .ref b), (1, .ref (g_ad x 0)), (2, .ref (ad2 0)), (3, .int (nI i))] []) : g_LV x ad2 Q Sc Sm 1226 [(0, .ref b), (1, .ref (g_ad x 0)), (2, .ref (ad2 0)), (3, .int (nI i))] [] := by
  refine l_aload_n X dL_law_1226 1 rfl ?_
  refine l_aload_n X dL_law_1227 0 rfl ?_
  refine l_iload_n X dL_law_1228 3 rfl ?_
  refine l_iconst X (v := 1) dL_law_1229 (by decide) ?_
  refine l_iadd X dL_law_1230 ?_
  refine l_sld X (j := i + 1) (by rw [show (1 : Int32) = nI 1 from rfl, nI_add]) (by omega) (by omega) dL_law_1231 ?_
  refine l_callci X [.int (xs (i + 1))] rfl (cwV 1 X.2.2.2.2.1 gL_law_X7_keep rfl rfl rfl hd_X7_keep ⟨Nat.le_of_ble_eq_true rfl, Nat.le_of_ble_eq_true rfl⟩) (Nat.le_of_ble_eq_true rfl) dL_law_1232 (ct_X7_keep X.2.2.2.2.2.2.1 0 (xs (i + 1)) ⟨by decide, rfl⟩ _ h1) ?_
  refine l_aload_n X dL_law_1235 2 rfl ?_
  refine l_aload_n X dL_law_1236 0 rfl ?_
  refine l_iload_n X dL_law_1237 3 rfl ?_
  refine l_iconst X (v := 1) dL_law_1238 (by decide) ?_
  refine l_iadd X dL_law_1239 ?_
  refine l_sld X (j := i + 1) (by rw [show (1 : Int32) = nI 1 from rfl, nI_add]) (by omega) (by omega) dL_law_1240 ?_
  refine l_callmi X [.int (xs (i + 1))] rfl (cwV 1 X.2.2.2.2.1 gL_law_X8_keep rfl rfl rfl hd_X8_keep ⟨Nat.le_of_ble_eq_true rfl, Nat.le_of_ble_eq_true rfl⟩) (Nat.le_of_ble_eq_true rfl) dL_law_1241 (ct_X8_keep X.2.2.2.2.2.2.2.1 0 (xs (i + 1)) ⟨by decide, rfl⟩ _ h2) ?_
  refine l_same X 1447 dL_law_1244 (by decide) ?_
  exact k
set_option maxRecDepth 100000 in
set_option maxHeartbeats 400000 in
theorem lc_back {x : g_CX} {ad2 : Nat → Nat} {b L : Nat} {xs : Nat → Int32} {Q : State → Prop} {Sc Sm : g_St} (X : g_LX x ad2 b L xs) {fu i : Nat} (hi : i + 5 ≤ L) (hL : L < 2 ^ 31) {r : Int32} {Sc1 Sm1 : g_St} (h1 : f_X7_back fu 0 (xs (i + 1)) Sc = some (r, Sc1)) (h2 : f_X8_back fu 0 (xs (i + 1)) Sm = some (r, Sm1)) (k : g_LV x ad2 Q Sc1 Sm1 1447 [(0, .ref b), (1, .ref (g_ad x 0)), (2, .ref (ad2 0)), (3, .int (nI i))] []) : g_LV x ad2 Q Sc Sm 1249 [(0, .ref b), (1, .ref (g_ad x 0)), (2, .ref (ad2 0)), (3, .int (nI i))] [] := by
  refine l_aload_n X dL_law_1249 1 rfl ?_
  refine l_aload_n X dL_law_1250 0 rfl ?_
  refine l_iload_n X dL_law_1251 3 rfl ?_
  refine l_iconst X (v := 1) dL_law_1252 (by decide) ?_
  refine l_iadd X dL_law_1253 ?_
  refine l_sld X (j := i + 1) (by rw [show (1 : Int32) = nI 1 from rfl, nI_add]) (by omega) (by omega) dL_law_1254 ?_
  refine l_callci X [.int (xs (i + 1))] rfl (cwV 1 X.2.2.2.2.1 gL_law_X7_back rfl rfl rfl hd_X7_back ⟨Nat.le_of_ble_eq_true rfl, Nat.le_of_ble_eq_true rfl⟩) (Nat.le_of_ble_eq_true rfl) dL_law_1255 (ct_X7_back X.2.2.2.2.2.2.1 0 (xs (i + 1)) ⟨by decide, rfl⟩ _ h1) ?_
  refine l_aload_n X dL_law_1258 2 rfl ?_
  refine l_aload_n X dL_law_1259 0 rfl ?_
  refine l_iload_n X dL_law_1260 3 rfl ?_
  refine l_iconst X (v := 1) dL_law_1261 (by decide) ?_
  refine l_iadd X dL_law_1262 ?_
  refine l_sld X (j := i + 1) (by rw [show (1 : Int32) = nI 1 from rfl, nI_add]) (by omega) (by omega) dL_law_1263 ?_
  refine l_callmi X [.int (xs (i + 1))] rfl (cwV 1 X.2.2.2.2.1 gL_law_X8_back rfl rfl rfl hd_X8_back ⟨Nat.le_of_ble_eq_true rfl, Nat.le_of_ble_eq_true rfl⟩) (Nat.le_of_ble_eq_true rfl) dL_law_1264 (ct_X8_back X.2.2.2.2.2.2.2.1 0 (xs (i + 1)) ⟨by decide, rfl⟩ _ h2) ?_
  refine l_same X 1447 dL_law_1267 (by decide) ?_
  exact k
set_option maxRecDepth 100000 in
set_option maxHeartbeats 400000 in
theorem lc_sheet {x : g_CX} {ad2 : Nat → Nat} {b L : Nat} {xs : Nat → Int32} {Q : State → Prop} {Sc Sm : g_St} (X : g_LX x ad2 b L xs) {fu i : Nat} (hi : i + 5 ≤ L) (hL : L < 2 ^ 31) {r : Int32} {Sc1 Sm1 : g_St} (h1 : f_X7_sheet fu 0 (xs (i + 1)) (xs (i + 2)) (xs (i + 3)) Sc = some (r, Sc1)) (h2 : f_X8_sheet fu 0 (xs (i + 1)) (xs (i + 2)) (xs (i + 3)) Sm = some (r, Sm1)) (k : g_LV x ad2 Q Sc1 Sm1 1447 [(0, .ref b), (1, .ref (g_ad x 0)), (2, .ref (ad2 0)), (3, .int (nI i))] []) : g_LV x ad2 Q Sc Sm 1272 [(0, .ref b), (1, .ref (g_ad x 0)), (2, .ref (ad2 0)), (3, .int (nI i))] [] := by
  refine l_aload_n X dL_law_1272 1 rfl ?_
  refine l_aload_n X dL_law_1273 0 rfl ?_
  refine l_iload_n X dL_law_1274 3 rfl ?_
  refine l_iconst X (v := 1) dL_law_1275 (by decide) ?_
  refine l_iadd X dL_law_1276 ?_
  refine l_sld X (j := i + 1) (by rw [show (1 : Int32) = nI 1 from rfl, nI_add]) (by omega) (by omega) dL_law_1277 ?_
  refine l_aload_n X dL_law_1278 0 rfl ?_
  refine l_iload_n X dL_law_1279 3 rfl ?_
  refine l_iconst X (v := 2) dL_law_1280 (by decide) ?_
  refine l_iadd X dL_law_1281 ?_
  refine l_sld X (j := i + 2) (by rw [show (2 : Int32) = nI 2 from rfl, nI_add]) (by omega) (by omega) dL_law_1282 ?_
  refine l_aload_n X dL_law_1283 0 rfl ?_
  refine l_iload_n X dL_law_1284 3 rfl ?_
  refine l_iconst X (v := 3) dL_law_1285 (by decide) ?_
  refine l_iadd X dL_law_1286 ?_
  refine l_sld X (j := i + 3) (by rw [show (3 : Int32) = nI 3 from rfl, nI_add]) (by omega) (by omega) dL_law_1287 ?_
  refine l_callci X [.int (xs (i + 1)), .int (xs (i + 2)), .int (xs (i + 3))] rfl (cwV 3 X.2.2.2.2.1 gL_law_X7_sheet rfl rfl rfl hd_X7_sheet ⟨Nat.le_of_ble_eq_true rfl, Nat.le_of_ble_eq_true rfl⟩) (Nat.le_of_ble_eq_true rfl) dL_law_1288 (ct_X7_sheet X.2.2.2.2.2.2.1 0 (xs (i + 1)) (xs (i + 2)) (xs (i + 3)) ⟨by decide, rfl⟩ _ h1) ?_
  refine l_aload_n X dL_law_1291 2 rfl ?_
  refine l_aload_n X dL_law_1292 0 rfl ?_
  refine l_iload_n X dL_law_1293 3 rfl ?_
  refine l_iconst X (v := 1) dL_law_1294 (by decide) ?_
  refine l_iadd X dL_law_1295 ?_
  refine l_sld X (j := i + 1) (by rw [show (1 : Int32) = nI 1 from rfl, nI_add]) (by omega) (by omega) dL_law_1296 ?_
  refine l_aload_n X dL_law_1297 0 rfl ?_
  refine l_iload_n X dL_law_1298 3 rfl ?_
  refine l_iconst X (v := 2) dL_law_1299 (by decide) ?_
  refine l_iadd X dL_law_1300 ?_
  refine l_sld X (j := i + 2) (by rw [show (2 : Int32) = nI 2 from rfl, nI_add]) (by omega) (by omega) dL_law_1301 ?_
  refine l_aload_n X dL_law_1302 0 rfl ?_
  refine l_iload_n X dL_law_1303 3 rfl ?_
  refine l_iconst X (v := 3) dL_law_1304 (by decide) ?_
  refine l_iadd X dL_law_1305 ?_
  refine l_sld X (j := i + 3) (by rw [show (3 : Int32) = nI 3 from rfl, nI_add]) (by omega) (by omega) dL_law_1306 ?_
  refine l_callmi X [.int (xs (i + 1)), .int (xs (i + 2)), .int (xs (i + 3))] rfl (cwV 3 X.2.2.2.2.1 gL_law_X8_sheet rfl rfl rfl hd_X8_sheet ⟨Nat.le_of_ble_eq_true rfl, Nat.le_of_ble_eq_true rfl⟩) (Nat.le_of_ble_eq_true rfl) dL_law_1307 (ct_X8_sheet X.2.2.2.2.2.2.2.1 0 (xs (i + 1)) (xs (i + 2)) (xs (i + 3)) ⟨by decide, rfl⟩ _ h2) ?_
  refine l_same X 1447 dL_law_1310 (by decide) ?_
  exact k
set_option maxRecDepth 100000 in
set_option maxHeartbeats 400000 in
theorem lc_lay {x : g_CX} {ad2 : Nat → Nat} {b L : Nat} {xs : Nat → Int32} {Q : State → Prop} {Sc Sm : g_St} (X : g_LX x ad2 b L xs) {fu i : Nat} (hi : i + 5 ≤ L) (hL : L < 2 ^ 31) {r : Int32} {Sc1 Sm1 : g_St} (h1 : f_X7_lay fu 0 (xs (i + 1)) (xs (i + 2)) (xs (i + 3)) Sc = some (r, Sc1)) (h2 : f_X8_lay fu 0 (xs (i + 1)) (xs (i + 2)) (xs (i + 3)) Sm = some (r, Sm1)) (k : g_LV x ad2 Q Sc1 Sm1 1447 [(0, .ref b), (1, .ref (g_ad x 0)), (2, .ref (ad2 0)), (3, .int (nI i))] []) : g_LV x ad2 Q Sc Sm 1315 [(0, .ref b), (1, .ref (g_ad x 0)), (2, .ref (ad2 0)), (3, .int (nI i))] [] := by
  refine l_aload_n X dL_law_1315 1 rfl ?_
  refine l_aload_n X dL_law_1316 0 rfl ?_
  refine l_iload_n X dL_law_1317 3 rfl ?_
  refine l_iconst X (v := 1) dL_law_1318 (by decide) ?_
  refine l_iadd X dL_law_1319 ?_
  refine l_sld X (j := i + 1) (by rw [show (1 : Int32) = nI 1 from rfl, nI_add]) (by omega) (by omega) dL_law_1320 ?_
  refine l_aload_n X dL_law_1321 0 rfl ?_
  refine l_iload_n X dL_law_1322 3 rfl ?_
  refine l_iconst X (v := 2) dL_law_1323 (by decide) ?_
  refine l_iadd X dL_law_1324 ?_
  refine l_sld X (j := i + 2) (by rw [show (2 : Int32) = nI 2 from rfl, nI_add]) (by omega) (by omega) dL_law_1325 ?_
  refine l_aload_n X dL_law_1326 0 rfl ?_
  refine l_iload_n X dL_law_1327 3 rfl ?_
  refine l_iconst X (v := 3) dL_law_1328 (by decide) ?_
  refine l_iadd X dL_law_1329 ?_
  refine l_sld X (j := i + 3) (by rw [show (3 : Int32) = nI 3 from rfl, nI_add]) (by omega) (by omega) dL_law_1330 ?_
  refine l_callci X [.int (xs (i + 1)), .int (xs (i + 2)), .int (xs (i + 3))] rfl (cwV 3 X.2.2.2.2.1 gL_law_X7_lay rfl rfl rfl hd_X7_lay ⟨Nat.le_of_ble_eq_true rfl, Nat.le_of_ble_eq_true rfl⟩) (Nat.le_of_ble_eq_true rfl) dL_law_1331 (ct_X7_lay X.2.2.2.2.2.2.1 0 (xs (i + 1)) (xs (i + 2)) (xs (i + 3)) ⟨by decide, rfl⟩ _ h1) ?_
  refine l_aload_n X dL_law_1334 2 rfl ?_
  refine l_aload_n X dL_law_1335 0 rfl ?_
  refine l_iload_n X dL_law_1336 3 rfl ?_
  refine l_iconst X (v := 1) dL_law_1337 (by decide) ?_
  refine l_iadd X dL_law_1338 ?_
  refine l_sld X (j := i + 1) (by rw [show (1 : Int32) = nI 1 from rfl, nI_add]) (by omega) (by omega) dL_law_1339 ?_
  refine l_aload_n X dL_law_1340 0 rfl ?_
  refine l_iload_n X dL_law_1341 3 rfl ?_
  refine l_iconst X (v := 2) dL_law_1342 (by decide) ?_
  refine l_iadd X dL_law_1343 ?_
  refine l_sld X (j := i + 2) (by rw [show (2 : Int32) = nI 2 from rfl, nI_add]) (by omega) (by omega) dL_law_1344 ?_
  refine l_aload_n X dL_law_1345 0 rfl ?_
  refine l_iload_n X dL_law_1346 3 rfl ?_
  refine l_iconst X (v := 3) dL_law_1347 (by decide) ?_
  refine l_iadd X dL_law_1348 ?_
  refine l_sld X (j := i + 3) (by rw [show (3 : Int32) = nI 3 from rfl, nI_add]) (by omega) (by omega) dL_law_1349 ?_
  refine l_callmi X [.int (xs (i + 1)), .int (xs (i + 2)), .int (xs (i + 3))] rfl (cwV 3 X.2.2.2.2.1 gL_law_X8_lay rfl rfl rfl hd_X8_lay ⟨Nat.le_of_ble_eq_true rfl, Nat.le_of_ble_eq_true rfl⟩) (Nat.le_of_ble_eq_true rfl) dL_law_1350 (ct_X8_lay X.2.2.2.2.2.2.2.1 0 (xs (i + 1)) (xs (i + 2)) (xs (i + 3)) ⟨by decide, rfl⟩ _ h2) ?_
  refine l_same X 1447 dL_law_1353 (by decide) ?_
  exact k
set_option maxRecDepth 100000 in
set_option maxHeartbeats 400000 in
theorem lc_read {x : g_CX} {ad2 : Nat → Nat} {b L : Nat} {xs : Nat → Int32} {Q : State → Prop} {Sc Sm : g_St} (X : g_LX x ad2 b L xs) {fu i : Nat} (hi : i + 5 ≤ L) (hL : L < 2 ^ 31) {r : Int32} {Sc1 Sm1 : g_St} (h1 : f_X7_read fu 0 (xs (i + 1)) (xs (i + 2)) (xs (i + 3)) (xs (i + 4)) Sc = some (r, Sc1)) (h2 : f_X8_read fu 0 (xs (i + 1)) (xs (i + 2)) (xs (i + 3)) (xs (i + 4)) Sm = some (r, Sm1)) (k : g_LV x ad2 Q Sc1 Sm1 1447 [(0, .ref b), (1, .ref (g_ad x 0)), (2, .ref (ad2 0)), (3, .int (nI i))] []) : g_LV x ad2 Q Sc Sm 1358 [(0, .ref b), (1, .ref (g_ad x 0)), (2, .ref (ad2 0)), (3, .int (nI i))] [] := by
  refine l_aload_n X dL_law_1358 1 rfl ?_
  refine l_aload_n X dL_law_1359 0 rfl ?_
  refine l_iload_n X dL_law_1360 3 rfl ?_
  refine l_iconst X (v := 1) dL_law_1361 (by decide) ?_
  refine l_iadd X dL_law_1362 ?_
  refine l_sld X (j := i + 1) (by rw [show (1 : Int32) = nI 1 from rfl, nI_add]) (by omega) (by omega) dL_law_1363 ?_
  refine l_aload_n X dL_law_1364 0 rfl ?_
  refine l_iload_n X dL_law_1365 3 rfl ?_
  refine l_iconst X (v := 2) dL_law_1366 (by decide) ?_
  refine l_iadd X dL_law_1367 ?_
  refine l_sld X (j := i + 2) (by rw [show (2 : Int32) = nI 2 from rfl, nI_add]) (by omega) (by omega) dL_law_1368 ?_
  refine l_aload_n X dL_law_1369 0 rfl ?_
  refine l_iload_n X dL_law_1370 3 rfl ?_
  refine l_iconst X (v := 3) dL_law_1371 (by decide) ?_
  refine l_iadd X dL_law_1372 ?_
  refine l_sld X (j := i + 3) (by rw [show (3 : Int32) = nI 3 from rfl, nI_add]) (by omega) (by omega) dL_law_1373 ?_
  refine l_aload_n X dL_law_1374 0 rfl ?_
  refine l_iload_n X dL_law_1375 3 rfl ?_
  refine l_iconst X (v := 4) dL_law_1376 (by decide) ?_
  refine l_iadd X dL_law_1377 ?_
  refine l_sld X (j := i + 4) (by rw [show (4 : Int32) = nI 4 from rfl, nI_add]) (by omega) (by omega) dL_law_1378 ?_
  refine l_callci X [.int (xs (i + 1)), .int (xs (i + 2)), .int (xs (i + 3)), .int (xs (i + 4))] rfl (cwV 4 X.2.2.2.2.1 gL_law_X7_read rfl rfl rfl hd_X7_read ⟨Nat.le_of_ble_eq_true rfl, Nat.le_of_ble_eq_true rfl⟩) (Nat.le_of_ble_eq_true rfl) dL_law_1379 (ct_X7_read X.2.2.2.2.2.2.1 0 (xs (i + 1)) (xs (i + 2)) (xs (i + 3)) (xs (i + 4)) ⟨by decide, rfl⟩ _ h1) ?_
  refine l_aload_n X dL_law_1382 2 rfl ?_
  refine l_aload_n X dL_law_1383 0 rfl ?_
  refine l_iload_n X dL_law_1384 3 rfl ?_
  refine l_iconst X (v := 1) dL_law_1385 (by decide) ?_
  refine l_iadd X dL_law_1386 ?_
  refine l_sld X (j := i + 1) (by rw [show (1 : Int32) = nI 1 from rfl, nI_add]) (by omega) (by omega) dL_law_1387 ?_
  refine l_aload_n X dL_law_1388 0 rfl ?_
  refine l_iload_n X dL_law_1389 3 rfl ?_
  refine l_iconst X (v := 2) dL_law_1390 (by decide) ?_
  refine l_iadd X dL_law_1391 ?_
  refine l_sld X (j := i + 2) (by rw [show (2 : Int32) = nI 2 from rfl, nI_add]) (by omega) (by omega) dL_law_1392 ?_
  refine l_aload_n X dL_law_1393 0 rfl ?_
  refine l_iload_n X dL_law_1394 3 rfl ?_
  refine l_iconst X (v := 3) dL_law_1395 (by decide) ?_
  refine l_iadd X dL_law_1396 ?_
  refine l_sld X (j := i + 3) (by rw [show (3 : Int32) = nI 3 from rfl, nI_add]) (by omega) (by omega) dL_law_1397 ?_
  refine l_aload_n X dL_law_1398 0 rfl ?_
  refine l_iload_n X dL_law_1399 3 rfl ?_
  refine l_iconst X (v := 4) dL_law_1400 (by decide) ?_
  refine l_iadd X dL_law_1401 ?_
  refine l_sld X (j := i + 4) (by rw [show (4 : Int32) = nI 4 from rfl, nI_add]) (by omega) (by omega) dL_law_1402 ?_
  refine l_callmi X [.int (xs (i + 1)), .int (xs (i + 2)), .int (xs (i + 3)), .int (xs (i + 4))] rfl (cwV 4 X.2.2.2.2.1 gL_law_X8_read rfl rfl rfl hd_X8_read ⟨Nat.le_of_ble_eq_true rfl, Nat.le_of_ble_eq_true rfl⟩) (Nat.le_of_ble_eq_true rfl) dL_law_1403 (ct_X8_read X.2.2.2.2.2.2.2.1 0 (xs (i + 1)) (xs (i + 2)) (xs (i + 3)) (xs (i + 4)) ⟨by decide, rfl⟩ _ h2) ?_
  refine l_same X 1447 dL_law_1406 (by decide) ?_
  exact k
set_option maxRecDepth 100000 in
set_option maxHeartbeats 400000 in
theorem lc_torn {x : g_CX} {ad2 : Nat → Nat} {b L : Nat} {xs : Nat → Int32} {Q : State → Prop} {Sc Sm : g_St} (X : g_LX x ad2 b L xs) {fu i : Nat} (hi : i + 5 ≤ L) (hL : L < 2 ^ 31) {r : Int32} {Sc1 Sm1 : g_St} (h1 : f_X7_torn fu 0  Sc = some (r, Sc1)) (h2 : f_X8_torn fu 0  Sm = some (r, Sm1)) (k : g_LV x ad2 Q Sc1 Sm1 1447 [(0, .ref b), (1, .ref (g_ad x 0)), (2, .ref (ad2 0)), (3, .int (nI i))] []) : g_LV x ad2 Q Sc Sm 1411 [(0, .ref b), (1, .ref (g_ad x 0)), (2, .ref (ad2 0)), (3, .int (nI i))] [] := by
  refine l_aload_n X dL_law_1411 1 rfl ?_
  refine l_callci X [] rfl (cwV 0 X.2.2.2.2.1 gL_law_X7_torn rfl rfl rfl hd_X7_torn ⟨Nat.le_of_ble_eq_true rfl, Nat.le_of_ble_eq_true rfl⟩) (Nat.le_of_ble_eq_true rfl) dL_law_1412 (ct_X7_torn X.2.2.2.2.2.2.1 0  ⟨by decide, rfl⟩ _ h1) ?_
  refine l_aload_n X dL_law_1415 2 rfl ?_
  refine l_callmi X [] rfl (cwV 0 X.2.2.2.2.1 gL_law_X8_torn rfl rfl rfl hd_X8_torn ⟨Nat.le_of_ble_eq_true rfl, Nat.le_of_ble_eq_true rfl⟩) (Nat.le_of_ble_eq_true rfl) dL_law_1416 (ct_X8_torn X.2.2.2.2.2.2.2.1 0  ⟨by decide, rfl⟩ _ h2) ?_
  refine l_same X 1447 dL_law_1419 (by decide) ?_
  exact k
set_option maxRecDepth 100000 in
set_option maxHeartbeats 400000 in
theorem lc_count {x : g_CX} {ad2 : Nat → Nat} {b L : Nat} {xs : Nat → Int32} {Q : State → Prop} {Sc Sm : g_St} (X : g_LX x ad2 b L xs) {fu i : Nat} (hi : i + 5 ≤ L) (hL : L < 2 ^ 31) {r : Int32} {Sc1 Sm1 : g_St} (h1 : f_X7_count fu 0 (xs (i + 1)) Sc = some (r, Sc1)) (h2 : f_X8_count fu 0 (xs (i + 1)) Sm = some (r, Sm1)) (k : g_LV x ad2 Q Sc1 Sm1 1447 [(0, .ref b), (1, .ref (g_ad x 0)), (2, .ref (ad2 0)), (3, .int (nI i))] []) : g_LV x ad2 Q Sc Sm 1424 [(0, .ref b), (1, .ref (g_ad x 0)), (2, .ref (ad2 0)), (3, .int (nI i))] [] := by
  refine l_aload_n X dL_law_1424 1 rfl ?_
  refine l_aload_n X dL_law_1425 0 rfl ?_
  refine l_iload_n X dL_law_1426 3 rfl ?_
  refine l_iconst X (v := 1) dL_law_1427 (by decide) ?_
  refine l_iadd X dL_law_1428 ?_
  refine l_sld X (j := i + 1) (by rw [show (1 : Int32) = nI 1 from rfl, nI_add]) (by omega) (by omega) dL_law_1429 ?_
  refine l_callci X [.int (xs (i + 1))] rfl (cwV 1 X.2.2.2.2.1 gL_law_X7_count rfl rfl rfl hd_X7_count ⟨Nat.le_of_ble_eq_true rfl, Nat.le_of_ble_eq_true rfl⟩) (Nat.le_of_ble_eq_true rfl) dL_law_1430 (ct_X7_count X.2.2.2.2.2.2.1 0 (xs (i + 1)) ⟨by decide, rfl⟩ _ h1) ?_
  refine l_aload_n X dL_law_1433 2 rfl ?_
  refine l_aload_n X dL_law_1434 0 rfl ?_
  refine l_iload_n X dL_law_1435 3 rfl ?_
  refine l_iconst X (v := 1) dL_law_1436 (by decide) ?_
  refine l_iadd X dL_law_1437 ?_
  refine l_sld X (j := i + 1) (by rw [show (1 : Int32) = nI 1 from rfl, nI_add]) (by omega) (by omega) dL_law_1438 ?_
  refine l_callmi X [.int (xs (i + 1))] rfl (cwV 1 X.2.2.2.2.1 gL_law_X8_count rfl rfl rfl hd_X8_count ⟨Nat.le_of_ble_eq_true rfl, Nat.le_of_ble_eq_true rfl⟩) (Nat.le_of_ble_eq_true rfl) dL_law_1439 (ct_X8_count X.2.2.2.2.2.2.2.1 0 (xs (i + 1)) ⟨by decide, rfl⟩ _ h2) ?_
  refine l_same X 1447 dL_law_1442 (by decide) ?_
  exact k
/-- what the law asks: from related states the two answer alike, and are related again -/
def g_Ops (fu : Nat) (Rel : g_St → g_St → Prop) : Prop := ∀ Sc Sm, Rel Sc Sm → (∀ a1 : Int32, ∃ r Sc1 Sm1, f_X7_feed fu 0 a1 Sc = some (r, Sc1) ∧ f_X8_feed fu 0 a1 Sm = some (r, Sm1) ∧ Rel Sc1 Sm1) ∧ (∀ a1 : Int32, ∃ r Sc1 Sm1, f_X7_end fu 0 a1 Sc = some (r, Sc1) ∧ f_X8_end fu 0 a1 Sm = some (r, Sm1) ∧ Rel Sc1 Sm1) ∧ (∃ r Sc1 Sm1, f_X7_text fu 0  Sc = some (r, Sc1) ∧ f_X8_text fu 0  Sm = some (r, Sm1) ∧ Rel Sc1 Sm1) ∧ (∃ r Sc1 Sm1, f_X7_fault fu 0  Sc = some (r, Sc1) ∧ f_X8_fault fu 0  Sm = some (r, Sm1) ∧ Rel Sc1 Sm1) ∧ (∀ a1 : Int32, ∃ r Sc1 Sm1, f_X7_rule fu 0 a1 Sc = some (r, Sc1) ∧ f_X8_rule fu 0 a1 Sm = some (r, Sm1) ∧ Rel Sc1 Sm1) ∧ (∀ a1 a2 : Int32, ∃ r Sc1 Sm1, f_X7_door fu 0 a1 a2 Sc = some (r, Sc1) ∧ f_X8_door fu 0 a1 a2 Sm = some (r, Sm1) ∧ Rel Sc1 Sm1) ∧ (∀ a1 a2 : Int32, ∃ r Sc1 Sm1, f_X7_crowd fu 0 a1 a2 Sc = some (r, Sc1) ∧ f_X8_crowd fu 0 a1 a2 Sm = some (r, Sm1) ∧ Rel Sc1 Sm1) ∧ (∀ a1 a2 a3 : Int32, ∃ r Sc1 Sm1, f_X7_alter fu 0 a1 a2 a3 Sc = some (r, Sc1) ∧ f_X8_alter fu 0 a1 a2 a3 Sm = some (r, Sm1) ∧ Rel Sc1 Sm1) ∧ (∀ a1 a2 a3 : Int32, ∃ r Sc1 Sm1, f_X7_hang fu 0 a1 a2 a3 Sc = some (r, Sc1) ∧ f_X8_hang fu 0 a1 a2 a3 Sm = some (r, Sm1) ∧ Rel Sc1 Sm1) ∧ (∀ a1 : Int32, ∃ r Sc1 Sm1, f_X7_cut fu 0 a1 Sc = some (r, Sc1) ∧ f_X8_cut fu 0 a1 Sm = some (r, Sm1) ∧ Rel Sc1 Sm1) ∧ (∀ a1 a2 a3 : Int32, ∃ r Sc1 Sm1, f_X7_come fu 0 a1 a2 a3 Sc = some (r, Sc1) ∧ f_X8_come fu 0 a1 a2 a3 Sm = some (r, Sm1) ∧ Rel Sc1 Sm1) ∧ (∀ a1 : Int32, ∃ r Sc1 Sm1, f_X7_leave fu 0 a1 Sc = some (r, Sc1) ∧ f_X8_leave fu 0 a1 Sm = some (r, Sm1) ∧ Rel Sc1 Sm1) ∧ (∃ r Sc1 Sm1, f_X7_pass fu 0  Sc = some (r, Sc1) ∧ f_X8_pass fu 0  Sm = some (r, Sm1) ∧ Rel Sc1 Sm1) ∧ (∀ a1 : Int32, ∃ r Sc1 Sm1, f_X7_ticks fu 0 a1 Sc = some (r, Sc1) ∧ f_X8_ticks fu 0 a1 Sm = some (r, Sm1) ∧ Rel Sc1 Sm1) ∧ (∀ a1 a2 : Int32, ∃ r Sc1 Sm1, f_X7_runs fu 0 a1 a2 Sc = some (r, Sc1) ∧ f_X8_runs fu 0 a1 a2 Sm = some (r, Sm1) ∧ Rel Sc1 Sm1) ∧ (∀ a1 a2 : Int32, ∃ r Sc1 Sm1, f_X7_ahead fu 0 a1 a2 Sc = some (r, Sc1) ∧ f_X8_ahead fu 0 a1 a2 Sm = some (r, Sm1) ∧ Rel Sc1 Sm1) ∧ (∀ a1 : Int32, ∃ r Sc1 Sm1, f_X7_lets fu 0 a1 Sc = some (r, Sc1) ∧ f_X8_lets fu 0 a1 Sm = some (r, Sm1) ∧ Rel Sc1 Sm1) ∧ (∀ a1 a2 : Int32, ∃ r Sc1 Sm1, f_X7_turns fu 0 a1 a2 Sc = some (r, Sc1) ∧ f_X8_turns fu 0 a1 a2 Sm = some (r, Sm1) ∧ Rel Sc1 Sm1) ∧ (∃ r Sc1 Sm1, f_X7_when fu 0  Sc = some (r, Sc1) ∧ f_X8_when fu 0  Sm = some (r, Sm1) ∧ Rel Sc1 Sm1) ∧ (∀ a1 a2 : Int32, ∃ r Sc1 Sm1, f_X7_depth fu 0 a1 a2 Sc = some (r, Sc1) ∧ f_X8_depth fu 0 a1 a2 Sm = some (r, Sm1) ∧ Rel Sc1 Sm1) ∧ (∀ a1 a2 : Int32, ∃ r Sc1 Sm1, f_X7_rate fu 0 a1 a2 Sc = some (r, Sc1) ∧ f_X8_rate fu 0 a1 a2 Sm = some (r, Sm1) ∧ Rel Sc1 Sm1) ∧ (∀ a1 a2 : Int32, ∃ r Sc1 Sm1, f_X7_swap fu 0 a1 a2 Sc = some (r, Sc1) ∧ f_X8_swap fu 0 a1 a2 Sm = some (r, Sm1) ∧ Rel Sc1 Sm1) ∧ (∀ a1 a2 : Int32, ∃ r Sc1 Sm1, f_X7_open fu 0 a1 a2 Sc = some (r, Sc1) ∧ f_X8_open fu 0 a1 a2 Sm = some (r, Sm1) ∧ Rel Sc1 Sm1) ∧ (∀ a1 a2 a3 : Int32, ∃ r Sc1 Sm1, f_X7_kind fu 0 a1 a2 a3 Sc = some (r, Sc1) ∧ f_X8_kind fu 0 a1 a2 a3 Sm = some (r, Sm1) ∧ Rel Sc1 Sm1) ∧ (∀ a1 a2 a3 : Int32, ∃ r Sc1 Sm1, f_X7_fill fu 0 a1 a2 a3 Sc = some (r, Sc1) ∧ f_X8_fill fu 0 a1 a2 a3 Sm = some (r, Sm1) ∧ Rel Sc1 Sm1) ∧ (∀ a1 a2 a3 : Int32, ∃ r Sc1 Sm1, f_X7_luck fu 0 a1 a2 a3 Sc = some (r, Sc1) ∧ f_X8_luck fu 0 a1 a2 a3 Sm = some (r, Sm1) ∧ Rel Sc1 Sm1) ∧ (∀ a1 a2 a3 : Int32, ∃ r Sc1 Sm1, f_X7_mean fu 0 a1 a2 a3 Sc = some (r, Sc1) ∧ f_X8_mean fu 0 a1 a2 a3 Sm = some (r, Sm1) ∧ Rel Sc1 Sm1) ∧ (∀ a1 a2 : Int32, ∃ r Sc1 Sm1, f_X7_see fu 0 a1 a2 Sc = some (r, Sc1) ∧ f_X8_see fu 0 a1 a2 Sm = some (r, Sm1) ∧ Rel Sc1 Sm1) ∧ (∀ a1 : Int32, ∃ r Sc1 Sm1, f_X7_forget fu 0 a1 Sc = some (r, Sc1) ∧ f_X8_forget fu 0 a1 Sm = some (r, Sm1) ∧ Rel Sc1 Sm1) ∧ (∀ a1 : Int32, ∃ r Sc1 Sm1, f_X7_kinds fu 0 a1 Sc = some (r, Sc1) ∧ f_X8_kinds fu 0 a1 Sm = some (r, Sm1) ∧ Rel Sc1 Sm1) ∧ (∀ a1 : Int32, ∃ r Sc1 Sm1, f_X7_depths fu 0 a1 Sc = some (r, Sc1) ∧ f_X8_depths fu 0 a1 Sm = some (r, Sm1) ∧ Rel Sc1 Sm1) ∧ (∀ a1 : Int32, ∃ r Sc1 Sm1, f_X7_rates fu 0 a1 Sc = some (r, Sc1) ∧ f_X8_rates fu 0 a1 Sm = some (r, Sm1) ∧ Rel Sc1 Sm1) ∧ (∀ a1 a2 : Int32, ∃ r Sc1 Sm1, f_X7_ask fu 0 a1 a2 Sc = some (r, Sc1) ∧ f_X8_ask fu 0 a1 a2 Sm = some (r, Sm1) ∧ Rel Sc1 Sm1) ∧ (∀ a1 a2 a3 : Int32, ∃ r Sc1 Sm1, f_X7_drift fu 0 a1 a2 a3 Sc = some (r, Sc1) ∧ f_X8_drift fu 0 a1 a2 a3 Sm = some (r, Sm1) ∧ Rel Sc1 Sm1) ∧ (∀ a1 : Int32, ∃ r Sc1 Sm1, f_X7_keep fu 0 a1 Sc = some (r, Sc1) ∧ f_X8_keep fu 0 a1 Sm = some (r, Sm1) ∧ Rel Sc1 Sm1) ∧ (∀ a1 : Int32, ∃ r Sc1 Sm1, f_X7_back fu 0 a1 Sc = some (r, Sc1) ∧ f_X8_back fu 0 a1 Sm = some (r, Sm1) ∧ Rel Sc1 Sm1) ∧ (∀ a1 a2 a3 : Int32, ∃ r Sc1 Sm1, f_X7_sheet fu 0 a1 a2 a3 Sc = some (r, Sc1) ∧ f_X8_sheet fu 0 a1 a2 a3 Sm = some (r, Sm1) ∧ Rel Sc1 Sm1) ∧ (∀ a1 a2 a3 : Int32, ∃ r Sc1 Sm1, f_X7_lay fu 0 a1 a2 a3 Sc = some (r, Sc1) ∧ f_X8_lay fu 0 a1 a2 a3 Sm = some (r, Sm1) ∧ Rel Sc1 Sm1) ∧ (∀ a1 a2 a3 a4 : Int32, ∃ r Sc1 Sm1, f_X7_read fu 0 a1 a2 a3 a4 Sc = some (r, Sc1) ∧ f_X8_read fu 0 a1 a2 a3 a4 Sm = some (r, Sm1) ∧ Rel Sc1 Sm1) ∧ (∃ r Sc1 Sm1, f_X7_torn fu 0  Sc = some (r, Sc1) ∧ f_X8_torn fu 0  Sm = some (r, Sm1) ∧ Rel Sc1 Sm1) ∧ (∀ a1 : Int32, ∃ r Sc1 Sm1, f_X7_count fu 0 a1 Sc = some (r, Sc1) ∧ f_X8_count fu 0 a1 Sm = some (r, Sm1) ∧ Rel Sc1 Sm1)
set_option maxRecDepth 100000 in
set_option maxHeartbeats 4000000 in
/-- THE LAW'S LOOP -/
theorem law_loop {x : g_CX} {ad2 : Nat → Nat} {b L : Nat} {xs : Nat → Int32} {Q : State → Prop} (X : g_LX x ad2 b L xs) (hL0 : L ≤ 2560) {fu : Nat} {Rel : g_St → g_St → Prop} (ops : g_Ops fu Rel)
    (hend : ∀ Sc Sm lv, g_LV x ad2 Q Sc Sm 1453 lv []) : ∀ (n i : Nat) (Sc Sm : g_St), i < L + 5 → L + 5 ≤ i + n → Rel Sc Sm → g_LV x ad2 Q Sc Sm 18 [(0, .ref b), (1, .ref (g_ad x 0)), (2, .ref (ad2 0)), (3, .int (nI i))] [] := by
  have hL : L < 2 ^ 31 := by omega
  intro n
  induction n with
  | zero =>
    intro i Sc Sm h1 h2
    exact absurd h2 (by omega)
  | succ n ih =>
    intro i Sc Sm hi hin hr
    refine l_iload_n X dL_law_18 3 rfl ?_
    refine l_aload_n X dL_law_19 0 rfl ?_
    refine l_slen X dL_law_20 ?_
    refine l_iconst X (v := 5) dL_law_21 (by decide) ?_
    refine l_isub X dL_law_22 ?_
    refine l_gt X 1453 dL_law_23 (by decide) (fun _ => hend Sc Sm _) (fun c => ?_)
    have hle : i + 5 ≤ L := by
      rcases Nat.lt_or_ge L (i + 5) with q | q
      · refine absurd ?_ c
        rw [show (5 : Int32) = nI 5 from rfl]
        have h1 : (nI L - nI 5).toInt = (L : Int) - 5 := by
          rw [pk_sub_toInt (by omega) (by omega)]
          rfl
        apply Int32.lt_iff_toInt_lt.mpr
        rw [h1, nI_toInt (by omega)]
        omega
      · exact q
    have next : ∀ Sc1 Sm1, Rel Sc1 Sm1 → g_LV x ad2 Q Sc1 Sm1 1447 [(0, .ref b), (1, .ref (g_ad x 0)), (2, .ref (ad2 0)), (3, .int (nI i))] [] := by
      intro Sc1 Sm1 hr1
      refine l_iinc X [(3, .int (nI (i + 5))), (0, _), (1, _), (2, _)] dL_law_1447 3 rfl (by rw [show Int32.ofInt 5 = nI 5 from rfl, nI_add]) (by decide) rfl ?_
      refine l_goto X 18 dL_law_1450 (by decide) ?_
      refine l_sub [1, 2, 3, 0] _ rfl ?_
      exact ih (i + 5) Sc1 Sm1 (by omega) (by omega) hr1
    refine l_aload_n X dL_law_26 0 rfl ?_
    refine l_iload_n X dL_law_27 3 rfl ?_
    refine l_sld X (j := i) rfl (by omega) hL dL_law_28 ?_
    refine l_bipush X (v := 63) dL_law_29 (by decide) ?_
    refine l_iand X dL_law_31 ?_
    obtain ⟨j, hj, ej⟩ := pk_andE (xs i) (m := 63) 6 (by decide)
    rw [ej]
    have hop := ops Sc Sm hr
    rcases (show j = 0 ∨ 0 < j by omega) with rfl | hj0
    · obtain ⟨r, Sc1, Sm1, h1, h2, hr1⟩ := hop.1 (xs (i + 1))
      refine l_tableIn X 212 (off := 180) dL_law_32 (by decide) (by decide) (by rfl) (by decide) ?_
      exact lc_feed X (by omega) hL h1 h2 (next Sc1 Sm1 hr1)
    rcases (show j = 1 ∨ 1 < j by omega) with rfl | hj1
    · obtain ⟨r, Sc1, Sm1, h1, h2, hr1⟩ := hop.2.1 (xs (i + 1))
      refine l_tableIn X 235 (off := 203) dL_law_32 (by decide) (by decide) (by rfl) (by decide) ?_
      exact lc_end X (by omega) hL h1 h2 (next Sc1 Sm1 hr1)
    rcases (show j = 2 ∨ 2 < j by omega) with rfl | hj2
    · obtain ⟨r, Sc1, Sm1, h1, h2, hr1⟩ := hop.2.2.1 
      refine l_tableIn X 258 (off := 226) dL_law_32 (by decide) (by decide) (by rfl) (by decide) ?_
      exact lc_text X (by omega) hL h1 h2 (next Sc1 Sm1 hr1)
    rcases (show j = 3 ∨ 3 < j by omega) with rfl | hj3
    · obtain ⟨r, Sc1, Sm1, h1, h2, hr1⟩ := hop.2.2.2.1 
      refine l_tableIn X 271 (off := 239) dL_law_32 (by decide) (by decide) (by rfl) (by decide) ?_
      exact lc_fault X (by omega) hL h1 h2 (next Sc1 Sm1 hr1)
    rcases (show j = 4 ∨ 4 < j by omega) with rfl | hj4
    · obtain ⟨r, Sc1, Sm1, h1, h2, hr1⟩ := hop.2.2.2.2.1 (xs (i + 1))
      refine l_tableIn X 284 (off := 252) dL_law_32 (by decide) (by decide) (by rfl) (by decide) ?_
      exact lc_rule X (by omega) hL h1 h2 (next Sc1 Sm1 hr1)
    rcases (show j = 5 ∨ 5 < j by omega) with rfl | hj5
    · obtain ⟨r, Sc1, Sm1, h1, h2, hr1⟩ := hop.2.2.2.2.2.1 (xs (i + 1)) (xs (i + 2))
      refine l_tableIn X 307 (off := 275) dL_law_32 (by decide) (by decide) (by rfl) (by decide) ?_
      exact lc_door X (by omega) hL h1 h2 (next Sc1 Sm1 hr1)
    rcases (show j = 6 ∨ 6 < j by omega) with rfl | hj6
    · obtain ⟨r, Sc1, Sm1, h1, h2, hr1⟩ := hop.2.2.2.2.2.2.1 (xs (i + 1)) (xs (i + 2))
      refine l_tableIn X 340 (off := 308) dL_law_32 (by decide) (by decide) (by rfl) (by decide) ?_
      exact lc_crowd X (by omega) hL h1 h2 (next Sc1 Sm1 hr1)
    rcases (show j = 7 ∨ 7 < j by omega) with rfl | hj7
    · obtain ⟨r, Sc1, Sm1, h1, h2, hr1⟩ := hop.2.2.2.2.2.2.2.1 (xs (i + 1)) (xs (i + 2)) (xs (i + 3))
      refine l_tableIn X 373 (off := 341) dL_law_32 (by decide) (by decide) (by rfl) (by decide) ?_
      exact lc_alter X (by omega) hL h1 h2 (next Sc1 Sm1 hr1)
    rcases (show j = 8 ∨ 8 < j by omega) with rfl | hj8
    · obtain ⟨r, Sc1, Sm1, h1, h2, hr1⟩ := hop.2.2.2.2.2.2.2.2.1 (xs (i + 1)) (xs (i + 2)) (xs (i + 3))
      refine l_tableIn X 416 (off := 384) dL_law_32 (by decide) (by decide) (by rfl) (by decide) ?_
      exact lc_hang X (by omega) hL h1 h2 (next Sc1 Sm1 hr1)
    rcases (show j = 9 ∨ 9 < j by omega) with rfl | hj9
    · obtain ⟨r, Sc1, Sm1, h1, h2, hr1⟩ := hop.2.2.2.2.2.2.2.2.2.1 (xs (i + 1))
      refine l_tableIn X 459 (off := 427) dL_law_32 (by decide) (by decide) (by rfl) (by decide) ?_
      exact lc_cut X (by omega) hL h1 h2 (next Sc1 Sm1 hr1)
    rcases (show j = 10 ∨ 10 < j by omega) with rfl | hj10
    · obtain ⟨r, Sc1, Sm1, h1, h2, hr1⟩ := hop.2.2.2.2.2.2.2.2.2.2.1 (xs (i + 1)) (xs (i + 2)) (xs (i + 3))
      refine l_tableIn X 482 (off := 450) dL_law_32 (by decide) (by decide) (by rfl) (by decide) ?_
      exact lc_come X (by omega) hL h1 h2 (next Sc1 Sm1 hr1)
    rcases (show j = 11 ∨ 11 < j by omega) with rfl | hj11
    · obtain ⟨r, Sc1, Sm1, h1, h2, hr1⟩ := hop.2.2.2.2.2.2.2.2.2.2.2.1 (xs (i + 1))
      refine l_tableIn X 525 (off := 493) dL_law_32 (by decide) (by decide) (by rfl) (by decide) ?_
      exact lc_leave X (by omega) hL h1 h2 (next Sc1 Sm1 hr1)
    rcases (show j = 12 ∨ 12 < j by omega) with rfl | hj12
    · obtain ⟨r, Sc1, Sm1, h1, h2, hr1⟩ := hop.2.2.2.2.2.2.2.2.2.2.2.2.1 
      refine l_tableIn X 548 (off := 516) dL_law_32 (by decide) (by decide) (by rfl) (by decide) ?_
      exact lc_pass X (by omega) hL h1 h2 (next Sc1 Sm1 hr1)
    rcases (show j = 13 ∨ 13 < j by omega) with rfl | hj13
    · obtain ⟨r, Sc1, Sm1, h1, h2, hr1⟩ := hop.2.2.2.2.2.2.2.2.2.2.2.2.2.1 (xs (i + 1))
      refine l_tableIn X 561 (off := 529) dL_law_32 (by decide) (by decide) (by rfl) (by decide) ?_
      exact lc_ticks X (by omega) hL h1 h2 (next Sc1 Sm1 hr1)
    rcases (show j = 14 ∨ 14 < j by omega) with rfl | hj14
    · obtain ⟨r, Sc1, Sm1, h1, h2, hr1⟩ := hop.2.2.2.2.2.2.2.2.2.2.2.2.2.2.1 (xs (i + 1)) (xs (i + 2))
      refine l_tableIn X 584 (off := 552) dL_law_32 (by decide) (by decide) (by rfl) (by decide) ?_
      exact lc_runs X (by omega) hL h1 h2 (next Sc1 Sm1 hr1)
    rcases (show j = 15 ∨ 15 < j by omega) with rfl | hj15
    · obtain ⟨r, Sc1, Sm1, h1, h2, hr1⟩ := hop.2.2.2.2.2.2.2.2.2.2.2.2.2.2.2.1 (xs (i + 1)) (xs (i + 2))
      refine l_tableIn X 617 (off := 585) dL_law_32 (by decide) (by decide) (by rfl) (by decide) ?_
      exact lc_ahead X (by omega) hL h1 h2 (next Sc1 Sm1 hr1)
    rcases (show j = 16 ∨ 16 < j by omega) with rfl | hj16
    · obtain ⟨r, Sc1, Sm1, h1, h2, hr1⟩ := hop.2.2.2.2.2.2.2.2.2.2.2.2.2.2.2.2.1 (xs (i + 1))
      refine l_tableIn X 650 (off := 618) dL_law_32 (by decide) (by decide) (by rfl) (by decide) ?_
      exact lc_lets X (by omega) hL h1 h2 (next Sc1 Sm1 hr1)
    rcases (show j = 17 ∨ 17 < j by omega) with rfl | hj17
    · obtain ⟨r, Sc1, Sm1, h1, h2, hr1⟩ := hop.2.2.2.2.2.2.2.2.2.2.2.2.2.2.2.2.2.1 (xs (i + 1)) (xs (i + 2))
      refine l_tableIn X 673 (off := 641) dL_law_32 (by decide) (by decide) (by rfl) (by decide) ?_
      exact lc_turns X (by omega) hL h1 h2 (next Sc1 Sm1 hr1)
    rcases (show j = 18 ∨ 18 < j by omega) with rfl | hj18
    · obtain ⟨r, Sc1, Sm1, h1, h2, hr1⟩ := hop.2.2.2.2.2.2.2.2.2.2.2.2.2.2.2.2.2.2.1 
      refine l_tableIn X 706 (off := 674) dL_law_32 (by decide) (by decide) (by rfl) (by decide) ?_
      exact lc_when X (by omega) hL h1 h2 (next Sc1 Sm1 hr1)
    rcases (show j = 19 ∨ 19 < j by omega) with rfl | hj19
    · obtain ⟨r, Sc1, Sm1, h1, h2, hr1⟩ := hop.2.2.2.2.2.2.2.2.2.2.2.2.2.2.2.2.2.2.2.1 (xs (i + 1)) (xs (i + 2))
      refine l_tableIn X 719 (off := 687) dL_law_32 (by decide) (by decide) (by rfl) (by decide) ?_
      exact lc_depth X (by omega) hL h1 h2 (next Sc1 Sm1 hr1)
    rcases (show j = 20 ∨ 20 < j by omega) with rfl | hj20
    · obtain ⟨r, Sc1, Sm1, h1, h2, hr1⟩ := hop.2.2.2.2.2.2.2.2.2.2.2.2.2.2.2.2.2.2.2.2.1 (xs (i + 1)) (xs (i + 2))
      refine l_tableIn X 752 (off := 720) dL_law_32 (by decide) (by decide) (by rfl) (by decide) ?_
      exact lc_rate X (by omega) hL h1 h2 (next Sc1 Sm1 hr1)
    rcases (show j = 21 ∨ 21 < j by omega) with rfl | hj21
    · obtain ⟨r, Sc1, Sm1, h1, h2, hr1⟩ := hop.2.2.2.2.2.2.2.2.2.2.2.2.2.2.2.2.2.2.2.2.2.1 (xs (i + 1)) (xs (i + 2))
      refine l_tableIn X 785 (off := 753) dL_law_32 (by decide) (by decide) (by rfl) (by decide) ?_
      exact lc_swap X (by omega) hL h1 h2 (next Sc1 Sm1 hr1)
    rcases (show j = 22 ∨ 22 < j by omega) with rfl | hj22
    · obtain ⟨r, Sc1, Sm1, h1, h2, hr1⟩ := hop.2.2.2.2.2.2.2.2.2.2.2.2.2.2.2.2.2.2.2.2.2.2.1 (xs (i + 1)) (xs (i + 2))
      refine l_tableIn X 818 (off := 786) dL_law_32 (by decide) (by decide) (by rfl) (by decide) ?_
      exact lc_open X (by omega) hL h1 h2 (next Sc1 Sm1 hr1)
    rcases (show j = 23 ∨ 23 < j by omega) with rfl | hj23
    · obtain ⟨r, Sc1, Sm1, h1, h2, hr1⟩ := hop.2.2.2.2.2.2.2.2.2.2.2.2.2.2.2.2.2.2.2.2.2.2.2.1 (xs (i + 1)) (xs (i + 2)) (xs (i + 3))
      refine l_tableIn X 851 (off := 819) dL_law_32 (by decide) (by decide) (by rfl) (by decide) ?_
      exact lc_kind X (by omega) hL h1 h2 (next Sc1 Sm1 hr1)
    rcases (show j = 24 ∨ 24 < j by omega) with rfl | hj24
    · obtain ⟨r, Sc1, Sm1, h1, h2, hr1⟩ := hop.2.2.2.2.2.2.2.2.2.2.2.2.2.2.2.2.2.2.2.2.2.2.2.2.1 (xs (i + 1)) (xs (i + 2)) (xs (i + 3))
      refine l_tableIn X 894 (off := 862) dL_law_32 (by decide) (by decide) (by rfl) (by decide) ?_
      exact lc_fill X (by omega) hL h1 h2 (next Sc1 Sm1 hr1)
    rcases (show j = 25 ∨ 25 < j by omega) with rfl | hj25
    · obtain ⟨r, Sc1, Sm1, h1, h2, hr1⟩ := hop.2.2.2.2.2.2.2.2.2.2.2.2.2.2.2.2.2.2.2.2.2.2.2.2.2.1 (xs (i + 1)) (xs (i + 2)) (xs (i + 3))
      refine l_tableIn X 937 (off := 905) dL_law_32 (by decide) (by decide) (by rfl) (by decide) ?_
      exact lc_luck X (by omega) hL h1 h2 (next Sc1 Sm1 hr1)
    rcases (show j = 26 ∨ 26 < j by omega) with rfl | hj26
    · obtain ⟨r, Sc1, Sm1, h1, h2, hr1⟩ := hop.2.2.2.2.2.2.2.2.2.2.2.2.2.2.2.2.2.2.2.2.2.2.2.2.2.2.1 (xs (i + 1)) (xs (i + 2)) (xs (i + 3))
      refine l_tableIn X 981 (off := 949) dL_law_32 (by decide) (by decide) (by rfl) (by decide) ?_
      exact lc_mean X (by omega) hL h1 h2 (next Sc1 Sm1 hr1)
    rcases (show j = 27 ∨ 27 < j by omega) with rfl | hj27
    · obtain ⟨r, Sc1, Sm1, h1, h2, hr1⟩ := hop.2.2.2.2.2.2.2.2.2.2.2.2.2.2.2.2.2.2.2.2.2.2.2.2.2.2.2.1 (xs (i + 1)) (xs (i + 2))
      refine l_tableIn X 1025 (off := 993) dL_law_32 (by decide) (by decide) (by rfl) (by decide) ?_
      exact lc_see X (by omega) hL h1 h2 (next Sc1 Sm1 hr1)
    rcases (show j = 28 ∨ 28 < j by omega) with rfl | hj28
    · obtain ⟨r, Sc1, Sm1, h1, h2, hr1⟩ := hop.2.2.2.2.2.2.2.2.2.2.2.2.2.2.2.2.2.2.2.2.2.2.2.2.2.2.2.2.1 (xs (i + 1))
      refine l_tableIn X 1058 (off := 1026) dL_law_32 (by decide) (by decide) (by rfl) (by decide) ?_
      exact lc_forget X (by omega) hL h1 h2 (next Sc1 Sm1 hr1)
    rcases (show j = 29 ∨ 29 < j by omega) with rfl | hj29
    · obtain ⟨r, Sc1, Sm1, h1, h2, hr1⟩ := hop.2.2.2.2.2.2.2.2.2.2.2.2.2.2.2.2.2.2.2.2.2.2.2.2.2.2.2.2.2.1 (xs (i + 1))
      refine l_tableIn X 1081 (off := 1049) dL_law_32 (by decide) (by decide) (by rfl) (by decide) ?_
      exact lc_kinds X (by omega) hL h1 h2 (next Sc1 Sm1 hr1)
    rcases (show j = 30 ∨ 30 < j by omega) with rfl | hj30
    · obtain ⟨r, Sc1, Sm1, h1, h2, hr1⟩ := hop.2.2.2.2.2.2.2.2.2.2.2.2.2.2.2.2.2.2.2.2.2.2.2.2.2.2.2.2.2.2.1 (xs (i + 1))
      refine l_tableIn X 1104 (off := 1072) dL_law_32 (by decide) (by decide) (by rfl) (by decide) ?_
      exact lc_depths X (by omega) hL h1 h2 (next Sc1 Sm1 hr1)
    rcases (show j = 31 ∨ 31 < j by omega) with rfl | hj31
    · obtain ⟨r, Sc1, Sm1, h1, h2, hr1⟩ := hop.2.2.2.2.2.2.2.2.2.2.2.2.2.2.2.2.2.2.2.2.2.2.2.2.2.2.2.2.2.2.2.1 (xs (i + 1))
      refine l_tableIn X 1127 (off := 1095) dL_law_32 (by decide) (by decide) (by rfl) (by decide) ?_
      exact lc_rates X (by omega) hL h1 h2 (next Sc1 Sm1 hr1)
    rcases (show j = 32 ∨ 32 < j by omega) with rfl | hj32
    · obtain ⟨r, Sc1, Sm1, h1, h2, hr1⟩ := hop.2.2.2.2.2.2.2.2.2.2.2.2.2.2.2.2.2.2.2.2.2.2.2.2.2.2.2.2.2.2.2.2.1 (xs (i + 1)) (xs (i + 2))
      refine l_tableIn X 1150 (off := 1118) dL_law_32 (by decide) (by decide) (by rfl) (by decide) ?_
      exact lc_ask X (by omega) hL h1 h2 (next Sc1 Sm1 hr1)
    rcases (show j = 33 ∨ 33 < j by omega) with rfl | hj33
    · obtain ⟨r, Sc1, Sm1, h1, h2, hr1⟩ := hop.2.2.2.2.2.2.2.2.2.2.2.2.2.2.2.2.2.2.2.2.2.2.2.2.2.2.2.2.2.2.2.2.2.1 (xs (i + 1)) (xs (i + 2)) (xs (i + 3))
      refine l_tableIn X 1183 (off := 1151) dL_law_32 (by decide) (by decide) (by rfl) (by decide) ?_
      exact lc_drift X (by omega) hL h1 h2 (next Sc1 Sm1 hr1)
    rcases (show j = 34 ∨ 34 < j by omega) with rfl | hj34
    · obtain ⟨r, Sc1, Sm1, h1, h2, hr1⟩ := hop.2.2.2.2.2.2.2.2.2.2.2.2.2.2.2.2.2.2.2.2.2.2.2.2.2.2.2.2.2.2.2.2.2.2.1 (xs (i + 1))
      refine l_tableIn X 1226 (off := 1194) dL_law_32 (by decide) (by decide) (by rfl) (by decide) ?_
      exact lc_keep X (by omega) hL h1 h2 (next Sc1 Sm1 hr1)
    rcases (show j = 35 ∨ 35 < j by omega) with rfl | hj35
    · obtain ⟨r, Sc1, Sm1, h1, h2, hr1⟩ := hop.2.2.2.2.2.2.2.2.2.2.2.2.2.2.2.2.2.2.2.2.2.2.2.2.2.2.2.2.2.2.2.2.2.2.2.1 (xs (i + 1))
      refine l_tableIn X 1249 (off := 1217) dL_law_32 (by decide) (by decide) (by rfl) (by decide) ?_
      exact lc_back X (by omega) hL h1 h2 (next Sc1 Sm1 hr1)
    rcases (show j = 36 ∨ 36 < j by omega) with rfl | hj36
    · obtain ⟨r, Sc1, Sm1, h1, h2, hr1⟩ := hop.2.2.2.2.2.2.2.2.2.2.2.2.2.2.2.2.2.2.2.2.2.2.2.2.2.2.2.2.2.2.2.2.2.2.2.2.1 (xs (i + 1)) (xs (i + 2)) (xs (i + 3))
      refine l_tableIn X 1272 (off := 1240) dL_law_32 (by decide) (by decide) (by rfl) (by decide) ?_
      exact lc_sheet X (by omega) hL h1 h2 (next Sc1 Sm1 hr1)
    rcases (show j = 37 ∨ 37 < j by omega) with rfl | hj37
    · obtain ⟨r, Sc1, Sm1, h1, h2, hr1⟩ := hop.2.2.2.2.2.2.2.2.2.2.2.2.2.2.2.2.2.2.2.2.2.2.2.2.2.2.2.2.2.2.2.2.2.2.2.2.2.1 (xs (i + 1)) (xs (i + 2)) (xs (i + 3))
      refine l_tableIn X 1315 (off := 1283) dL_law_32 (by decide) (by decide) (by rfl) (by decide) ?_
      exact lc_lay X (by omega) hL h1 h2 (next Sc1 Sm1 hr1)
    rcases (show j = 38 ∨ 38 < j by omega) with rfl | hj38
    · obtain ⟨r, Sc1, Sm1, h1, h2, hr1⟩ := hop.2.2.2.2.2.2.2.2.2.2.2.2.2.2.2.2.2.2.2.2.2.2.2.2.2.2.2.2.2.2.2.2.2.2.2.2.2.2.1 (xs (i + 1)) (xs (i + 2)) (xs (i + 3)) (xs (i + 4))
      refine l_tableIn X 1358 (off := 1326) dL_law_32 (by decide) (by decide) (by rfl) (by decide) ?_
      exact lc_read X (by omega) hL h1 h2 (next Sc1 Sm1 hr1)
    rcases (show j = 39 ∨ 39 < j by omega) with rfl | hj39
    · obtain ⟨r, Sc1, Sm1, h1, h2, hr1⟩ := hop.2.2.2.2.2.2.2.2.2.2.2.2.2.2.2.2.2.2.2.2.2.2.2.2.2.2.2.2.2.2.2.2.2.2.2.2.2.2.2.1 
      refine l_tableIn X 1411 (off := 1379) dL_law_32 (by decide) (by decide) (by rfl) (by decide) ?_
      exact lc_torn X (by omega) hL h1 h2 (next Sc1 Sm1 hr1)
    rcases (show j = 40 ∨ 40 < j by omega) with rfl | hj40
    · obtain ⟨r, Sc1, Sm1, h1, h2, hr1⟩ := hop.2.2.2.2.2.2.2.2.2.2.2.2.2.2.2.2.2.2.2.2.2.2.2.2.2.2.2.2.2.2.2.2.2.2.2.2.2.2.2.2 (xs (i + 1))
      refine l_tableIn X 1424 (off := 1392) dL_law_32 (by decide) (by decide) (by rfl) (by decide) ?_
      exact lc_count X (by omega) hL h1 h2 (next Sc1 Sm1 hr1)
    refine l_tableOut X 1447 dL_law_32 (Or.inr ?_) (by decide) (next Sc Sm hr)
    rw [nI_toInt (by omega)]
    omega
