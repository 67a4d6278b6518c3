/-! ===== the law's entry ===== -/
theorem s_arr {s : State} {args : Array Value} {ty : FieldType} (h : (Cond.arrayClass ty).before args s = true) : ∃ cA, ArrOfT s cA ty ∧ s.vm.findClass ("[" ++ ty.toString) = some cA := by
  obtain ⟨c, k, comp, h1, h2, h3⟩ := Cond.arrayClass_spec h
  exact ⟨c, fun n z => ⟨(fun q hq => by cases hq), k, h2, comp, h3⟩, h1⟩
theorem s_arrO {s : State} {C : String} (h : va_AO C s) : ∃ cA, ArrOfT s cA (.object C) ∧ va_RA s cA (.object C) := by
  obtain ⟨comp, c, k, h1, h2, h3, h4, h5⟩ := Cond.arrayOver_spec h
  exact ⟨c, fun n z => ⟨(fun q hq => by cases hq), k, h3, comp, h4⟩, k, comp, h3, h4, h1, h5⟩
theorem s_arrA {s : State} (h : (Cond.arrayOver (.array .int)).before #[] s = true) : ∃ cA, ArrOfT s cA (.array .int) ∧ s.vm.findClass ("[" ++ (FieldType.array .int).toString) = some cA := by
  have e : (Cond.arrayOver (.array .int)).before #[] s = (g_aov s.vm == some true) := rfl
  rw [e] at h
  have h : g_aov s.vm = some true := by simpa using h
  unfold g_aov at h
  obtain ⟨comp, -, h⟩ := Option.bind_eq_some_iff.mp h
  obtain ⟨c, -, h⟩ := Option.bind_eq_some_iff.mp h
  obtain ⟨k, hk, h⟩ := Option.map_eq_some_iff.mp h
  unfold g_arF at h
  cases hkind : k.kind with
  | array cm ty =>
    rw [hkind] at h
    have h : decide (ty = FieldType.array .int) = true ∧ decide (s.vm.findClass ("[" ++ (FieldType.array .int).toString) = some c) = true := by simpa using h
    have h1 := of_decide_eq_true h.1
    subst h1
    exact ⟨c, fun n z => ⟨(fun q hq => by cases hq), k, hk, cm, hkind⟩, of_decide_eq_true h.2⟩
  | _ => rw [hkind] at h; cases h
def g_S0 : g_St := (fun _ _ => 0, fun _ _ => none)
theorem g_S0_cl (N : Nat) : g_cl N g_S0 := ⟨fun _ _ => ⟨fun _ => rfl, fun _ => rfl⟩, fun _ _ _ h => by cases h⟩
set_option maxRecDepth 100000 in
set_option maxHeartbeats 1000000 in
theorem s_K {s : State} {args : Array Value} (hts : ∀ w ∈ wsL_law, w.before args s = true) (hAO : g_AO s) : ∃ (D : va_G) (cy : Nat → ClassId), va_K D vwCl (g_tys cy) s := by
  obtain ⟨c0, i0, k0⟩ := u_known (C := RX0) (T := TX0) (N := 3) (n := 3) hts inlX0 (hts _ m_L50)
  obtain ⟨c1, i1, k1⟩ := u_known (C := RX1) (T := TX1) (N := 6) (n := 6) hts inlX1 (hts _ m_L48)
  obtain ⟨c2, i2, k2⟩ := u_known (C := RX2) (T := TX2) (N := 7) (n := 7) hts inlX2 (hts _ m_L13)
  obtain ⟨c3, i3, k3⟩ := u_known (C := RX3) (T := TX3) (N := 3) (n := 3) hts inlX3 (hts _ m_L29)
  obtain ⟨c4, i4, k4⟩ := u_known (C := RX4) (T := TX4) (N := 4) (n := 4) hts inlX4 (hts _ m_L38)
  obtain ⟨c5, i5, k5⟩ := u_known (C := RX5) (T := TX5) (N := 5) (n := 5) hts inlX5 (hts _ m_L21)
  obtain ⟨c6, i6, k6⟩ := u_known (C := RX6) (T := TX6) (N := 3) (n := 3) hts inlX6 (hts _ m_L25)
  obtain ⟨c7, i7, k7⟩ := u_known (C := RX7) (T := TX7) (N := 11) (n := 11) hts inlX7 (hts _ m_L1)
  obtain ⟨c8, i8, k8⟩ := u_known (C := RX8) (T := TX8) (N := 27) (n := 27) hts inlX8 (hts _ m_L4)
  obtain ⟨y0, a0, b0⟩ := s_arr (ty := .int) (hts _ m_L35)
  obtain ⟨y1, a1, b1⟩ := s_arr (ty := .byte) (hts _ m_L64)
  obtain ⟨y2, a2, b2⟩ := s_arr (ty := .boolean) (hts _ m_L18)
  obtain ⟨y3, a3, b3⟩ := s_arrO hAO.1
  obtain ⟨y4, a4, b4⟩ := s_arrO hAO.2.1
  obtain ⟨y5, a5, b5⟩ := s_arrO hAO.2.2.1
  obtain ⟨y6, a6, b6⟩ := s_arrO hAO.2.2.2.1
  obtain ⟨y7, a7, b7⟩ := s_arrA hAO.2.2.2.2
  refine ⟨(fun k => if k = 0 then c0 else if k = 1 then c1 else if k = 2 then c2 else if k = 3 then c3 else if k = 4 then c4 else if k = 5 then c5 else if k = 6 then c6 else if k = 7 then c7 else c8, fun k => if k = 0 then i0 else if k = 1 then i1 else if k = 2 then i2 else if k = 3 then i3 else if k = 4 then i4 else if k = 5 then i5 else if k = 6 then i6 else if k = 7 then i7 else i8), fun k => if k = 0 then y0 else if k = 1 then y1 else if k = 2 then y2 else if k = 3 then y3 else if k = 4 then y4 else if k = 5 then y5 else if k = 6 then y6 else y7, ?_, ?_⟩
  · intro k q hq
    match k, hq with
    | 0, hq => cases hq; exact k0
    | 1, hq => cases hq; exact k1
    | 2, hq => cases hq; exact k2
    | 3, hq => cases hq; exact k3
    | 4, hq => cases hq; exact k4
    | 5, hq => cases hq; exact k5
    | 6, hq => cases hq; exact k6
    | 7, hq => cases hq; exact k7
    | 8, hq => cases hq; exact k8
    | k + 9, hq => simp [vwCl] at hq
  · intro k q hq
    match k, hq with
    | 0, hq => cases hq; exact ⟨a0, b0⟩
    | 1, hq => cases hq; exact ⟨a1, b1⟩
    | 2, hq => cases hq; exact ⟨a2, b2⟩
    | 3, hq => cases hq; exact ⟨a3, b3⟩
    | 4, hq => cases hq; exact ⟨a4, b4⟩
    | 5, hq => cases hq; exact ⟨a5, b5⟩
    | 6, hq => cases hq; exact ⟨a6, b6⟩
    | 7, hq => cases hq; exact ⟨a7, b7⟩
    | k + 8, hq => simp [g_tys] at hq
set_option maxRecDepth 100000 in
set_option maxHeartbeats 2000000 in
theorem s_Z {s : State} {args : Array Value} (hts0 : ∀ w ∈ lw_tbl, w.before args s = true) (hgv : (Jvm.Cond.and given_1 narrow_1).before args s = true) : ∃ zz : (Nat → Nat) × (Nat → Nat), g_Z zz (g_AL s) s s.heap := by
  have hs := flat_of_before _ hgv
  have hA : ∀ a : Nat, a < s.heap.size → ¬ g_AL s a := fun a h q => absurd h (Nat.not_lt.mpr q)
  obtain ⟨adK, adV, hS, hE⟩ := vk_Sof (args := args) (s := s) (N := 5) (tm := fun i => Term.string "TokenDoors$Teller" (g_sk.getD i 0)) (len := g_len) (byt := g_byt) (A := g_AL s) (by decide)
    (fun i hi => match i, hi with | 0, _ => hs (Cond.exactly (Term.string "TokenDoors$Teller" 58) "java/lang/String") (by decide +kernel) | 1, _ => hs (Cond.exactly (Term.string "TokenDoors$Teller" 64) "java/lang/String") (by decide +kernel) | 2, _ => hs (Cond.exactly (Term.string "TokenDoors$Teller" 66) "java/lang/String") (by decide +kernel) | 3, _ => hs (Cond.exactly (Term.string "TokenDoors$Teller" 68) "java/lang/String") (by decide +kernel) | 4, _ => hs (Cond.exactly (Term.string "TokenDoors$Teller" 70) "java/lang/String") (by decide +kernel) | _ + 5, hi => absurd hi (by omega))
    (fun i hi => match i, hi with | 0, _ => hs (Cond.eq (.field (Term.string "TokenDoors$Teller" 58) "java/lang/String" "coder" "B") (.int 0)) (by decide +kernel) | 1, _ => hs (Cond.eq (.field (Term.string "TokenDoors$Teller" 64) "java/lang/String" "coder" "B") (.int 0)) (by decide +kernel) | 2, _ => hs (Cond.eq (.field (Term.string "TokenDoors$Teller" 66) "java/lang/String" "coder" "B") (.int 0)) (by decide +kernel) | 3, _ => hs (Cond.eq (.field (Term.string "TokenDoors$Teller" 68) "java/lang/String" "coder" "B") (.int 0)) (by decide +kernel) | 4, _ => hs (Cond.eq (.field (Term.string "TokenDoors$Teller" 70) "java/lang/String" "coder" "B") (.int 0)) (by decide +kernel) | _ + 5, hi => absurd hi (by omega))
    (fun i hi => match i, hi with | 0, _ => hs (Cond.arrayOf (.field (Term.string "TokenDoors$Teller" 58) "java/lang/String" "value" "[B") .byte) (by decide +kernel) | 1, _ => hs (Cond.arrayOf (.field (Term.string "TokenDoors$Teller" 64) "java/lang/String" "value" "[B") .byte) (by decide +kernel) | 2, _ => hs (Cond.arrayOf (.field (Term.string "TokenDoors$Teller" 66) "java/lang/String" "value" "[B") .byte) (by decide +kernel) | 3, _ => hs (Cond.arrayOf (.field (Term.string "TokenDoors$Teller" 68) "java/lang/String" "value" "[B") .byte) (by decide +kernel) | 4, _ => hs (Cond.arrayOf (.field (Term.string "TokenDoors$Teller" 70) "java/lang/String" "value" "[B") .byte) (by decide +kernel) | _ + 5, hi => absurd hi (by omega))
    (fun i hi => match i, hi with | 0, _ => hs (Cond.eq (.length (.field (Term.string "TokenDoors$Teller" 58) "java/lang/String" "value" "[B")) (.int 5)) (by decide +kernel) | 1, _ => hs (Cond.eq (.length (.field (Term.string "TokenDoors$Teller" 64) "java/lang/String" "value" "[B")) (.int 4)) (by decide +kernel) | 2, _ => hs (Cond.eq (.length (.field (Term.string "TokenDoors$Teller" 66) "java/lang/String" "value" "[B")) (.int 6)) (by decide +kernel) | 3, _ => hs (Cond.eq (.length (.field (Term.string "TokenDoors$Teller" 68) "java/lang/String" "value" "[B")) (.int 4)) (by decide +kernel) | 4, _ => hs (Cond.eq (.length (.field (Term.string "TokenDoors$Teller" 70) "java/lang/String" "value" "[B")) (.int 5)) (by decide +kernel) | _ + 5, hi => absurd hi (by omega))
    (fun i hi => match i, hi with | 0, _ => (fun j hj => match j, hj with | 0, _ => hs (Cond.eq (.elem (.field (Term.string "TokenDoors$Teller" 58) "java/lang/String" "value" "[B") (.int 0)) (.int 116)) (by decide +kernel) | 1, _ => hs (Cond.eq (.elem (.field (Term.string "TokenDoors$Teller" 58) "java/lang/String" "value" "[B") (.int 1)) (.int 111)) (by decide +kernel) | 2, _ => hs (Cond.eq (.elem (.field (Term.string "TokenDoors$Teller" 58) "java/lang/String" "value" "[B") (.int 2)) (.int 107)) (by decide +kernel) | 3, _ => hs (Cond.eq (.elem (.field (Term.string "TokenDoors$Teller" 58) "java/lang/String" "value" "[B") (.int 3)) (.int 101)) (by decide +kernel) | 4, _ => hs (Cond.eq (.elem (.field (Term.string "TokenDoors$Teller" 58) "java/lang/String" "value" "[B") (.int 4)) (.int 110)) (by decide +kernel) | _ + 5, hj => absurd hj (by show ¬ _ < 5; omega)) | 1, _ => (fun j hj => match j, hj with | 0, _ => hs (Cond.eq (.elem (.field (Term.string "TokenDoors$Teller" 64) "java/lang/String" "value" "[B") (.int 0)) (.int 108)) (by decide +kernel) | 1, _ => hs (Cond.eq (.elem (.field (Term.string "TokenDoors$Teller" 64) "java/lang/String" "value" "[B") (.int 1)) (.int 101)) (by decide +kernel) | 2, _ => hs (Cond.eq (.elem (.field (Term.string "TokenDoors$Teller" 64) "java/lang/String" "value" "[B") (.int 2)) (.int 97)) (by decide +kernel) | 3, _ => hs (Cond.eq (.elem (.field (Term.string "TokenDoors$Teller" 64) "java/lang/String" "value" "[B") (.int 3)) (.int 107)) (by decide +kernel) | _ + 4, hj => absurd hj (by show ¬ _ < 4; omega)) | 2, _ => (fun j hj => match j, hj with | 0, _ => hs (Cond.eq (.elem (.field (Term.string "TokenDoors$Teller" 66) "java/lang/String" "value" "[B") (.int 0)) (.int 119)) (by decide +kernel) | 1, _ => hs (Cond.eq (.elem (.field (Term.string "TokenDoors$Teller" 66) "java/lang/String" "value" "[B") (.int 1)) (.int 105)) (by decide +kernel) | 2, _ => hs (Cond.eq (.elem (.field (Term.string "TokenDoors$Teller" 66) "java/lang/String" "value" "[B") (.int 2)) (.int 110)) (by decide +kernel) | 3, _ => hs (Cond.eq (.elem (.field (Term.string "TokenDoors$Teller" 66) "java/lang/String" "value" "[B") (.int 3)) (.int 100)) (by decide +kernel) | 4, _ => hs (Cond.eq (.elem (.field (Term.string "TokenDoors$Teller" 66) "java/lang/String" "value" "[B") (.int 4)) (.int 111)) (by decide +kernel) | 5, _ => hs (Cond.eq (.elem (.field (Term.string "TokenDoors$Teller" 66) "java/lang/String" "value" "[B") (.int 5)) (.int 119)) (by decide +kernel) | _ + 6, hj => absurd hj (by show ¬ _ < 6; omega)) | 3, _ => (fun j hj => match j, hj with | 0, _ => hs (Cond.eq (.elem (.field (Term.string "TokenDoors$Teller" 68) "java/lang/String" "value" "[B") (.int 0)) (.int 104)) (by decide +kernel) | 1, _ => hs (Cond.eq (.elem (.field (Term.string "TokenDoors$Teller" 68) "java/lang/String" "value" "[B") (.int 1)) (.int 97)) (by decide +kernel) | 2, _ => hs (Cond.eq (.elem (.field (Term.string "TokenDoors$Teller" 68) "java/lang/String" "value" "[B") (.int 2)) (.int 108)) (by decide +kernel) | 3, _ => hs (Cond.eq (.elem (.field (Term.string "TokenDoors$Teller" 68) "java/lang/String" "value" "[B") (.int 3)) (.int 102)) (by decide +kernel) | _ + 4, hj => absurd hj (by show ¬ _ < 4; omega)) | 4, _ => (fun j hj => match j, hj with | 0, _ => hs (Cond.eq (.elem (.field (Term.string "TokenDoors$Teller" 70) "java/lang/String" "value" "[B") (.int 0)) (.int 99)) (by decide +kernel) | 1, _ => hs (Cond.eq (.elem (.field (Term.string "TokenDoors$Teller" 70) "java/lang/String" "value" "[B") (.int 1)) (.int 114)) (by decide +kernel) | 2, _ => hs (Cond.eq (.elem (.field (Term.string "TokenDoors$Teller" 70) "java/lang/String" "value" "[B") (.int 2)) (.int 111)) (by decide +kernel) | 3, _ => hs (Cond.eq (.elem (.field (Term.string "TokenDoors$Teller" 70) "java/lang/String" "value" "[B") (.int 3)) (.int 119)) (by decide +kernel) | 4, _ => hs (Cond.eq (.elem (.field (Term.string "TokenDoors$Teller" 70) "java/lang/String" "value" "[B") (.int 4)) (.int 100)) (by decide +kernel) | _ + 5, hj => absurd hj (by show ¬ _ < 5; omega)) | _ + 5, hi => absurd hi (by omega))
    (fun i j hi hj h => by rcases (show i = 0 ∨ i = 1 ∨ i = 2 ∨ i = 3 ∨ i = 4 by omega) with rfl | rfl | rfl | rfl | rfl <;> rcases (show j = 0 ∨ j = 1 ∨ j = 2 ∨ j = 3 ∨ j = 4 by omega) with rfl | rfl | rfl | rfl | rfl <;> first | exact absurd rfl h | exact Or.inl (hs _ (by decide +kernel)) | exact Or.inr (hs _ (by decide +kernel)))
    hA
  refine ⟨(adK, adV), hS, (fun i hi => match i, hi with | 0, _ => vk_R.of (hts0 (.stringRef "TokenDoors$Teller" 58 "token") (List.mem_of_getElem? (i := 348) (by decide +kernel))) (hE 0 (by decide)) | 1, _ => vk_R.of (hts0 (.stringRef "TokenDoors$Teller" 64 "leak") (List.mem_of_getElem? (i := 401) (by decide +kernel))) (hE 1 (by decide)) | 2, _ => vk_R.of (hts0 (.stringRef "TokenDoors$Teller" 66 "window") (List.mem_of_getElem? (i := 402) (by decide +kernel))) (hE 2 (by decide)) | 3, _ => vk_R.of (hts0 (.stringRef "TokenDoors$Teller" 68 "half") (List.mem_of_getElem? (i := 403) (by decide +kernel))) (hE 3 (by decide)) | 4, _ => vk_R.of (hts0 (.stringRef "TokenDoors$Teller" 70 "crowd") (List.mem_of_getElem? (i := 404) (by decide +kernel))) (hE 4 (by decide)) | _ + 5, hi => absurd hi (by omega)), ?_, ?_⟩
  · exact va_Zof (hts0 (.laysStatic "java/lang/String" "COMPACT_STRINGS" "Z") (List.mem_of_getElem? (i := 362) (by decide +kernel))) (hts0 (.initialized "java/lang/String") (List.mem_of_getElem? (i := 60) (by decide +kernel))) (va_eqi (hs (Cond.eq (.static "java/lang/String" "COMPACT_STRINGS" "Z") (.int 1)) (by decide +kernel))) hA
  · exact va_Zqof (hts0 (.laysStatic "jdk/internal/util/Preconditions" "SIOOBE_FORMATTER" "Ljava/util/function/BiFunction;") (List.mem_of_getElem? (i := 378) (by decide +kernel))) (hts0 (.initialized "jdk/internal/util/Preconditions") (List.mem_of_getElem? (i := 62) (by decide +kernel))) (hs (Cond.isRef (.static "jdk/internal/util/Preconditions" "SIOOBE_FORMATTER" "Ljava/util/function/BiFunction;")) (by decide +kernel)) hA
theorem s_AO {s : State} {args : Array Value} (hts0 : ∀ w ∈ lw_tbl, w.before args s = true) : g_AO s := by
  exact ⟨va_AO.of (hts0 (.arrayOver (.object "TokenDoors$Door")) (List.mem_of_getElem? (i := 82) (by decide +kernel))), va_AO.of (hts0 (.arrayOver (.object "TokenDoors$Crowd")) (List.mem_of_getElem? (i := 84) (by decide +kernel))), va_AO.of (hts0 (.arrayOver (.object "TokenDoors$Hall")) (List.mem_of_getElem? (i := 167) (by decide +kernel))), va_AO.of (hts0 (.arrayOver (.object "TokenDoors$Sheet")) (List.mem_of_getElem? (i := 232) (by decide +kernel))), (hts0 (.arrayOver (.array .int)) (List.mem_of_getElem? (i := 234) (by decide +kernel)))⟩
theorem s_new {p : Program} {l : Launch} {e : Env} {R : Room} {s : State} {m : MethodId} {args : Array Value} {below : List Frame} {meth : Method} {c : Code} {H : Heap} {locs : List Loc} {cells slots : Nat} {Q : State → Prop} {cc : ByteArray} {pc : Nat} {ls : Array Slot} {rest : List Value} {D : va_G} {cy : Nat → ClassId} {K : Nat → g_Kd} {own C : String} {T : u_T} {ty : Nat → FieldType} {n ci index : Nat} {bs : List Bool} {Ts : List Cond}
    (hexec : p.tables.exec = Jvm.exec) (hb : c.code = cc) (hts : ∀ w ∈ Ts, w.before args s = true) (hC : g_C ci C T ty n) (hin : ∀ w ∈ u_ws C T n, w ∈ Ts) (hown : s.vm.findClass own = some m.cls) (hcl : (Cond.classLink own index C).before args s = true) (hinst : (Cond.instantiable C n).before args s = true) (hini : (Cond.initialized C).before args s = true) (hK : va_K D vwCl (g_tys cy) s) (hk0 : K 0 = .inl (ci, bs)) (hdf : ∀ j, j < n → defaultValue (ty j) = vp_V (g_zero bs) j) (hcells : cells + 1 ≤ R.cells) (hslots : slots + n ≤ R.slots) (hdg : decode cc pc = .ok (.new index, 3))
    (kk : ∀ H1 : Heap, H1.size = H.size + 1 → (∀ q, q < H.size → H1[q]? = H[q]?) → va_P D vwCl (g_pw K 1 (fun _ => H.size) cy g_S0) H1 → W p l e R s m args below meth c H1 locs (cells + 1) (slots + n) Q (F0 m (pc + 3) ls (.ref H.size :: rest))) : W p l e R s m args below meth c H locs cells slots Q (F0 m pc ls rest) := by
  have hKn := hK.1 ci _ hC.1
  refine W.newcK hexec hb hown hcl hinst hini rfl hdg hcells hslots hKn.2.1 rfl fun H1 kC hkC e1 z1 o1 => ?_
  refine kk H1 z1 o1 (fun k q hq => ?_)
  have hk : k < 1 := by
    have := (List.getElem?_eq_some_iff.mp hq).1
    rwa [g_pw_len] at this
  rw [show k = 0 by omega, g_at (i := 0) ⟨by omega, hk0⟩] at hq
  cases hq
  refine ⟨_, hC.1, ((u_born ty hts hin hKn hkC e1 hC.2.1).to ?_)⟩
  intro j hj
  show defaultValue (ty j) = vp_V (g_vals _ g_S0 0 bs) j
  rw [g_vals_zero (fun _ => rfl) (fun _ => rfl)]
  exact hdf j hj
theorem s_one {K : Nat → g_Kd} {cy : Nat → ClassId} {S : g_St} {h base : Nat} (hb : base ≤ h) : va_D (fun q => base ≤ q) (g_pw K 1 (fun _ => h) cy S) := by
  have key : ∀ (k : Nat) (q : Nat × va_E), (g_pw K 1 (fun _ => h) cy S)[k]? = some q → k = 0 ∧ q.1 = h := by
    intro k q hq
    have hk : k < 1 := by
      have := (List.getElem?_eq_some_iff.mp hq).1
      rwa [g_pw_len] at this
    rw [show k = 0 by omega, g_at (i := 0) ⟨by omega, rfl⟩] at hq
    cases hq
    exact ⟨by omega, rfl⟩
  refine ⟨fun i j x y hx hy _ => ?_, fun k q hq => ?_⟩
  · rw [(key i x hx).1, (key j y hy).1]
  · show base ≤ q.1
    rw [(key k q hq).2]
    exact hb
theorem s_inj {K : Nat → g_Kd} {N : Nat} {ad : Nat → Nat} {cy : Nat → ClassId} {S : g_St} {A : Nat → Prop} (hD : va_D A (g_pw K N ad cy S)) : (∀ i j, i < N → j < N → ad i = ad j → i = j) ∧ ∀ i, i < N → A (ad i) :=
  ⟨fun i j hi hj e => hD.1 i j _ _ (g_at ⟨hi, rfl⟩) (g_at ⟨hj, rfl⟩) e, fun i hi => hD.2 i _ (g_at ⟨hi, rfl⟩)⟩
theorem s_lt {K : Nat → g_Kd} {N : Nat} {ad : Nat → Nat} {cy : Nat → ClassId} {S : g_St} {D : va_G} {H : Heap} (hP : va_P D vwCl (g_pw K N ad cy S) H) : ∀ i, i < N → ad i < H.size := fun i hi => (hP i _ (g_at ⟨hi, rfl⟩)).lt
def R_law : String := "TokenDoorsLaw"
def lw_P (b : Addr) (xs : List Int32) (args : Array Value) (s : State) : Prop := args = #[.ref b] ∧ s.IntsAt b xs ∧ xs.length ≤ 2560 ∧ (Jvm.Cond.and given_1 narrow_1).before args s = true
def lw_Q (_ : Array Value) (s : State) (o : Outcome) (t : State) : Prop := o = .returned (some (.int 1)) ∧ Framed s o t [] 600000 7302250
def lw_Z (below : List Frame) (a : Array Value) (s : State) : State → Prop := fun t => ∃ o, t.status = .running ∧ Ended t below o ∧ lw_Q a s o t
/-- the law's own end, with 1 on the stack, nothing written that was there before, its room as the claim has it -/
theorem lw_ret {p : Program} {l : Launch} {e : Env} {s : State} {m : MethodId} {below : List Frame} {meth : Method} {c : Code} {b : Nat} (hx : p.tables.exec = Jvm.exec) (hb : c.code = code) (hr : meth.sig.returnType = ret) (hlocks : meth.locks = false) {pc : Nat} {H : Heap} {ls : Array Slot} (hdg : decode code pc = .ok (.ireturn, 1)) : W p l e room_1 s m #[Value.ref b] below meth c H [] 600000 7302250 (lw_Z below #[Value.ref b] s) (F0 m pc ls [.int 1]) := by
  intro T hT X
  obtain ⟨fs, hret, hrun, hended, hW, hframe⟩ := X.leave (v := some (.int 1)) (hlocks := hlocks) (fun h => by rw [hr] at h; cases h)
  have hmeth' : T.vm.method? m = some meth := X.method'
  refine ⟨T.setFrames fs, ?_, .returned (some (.int 1)), hrun, hended, rfl, ⟨_, rfl⟩, hW, hframe⟩
  jvm_step X.here [X.here.top, hx, hb, hdg, hmeth', hr, ret, narrow_b1]
  (try refine ⟨rfl, ?_⟩); (try refine ⟨rfl, ?_⟩)
  first | (intro acts; rw [hret _ acts rfl rfl rfl]) | rw [hret _ _ rfl rfl rfl]
  exact Steps.refl _
/-- what holds at the law's entry: the machine, the code, the tables' words (any of lw_tbl by 'hts w (by decide +kernel)'), the script of L ints xs at the cell b, what the Statement gives of the start (any of its parts by flat_of_before) -/
def lw_At (p : Program) (s : State) (m : MethodId) (meth : Method) (c : Code) (b L : Nat) (xs : Nat → Int32) : Prop :=
  p.tables.exec = Jvm.exec ∧ c.code = code ∧ meth.sig.returnType = ret ∧ c.maxLocals = 4 ∧ s.vm.findClass R_law = some m.cls ∧ (∀ w ∈ lw_tbl, w.before #[Value.ref b] s = true) ∧ va_X b L xs s s.heap ∧ b < s.heap.size ∧ meth.locks = false ∧ (Jvm.Cond.and given_1 narrow_1).before #[Value.ref b] s = true
set_option maxRecDepth 100000 in
set_option maxHeartbeats 4000000 in
/-- THE LAW, from its entry, when the two answer alike -/
theorem whole_start_open (hops : ∃ (fu : Nat) (Rel : g_St → g_St → Prop), g_Ops fu Rel ∧ Rel (z_X7_init 0 1 g_S0) (z_X8_init 0 1 g_S0)) {p : Program} {e : Env} {s : State} {m : MethodId} {below : List Frame} {meth : Method} {c : Code} (l : Launch) {b L : Nat} {xs : Nat → Int32} (hL : L ≤ 2560) (C0 : lw_At p s m meth c b L xs) : W p l e room_1 s m #[Value.ref b] below meth c s.heap [] 0 0 (lw_Z below #[Value.ref b] s) (entryFrame m ([Value.ref b] : List Value).toArray 4) := by
  obtain ⟨fu, Rel, ops, rel0⟩ := hops
  obtain ⟨hx, hb, hr, hml, hown, hts0, hX, hbl, hlocks, hgv⟩ := C0
  have hts : ∀ w ∈ wsL_law, w.before #[Value.ref b] s = true := fun w h => hts0 w (wsL_law_in w h)
  have hAO := s_AO hts0
  obtain ⟨D, cy, hK⟩ := s_K hts hAO
  obtain ⟨zz, hZ⟩ := s_Z hts0 hgv
  have hl := lv_entry ([.ref b]) (n := 4) (Nat.le_of_ble_eq_true rfl)
  rw [lg_entry_eq]
  generalize (lg_sl ([.ref b]) ++ List.replicate (4 - (lg_sl ([.ref b])).length) Slot.unset).toArray = ls at hl ⊢
  have hl : lv_has ls 4 [(0, .ref b)] := hl
  refine s_new (K := g_KC) (cy := cy) hx hb hts g_cX7 inlX7 hown (hts (.classLink RL 7 RX7) m_L0) (hts _ m_L1) (hts _ m_L2) hK rfl df_X7 (Nat.le_of_ble_eq_true rfl) (Nat.le_of_ble_eq_true rfl) dL_law_0 (fun H z1 o1 hP => ?_)
  refine lv_dup hx hb dL_law_3 rfl ?_
  have hS : va_S (g_AL s) s.heap H [] := ⟨by omega, fun q h1 _ => o1 q h1, fun _ h => by cases h⟩
  refine va_callv (va_runI (As := []) (rest := [.ref s.heap.size]) (b := s.heap.size) ⟨hx, hb, hml, hown, hts⟩ (cn_X7_init (l := l) (D := D) (base := s.heap.size) (cy := cy) (ad := fun _ => s.heap.size) g_S0) (cwI 0 hts gL_law_X7_init rfl rfl rfl (hts _ m_L2) (hts _ m_L6) (hts _ m_L7) rfl hdn_X7_init ⟨Nat.le_of_ble_eq_true rfl, Nat.le_of_ble_eq_true rfl⟩) ⟨g_blindn, fun U hU hW => ⟨rfl, by rw [hU]; omega, g_S0_cl 1, by rw [hU]; exact hP, va_K.moved hW.alike hK, s_one (Nat.le_refl _), g_AOm hW hAO⟩⟩ rfl rfl hl.1 rfl (lv_room (Nat.le_of_ble_eq_true rfl)) dL_law_4 ⟨Nat.le_of_ble_eq_true rfl, Nat.le_of_ble_eq_true rfl⟩) hS (fun q _ h => h) (fun q h => h) (fun ad t H1 locs ht _ had hB hz _ hS => ?_)
  obtain ⟨-, hP, hD⟩ := hB
  rw [ht] at hP
  have ha0 : s.heap.size = ad 0 := (had 0 (by decide)).symm
  rw [ha0]
  refine lv_astore_n (lv' := [(1, .ref (ad 0)), (0, .ref b)]) hx hb dL_law_7 rfl hl (by decide) rfl (fun ls hl => ?_)
  refine s_new (K := g_KM) (cy := cy) hx hb hts g_cX8 inlX8 hown (hts (.classLink RL 10 RX8) m_L3) (hts _ m_L4) (hts _ m_L5) hK rfl df_X8 (Nat.le_of_ble_eq_true rfl) (Nat.le_of_ble_eq_true rfl) dL_law_8 (fun H2 z2 o2 hP2 => ?_)
  refine lv_dup hx hb dL_law_11 rfl ?_
  have hlt1 := s_lt hP
  have hle : s.heap.size ≤ H1.size := hS.1
  have hS2 : va_S (g_AL s) s.heap H2 locs := ⟨by omega, fun q h1 h2 => (o2 q (by omega)).trans (hS.2.1 q h1 h2), hS.2.2⟩
  refine va_callv (va_runI (As := []) (rest := [.ref H1.size]) (b := H1.size) ⟨hx, hb, hml, hown, hts⟩ (cn_X8_init (l := l) (D := D) (base := H1.size) (cy := cy) (ad := fun _ => H1.size) g_S0) (cwI 0 hts gL_law_X8_init rfl rfl rfl (hts _ m_L5) (hts _ m_L83) (hts _ m_L84) rfl hdn_X8_init ⟨Nat.le_of_ble_eq_true rfl, Nat.le_of_ble_eq_true rfl⟩) ⟨g_blindn, fun U hU hW => ⟨rfl, by rw [hU]; omega, g_S0_cl 1, by rw [hU]; exact hP2, va_K.moved hW.alike hK, s_one (Nat.le_refl _), g_AOm hW hAO⟩⟩ rfl rfl hl.1 rfl (lv_room (Nat.le_of_ble_eq_true rfl)) dL_law_12 ⟨Nat.le_of_ble_eq_true rfl, Nat.le_of_ble_eq_true rfl⟩) hS2 (fun q _ h => Nat.le_trans hle h) (fun q h => Nat.le_trans hle h) (fun ad2 t2 H3 locs3 ht2 _ had2 hB2 hz3 hk3 hS3 => ?_)
  obtain ⟨-, hM, hDm⟩ := hB2
  rw [ht2] at hM
  have hm0 : H1.size = ad2 0 := (had2 0 (by decide)).symm
  obtain ⟨inj1, low1⟩ := s_inj hD
  obtain ⟨inj2, low2⟩ := s_inj hDm
  have hP3 : va_P D vwCl (g_pw g_KC 90 ad cy (z_X7_init 0 1 g_S0)) H3 := g_pw_kept hP (fun i hi hz => by
    have h1 := hlt1 i hi
    rw [hk3 (ad i) (by omega) (by omega)]
    exact o2 (ad i) h1)
  rw [hm0]
  refine lv_astore_n (lv' := [(2, .ref (ad2 0)), (1, .ref (ad 0)), (0, .ref b)]) hx hb dL_law_15 rfl hl (by decide) rfl (fun ls hl => ?_)
  refine lv_iconst (v := 0) hx hb dL_law_16 (by decide) ?_
  refine lv_istore_n (lv' := [(3, .int 0), (2, .ref (ad2 0)), (1, .ref (ad 0)), (0, .ref b)]) hx hb dL_law_17 rfl hl (by decide) rfl (fun ls hl => ?_)
  refine W.widen (k := 600000) (n := 7302250) (Nat.le_of_ble_eq_true rfl) (Nat.le_of_ble_eq_true rfl) ?_
  let x : g_CX := (p, l, e, room_1, s, m, #[Value.ref b], below, meth, c, D, ad, cy, zz)
  have X : g_LX x ad2 b L xs := ⟨hx, hb, hml, hown, hts, hK, inj1, inj2, fun i j hi hj e => by
    have h1 := hlt1 i hi
    have h2 := low2 j hj
    have e : ad i = ad2 j := e
    omega, low1, fun i hi => Nat.le_trans hle (low2 i hi), rfl, hX, hbl, hZ⟩
  have hend : ∀ Sc Sm lv, g_LV x ad2 (lw_Z below #[Value.ref b] s) Sc Sm 1453 lv [] := by
    intro Sc Sm lv H locs ls _ _ hS _
    refine lv_iconst (v := 1) hx hb dL_law_1453 (by decide) ?_
    refine va_forget (fun q hq => hS.2.2 q hq) ?_
    exact lw_ret hx hb hr hlocks dL_law_1454
  have := law_loop X hL ops hend (L + 5) 0 _ _ (by omega) (by omega) rel0 H3 locs3 ls hP3 hM hS3 (lv_sub hl [3, 2, 1, 0] rfl)
  exact this
