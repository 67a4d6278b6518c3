def va_AOA (ty : FieldType) (U : State) : Prop := (Cond.arrayOver (.array ty)).before #[] U = true
theorem va_AOA.use {ty : FieldType} {A : Array Value} {U : State} (h : va_AOA ty U) : (Cond.arrayOver (.array ty)).before A U = true := h
/-! ===== BEGIN new T[n][m]: the outer array a place, the inner ones among the pooled ===== -/
/-- f, but v at every address of l -/
def vr_up {α : Type} (f : Nat → α) (l : List Nat) (v : α) : Nat → α := fun a => if a ∈ l then v else f a
theorem vr_up_in {α : Type} {f : Nat → α} {l : List Nat} {v : α} {a : Nat} (h : a ∈ l) : vr_up f l v a = v := if_pos h
theorem vr_up_ne {α : Type} {f : Nat → α} {l : List Nat} {v : α} {a : Nat} (h : a ∉ l) : vr_up f l v a = f a := if_neg h
theorem vr_rows {L l : List Nat} {f : Nat → va_E} {e : va_E} (h : ∀ a, a ∈ l → a ∉ L) : va_pl L f ++ l.map (fun a => (a, e)) = va_pl (L ++ l) (vr_up f l e) := by
  unfold va_pl
  rw [List.map_append]
  congr 1
  · apply List.map_congr_left
    intro a ha
    rw [vr_up_ne (fun q => h a q ha)]
  · apply List.map_congr_left
    intro a ha
    rw [vr_up_in ha]
theorem vr_lay {X rows : va_W} {x : Nat × va_E} {pl : va_W} {D : va_G} {cl : List vw_C} {H : Heap} (hP : va_P D cl (((X ++ pl) ++ [x]) ++ rows) H) : va_P D cl ((X ++ [x]) ++ (pl ++ rows)) H := by
  rw [List.append_assoc (X ++ pl)] at hP
  have h := va_P.swap hP
  rw [← List.append_assoc X] at h
  have h2 := va_P.swap h
  rw [List.append_assoc (X ++ [x])] at h2
  exact h2
theorem vr_layD {X rows : va_W} {x : Nat × va_E} {pl : va_W} {A : Nat → Prop} (hD : va_D A (((X ++ pl) ++ [x]) ++ rows)) : va_D A ((X ++ [x]) ++ (pl ++ rows)) := by
  rw [List.append_assoc (X ++ pl)] at hD
  have h := va_D.swap hD
  rw [← List.append_assoc X] at h
  have h2 := va_D.swap h
  rw [List.append_assoc (X ++ [x])] at h2
  exact h2
theorem vr_outer (c : ClassId) (N h0 : Nat) : ∀ i : Nat, Jvm.Free.Multi.outerC c N h0 i = arrV c N (fun j => va_rf (if j < i then some (h0 + 1 + j) else none))
  | 0 => by
    show ({ cls := c, slots := Array.replicate N .null, vm := .none } : Cell) = _
    rw [arrV_new]
    refine congrArg (arrV c N) (funext fun j => ?_)
    simp [va_rf]
  | i + 1 => by
    show (Jvm.Free.Multi.outerC c N h0 i).setSlot i (.ref (h0 + 1 + i)) = _
    rw [vr_outer c N h0 i, arrV_store]
    refine congrArg (arrV c N) (funext fun j => ?_)
    by_cases e : j = i
    · subst e
      simp [updV, va_rf]
    · by_cases h : j < i
      · simp [updV, e, h, Nat.lt_succ_of_lt h]
      · simp [updV, e, h, show ¬ j < i + 1 by omega]
section VGM
variable {p : Program} {l : Launch} {e : Env} {R : Room} {s : State} {m : MethodId} {args : Array Value} {below : List Frame} {meth : Method} {c : Code} {H : Heap} {locs : List Loc} {cells slots : Nat} {Q : State → Prop}
variable {cc : ByteArray} {pc : Nat} {ls : Array Slot} {rest : List Value} {D : va_G} {cl : List vw_C} {A : Nat → Prop} {a : Nat} {tys : List (ClassId × FieldType)} {ws : va_W} {H0 : Heap}
theorem va_mna {X : va_W} {L : List Nat} {f : Nat → va_E} {cc : ByteArray} (hexec : p.tables.exec = Jvm.exec) (hb : c.code = cc) {own : String} {index : Nat} {ty : FieldType} {cy : ClassId} (hown : s.vm.findClass own = some m.cls) (hclink : (Cond.classLink own index ("[" ++ (FieldType.array ty).toString)).before args s = true) (hover : va_AOA ty s) (harr : (Cond.arrayClass ty).before args s = true) (hcy : s.vm.findClass (FieldType.array ty).toString = some cy)
    (hK : va_K D cl tys s) (hP : va_P D cl (X ++ va_pl L f) H) (hD : va_D A (X ++ va_pl L f)) (hS : va_S A H0 H locs) (hA : ∀ q, H0.size ≤ q → A q) {n k : Int32} {N' K' : Nat} {z : vp_A} (hn : ¬ n < 0) (hk : ¬ k < 0) (hN : n.toNatClampNeg = N') (hM : k.toNatClampNeg = K')
    (hb1 : N' * 4 ≤ 536870912) (hb2 : K' * componentBytes ty ≤ 536870912) (hb3 : K' ≤ 536870912) (hdf : fits ty (defaultValue ty) = true) (hdd : (defaultValue ty).isDefault = true) (hcells : cells + (1 + N') ≤ R.cells) (hslots : slots + (N' + N' * K') ≤ R.slots) (hz : ∀ c : ClassId, Jvm.Free.Multi.innerC c K' (defaultValue ty) = vp_cell c z) (hdg : decode cc pc = .ok (.multianewarray index 2, 4))
    (kk : ∀ (q : Nat) (r : Nat → Nat) (cA : ClassId) (H1 : Heap), (∀ i j : Nat, i < N' → j < N' → r i = r j → i = j) → (∀ i : Nat, i < N' → r i ∉ L) → va_K D cl (tys ++ [(cA, .array ty)]) s →
      va_P D cl ((X ++ [(q, .inl (cA, N', .inr (.inr (.inr (.inr (fun i => if i < N' then some (r i) else none))))))]) ++ va_pl (L ++ (List.range N').map r) (vr_up f ((List.range N').map r) (.inl (cy, z)))) H1 → va_D A ((X ++ [(q, .inl (cA, N', .inr (.inr (.inr (.inr (fun i => if i < N' then some (r i) else none))))))]) ++ va_pl (L ++ (List.range N').map r) (vr_up f ((List.range N').map r) (.inl (cy, z)))) → va_S A H0 H1 locs →
      W p l e R s m args below meth c H1 locs (cells + 1 + N') (slots + N' + N' * K') Q (F0 m (pc + 4) ls (.ref q :: rest))) : W p l e R s m args below meth c H locs cells slots Q (F0 m pc ls (.int k :: .int n :: rest)) := by
  subst hN
  subst hM
  intro T hT Xs
  obtain ⟨vm₁, cA, comp, -, fA, fC, hO, -, X', step⟩ := Xs.multianewarray2F hexec hown hclink (va_AOA.use hover) harr (g := F0 m pc ls (.int k :: .int n :: rest)) rfl (by rw [hb]; exact hdg) rfl hn hk hb1 hb2 hb3 hdf hdd hcells hslots
  have ec : some cy = some comp := hcy.symm.trans fC
  cases ec
  generalize hF : Jvm.Free.Multi.fill (T.setVm vm₁) cA cy n.toNatClampNeg k.toNatClampNeg (defaultValue ty) n.toNatClampNeg = F at X' step
  have hTh : (T.setVm vm₁).heap = H := hT
  obtain ⟨f1, f2, -, -⟩ := Jvm.Free.Multi.fill_facts (T.setVm vm₁) cA cy n.toNatClampNeg k.toNatClampNeg (defaultValue ty) n.toNatClampNeg
  rw [hF, hTh] at f1 f2
  have hold : ∀ x : Nat, x < H.size → F.heap[x]? = H[x]? := fun x hx => by
    have := Jvm.Free.Multi.fill_old (T.setVm vm₁) cA cy n.toNatClampNeg k.toNatClampNeg (defaultValue ty) (a := x) (by rw [hTh]; exact hx) n.toNatClampNeg
    rw [hF, hTh] at this
    exact this
  have hrow : ∀ j : Nat, j < n.toNatClampNeg → F.heap[H.size + 1 + j]? = some (vp_cell cy z) := fun j hj => by
    have := Jvm.Free.Multi.fill_inner (T.setVm vm₁) cA cy n.toNatClampNeg k.toNatClampNeg (defaultValue ty) n.toNatClampNeg j hj
    rw [hF, hTh, hz] at this
    exact this
  have hout : Jvm.Free.Multi.outerC cA n.toNatClampNeg H.size n.toNatClampNeg = vp_cell cA (n.toNatClampNeg, .inr (.inr (.inr (.inr (fun i => if i < n.toNatClampNeg then some (H.size + 1 + i) else none))))) := by
    rw [vp_cell_q]
    exact vr_outer cA n.toNatClampNeg H.size n.toNatClampNeg
  rw [hout] at f2
  have hlt : ∀ a, a ∈ L → a < H.size := fun a ha => by
    obtain ⟨k9, hk9⟩ := va_pl_get (X := X) (f := f) ha
    exact (hP k9 _ hk9).lt
  have hnl : ∀ i : Nat, i < n.toNatClampNeg → H.size + 1 + i ∉ L := fun i _ h => by
    have := hlt _ h
    omega
  have hnm : ∀ a, a ∈ (List.range n.toNatClampNeg).map (fun i => H.size + 1 + i) → a ∉ L := fun a ha h => by
    obtain ⟨i, -, rfl⟩ := List.mem_map.mp ha
    have := hlt _ h
    omega
  have hP0 : va_P D cl (X ++ va_pl L f) F.heap := hP.kept (fun k9 x hx => hold x.1 ((hP k9 x hx).lt))
  have hP1 : va_P D cl ((X ++ va_pl L f) ++ [(H.size, .inl (cA, n.toNatClampNeg, .inr (.inr (.inr (.inr (fun i => if i < n.toNatClampNeg then some (H.size + 1 + i) else none))))))]) F.heap := hP0.app (fun k9 x hx => by
    have h0 : k9 < 1 := (List.getElem?_eq_some_iff.mp hx).1
    rw [show k9 = 0 by omega] at hx
    cases hx
    exact f2)
  have hP2 : va_P D cl (((X ++ va_pl L f) ++ [(H.size, .inl (cA, n.toNatClampNeg, .inr (.inr (.inr (.inr (fun i => if i < n.toNatClampNeg then some (H.size + 1 + i) else none))))))]) ++ ((List.range n.toNatClampNeg).map (fun i => H.size + 1 + i)).map (fun a => (a, .inl (cy, z)))) F.heap := hP1.app (fun k9 x hx => by
    obtain ⟨a, ha, rfl⟩ := List.mem_map.mp (List.mem_of_getElem? hx)
    obtain ⟨i, hi, rfl⟩ := List.mem_map.mp ha
    exact hrow i (List.mem_range.mp hi))
  have hD2 : va_D A (((X ++ va_pl L f) ++ [(H.size, .inl (cA, n.toNatClampNeg, .inr (.inr (.inr (.inr (fun i => if i < n.toNatClampNeg then some (H.size + 1 + i) else none))))))]) ++ ((List.range n.toNatClampNeg).map (fun i => H.size + 1 + i)).map (fun a => (a, .inl (cy, z)))) := by
    have hD1 := hD.push (e := .inl (cA, n.toNatClampNeg, .inr (.inr (.inr (.inr (fun i => if i < n.toNatClampNeg then some (H.size + 1 + i) else none)))))) hP rfl (hA _ hS.1)
    generalize hW1 : (X ++ va_pl L f) ++ [(H.size, .inl (cA, n.toNatClampNeg, .inr (.inr (.inr (.inr (fun i => if i < n.toNatClampNeg then some (H.size + 1 + i) else none))))))] = W1 at hD1 hP1 ⊢
    have hle : ∀ (k9 : Nat) (x : Nat × va_E), W1[k9]? = some x → x.1 ≤ H.size := fun k9 x hx => by
      rw [← hW1] at hx
      by_cases hl : k9 < (X ++ va_pl L f).length
      · rw [List.getElem?_append_left hl] at hx
        exact Nat.le_of_lt ((hP k9 x hx).lt)
      · rw [List.getElem?_append_right (by omega)] at hx
        have h0 : k9 - (X ++ va_pl L f).length < 1 := (List.getElem?_eq_some_iff.mp hx).1
        rw [show k9 - (X ++ va_pl L f).length = 0 by omega] at hx
        cases hx
        exact Nat.le_refl _
    have hr : ∀ (k9 : Nat) (x : Nat × va_E), (((List.range n.toNatClampNeg).map (fun i => H.size + 1 + i)).map (fun a => ((a, .inl (cy, z)) : Nat × va_E)))[k9]? = some x → x.1 = H.size + 1 + k9 := fun k9 x hx => by
      rw [List.getElem?_map, List.getElem?_map] at hx
      by_cases h9 : k9 < n.toNatClampNeg
      · rw [List.getElem?_range h9] at hx
        cases hx
        rfl
      · have hn0 : (List.range n.toNatClampNeg)[k9]? = none := List.getElem?_eq_none (by rw [List.length_range]; omega)
        rw [hn0] at hx
        cases hx
    refine ⟨fun i j x y hi hj hxy => ?_, fun k9 x hx => ?_⟩
    · by_cases h1 : i < W1.length <;> by_cases h2 : j < W1.length
      · rw [List.getElem?_append_left h1] at hi
        rw [List.getElem?_append_left h2] at hj
        exact hD1.1 i j x y hi hj hxy
      · rw [List.getElem?_append_left h1] at hi
        rw [List.getElem?_append_right (by omega)] at hj
        have := hle _ _ hi
        have := hr _ _ hj
        omega
      · rw [List.getElem?_append_right (by omega)] at hi
        rw [List.getElem?_append_left h2] at hj
        have := hle _ _ hj
        have := hr _ _ hi
        omega
      · rw [List.getElem?_append_right (by omega)] at hi hj
        have := hr _ _ hi
        have := hr _ _ hj
        omega
    · by_cases h1 : k9 < W1.length
      · rw [List.getElem?_append_left h1] at hx
        exact hD1.2 k9 x hx
      · rw [List.getElem?_append_right (by omega)] at hx
        have := hr _ _ hx
        exact hA _ (by have := hS.1; omega)
  have hAr : ArrOfT s cA (.array ty) := fun N9 z9 => by
    obtain ⟨-, k9, hk9, cm9, hkk9⟩ := (hO 0 0 0).1
    exact ⟨(fun q hq => by cases hq), k9, hk9, cm9, hkk9⟩
  have hK2 : va_K D cl (tys ++ [(cA, .array ty)]) s := ⟨hK.1, fun k9 x hx => by
    by_cases hl : k9 < tys.length
    · rw [List.getElem?_append_left hl] at hx
      exact hK.2 k9 x hx
    · rw [List.getElem?_append_right (by omega)] at hx
      have h0 : k9 - tys.length < 1 := (List.getElem?_eq_some_iff.mp hx).1
      rw [show k9 - tys.length = 0 by omega] at hx
      cases hx
      exact ⟨hAr, fA⟩⟩
  obtain ⟨t, a1, b1⟩ := kk H.size (fun i => H.size + 1 + i) cA F.heap (fun i j _ _ h => by have h9 : H.size + 1 + i = H.size + 1 + j := h; omega) hnl hK2 (by rw [← vr_rows hnm]; exact vr_lay hP2) (by rw [← vr_rows hnm]; exact vr_layD hD2) ⟨by rw [f1]; have := hS.1; omega, fun x h1 h2 => (hold x (Nat.lt_of_lt_of_le h1 hS.1)).trans (hS.2.1 x h1 h2), hS.2.2⟩ F rfl X'
  refine ⟨t, step t ?_, b1⟩
  have e : T.heap.size = H.size := by rw [hT]
  rw [e]
  exact a1
end VGM
/-! ===== END ===== -/

/-! ===== making: the pool grows by one at its end ===== -/
theorem g_pw_succ {K : Nat → g_Kd} {N : Nat} {ad : Nat → Nat} {cy : Nat → ClassId} {S : g_St} : g_pw K (N + 1) ad cy S = g_pw K N ad cy S ++ [(ad N, g_ev ad cy S N (K N))] := by
  simp [g_pw, List.range_succ]
/-- what is made refers to what is made; what isn't made yet holds nothing -/
def g_cl (N : Nat) (S : g_St) : Prop := (∀ i, N ≤ i → (∀ k, S.1 i k = 0) ∧ ∀ k, S.2 i k = none) ∧ ∀ i k b, S.2 i k = some b → b < N
theorem g_cl_u1 {N : Nat} {S : g_St} {i k : Nat} {v : Int32} (h : g_cl N S) (hi : i < N) : g_cl N (g_u S.1 i k v, S.2) := ⟨fun a ha => ⟨fun j => by
  have : a ≠ i := by omega
  show g_u S.1 i k v a j = 0
  rw [g_u_ne this]
  exact (h.1 a ha).1 j, (h.1 a ha).2⟩, h.2⟩
theorem g_cl_u2 {N : Nat} {S : g_St} {i k b : Nat} (h : g_cl N S) (hi : i < N) (hb : b < N) : g_cl N (S.1, g_u S.2 i k (some b)) := by
  refine ⟨fun a ha => ⟨(h.1 a ha).1, fun j => ?_⟩, fun a j q hq => ?_⟩
  · have : a ≠ i := by omega
    show g_u S.2 i k (some b) a j = none
    rw [g_u_ne this]
    exact (h.1 a ha).2 j
  · have hq : g_u S.2 i k (some b) a j = some q := hq
    unfold g_u at hq
    by_cases e : a = i ∧ j = k
    · rw [if_pos e] at hq
      cases hq
      exact hb
    · rw [if_neg e] at hq
      exact h.2 a j q hq
theorem g_cl_s {N : Nat} {S : g_St} (h : g_cl N S) : g_cl (N + 1) S := ⟨fun i hi => h.1 i (by omega), fun i k b hb => Nat.lt_succ_of_lt (h.2 i k b hb)⟩
def g_zero (bs : List Bool) : List Value := bs.map (fun b => if b = true then .null else .int 0)
theorem g_vals_zero {ad : Nat → Nat} {S : g_St} {i : Nat} {bs : List Bool} (h1 : ∀ k, S.1 i k = 0) (h2 : ∀ k, S.2 i k = none) : g_vals ad S i bs = g_zero bs := by
  apply List.ext_getElem?
  intro j
  unfold g_vals g_zero
  rw [List.getElem?_mapIdx, List.getElem?_map, h1 j, h2 j]
  rfl
theorem g_vals_setr {ad : Nat → Nat} {S : g_St} {i k b : Nat} {bs : List Bool} (h : bs[k]? = some true) : (g_vals ad S i bs).set k (.ref (ad b)) = g_vals ad (S.1, g_u S.2 i k (some b)) i bs := by
  apply List.ext_getElem?
  intro j
  have hk : k < bs.length := (List.getElem?_eq_some_iff.mp h).1
  by_cases hj : k = j
  · subst hj
    rw [List.getElem?_set_self (by rw [g_vals_len]; exact hk), g_vals_r h]
    simp [g_u, va_rf]
  · rw [List.getElem?_set_ne hj]
    unfold g_vals
    rw [List.getElem?_mapIdx, List.getElem?_mapIdx]
    have e : g_u S.2 i k (some b) i j = S.2 i j := by simp [g_u, Ne.symm hj]
    cases hb : bs[j]? with
    | none => rfl
    | some q =>
      show some _ = some _
      cases q
      · rfl
      · show some (va_rf ((S.2 i j).map ad)) = some (va_rf ((g_u S.2 i k (some b) i j).map ad))
        rw [e]
/-- another end of the pool's addresses: what stands is the same -/
theorem g_map_up {ad : Nat → Nat} {N q : Nat} {r : Option Nat} (h : ∀ b, r = some b → b < N) : r.map (va_up ad N q) = r.map ad := by
  cases r with
  | none => rfl
  | some b =>
    have hb := h b rfl
    show some (va_up ad N q b) = some (ad b)
    rw [va_up_ne _ _ (by omega)]
theorem g_ev_up {ad : Nat → Nat} {cy : Nat → ClassId} {S : g_St} {N q i : Nat} {kd : g_Kd} (h : ∀ k b, S.2 i k = some b → b < N) : g_ev (va_up ad N q) cy S i kd = g_ev ad cy S i kd := by
  have e : ∀ k, (S.2 i k).map (va_up ad N q) = (S.2 i k).map ad := fun k => g_map_up (h k)
  unfold g_ev g_vals
  simp only [e]
theorem g_pw_up {K : Nat → g_Kd} {N q : Nat} {ad : Nat → Nat} {cy : Nat → ClassId} {S : g_St} (h : g_cl N S) : g_pw K N (va_up ad N q) cy S = g_pw K N ad cy S := by
  unfold g_pw
  apply List.map_congr_left
  intro i hi
  have hi := List.mem_range.mp hi
  rw [va_up_ne _ _ (by omega), g_ev_up (h.2 i)]
theorem g_pw_new {K : Nat → g_Kd} {N q : Nat} {ad : Nat → Nat} {cy : Nat → ClassId} {S : g_St} (h : g_cl N S) : g_pw K N ad cy S ++ [(q, g_ev ad cy S N (K N))] = g_pw K (N + 1) (va_up ad N q) cy S := by
  rw [g_pw_succ, g_pw_up h, va_up_self, g_ev_up (h.2 N)]
def g_isAr (comp : ClassId) (x : Class) : Bool := match x.kind with
  | .array component _ => component == comp
  | _ => false
def g_arF (b : Bool) (k : Class) : Bool := match k.kind with
  | .array _ ty => decide (ty = FieldType.array .int) && b
  | _ => false
def g_aov (vm : Vm) : Option Bool := (vm.findClass (FieldType.array .int).toString).bind fun comp => (vm.classes.findIdx? (g_isAr comp)).bind fun c => (vm.classes[c]?).map (g_arF (decide (vm.findClass ("[" ++ (FieldType.array .int).toString) = some c)))
theorem g_isAr_bare (vm : Vm) (comp : ClassId) : vm.bare.classes.findIdx? (g_isAr comp) = vm.classes.findIdx? (g_isAr comp) := va_idx_bare vm comp
theorem g_arF_bare (vm : Vm) (c : Nat) (b : Bool) : (vm.bare.classes[c]?).map (g_arF b) = (vm.classes[c]?).map (g_arF b) := by
  simp only [Vm.bare, Array.getElem?_map, Option.map_map]
  rfl
theorem g_aoA {u U : State} (hvm : u.vm.Alike U.vm) (h : (Cond.arrayOver (.array .int)).before #[] u = true) : (Cond.arrayOver (.array .int)).before #[] U = true := by
  have e : ∀ V : State, (Cond.arrayOver (.array .int)).before #[] V = (g_aov V.vm == some true) := fun V => rfl
  rw [e] at h ⊢
  have key : g_aov U.vm = g_aov u.vm := by
    unfold g_aov
    have hi : ∀ comp, U.vm.classes.findIdx? (g_isAr comp) = u.vm.classes.findIdx? (g_isAr comp) := fun comp => by
      rw [← g_isAr_bare U.vm, ← g_isAr_bare u.vm, hvm.bare_eq]
    have hk : ∀ (c : Nat) (b : Bool), (U.vm.classes[c]?).map (g_arF b) = (u.vm.classes[c]?).map (g_arF b) := fun c b => by
      rw [← g_arF_bare U.vm, ← g_arF_bare u.vm, hvm.bare_eq]
    simp only [hvm.findClass, hi, hk]
  rw [key]
  exact h
/-- the array classes over objects and over int[] -/
def g_AO (U : State) : Prop := va_AO RX1 U ∧ va_AO RX0 U ∧ va_AO RX2 U ∧ va_AO RX4 U ∧ (Cond.arrayOver (.array .int)).before #[] U = true
theorem g_AOm {s U : State} (hW : s.WarmedH U.vm) (h : g_AO s) : g_AO U := ⟨h.1.moved hW.alike, h.2.1.moved hW.alike, h.2.2.1.moved hW.alike, h.2.2.2.1.moved hW.alike, g_aoA hW.alike h.2.2.2.2⟩
theorem g_AOs {U V : State} (hv : V.vm = U.vm) (h : g_AO U) : g_AO V := by
  have al : U.vm.Alike V.vm := by rw [hv]; exact Vm.Alike.refl _
  exact ⟨h.1.moved al, h.2.1.moved al, h.2.2.1.moved al, h.2.2.2.1.moved al, g_aoA al h.2.2.2.2⟩
def g_B (K : Nat → g_Kd) (x : g_CX) (base nL : Nat) (a0 : Nat → Nat) (N0 : Nat) (Q : State → Prop) (N : Nat) (S : g_St) (c sl : Nat) (pc : Nat) (lv : (Nat → Nat) → List (Nat × Value)) (st : (Nat → Nat) → List Value) : Prop :=
  ∀ (ad : Nat → Nat) (H : Heap) (locs : List Loc) (ls : Array Slot), (∀ i, i < N0 → ad i = a0 i) → g_cl N S → va_P (g_D x) vwCl (g_pw K N ad (g_cy x) S) H → va_D (fun q => base ≤ q) (g_pw K N ad (g_cy x) S) → va_S (fun q => base ≤ q) (g_s x).heap H locs → lv_has ls nL (lv ad) → W (g_p x) (g_l x) (g_e x) (g_R x) (g_s x) (g_m x) (g_args x) (g_below x) (g_meth x) (g_c x) H locs c sl Q (F0 (g_m x) pc ls (st ad))
def g_Y (base : Nat) (x : g_CX) (cc : ByteArray) (own : String) (nL : Nat) (Ts : List Cond) (rm : Room) : Prop :=
  (g_p x).tables.exec = Jvm.exec ∧ (g_c x).code = cc ∧ (g_c x).maxLocals = nL ∧ (g_s x).vm.findClass own = some (g_m x).cls ∧ (∀ w ∈ Ts, w.before (g_args x) (g_s x) = true) ∧ va_K (g_D x) vwCl (g_tys (g_cy x)) (g_s x) ∧ (∀ q : Nat, (g_s x).heap.size ≤ q → base ≤ q) ∧ g_R x = rm ∧ (g_meth x).locks = false ∧ (g_meth x).sig.returnType = none ∧ (g_meth x).name = "<init>" ∧ g_AO (g_s x)
/-- a constructor's contract -/
abbrev g_Pn (K : Nat → g_Kd) (D : va_G) (base : Nat) (cy : Nat → ClassId) (av : List Value) (ad : Nat → Nat) (N : Nat) (S : g_St) : Array Value → State → Prop := va_Pc av (fun U => base ≤ U.heap.size ∧ g_cl N S ∧ va_P D vwCl (g_pw K N ad cy S) U.heap ∧ va_K D vwCl (g_tys cy) U ∧ va_D (fun q => base ≤ q) (g_pw K N ad cy S) ∧ g_AO U)
abbrev g_Qn (K : Nat → g_Kd) (D : va_G) (base : Nat) (cy : Nat → ClassId) (a0 : Nat → Nat) (N0 N : Nat) (S : g_St) : Array Value → State → Outcome → State → Prop := va_Qv (fun (u : Nat → Nat) => ∀ i, i < N0 → u i = a0 i) (fun u t => g_cl N S ∧ va_P D vwCl (g_pw K N u cy S) t.heap ∧ va_D (fun q => base ≤ q) (g_pw K N u cy S)) (fun q => base ≤ q)
def g_Mn (l : Launch) (K : Nat → g_Kd) (D : va_G) (base : Nat) (cy : Nat → ClassId) (y : MethodName) (ws : List Cond) (rm : Room) (av : List Value) (ad : Nat → Nat) (N : Nat) (S : g_St) (N1 : Nat) (S1 : g_St) (mc ms : Nat) : Prop := Met l y ws rm (g_Pn K D base cy av ad N S) (g_Qn K D base cy ad N N1 S1) mc ms (fun q => base ≤ q)
abbrev g_qn (K : Nat → g_Kd) (x : g_CX) (base : Nat) (a0 : Nat → Nat) (N0 N : Nat) (S : g_St) (mc ms : Nat) : State → Prop := MQ (g_below x) (g_Qn K (g_D x) base (g_cy x) a0 N0 N S) (g_args x) (g_s x) mc ms (fun q => base ≤ q)
theorem g_blindn {K : Nat → g_Kd} {D : va_G} {base : Nat} {ad : Nat → Nat} {cy : Nat → ClassId} {av : List Value} {N : Nat} {S : g_St} : FrameBlind (g_Pn K D base cy av ad N S) := fun a U g mk q => ⟨q.1, q.2.1, q.2.2.1, q.2.2.2.1, va_K.moved (u := U) (U := U.calling g mk a) (Vm.Alike.refl U.vm) q.2.2.2.2.1, q.2.2.2.2.2.1, g_AOs (U := U) rfl q.2.2.2.2.2.2⟩
theorem g_set2 {K : Nat → g_Kd} {N : Nat} {ad : Nat → Nat} {cy : Nat → ClassId} {S S' : g_St} {i : Nat} {kd : g_Kd} {e : va_E} {D : va_G} {H : Heap} {A : Nat → Prop} (h : i < N ∧ K i = kd) (h1 : ∀ a, a ≠ i → S'.1 a = S.1 a) (h2 : ∀ a, a ≠ i → S'.2 a = S.2 a) (he : e = g_ev ad cy S' i kd) (hP : va_P D vwCl ((g_pw K N ad cy S).set i (ad i, e)) H) (hD : va_D A ((g_pw K N ad cy S).set i (ad i, e))) : va_P D vwCl (g_pw K N ad cy S') H ∧ va_D A (g_pw K N ad cy S') := by
  rw [g_set h h1 h2 he] at hP hD
  exact ⟨hP, hD⟩
section GB
variable {K : Nat → g_Kd} {x : g_CX} {base : Nat} {cc : ByteArray} {own : String} {nL : Nat} {a0 : Nat → Nat} {N0 : Nat} {Ts : List Cond} {rm : Room} {Q : State → Prop} {N : Nat} {S : g_St} {c sl : Nat} {pc : Nat} {lv lv' : (Nat → Nat) → List (Nat × Value)} {rest : (Nat → Nat) → List Value}

theorem n_iconst (X : g_Y base x cc own nL Ts rm) {n : Int} {v : Int32} (d : decode cc pc = .ok (.iconst n, 1)) (hv : Int32.ofInt n = v)
    (k : g_B K x base nL a0 N0 Q N S c sl (pc + 1) lv (fun ad => .int v :: rest ad)) : g_B K x base nL a0 N0 Q N S c sl pc lv rest := fun ad H locs ls h0 hc hP hD hS hl => lv_iconst X.1 X.2.1 d hv (k ad H locs ls h0 hc hP hD hS hl)
theorem n_bipush (X : g_Y base x cc own nL Ts rm) {n : Int} {v : Int32} (d : decode cc pc = .ok (.bipush n, 2)) (hv : (Int8.ofInt n).toInt32 = v)
    (k : g_B K x base nL a0 N0 Q N S c sl (pc + 2) lv (fun ad => .int v :: rest ad)) : g_B K x base nL a0 N0 Q N S c sl pc lv rest := fun ad H locs ls h0 hc hP hD hS hl => lv_bipush X.1 X.2.1 d hv (k ad H locs ls h0 hc hP hD hS hl)
theorem n_sipush (X : g_Y base x cc own nL Ts rm) {n : Int} {v : Int32} (d : decode cc pc = .ok (.sipush n, 3)) (hv : (Int16.ofInt n).toInt32 = v)
    (k : g_B K x base nL a0 N0 Q N S c sl (pc + 3) lv (fun ad => .int v :: rest ad)) : g_B K x base nL a0 N0 Q N S c sl pc lv rest := fun ad H locs ls h0 hc hP hD hS hl => lv_sipush X.1 X.2.1 d hv (k ad H locs ls h0 hc hP hD hS hl)
theorem n_iload_n (X : g_Y base x cc own nL Ts rm) {i : Fin 4} {v : Int32} (d : decode cc pc = .ok (.iload_n i, 1)) (j : Nat) (h : ∀ ad, (lv ad)[j]? = some ((i : Nat), .int v))
    (k : g_B K x base nL a0 N0 Q N S c sl (pc + 1) lv (fun ad => .int v :: rest ad)) : g_B K x base nL a0 N0 Q N S c sl pc lv rest := fun ad H locs ls h0 hc hP hD hS hl => lv_iload_n X.1 X.2.1 d rfl (lv_at hl j (h ad)) (k ad H locs ls h0 hc hP hD hS hl)
theorem n_aload_n (X : g_Y base x cc own nL Ts rm) {i : Fin 4} {v : Nat} (d : decode cc pc = .ok (.aload_n i, 1)) (j : Nat) (h : ∀ ad, (lv ad)[j]? = some ((i : Nat), .ref (ad v)))
    (k : g_B K x base nL a0 N0 Q N S c sl (pc + 1) lv (fun ad => .ref (ad v) :: rest ad)) : g_B K x base nL a0 N0 Q N S c sl pc lv rest := fun ad H locs ls h0 hc hP hD hS hl => lv_aload_n X.1 X.2.1 d rfl (lv_at hl j (h ad)) (k ad H locs ls h0 hc hP hD hS hl)
theorem n_istore_n (X : g_Y base x cc own nL Ts rm) (lv' : (Nat → Nat) → List (Nat × Value)) {i : Fin 4} {v : Int32} (d : decode cc pc = .ok (.istore_n i, 1)) (hn : (i : Nat) < nL) (hl2 : ∀ ad, ((i : Nat), Value.int v) :: (lv ad).filter (fun q => !(q.1 == (i : Nat)) && !(q.1 + 1 == (i : Nat) && q.2.category == 2)) = lv' ad)
    (k : g_B K x base nL a0 N0 Q N S c sl (pc + 1) lv' rest) : g_B K x base nL a0 N0 Q N S c sl pc lv (fun ad => .int v :: rest ad) := fun ad H locs ls h0 hc hP hD hS hl => lv_istore_n X.1 X.2.1 d rfl hl hn (hl2 ad) (fun ls hl => k ad H locs ls h0 hc hP hD hS hl)
theorem n_iinc (X : g_Y base x cc own nL Ts rm) (lv' : (Nat → Nat) → List (Nat × Value)) {i : Nat} {n : Int} {a v : Int32} (d : decode cc pc = .ok (.iinc i n, 3)) (j : Nat) (hj : ∀ ad, (lv ad)[j]? = some (i, .int a)) (hv : a + Int32.ofInt n = v) (hn : i < nL) (hl2 : ∀ ad, (i, Value.int v) :: (lv ad).filter (fun q => !(q.1 == i) && !(q.1 + 1 == i && q.2.category == 2)) = lv' ad)
    (k : g_B K x base nL a0 N0 Q N S c sl (pc + 3) lv' rest) : g_B K x base nL a0 N0 Q N S c sl pc lv rest := fun ad H locs ls h0 hc hP hD hS hl => lv_iinc X.1 X.2.1 d hl (hj ad) hv hn (hl2 ad) (fun ls hl => k ad H locs ls h0 hc hP hD hS hl)
theorem n_goto (X : g_Y base x cc own nL Ts rm) {off : Int} (tgt : Nat) (d : decode cc pc = .ok (.goto off, 3)) (ht : (pc : Int) + off = (tgt : Int))
    (k : g_B K x base nL a0 N0 Q N S c sl tgt lv rest) : g_B K x base nL a0 N0 Q N S c sl pc lv rest := fun ad H locs ls h0 hc hP hD hS hl => lv_goto X.1 X.2.1 d ht (k ad H locs ls h0 hc hP hD hS hl)
theorem n_ge_t (X : g_Y base x cc own nL Ts rm) {off : Int} (tgt : Nat) {a b : Int32} (d : decode cc pc = .ok (.if_icmp .ge off, 3)) (ht : (pc : Int) + off = (tgt : Int)) (h : b ≤ a)
    (k : g_B K x base nL a0 N0 Q N S c sl tgt lv rest) : g_B K x base nL a0 N0 Q N S c sl pc lv (fun ad => .int b :: .int a :: rest ad) := fun ad H locs ls h0 hc hP hD hS hl => lv_icmp_ge X.1 X.2.1 d ht (fun _ => k ad H locs ls h0 hc hP hD hS hl) (fun q => absurd h q)
theorem n_ge_f (X : g_Y base x cc own nL Ts rm) {off : Int} (tgt : Nat) {a b : Int32} (d : decode cc pc = .ok (.if_icmp .ge off, 3)) (ht : (pc : Int) + off = (tgt : Int)) (h : ¬ b ≤ a)
    (k : g_B K x base nL a0 N0 Q N S c sl (pc + 3) lv rest) : g_B K x base nL a0 N0 Q N S c sl pc lv (fun ad => .int b :: .int a :: rest ad) := fun ad H locs ls h0 hc hP hD hS hl => lv_icmp_ge X.1 X.2.1 d ht (fun q => absurd q h) (fun _ => k ad H locs ls h0 hc hP hD hS hl)
theorem n_dupr (X : g_Y base x cc own nL Ts rm) {a : Nat} (d : decode cc pc = .ok (.dup, 1))
    (k : g_B K x base nL a0 N0 Q N S c sl (pc + 1) lv (fun ad => .ref (ad a) :: .ref (ad a) :: rest ad)) : g_B K x base nL a0 N0 Q N S c sl pc lv (fun ad => .ref (ad a) :: rest ad) := fun ad H locs ls h0 hc hP hD hS hl => lv_dup X.1 X.2.1 d rfl (k ad H locs ls h0 hc hP hD hS hl)
theorem n_getr (X : g_Y base x cc own nL Ts rm) {ci : Nat} {C : String} {T : u_T} {ty : Nat → FieldType} {n : Nat} {bs : List Bool} (hC : g_C ci C T ty n) (hin : ∀ w ∈ u_ws C T n, w ∈ Ts) (k : Nat) (hk : k < n) {index : Nat} (w : Cond.fieldLink own index (T k).1 (T k).2.1 (T k).2.2.1 ∈ Ts) {j a : Nat} (hj : j < N ∧ K j = .inl (ci, bs)) (hb : bs[k]? = some true) (ha : S.2 j k = some a) (d : decode cc pc = .ok (.getfield index, 3))
    (kk : g_B K x base nL a0 N0 Q N S c sl (pc + 3) lv (fun ad => .ref (ad a) :: rest ad)) : g_B K x base nL a0 N0 Q N S c sl pc lv (fun ad => .ref (ad j) :: rest ad) := by
  intro ad H locs ls h0 hc hP hD hS hl
  refine va_get (cl := vwCl) (v := .ref (ad a)) X.1 X.2.1 X.2.2.2.2.1 hin X.2.2.2.1 X.2.2.2.2.2.1 hP j (g_at hj) hC.1 k hk (X.2.2.2.2.1 _ w) (fun _ h => h) ?_ d (kk ad H locs ls h0 hc hP hD hS hl)
  rw [g_vals_r hb, ha]
  rfl
theorem n_puti (X : g_Y base x cc own nL Ts rm) {ci : Nat} {C : String} {T : u_T} {ty : Nat → FieldType} {n : Nat} {bs : List Bool} (hC : g_C ci C T ty n) (hin : ∀ w ∈ u_ws C T n, w ∈ Ts) (k : Nat) (hk : k < n) {index : Nat} (w : Cond.fieldLink own index (T k).1 (T k).2.1 (T k).2.2.1 ∈ Ts) {j : Nat} (hj : j < N ∧ K j = .inl (ci, bs)) (hb : bs[k]? = some false) (hfin : (T k).2.2.2 = false) {v : Int32} (hd : parseFieldDescriptor (T k).2.2.1 = some .int) (d : decode cc pc = .ok (.putfield index, 3))
    (kk : g_B K x base nL a0 N0 Q N (g_u S.1 j k v, S.2) c sl (pc + 3) lv rest) : g_B K x base nL a0 N0 Q N S c sl pc lv (fun ad => .int v :: .ref (ad j) :: rest ad) := by
  intro ad H locs ls h0 hc hP hD hS hl
  refine va_put (cl := vwCl) X.1 X.2.1 X.2.2.2.2.1 hin ty hC.2.1 hC.2.2 X.2.2.2.1 X.2.2.2.2.2.1 hP hD hS j (g_at hj) hC.1 k hk (X.2.2.2.2.1 _ w) (fun _ h => h) hfin hd rfl rfl (by rw [g_vals_len]; exact (List.getElem?_eq_some_iff.mp hb).1) d ?_
  intro H1 locs1 hP1 hD1 hS1
  obtain ⟨hP1, hD1⟩ := g_set2 (S := S) (S' := (g_u S.1 j k v, S.2)) hj (fun a h => g_u_ne h) (fun _ _ => rfl) (by show _ = Sum.inr (ci, _); rw [g_vals_set hb]) hP1 hD1
  exact kk ad H1 locs1 ls h0 (g_cl_u1 hc hj.1) hP1 hD1 hS1 hl
theorem n_putr (X : g_Y base x cc own nL Ts rm) {ci : Nat} {C : String} {T : u_T} {ty : Nat → FieldType} {n : Nat} {bs : List Bool} (hC : g_C ci C T ty n) (hin : ∀ w ∈ u_ws C T n, w ∈ Ts) (k : Nat) (hk : k < n) {index : Nat} (w : Cond.fieldLink own index (T k).1 (T k).2.1 (T k).2.2.1 ∈ Ts) {j b : Nat} (hj : j < N ∧ K j = .inl (ci, bs)) (hb : bs[k]? = some true) (hfin : (T k).2.2.2 = true) (hdecl : (T k).1 = own) {t : FieldType} (hd : parseFieldDescriptor (T k).2.2.1 = some t) (ht : ∀ a, narrow t (.ref a) = .ref a ∧ fits t (.ref a) = true) (hbN : b < N) (d : decode cc pc = .ok (.putfield index, 3))
    (kk : g_B K x base nL a0 N0 Q N (S.1, g_u S.2 j k (some b)) c sl (pc + 3) lv rest) : g_B K x base nL a0 N0 Q N S c sl pc lv (fun ad => .ref (ad b) :: .ref (ad j) :: rest ad) := by
  intro ad H locs ls h0 hc hP hD hS hl
  refine va_putF (cl := vwCl) X.1 X.2.1 X.2.2.2.2.1 hin ty hC.2.1 hC.2.2 X.2.2.2.1 X.2.2.2.2.2.1 hP hD hS j (g_at hj) hC.1 k hk (X.2.2.2.2.1 _ w) (fun _ h => h) hfin X.2.2.2.2.2.2.2.2.2.2.1 hdecl hd (ht _).1 (ht _).2 (by rw [g_vals_len]; exact (List.getElem?_eq_some_iff.mp hb).1) d ?_
  intro H1 locs1 hP1 hD1 hS1
  obtain ⟨hP1, hD1⟩ := g_set2 (S := S) (S' := (S.1, g_u S.2 j k (some b))) hj (fun _ _ => rfl) (fun a h => g_u_ne h) (by show _ = Sum.inr (ci, _); rw [g_vals_setr hb]) hP1 hD1
  exact kk ad H1 locs1 ls h0 (g_cl_u2 hc hj.1 hbN) hP1 hD1 hS1 hl
theorem n_iast (X : g_Y base x cc own nL Ts rm) {a n : Nat} {i v : Int32} (ha : a < N ∧ K a = .inr (0, n, false)) (hi : vp_in i n) (d : decode cc pc = .ok (.iastore, 1))
    (kk : g_B K x base nL a0 N0 Q N (g_u S.1 a i.toNatClampNeg v, S.2) c sl (pc + 1) lv rest) : g_B K x base nL a0 N0 Q N S c sl pc lv (fun ad => .int v :: .int i :: .ref (ad a) :: rest ad) := by
  intro ad H locs ls h0 hc hP hD hS hl
  refine va_iast (cl := vwCl) X.1 X.2.1 X.2.2.2.2.2.1 hP hD hS a 0 (g_at ha) rfl hi d ?_
  intro H1 locs1 hP1 hD1 hS1
  obtain ⟨hP1, hD1⟩ := g_set2 (S := S) (S' := (g_u S.1 a i.toNatClampNeg v, S.2)) ha (fun a h => g_u_ne h) (fun _ _ => rfl) g_ev_ist hP1 hD1
  exact kk ad H1 locs1 ls h0 (g_cl_u1 hc ha.1) hP1 hD1 hS1 hl
theorem n_aast (X : g_Y base x cc own nL Ts rm) {a n b : Nat} {i : Int32} (t : Nat) {ci : Nat} {C : String} {T : u_T} {ty : Nat → FieldType} {n0 : Nat} {bs : List Bool} (hC : g_C ci C T ty n0) (ht : (g_tys (g_cy x))[t]? = some (g_cy x t, .object C)) (ha : a < N ∧ K a = .inr (t, n, true)) (hb : b < N ∧ K b = .inl (ci, bs)) (hi : vp_in i n) (d : decode cc pc = .ok (.aastore, 1))
    (kk : g_B K x base nL a0 N0 Q N (S.1, g_u S.2 a i.toNatClampNeg (some b)) c sl (pc + 1) lv rest) : g_B K x base nL a0 N0 Q N S c sl pc lv (fun ad => .ref (ad b) :: .int i :: .ref (ad a) :: rest ad) := by
  intro ad H locs ls h0 hc hP hD hS hl
  refine va_astq (cl := vwCl) (r := (C, T, n0)) X.1 X.2.1 X.2.2.2.2.2.1 hP hD hS a t b ci (g_at ha) ht (g_at hb) hC.1 hi d ?_
  intro H1 locs1 hP1 hD1 hS1
  obtain ⟨hP1, hD1⟩ := g_set2 (S := S) (S' := (S.1, g_u S.2 a i.toNatClampNeg (some b))) ha (fun _ _ => rfl) (fun a h => g_u_ne h) g_ev_ast hP1 hD1
  exact kk ad H1 locs1 ls h0 (g_cl_u2 hc ha.1 hb.1) hP1 hD1 hS1 hl
theorem n_new (X : g_Y base x cc own nL Ts rm) {ci : Nat} {C : String} {T : u_T} {ty : Nat → FieldType} {n : Nat} {bs : List Bool} (hC : g_C ci C T ty n) (hin : ∀ w ∈ u_ws C T n, w ∈ Ts) {index : Nat} (w1 : Cond.classLink own index C ∈ Ts) (w2 : Cond.instantiable C n ∈ Ts) (w3 : Cond.initialized C ∈ Ts) (hK : K N = .inl (ci, bs)) (hdf : ∀ j, j < n → defaultValue (ty j) = vp_V (g_zero bs) j) (hcl : c + 1 ≤ rm.cells) (hsl : sl + n ≤ rm.slots) (h0N : N0 ≤ N) (hlv : ∀ ad q, lv (va_up ad N q) = lv ad) (hst : ∀ ad q, rest (va_up ad N q) = rest ad) (d : decode cc pc = .ok (.new index, 3))
    (kk : g_B K x base nL a0 N0 Q (N + 1) S (c + 1) (sl + n) (pc + 3) lv (fun ad => .ref (ad N) :: rest ad)) : g_B K x base nL a0 N0 Q N S c sl pc lv rest := by
  intro ad H locs ls h0 hc hP hD hS hl
  have hR := X.2.2.2.2.2.2.2.1
  refine va_new (cl := vwCl) (fs := g_zero bs) X.1 X.2.1 X.2.2.2.2.1 hin ty hC.2.1 X.2.2.2.1 (X.2.2.2.2.1 _ w1) (X.2.2.2.2.1 _ w2) (X.2.2.2.2.1 _ w3) X.2.2.2.2.2.1 hP hD hS X.2.2.2.2.2.2.1 hC.1 hdf (by rw [hR]; exact hcl) (by rw [hR]; exact hsl) d ?_
  intro q H1 hP1 hD1 hS1
  have e : (Sum.inr (ci, g_zero bs) : va_E) = g_ev ad (g_cy x) S N (K N) := by
    rw [hK]
    show _ = Sum.inr (ci, g_vals ad S N bs)
    rw [g_vals_zero (hc.1 N (Nat.le_refl _)).1 (hc.1 N (Nat.le_refl _)).2]
  rw [e, g_pw_new hc] at hP1 hD1
  have := kk (va_up ad N q) H1 locs ls (fun i hi => by rw [va_up_ne _ _ (by omega)]; exact h0 i hi) (g_cl_s hc) hP1 hD1 hS1 (by rw [hlv]; exact hl)
  simp only [va_up_self, hst] at this
  exact this
theorem n_newa (X : g_Y base x cc own nL Ts rm) (atype : ArrayType) (t : Nat) {ty : FieldType} (hty : newarray.typeOf atype = ty) (ht : (g_tys (g_cy x))[t]? = some (g_cy x t, ty)) (hpr : ∀ (U : State) (cA : ClassId), va_RA U cA ty → U.vm.findClass ("[" ++ ty.toString) = some cA) (hdv : defaultValue ty = .int 0) (w1 : Cond.arrayClass ty ∈ Ts) {v : Int32} {n : Nat} (hK : K N = .inr (t, n, false)) (hv0 : ¬ v < 0) (hvn : v.toNatClampNeg = n) (hby : n * componentBytes ty ≤ 536870912) (hcl : c + 1 ≤ rm.cells) (hsl : sl + n ≤ rm.slots) (h0N : N0 ≤ N) (hlv : ∀ ad q, lv (va_up ad N q) = lv ad) (hst : ∀ ad q, rest (va_up ad N q) = rest ad) (d : decode cc pc = .ok (.newarray atype, 2))
    (kk : g_B K x base nL a0 N0 Q (N + 1) S (c + 1) (sl + n) (pc + 2) lv (fun ad => .ref (ad N) :: rest ad)) : g_B K x base nL a0 N0 Q N S c sl pc lv (fun ad => .int v :: rest ad) := by
  subst hty
  intro ad H locs ls h0 hc hP hD hS hl
  have hR := X.2.2.2.2.2.2.2.1
  refine va_newa (cl := vwCl) (a0 := (n, .inl (fun _ => 0))) X.1 X.2.1 (X.2.2.2.2.1 _ w1) rfl X.2.2.2.2.2.1 hP hD hS X.2.2.2.2.2.2.1 (fun cA => by rw [vp_cell_i, hdv]) hv0 hvn hby (by rw [hR]; exact hcl) (by rw [hR]; exact hsl) d ?_
  intro q cA H1 hK1 hP1 hD1 hS1
  have hca : cA = g_cy x t := by
    have h1 := (hK1.2 8 (cA, newarray.typeOf atype) rfl).2
    have h2 := (X.2.2.2.2.2.1.2 t _ ht).2
    exact Option.some.inj ((hpr _ _ h1).symm.trans (hpr _ _ h2))
  subst hca
  have e : (Sum.inl (g_cy x t, n, Sum.inl (fun _ => 0)) : va_E) = g_ev ad (g_cy x) S N (K N) := by
    rw [hK]
    show _ = (Sum.inl (g_cy x t, n, Sum.inl (S.1 N)) : va_E)
    rw [show S.1 N = fun _ => 0 from funext (hc.1 N (Nat.le_refl _)).1]
  rw [e, g_pw_new hc] at hP1 hD1
  have := kk (va_up ad N q) H1 locs ls (fun i hi => by rw [va_up_ne _ _ (by omega)]; exact h0 i hi) (g_cl_s hc) hP1 hD1 hS1 (by rw [hlv]; exact hl)
  simp only [va_up_self, hst] at this
  exact this
theorem n_newq (X : g_Y base x cc own nL Ts rm) (t : Nat) {C : String} (ht : (g_tys (g_cy x))[t]? = some (g_cy x t, .object C)) {index : Nat} (w1 : Cond.classLink own index C ∈ Ts) (w2 : va_AO C (g_s x)) {v : Int32} {n : Nat} (hK : K N = .inr (t, n, true)) (hv0 : ¬ v < 0) (hvn : v.toNatClampNeg = n) (hby : n * 4 ≤ 536870912) (hcl : c + 1 ≤ rm.cells) (hsl : sl + n ≤ rm.slots) (h0N : N0 ≤ N) (hlv : ∀ ad q, lv (va_up ad N q) = lv ad) (hst : ∀ ad q, rest (va_up ad N q) = rest ad) (d : decode cc pc = .ok (.anewarray index, 3))
    (kk : g_B K x base nL a0 N0 Q (N + 1) S (c + 1) (sl + n) (pc + 3) lv (fun ad => .ref (ad N) :: rest ad)) : g_B K x base nL a0 N0 Q N S c sl pc lv (fun ad => .int v :: rest ad) := by
  intro ad H locs ls h0 hc hP hD hS hl
  have hR := X.2.2.2.2.2.2.2.1
  refine va_newq (cl := vwCl) X.1 X.2.1 X.2.2.2.1 (X.2.2.2.2.1 _ w1) w2 X.2.2.2.2.2.1 hP hD hS X.2.2.2.2.2.2.1 hv0 hvn hby (by rw [hR]; exact hcl) (by rw [hR]; exact hsl) d ?_
  intro q cA H1 hK1 hP1 hD1 hS1
  have hca : cA = g_cy x t := by
    obtain ⟨_, _, -, -, -, h1⟩ := (hK1.2 8 (cA, .object C) rfl).2
    obtain ⟨_, _, -, -, -, h2⟩ := (X.2.2.2.2.2.1.2 t _ ht).2
    exact Option.some.inj (h1.symm.trans h2)
  subst hca
  have e : (Sum.inl (g_cy x t, n, Sum.inr (Sum.inr (Sum.inr (Sum.inr (fun _ => none))))) : va_E) = g_ev ad (g_cy x) S N (K N) := by
    rw [hK]
    show _ = (Sum.inl (g_cy x t, n, Sum.inr (Sum.inr (Sum.inr (Sum.inr (fun j => (S.2 N j).map ad))))) : va_E)
    rw [show (fun j => (S.2 N j).map ad) = fun _ => none from funext (fun j => by rw [(hc.1 N (Nat.le_refl _)).2 j]; rfl)]
  rw [e, g_pw_new hc] at hP1 hD1
  have := kk (va_up ad N q) H1 locs ls (fun i hi => by rw [va_up_ne _ _ (by omega)]; exact h0 i hi) (g_cl_s hc) hP1 hD1 hS1 (by rw [hlv]; exact hl)
  simp only [va_up_self, hst] at this
  exact this
theorem n_obj (X : g_Y base x cc own nL Ts rm) {index a : Nat} (w1 : Cond.methodLink own index objectInit ∈ Ts) (w2 : Cond.instanceMethod objectInit ∈ Ts) (w3 : Cond.code objectInit ⟨#[0xb1]⟩ 1 none ∈ Ts) (hf : 1 ≤ rm.frames) (hlo : 12 ≤ rm.locals) (d : decode cc pc = .ok (.invokespecial index, 3))
    (kk : g_B K x base nL a0 N0 Q N S c sl (pc + 3) lv (fun ad => [])) : g_B K x base nL a0 N0 Q N S c sl pc lv (fun ad => [.ref (ad a)]) := by
  intro ad H locs ls h0 hc hP hD hS hl
  have hR := X.2.2.2.2.2.2.2.1
  refine W.objInit X.1 X.2.1 X.2.2.2.1 (X.2.2.2.2.1 _ w1) (X.2.2.2.2.1 _ w2) (X.2.2.2.2.1 _ w3) rfl (by rw [X.2.2.1]; exact hl.1) rfl d (by rw [hR]; exact hf) (by rw [hR]; exact hlo) ?_
  exact W.eq rfl (kk ad H locs ls h0 hc hP hD hS hl)
theorem n_ret (X : g_Y base x cc own nL Ts rm) {z : g_St} {mc ms M : Nat} (hN : N = M) (hSz : S = z) (h1 : c ≤ mc) (h2 : sl ≤ ms) (d : decode cc pc = .ok (.return_, 1)) : g_B K x base nL a0 N0 (g_qn K x base a0 N0 M z mc ms) N S c sl pc lv (fun _ => []) := by
  subst hN hSz
  intro ad H locs ls h0 hc hP hD hS hl
  have hlocks := X.2.2.2.2.2.2.2.2.1
  refine W.widen (k := mc) (n := ms) h1 h2 ?_
  exact W.vret X.1 X.2.1 X.2.2.2.2.2.2.2.2.2.1 (fun t ht hW => ⟨⟨ad, rfl, h0, hc, by show va_P _ _ _ t.heap; rw [ht]; exact hP, hD⟩, hS.F ht⟩) hS.2.2 d
/-- a constructor's call: the new addresses go on from the old -/
theorem n_call (X : g_Y base x cc own nL Ts rm) {y : MethodName} {bytes : ByteArray} {maxL n index : Nat} {ws : List Cond} {rm1 : Room} {b N1 mc ms : Nat} {S1 : g_St} (As : (Nat → Nat) → List Value) (hn : ∀ ad, (As ad).length = n) (cw : CallB rm (g_s x) (g_args x) own index y bytes maxL none ws rm1 mc ms n ∧ y.name = "<init>" ∧ (Cond.instanceMethod y).before (g_args x) (g_s x) = true) (hr : ∀ ad, ((rest ad).map fun v => v.category).sum ≤ 8) (hcl : c + mc ≤ rm.cells) (hsl : sl + ms ≤ rm.slots) (h0N : N0 ≤ N) (hlv : ∀ ad ad', (∀ i, i < N → ad' i = ad i) → lv ad' = lv ad) (hst : ∀ ad ad', (∀ i, i < N → ad' i = ad i) → rest ad' = rest ad) (d : decode cc pc = .ok (.invokespecial index, 3))
    (hM : ∀ ad, g_Mn (g_l x) K (g_D x) base (g_cy x) y ws rm1 (.ref (ad b) :: As ad) ad N S N1 S1 mc ms)
    (kk : g_B K x base nL a0 N0 Q N1 S1 (c + mc) (sl + ms) (pc + 3) lv rest) : g_B K x base nL a0 N0 Q N S c sl pc lv (fun ad => (As ad).reverse ++ .ref (ad b) :: rest ad) := by
  intro ad H locs ls h0 hc hP hD hS hl
  have hR := X.2.2.2.2.2.2.2.1
  refine va_callv (va_runI (As := As ad) (rest := rest ad) (index := index) (ws := ws) (rm := rm1) ⟨X.1, X.2.1, X.2.2.1, X.2.2.2.1, X.2.2.2.2.1⟩ (hM ad) (by rw [hR]; exact cw) ⟨g_blindn, fun U hU hW => ⟨rfl, by rw [hU]; exact Nat.le_trans (X.2.2.2.2.2.2.1 _ (Nat.le_refl _)) hS.1, hc, by rw [hU]; exact hP, va_K.moved hW.alike X.2.2.2.2.2.1, hD, g_AOm hW X.2.2.2.2.2.2.2.2.2.2.2⟩⟩ rfl (hn ad) hl.1 rfl (lv_room (hr ad)) d ⟨by rw [hR]; exact hcl, by rw [hR]; exact hsl⟩) hS (fun q _ h => h) (fun q h => h) (fun u t H1 locs1 ht _ hp hB _ _ hS1 => ?_)
  obtain ⟨hc1, hP1, hD1⟩ := hB
  rw [ht] at hP1
  have := kk u H1 locs1 ls (fun i hi => by rw [hp i (by omega)]; exact h0 i hi) hc1 hP1 hD1 hS1 (by rw [hlv ad u hp]; exact hl)
  rw [hst ad u hp] at this
  exact this
end GB
theorem n_of {l : Launch} {K : Nat → g_Kd} {D : va_G} {base : Nat} {cy : Nat → ClassId} {y : MethodName} {ws ws' : List Cond} {rm : Room} {cc : ByteArray} {maxL : Nat} {av : (Nat → Nat) → List Value} {lv : (Nat → Nat) → List (Nat × Value)} {ad : Nat → Nat} {N N1 mc ms : Nat} {S S1 : g_St} (hy : plainName y.cls = true) (hi : y.name = "<init>") (hw : ws = Cond.code y cc maxL none :: ws') (hle : ∀ ad, (lg_sl (av ad)).length ≤ maxL) (hlv : ∀ ad, lv_args 0 (av ad) = lv ad) (hav : ∀ ad', (∀ i, i < N → ad' i = ad i) → lv ad' = lv ad)
    (body : ∀ x : g_CX, g_Y base x cc y.cls maxL ws rm → g_l x = l → g_D x = D → g_cy x = cy → g_B K x base maxL ad N (g_qn K x base ad N N1 S1 mc ms) N S 0 0 0 lv (fun _ => [])) : g_Mn l K D base cy y ws rm (av ad) ad N S N1 S1 mc ms := by
  refine Met.ofW (cc := cc) (maxL := maxL) (ret := none) hy hw ?_
  intro p e s m args below meth c s₁ B hml hv
  obtain ⟨rfl, hb, hc, hP, hK, hD, hAO⟩ := hv
  have hts := atoms_spec (ws := ws) B.pre
  have hown := findClass_of_methodNamed B.named
  have hin : meth.name = "<init>" := by
    have h1 := (name_of_methodNamed B.named B.method).1
    rw [h1]
    exact hi
  have hl := lv_entry (av ad) (n := maxL) (hle ad)
  rw [lg_entry_eq]
  generalize (lg_sl (av ad) ++ List.replicate (maxL - (lg_sl (av ad)).length) Slot.unset).toArray = ls at hl ⊢
  rw [hlv] at hl
  exact body (p, l, e, (headSpec ws rm).room, s, m, (av ad).toArray, below, meth, c, D, ad, cy, (id, id)) ⟨B.exec, B.bytes, hml, hown, hts, hK, fun q hq => Nat.le_trans hb hq, rfl, B.notSynchronized, B.returns, hin, hAO⟩ rfl rfl rfl ad s.heap [] ls (fun _ _ => rfl) hc hP hD va_S.rf hl
/-- the rows of a grid: the outer one refers to those behind it -/
def g_rows (S : g_St) (N n : Nat) : g_St := (S.1, fun a b => if a = N ∧ b < n then some (N + 1 + b) else S.2 a b)
theorem g_rows_cl {S : g_St} {N n : Nat} (h : g_cl N S) : g_cl (N + 1 + n) (g_rows S N n) := by
  refine ⟨fun i hi => ⟨(h.1 i (by omega)).1, fun k => ?_⟩, fun i k b hb => ?_⟩
  · show (if i = N ∧ k < n then some (N + 1 + k) else S.2 i k) = none
    rw [if_neg (by omega)]
    exact (h.1 i (by omega)).2 k
  · have hb : (if i = N ∧ k < n then some (N + 1 + k) else S.2 i k) = some b := hb
    by_cases e : i = N ∧ k < n
    · rw [if_pos e] at hb
      cases hb
      omega
    · rw [if_neg e] at hb
      have := h.2 i k b hb
      omega
def g_adm (ad : Nat → Nat) (N q : Nat) (r : Nat → Nat) : Nat → Nat := fun i => if i < N then ad i else if i = N then q else r (i - (N + 1))
theorem g_pw_rows {K : Nat → g_Kd} {N n k q : Nat} {ad r : Nat → Nat} {cy : Nat → ClassId} {S : g_St} (h : g_cl N S) (hK0 : K N = .inr (7, n, true)) (hK1 : ∀ j, j < n → K (N + 1 + j) = .inr (0, k, false)) : (g_pw K N ad cy S ++ [(q, .inl (cy 7, n, .inr (.inr (.inr (.inr (fun i => if i < n then some (r i) else none))))))]) ++ ((List.range n).map r).map (fun a => (a, (Sum.inl (cy 0, k, Sum.inl (fun _ => 0)) : va_E))) = g_pw K (N + 1 + n) (g_adm ad N q r) cy (g_rows S N n) := by
  have e1 : g_pw K (N + 1 + n) (g_adm ad N q r) cy (g_rows S N n) = (g_pw K N (g_adm ad N q r) cy (g_rows S N n) ++ [(g_adm ad N q r N, g_ev (g_adm ad N q r) cy (g_rows S N n) N (K N))]) ++ (List.range n).map (fun j => (g_adm ad N q r (N + 1 + j), g_ev (g_adm ad N q r) cy (g_rows S N n) (N + 1 + j) (K (N + 1 + j)))) := by
    rw [← g_pw_succ]
    unfold g_pw
    rw [List.range_add, List.map_append, List.map_map]
    rfl
  rw [e1]
  congr 1
  · congr 1
    · unfold g_pw
      apply List.map_congr_left
      intro i hi
      have hi := List.mem_range.mp hi
      have e2 : g_adm ad N q r i = ad i := if_pos hi
      have e3 : ∀ j, (g_rows S N n).2 i j = S.2 i j := fun j => if_neg (by omega)
      have e4 : ∀ j, ((g_rows S N n).2 i j).map (g_adm ad N q r) = (S.2 i j).map ad := fun j => by
        rw [e3]
        cases hb : S.2 i j with
        | none => rfl
        | some b =>
          have := h.2 i j b hb
          show some (g_adm ad N q r b) = some (ad b)
          rw [show g_adm ad N q r b = ad b from if_pos this]
      rw [e2]
      unfold g_ev g_vals
      simp only [e4]
      rfl
    · have e2 : g_adm ad N q r N = q := by simp [g_adm]
      rw [e2, hK0]
      have e3 : (fun j => ((g_rows S N n).2 N j).map (g_adm ad N q r)) = fun i => if i < n then some (r i) else none := by
        funext j
        by_cases hj : j < n
        · have : (g_rows S N n).2 N j = some (N + 1 + j) := if_pos ⟨rfl, hj⟩
          rw [this, if_pos hj]
          show some (g_adm ad N q r (N + 1 + j)) = some (r j)
          have : g_adm ad N q r (N + 1 + j) = r j := by
            unfold g_adm
            rw [if_neg (by omega), if_neg (by omega)]
            congr 1
            omega
          rw [this]
        · have : (g_rows S N n).2 N j = S.2 N j := if_neg (by omega)
          rw [this, if_neg hj, (h.1 N (Nat.le_refl _)).2 j]
          rfl
      show [(q, _)] = [(q, (Sum.inl (cy 7, n, Sum.inr (Sum.inr (Sum.inr (Sum.inr (fun j => ((g_rows S N n).2 N j).map (g_adm ad N q r)))))) : va_E))]
      rw [e3]
  · rw [List.map_map]
    apply List.map_congr_left
    intro j hj
    have hj := List.mem_range.mp hj
    have e2 : g_adm ad N q r (N + 1 + j) = r j := by
      unfold g_adm
      rw [if_neg (by omega), if_neg (by omega)]
      congr 1
      omega
    rw [e2, hK1 j hj]
    show (r j, _) = (r j, (Sum.inl (cy 0, k, Sum.inl (S.1 (N + 1 + j))) : va_E))
    rw [show S.1 (N + 1 + j) = fun _ => 0 from funext (h.1 (N + 1 + j) (by omega)).1]
section GM
variable {K : Nat → g_Kd} {x : g_CX} {base : Nat} {cc : ByteArray} {own : String} {nL : Nat} {a0 : Nat → Nat} {N0 : Nat} {Ts : List Cond} {rm : Room} {Q : State → Prop} {N : Nat} {S : g_St} {c sl : Nat} {pc : Nat} {lv : (Nat → Nat) → List (Nat × Value)} {rest : (Nat → Nat) → List Value}
theorem n_mna (X : g_Y base x cc own nL Ts rm) {index n k : Nat} {vn vk : Int32} (w1 : Cond.classLink own index "[[I" ∈ Ts) (w2 : Cond.arrayClass .int ∈ Ts) (w3 : (Cond.arrayOver (.array .int)).before #[] (g_s x) = true) (hnum : ¬ vn < 0 ∧ ¬ vk < 0 ∧ vn.toNatClampNeg = n ∧ vk.toNatClampNeg = k ∧ n * 4 ≤ 536870912 ∧ k * componentBytes .int ≤ 536870912 ∧ k ≤ 536870912 ∧ c + (1 + n) ≤ rm.cells ∧ sl + (n + n * k) ≤ rm.slots) (h0N : N0 ≤ N) (hK0 : K N = .inr (7, n, true)) (hK1 : ∀ j, j < n → K (N + 1 + j) = .inr (0, k, false)) (hlv : ∀ ad ad', (∀ i, i < N → ad' i = ad i) → lv ad' = lv ad) (hst : ∀ ad ad', (∀ i, i < N → ad' i = ad i) → rest ad' = rest ad) (d : decode cc pc = .ok (.multianewarray index 2, 4))
    (kk : g_B K x base nL a0 N0 Q (N + 1 + n) (g_rows S N n) (c + 1 + n) (sl + n + n * k) (pc + 4) lv (fun ad => .ref (ad N) :: rest ad)) : g_B K x base nL a0 N0 Q N S c sl pc lv (fun ad => .int vk :: .int vn :: rest ad) := by
  intro ad H locs ls h0 hc hP hD hS hl
  have hR := X.2.2.2.2.2.2.2.1
  obtain ⟨h1, h2, h3, h4, h5, h6, h7, h8, h9⟩ := hnum
  have hcy : (g_s x).vm.findClass (FieldType.array .int).toString = some (g_cy x 0) := (X.2.2.2.2.2.1.2 0 _ rfl).2
  have hP' : va_P (g_D x) vwCl (g_pw K N ad (g_cy x) S ++ va_pl [] (fun _ => Sum.inr (0, []))) H := by
    rw [show va_pl [] (fun _ => Sum.inr (0, [])) = [] from rfl, List.append_nil]
    exact hP
  have hD' : va_D (fun q => base ≤ q) (g_pw K N ad (g_cy x) S ++ va_pl [] (fun _ => Sum.inr (0, []))) := by
    rw [show va_pl [] (fun _ => Sum.inr (0, [])) = [] from rfl, List.append_nil]
    exact hD
  refine va_mna (ty := .int) (z := (k, .inl (fun _ => 0))) X.1 X.2.1 X.2.2.2.1 (X.2.2.2.2.1 _ w1) w3 (X.2.2.2.2.1 _ w2) hcy X.2.2.2.2.2.1 hP' hD' hS X.2.2.2.2.2.2.1 h1 h2 h3 h4 h5 h6 h7 rfl rfl (by rw [hR]; exact h8) (by rw [hR]; exact h9) (fun cA => ?_) d ?_
  · rw [vp_cell_i]
    show ({ cls := cA, slots := Array.replicate k (defaultValue .int), vm := .none } : Cell) = _
    rw [arrV_new]
    rfl
  intro q r cA H1 hinj hnot hK2 hP1 hD1 hS1
  have hca : cA = g_cy x 7 := by
    have e1 := (hK2.2 8 (cA, .array .int) rfl).2
    have e2 := (X.2.2.2.2.2.1.2 7 _ rfl).2
    exact Option.some.inj (Eq.trans (Eq.symm e1) e2)
  subst hca
  have hrows : va_pl ([] ++ (List.range n).map r) (vr_up (fun _ => Sum.inr (0, [])) ((List.range n).map r) (Sum.inl (g_cy x 0, k, Sum.inl (fun _ => 0)))) = ((List.range n).map r).map (fun a => (a, (Sum.inl (g_cy x 0, k, Sum.inl (fun _ => 0)) : va_E))) := by
    rw [List.nil_append]
    unfold va_pl
    apply List.map_congr_left
    intro a ha
    rw [vr_up_in ha]
  rw [hrows, g_pw_rows hc hK0 hK1] at hP1 hD1
  have hlow : ∀ i, i < N → g_adm ad N q r i = ad i := fun i hi => if_pos hi
  have := kk (g_adm ad N q r) H1 locs ls (fun i hi => by rw [hlow i (by omega)]; exact h0 i hi) (g_rows_cl hc) hP1 hD1 hS1 (by rw [hlv ad _ hlow]; exact hl)
  have e : g_adm ad N q r N = q := by simp [g_adm]
  simp only [e, hst ad _ hlow] at this
  exact this
end GM
