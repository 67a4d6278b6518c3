
/-! ===== the state: ints and references by the number of the object (or array) and the place in it; K: what an object is ===== -/
abbrev g_St : Type := (Nat → Nat → Int32) × (Nat → Nat → Option Nat)
abbrev g_Kd : Type := (Nat × List Bool) ⊕ (Nat × Nat × Bool)
def g_u {α : Type} (f : Nat → Nat → α) (i k : Nat) (v : α) : Nat → Nat → α := fun a b => if a = i ∧ b = k then v else f a b
theorem g_u_ne {α : Type} {f : Nat → Nat → α} {i k : Nat} {v : α} {a : Nat} (h : a ≠ i) : g_u f i k v a = f a := by
  funext b
  simp [g_u, h]
theorem g_u_row {α : Type} {f : Nat → Nat → α} {i k : Nat} {v : α} : g_u f i k v i = fun b => if b = k then v else f i b := by
  funext b
  simp [g_u]
def g_vals (ad : Nat → Nat) (S : g_St) (i : Nat) (bs : List Bool) : List Value := bs.mapIdx (fun k b => if b = true then va_rf ((S.2 i k).map ad) else .int (S.1 i k))
def g_ev (ad : Nat → Nat) (cy : Nat → ClassId) (S : g_St) (i : Nat) (kd : g_Kd) : va_E := match kd with
  | .inl o => .inr (o.1, g_vals ad S i o.2)
  | .inr (t, n, false) => .inl (cy t, n, .inl (S.1 i))
  | .inr (t, n, true) => .inl (cy t, n, .inr (.inr (.inr (.inr (fun j => (S.2 i j).map ad)))))
def g_pw (K : Nat → g_Kd) (N : Nat) (ad : Nat → Nat) (cy : Nat → ClassId) (S : g_St) : va_W := (List.range N).map (fun i => (ad i, g_ev ad cy S i (K i)))
def g_A (N : Nat) (ad : Nat → Nat) : Nat → Prop := fun q => ∃ i, i < N ∧ q = ad i
theorem g_at {K : Nat → g_Kd} {N : Nat} {ad : Nat → Nat} {cy : Nat → ClassId} {S : g_St} {i : Nat} {kd : g_Kd} (h : i < N ∧ K i = kd) : (g_pw K N ad cy S)[i]? = some (ad i, g_ev ad cy S i kd) := by
  simp [g_pw, List.getElem?_map, List.getElem?_range h.1, h.2]
theorem g_pw_len {K : Nat → g_Kd} {N : Nat} {ad : Nat → Nat} {cy : Nat → ClassId} {S : g_St} : (g_pw K N ad cy S).length = N := by
  simp [g_pw]
theorem g_pw_D {K : Nat → g_Kd} {N : Nat} {ad : Nat → Nat} {cy : Nat → ClassId} {S : g_St} (h : ∀ i j, i < N → j < N → ad i = ad j → i = j) : va_D (g_A N ad) (g_pw K N ad cy S) := by
  have key : ∀ (i : Nat) (p : Nat × va_E), (g_pw K N ad cy S)[i]? = some p → i < N ∧ p.1 = ad i := by
    intro i p hp
    have hi : i < N := by
      have := (List.getElem?_eq_some_iff.mp hp).1
      rwa [g_pw_len] at this
    rw [g_at ⟨hi, rfl⟩] at hp
    cases hp
    exact ⟨hi, rfl⟩
  refine ⟨fun i j p q hp hq e => ?_, fun k q hk => ?_⟩
  · obtain ⟨h1, h2⟩ := key i p hp
    obtain ⟨h3, h4⟩ := key j q hq
    exact h i j h1 h3 (by rw [← h2, ← h4, e])
  · obtain ⟨h1, h2⟩ := key k q hk
    exact ⟨k, h1, h2⟩
theorem g_set {K : Nat → g_Kd} {N : Nat} {ad : Nat → Nat} {cy : Nat → ClassId} {S S' : g_St} {i : Nat} {kd : g_Kd} {e : va_E} (h : i < N ∧ K i = kd) (h1 : ∀ a, a ≠ i → S'.1 a = S.1 a) (h2 : ∀ a, a ≠ i → S'.2 a = S.2 a) (he : e = g_ev ad cy S' i kd) : (g_pw K N ad cy S).set i (ad i, e) = g_pw K N ad cy S' := by
  apply List.ext_getElem?
  intro j
  by_cases hj : i = j
  · subst hj
    rw [List.getElem?_set_self (by rw [g_pw_len]; exact h.1), g_at h, he]
  · rw [List.getElem?_set_ne hj]
    by_cases hn : j < N
    · rw [g_at ⟨hn, rfl⟩, g_at ⟨hn, rfl⟩]
      have e1 := h1 j (fun q => hj q.symm)
      have e2 := h2 j (fun q => hj q.symm)
      unfold g_ev g_vals
      rw [e1, e2]
    · rw [List.getElem?_eq_none (by rw [g_pw_len]; omega), List.getElem?_eq_none (by rw [g_pw_len]; omega)]
theorem g_vals_i {ad : Nat → Nat} {S : g_St} {i k : Nat} {bs : List Bool} (h : bs[k]? = some false) : (g_vals ad S i bs)[k]? = some (.int (S.1 i k)) := by
  simp [g_vals, List.getElem?_mapIdx, h]
theorem g_vals_r {ad : Nat → Nat} {S : g_St} {i k : Nat} {bs : List Bool} (h : bs[k]? = some true) : (g_vals ad S i bs)[k]? = some (va_rf ((S.2 i k).map ad)) := by
  simp [g_vals, List.getElem?_mapIdx, h]
theorem g_vals_len {ad : Nat → Nat} {S : g_St} {i : Nat} {bs : List Bool} : (g_vals ad S i bs).length = bs.length := by
  simp [g_vals]
theorem g_vals_set {ad : Nat → Nat} {S : g_St} {i k : Nat} {bs : List Bool} {v : Int32} (h : bs[k]? = some false) : (g_vals ad S i bs).set k (.int v) = g_vals ad (g_u S.1 i k v, S.2) i bs := by
  apply List.ext_getElem?
  intro j
  have hk : k < bs.length := (List.getElem?_eq_some_iff.mp h).1
  by_cases hj : k = j
  · subst hj
    rw [List.getElem?_set_self (by rw [g_vals_len]; exact hk), g_vals_i h]
    simp [g_u]
  · rw [List.getElem?_set_ne hj]
    unfold g_vals
    rw [List.getElem?_mapIdx, List.getElem?_mapIdx]
    have : ∀ b, (if b = true then va_rf ((S.2 i j).map ad) else .int (S.1 i j)) = (if b = true then va_rf ((S.2 i j).map ad) else (.int (g_u S.1 i k v i j) : Value)) := by
      intro b
      have : g_u S.1 i k v i j = S.1 i j := by simp [g_u, Ne.symm hj]
      rw [this]
    cases bs[j]? with
    | none => rfl
    | some b => exact congrArg some (this b)
theorem g_ev_ist {ad : Nat → Nat} {cy : Nat → ClassId} {S : g_St} {a t n k : Nat} {v : Int32} : (Sum.inl (cy t, n, Sum.inl (upd (S.1 a) k v)) : va_E) = g_ev ad cy (g_u S.1 a k v, S.2) a (.inr (t, n, false)) := by
  have h : g_u S.1 a k v a = upd (S.1 a) k v := by rw [g_u_row]; rfl
  show _ = (Sum.inl (cy t, n, Sum.inl (g_u S.1 a k v a)) : va_E)
  rw [h]
theorem g_ev_ast {ad : Nat → Nat} {cy : Nat → ClassId} {S : g_St} {a t n k b : Nat} : (Sum.inl (cy t, n, Sum.inr (Sum.inr (Sum.inr (Sum.inr (va_up (fun j => (S.2 a j).map ad) k (some (ad b))))))) : va_E) = g_ev ad cy (S.1, g_u S.2 a k (some b)) a (.inr (t, n, true)) := by
  have h : (fun j => (g_u S.2 a k (some b) a j).map ad) = va_up (fun j => (S.2 a j).map ad) k (some (ad b)) := by
    funext j
    rw [g_u_row]
    by_cases q : j = k <;> simp [va_up, q]
  show _ = (Sum.inl (cy t, n, Sum.inr (Sum.inr (Sum.inr (Sum.inr (fun j => (g_u S.2 a k (some b) a j).map ad))))) : va_E)
  rw [h]
/-! ===== the pure words ===== -/
def g_ld {β : Type} (K : Nat → g_Kd) (N : Nat) (kd : g_Kd) (r : Option Nat) (k : Nat → Option β) : Option β := match r with
  | none => none
  | some j => if j < N ∧ K j = kd then k j else none
def g_ix {β : Type} (i : Int32) (n : Nat) (k : Nat → Option β) : Option β := if i < 0 ∨ n ≤ i.toNatClampNeg then none else k i.toNatClampNeg
def g_nz {β : Type} (y : Int32) (k : Option β) : Option β := if y = 0 then none else k
def g_nl {β : Type} (y : Int64) (k : Option β) : Option β := if y = 0 then none else k
def g_zb {β : Type} (v : Int32) (k : Option β) : Option β := if v = 0 ∨ v = 1 then k else none
def g_bd {α β : Type} (x : Option (α × g_St)) (k : α → g_St → Option β) : Option β := match x with
  | none => none
  | some o => k o.1 o.2
def g_th {α β : Type} (x : Option α) (k : α → Option β) : Option β := match x with
  | none => none
  | some o => k o
def g_lp {τ β : Type} (body : τ → Option (τ ⊕ β)) : Nat → τ → Option β
  | 0, _ => none
  | n + 1, t => match body t with
    | none => none
    | some (.inl t') => g_lp body n t'
    | some (.inr b) => some b
theorem g_ld_s {β : Type} {K : Nat → g_Kd} {N : Nat} {kd : g_Kd} {r : Option Nat} {k : Nat → Option β} {z : β} (h : g_ld K N kd r k = some z) : ∃ j, r = some j ∧ (j < N ∧ K j = kd) ∧ k j = some z := by
  cases r with
  | none => cases h
  | some j =>
    by_cases c : j < N ∧ K j = kd
    · exact ⟨j, rfl, c, by simpa [g_ld, c] using h⟩
    · simp [g_ld, c] at h
theorem g_ix_s {β : Type} {i : Int32} {n : Nat} {k : Nat → Option β} {z : β} (h : g_ix i n k = some z) : vp_in i n ∧ k i.toNatClampNeg = some z := by
  unfold g_ix at h
  by_cases c : i < 0 ∨ n ≤ i.toNatClampNeg
  · rw [if_pos c] at h; cases h
  · rw [if_neg c] at h; exact ⟨c, h⟩
theorem g_nz_s {β : Type} {y : Int32} {k : Option β} {z : β} (h : g_nz y k = some z) : ¬ y = 0 ∧ k = some z := by
  unfold g_nz at h
  by_cases c : y = 0
  · rw [if_pos c] at h; cases h
  · rw [if_neg c] at h; exact ⟨c, h⟩
theorem g_nl_s {β : Type} {y : Int64} {k : Option β} {z : β} (h : g_nl y k = some z) : ¬ y = 0 ∧ k = some z := by
  unfold g_nl at h
  by_cases c : y = 0
  · rw [if_pos c] at h; cases h
  · rw [if_neg c] at h; exact ⟨c, h⟩
theorem g_zb_s {β : Type} {v : Int32} {k : Option β} {z : β} (h : g_zb v k = some z) : (v = 0 ∨ v = 1) ∧ k = some z := by
  unfold g_zb at h
  by_cases c : v = 0 ∨ v = 1
  · rw [if_pos c] at h; exact ⟨c, h⟩
  · rw [if_neg c] at h; cases h
theorem g_bd_s {α β : Type} {x : Option (α × g_St)} {k : α → g_St → Option β} {z : β} (h : g_bd x k = some z) : ∃ r S, x = some (r, S) ∧ k r S = some z := by
  cases x with
  | none => cases h
  | some o => exact ⟨o.1, o.2, rfl, h⟩
theorem g_th_s {α β : Type} {x : Option α} {k : α → Option β} {z : β} (h : g_th x k = some z) : ∃ r, x = some r ∧ k r = some z := by
  cases x with
  | none => cases h
  | some o => exact ⟨o, rfl, h⟩
/-- a loop whose body is walked once -/
theorem g_lp_w {τ β : Type} {body : τ → Option (τ ⊕ β)} {P : τ → Prop} {E : β → Prop} (hb : ∀ t r, body t = some r → Sum.elim P E r → P t) : ∀ (n : Nat) (t : τ) (b : β), g_lp body n t = some b → E b → P t
  | 0, _, _, h, _ => by cases h
  | n + 1, t, b, h, hE => by
    unfold g_lp at h
    cases hbt : body t with
    | none => rw [hbt] at h; cases h
    | some r =>
      rw [hbt] at h
      cases r with
      | inl t' => exact hb t _ hbt (g_lp_w hb n t' b h hE)
      | inr b' =>
        have : b' = b := Option.some.inj h
        subst this
        exact hb t _ hbt hE
theorem g_ifs {β : Type} {c : Prop} {dc : Decidable c} {a b : Option β} {z : β} {A : Prop} (h : (@ite _ c dc a b) = some z) (kt : c → a = some z → A) (kf : ¬ c → b = some z → A) : A := by
  by_cases q : c
  · rw [if_pos q] at h; exact kt q h
  · rw [if_neg q] at h; exact kf q h
/-! ===== the text constants and statics that the JDK's text members read: they stand outside of what is written ===== -/
def g_len : List Nat := [5, 4, 6, 4, 5]
def g_byt : List (List Int32) := [[116, 111, 107, 101, 110], [108, 101, 97, 107], [119, 105, 110, 100, 111, 119], [104, 97, 108, 102], [99, 114, 111, 119, 100]]
def g_sk : List Nat := [58, 64, 66, 68, 70]
def g_stx : List String := ["token", "leak", "window", "half", "crowd"]
def g_Z (zz : (Nat → Nat) × (Nat → Nat)) (A : Nat → Prop) (U : State) (H : Heap) : Prop := vk_S 5 g_len g_byt zz.1 zz.2 A U H ∧ (∀ i, i < 5 → vk_R RX6 (g_sk.getD i 0) (g_stx.getD i "") (zz.1 i) U) ∧ va_Z "java/lang/String" "COMPACT_STRINGS" "Z" (.int 1) A U H ∧ va_Zq "jdk/internal/util/Preconditions" "SIOOBE_FORMATTER" "Ljava/util/function/BiFunction;" A U H
theorem g_Z_at {zz : (Nat → Nat) × (Nat → Nat)} {A : Nat → Prop} {s U : State} {H : Heap} {locs : List Loc} (h : g_Z zz A s s.heap) (hS : va_S A s.heap H locs) (hU : U.heap = H) (hW : s.WarmedH U.vm) : g_Z zz A U U.heap := by
  rw [hU]
  exact ⟨(h.1.kept hS.2.1).moved hW.alike, fun i hi => (h.2.1 i hi).warm hW, (h.2.2.1.kept hS.2.1).moved hW.alike, (h.2.2.2.kept hS.2.1).moved hW.alike⟩
theorem g_Z_blind {zz : (Nat → Nat) × (Nat → Nat)} {A : Nat → Prop} {U : State} {g : JFrame} {mk : MethodId} {a : Array Value} (h : g_Z zz A U U.heap) : g_Z zz A (U.calling g mk a) (U.calling g mk a).heap :=
  ⟨h.1.moved (u := U) (U := U.calling g mk a) (Vm.Alike.refl U.vm), fun i hi => vk_R.same (u := U) rfl (h.2.1 i hi), h.2.2.1.moved (u := U) (U := U.calling g mk a) (Vm.Alike.refl U.vm), h.2.2.2.moved (u := U) (U := U.calling g mk a) (Vm.Alike.refl U.vm)⟩
/-! ===== the judgement ===== -/
abbrev g_CX : Type := Program × Launch × Env × Room × State × MethodId × Array Value × List Frame × Method × Code × va_G × (Nat → Nat) × (Nat → ClassId) × ((Nat → Nat) × (Nat → Nat))
abbrev g_p (x : g_CX) : Program := x.1
abbrev g_l (x : g_CX) : Launch := x.2.1
abbrev g_e (x : g_CX) : Env := x.2.2.1
abbrev g_R (x : g_CX) : Room := x.2.2.2.1
abbrev g_s (x : g_CX) : State := x.2.2.2.2.1
abbrev g_m (x : g_CX) : MethodId := x.2.2.2.2.2.1
abbrev g_args (x : g_CX) : Array Value := x.2.2.2.2.2.2.1
abbrev g_below (x : g_CX) : List Frame := x.2.2.2.2.2.2.2.1
abbrev g_meth (x : g_CX) : Method := x.2.2.2.2.2.2.2.2.1
abbrev g_c (x : g_CX) : Code := x.2.2.2.2.2.2.2.2.2.1
abbrev g_D (x : g_CX) : va_G := x.2.2.2.2.2.2.2.2.2.2.1
abbrev g_ad (x : g_CX) : Nat → Nat := x.2.2.2.2.2.2.2.2.2.2.2.1
abbrev g_cy (x : g_CX) : Nat → ClassId := x.2.2.2.2.2.2.2.2.2.2.2.2.1
abbrev g_zz (x : g_CX) : (Nat → Nat) × (Nat → Nat) := x.2.2.2.2.2.2.2.2.2.2.2.2.2
abbrev g_tys (cy : Nat → ClassId) : List (ClassId × FieldType) := [(cy 0, .int), (cy 1, .byte), (cy 2, .boolean), (cy 3, .object RX1), (cy 4, .object RX0), (cy 5, .object RX2), (cy 6, .object RX4), (cy 7, .array .int)]
def g_V (K : Nat → g_Kd) (N : Nat) (x : g_CX) (nL : Nat) (Q : State → Prop) (S : g_St) (pc : Nat) (lv : List (Nat × Value)) (st : List Value) : Prop :=
  ∀ (H : Heap) (locs : List Loc) (ls : Array Slot), va_P (g_D x) vwCl (g_pw K N (g_ad x) (g_cy x) S) H → va_S (g_A N (g_ad x)) (g_s x).heap H locs → lv_has ls nL lv → W (g_p x) (g_l x) (g_e x) (g_R x) (g_s x) (g_m x) (g_args x) (g_below x) (g_meth x) (g_c x) H locs 0 0 Q (F0 (g_m x) pc ls st)
/-- what stands during a method's walk -/
def g_X (N : Nat) (x : g_CX) (cc : ByteArray) (own : String) (nL : Nat) (Ts : List Cond) (rm : Room) (ret : Option FieldType) : Prop :=
  (g_p x).tables.exec = Jvm.exec ∧ (g_c x).code = cc ∧ (g_c x).maxLocals = nL ∧ (g_s x).vm.findClass own = some (g_m x).cls ∧ (∀ w ∈ Ts, w.before (g_args x) (g_s x) = true) ∧ va_K (g_D x) vwCl (g_tys (g_cy x)) (g_s x) ∧ (∀ i j, i < N → j < N → g_ad x i = g_ad x j → i = j) ∧ g_R x = rm ∧ (g_meth x).locks = false ∧ (g_meth x).sig.returnType = ret ∧ g_Z (g_zz x) (g_A N (g_ad x)) (g_s x) (g_s x).heap
/-- a class: its number, its table -/
def g_C (ci : Nat) (C : String) (T : u_T) (ty : Nat → FieldType) (n : Nat) : Prop := vwCl[ci]? = some (C, T, n) ∧ (∀ k, k < n → parseFieldDescriptor (T k).2.2.1 = some (ty k)) ∧ (∀ a, a < n → ∀ b, b < n → a ≠ b → (T a).2.1 ≠ (T b).2.1)
/-- a method's contract: from the state S with these arguments it ends with o -/
abbrev g_Pc (K : Nat → g_Kd) (N : Nat) (D : va_G) (ad : Nat → Nat) (cy : Nat → ClassId) (zz : (Nat → Nat) × (Nat → Nat)) (av : List Value) (S : g_St) : Array Value → State → Prop := va_Pc av (fun U => va_P D vwCl (g_pw K N ad cy S) U.heap ∧ va_K D vwCl (g_tys cy) U ∧ g_Z zz (g_A N ad) U U.heap)
abbrev g_Qi (K : Nat → g_Kd) (N : Nat) (D : va_G) (ad : Nat → Nat) (cy : Nat → ClassId) (o : Int32 × g_St) : Array Value → State → Outcome → State → Prop := va_Qi (fun (r : Int32) (u : g_St) => (r, u) = o) (fun u t => va_P D vwCl (g_pw K N ad cy u) t.heap) (g_A N ad)
abbrev g_Ql (K : Nat → g_Kd) (N : Nat) (D : va_G) (ad : Nat → Nat) (cy : Nat → ClassId) (o : Int64 × g_St) : Array Value → State → Outcome → State → Prop := va_Ql (fun (r : Int64) (u : g_St) => (r, u) = o) (fun u t => va_P D vwCl (g_pw K N ad cy u) t.heap) (g_A N ad)
abbrev g_Qv (K : Nat → g_Kd) (N : Nat) (D : va_G) (ad : Nat → Nat) (cy : Nat → ClassId) (o : Unit × g_St) : Array Value → State → Outcome → State → Prop := va_Qv (fun (u : g_St) => ((), u) = o) (fun u t => va_P D vwCl (g_pw K N ad cy u) t.heap) (g_A N ad)
def g_Mi (l : Launch) (K : Nat → g_Kd) (N : Nat) (D : va_G) (ad : Nat → Nat) (cy : Nat → ClassId) (zz : (Nat → Nat) × (Nat → Nat)) (y : MethodName) (ws : List Cond) (rm : Room) (av : List Value) (S : g_St) (o : Int32 × g_St) : Prop := Met l y ws rm (g_Pc K N D ad cy zz av S) (g_Qi K N D ad cy o) 0 0 (g_A N ad)
def g_Ml (l : Launch) (K : Nat → g_Kd) (N : Nat) (D : va_G) (ad : Nat → Nat) (cy : Nat → ClassId) (zz : (Nat → Nat) × (Nat → Nat)) (y : MethodName) (ws : List Cond) (rm : Room) (av : List Value) (S : g_St) (o : Int64 × g_St) : Prop := Met l y ws rm (g_Pc K N D ad cy zz av S) (g_Ql K N D ad cy o) 0 0 (g_A N ad)
def g_Mv (l : Launch) (K : Nat → g_Kd) (N : Nat) (D : va_G) (ad : Nat → Nat) (cy : Nat → ClassId) (zz : (Nat → Nat) × (Nat → Nat)) (y : MethodName) (ws : List Cond) (rm : Room) (av : List Value) (S : g_St) (o : Unit × g_St) : Prop := Met l y ws rm (g_Pc K N D ad cy zz av S) (g_Qv K N D ad cy o) 0 0 (g_A N ad)
abbrev g_qi (K : Nat → g_Kd) (N : Nat) (x : g_CX) (o : Int32 × g_St) : State → Prop := MQ (g_below x) (g_Qi K N (g_D x) (g_ad x) (g_cy x) o) (g_args x) (g_s x) 0 0 (g_A N (g_ad x))
abbrev g_ql (K : Nat → g_Kd) (N : Nat) (x : g_CX) (o : Int64 × g_St) : State → Prop := MQ (g_below x) (g_Ql K N (g_D x) (g_ad x) (g_cy x) o) (g_args x) (g_s x) 0 0 (g_A N (g_ad x))
abbrev g_qv (K : Nat → g_Kd) (N : Nat) (x : g_CX) (o : Unit × g_St) : State → Prop := MQ (g_below x) (g_Qv K N (g_D x) (g_ad x) (g_cy x) o) (g_args x) (g_s x) 0 0 (g_A N (g_ad x))
section GV
variable {K : Nat → g_Kd} {N : Nat} {x : g_CX} {cc : ByteArray} {own : String} {nL : Nat} {Ts : List Cond} {rm : Room} {ret : Option FieldType} {Q : State → Prop} {S : g_St} {pc : Nat} {lv : List (Nat × Value)} {rest : List Value}

theorem g_iconst (X : g_X N x cc own nL Ts rm ret) {n : Int} {v : Int32} (d : decode cc pc = .ok (.iconst n, 1)) (hv : Int32.ofInt n = v)
    (k : g_V K N x nL Q S (pc + 1) lv (.int v :: rest)) : g_V K N x nL Q S pc lv rest := fun H locs ls hP hS hl => lv_iconst X.1 X.2.1 d hv (k H locs ls hP hS hl)
theorem g_bipush (X : g_X N x cc own nL Ts rm ret) {n : Int} {v : Int32} (d : decode cc pc = .ok (.bipush n, 2)) (hv : (Int8.ofInt n).toInt32 = v)
    (k : g_V K N x nL Q S (pc + 2) lv (.int v :: rest)) : g_V K N x nL Q S pc lv rest := fun H locs ls hP hS hl => lv_bipush X.1 X.2.1 d hv (k H locs ls hP hS hl)
theorem g_sipush (X : g_X N x cc own nL Ts rm ret) {n : Int} {v : Int32} (d : decode cc pc = .ok (.sipush n, 3)) (hv : (Int16.ofInt n).toInt32 = v)
    (k : g_V K N x nL Q S (pc + 3) lv (.int v :: rest)) : g_V K N x nL Q S pc lv rest := fun H locs ls hP hS hl => lv_sipush X.1 X.2.1 d hv (k H locs ls hP hS hl)
theorem g_lconst (X : g_X N x cc own nL Ts rm ret) {n : Fin 2} {v : Int64} (d : decode cc pc = .ok (.lconst n, 1)) (hv : Int64.ofNat (n : Nat) = v)
    (k : g_V K N x nL Q S (pc + 1) lv (.long v :: rest)) : g_V K N x nL Q S pc lv rest := fun H locs ls hP hS hl => lv_lconst X.1 X.2.1 d hv (k H locs ls hP hS hl)
theorem g_ldc (X : g_X N x cc own nL Ts rm ret) {index : Nat} {v : Int32} (w : Cond.constant own index v ∈ Ts) (d : decode cc pc = .ok (.ldc index, 2))
    (k : g_V K N x nL Q S (pc + 2) lv (.int v :: rest)) : g_V K N x nL Q S pc lv rest := fun H locs ls hP hS hl => lv_ldc X.1 X.2.1 X.2.2.2.1 (X.2.2.2.2.1 _ w) d (k H locs ls hP hS hl)
theorem g_ldc_w (X : g_X N x cc own nL Ts rm ret) {index : Nat} {v : Int32} (w : Cond.constant own index v ∈ Ts) (d : decode cc pc = .ok (.ldc_w index, 3))
    (k : g_V K N x nL Q S (pc + 3) lv (.int v :: rest)) : g_V K N x nL Q S pc lv rest := fun H locs ls hP hS hl => lv_ldcw X.1 X.2.1 X.2.2.2.1 (X.2.2.2.2.1 _ w) d (k H locs ls hP hS hl)
theorem g_ldc2 (X : g_X N x cc own nL Ts rm ret) {index : Nat} {v : Int64} (w : Cond.constantLong own index v ∈ Ts) (d : decode cc pc = .ok (.ldc2_w index, 3))
    (k : g_V K N x nL Q S (pc + 3) lv (.long v :: rest)) : g_V K N x nL Q S pc lv rest := fun H locs ls hP hS hl => lv_ldc2 X.1 X.2.1 X.2.2.2.1 (X.2.2.2.2.1 _ w) d (k H locs ls hP hS hl)
theorem g_iload_n (X : g_X N x cc own nL Ts rm ret) {i : Fin 4} {v : Int32} (d : decode cc pc = .ok (.iload_n i, 1)) (j : Nat) (h : lv[j]? = some ((i : Nat), .int v))
    (k : g_V K N x nL Q S (pc + 1) lv (.int v :: rest)) : g_V K N x nL Q S pc lv rest := fun H locs ls hP hS hl => lv_iload_n X.1 X.2.1 d rfl (lv_at hl j h) (k H locs ls hP hS hl)
theorem g_iload (X : g_X N x cc own nL Ts rm ret) {i : Nat} {v : Int32} (d : decode cc pc = .ok (.iload i, 2)) (j : Nat) (h : lv[j]? = some (i, .int v))
    (k : g_V K N x nL Q S (pc + 2) lv (.int v :: rest)) : g_V K N x nL Q S pc lv rest := fun H locs ls hP hS hl => lv_iload X.1 X.2.1 d (lv_at hl j h) (k H locs ls hP hS hl)
theorem g_istore_n (X : g_X N x cc own nL Ts rm ret) (lv' : List (Nat × Value)) {i : Fin 4} {v : Int32} (d : decode cc pc = .ok (.istore_n i, 1)) (hn : (i : Nat) < nL) (hl2 : ((i : Nat), Value.int v) :: lv.filter (fun q => !(q.1 == (i : Nat)) && !(q.1 + 1 == (i : Nat) && q.2.category == 2)) = lv')
    (k : g_V K N x nL Q S (pc + 1) lv' rest) : g_V K N x nL Q S pc lv (.int v :: rest) := fun H locs ls hP hS hl => lv_istore_n X.1 X.2.1 d rfl hl hn hl2 (fun ls hl => k H locs ls hP hS hl)
theorem g_istore (X : g_X N x cc own nL Ts rm ret) (lv' : List (Nat × Value)) {i : Nat} {v : Int32} (d : decode cc pc = .ok (.istore i, 2)) (hn : i < nL) (hl2 : (i, Value.int v) :: lv.filter (fun q => !(q.1 == i) && !(q.1 + 1 == i && q.2.category == 2)) = lv')
    (k : g_V K N x nL Q S (pc + 2) lv' rest) : g_V K N x nL Q S pc lv (.int v :: rest) := fun H locs ls hP hS hl => lv_istore X.1 X.2.1 d hl hn hl2 (fun ls hl => k H locs ls hP hS hl)
theorem g_lload_n (X : g_X N x cc own nL Ts rm ret) {i : Fin 4} {v : Int64} (d : decode cc pc = .ok (.lload_n i, 1)) (j : Nat) (h : lv[j]? = some ((i : Nat), .long v))
    (k : g_V K N x nL Q S (pc + 1) lv (.long v :: rest)) : g_V K N x nL Q S pc lv rest := fun H locs ls hP hS hl => lv_lload_n X.1 X.2.1 d rfl (lv_at hl j h) (k H locs ls hP hS hl)
theorem g_lload (X : g_X N x cc own nL Ts rm ret) {i : Nat} {v : Int64} (d : decode cc pc = .ok (.lload i, 2)) (j : Nat) (h : lv[j]? = some (i, .long v))
    (k : g_V K N x nL Q S (pc + 2) lv (.long v :: rest)) : g_V K N x nL Q S pc lv rest := fun H locs ls hP hS hl => lv_lload X.1 X.2.1 d (lv_at hl j h) (k H locs ls hP hS hl)
theorem g_lstore_n (X : g_X N x cc own nL Ts rm ret) (lv' : List (Nat × Value)) {i : Fin 4} {v : Int64} (d : decode cc pc = .ok (.lstore_n i, 1)) (hn : (i : Nat) + 1 < nL) (hl2 : ((i : Nat), Value.long v) :: lv.filter (fun q => !(q.1 == (i : Nat)) && (!(q.1 == (i : Nat) + 1) && !(q.1 + 1 == (i : Nat) && q.2.category == 2))) = lv')
    (k : g_V K N x nL Q S (pc + 1) lv' rest) : g_V K N x nL Q S pc lv (.long v :: rest) := fun H locs ls hP hS hl => lv_lstore_n X.1 X.2.1 d rfl hl hn hl2 (fun ls hl => k H locs ls hP hS hl)
theorem g_lstore (X : g_X N x cc own nL Ts rm ret) (lv' : List (Nat × Value)) {i : Nat} {v : Int64} (d : decode cc pc = .ok (.lstore i, 2)) (hn : i + 1 < nL) (hl2 : (i, Value.long v) :: lv.filter (fun q => !(q.1 == i) && (!(q.1 == i + 1) && !(q.1 + 1 == i && q.2.category == 2))) = lv')
    (k : g_V K N x nL Q S (pc + 2) lv' rest) : g_V K N x nL Q S pc lv (.long v :: rest) := fun H locs ls hP hS hl => lv_lstore X.1 X.2.1 d hl hn hl2 (fun ls hl => k H locs ls hP hS hl)
theorem g_aload_n (X : g_X N x cc own nL Ts rm ret) {i : Fin 4} {v : Nat} (d : decode cc pc = .ok (.aload_n i, 1)) (j : Nat) (h : lv[j]? = some ((i : Nat), .ref v))
    (k : g_V K N x nL Q S (pc + 1) lv (.ref v :: rest)) : g_V K N x nL Q S pc lv rest := fun H locs ls hP hS hl => lv_aload_n X.1 X.2.1 d rfl (lv_at hl j h) (k H locs ls hP hS hl)
theorem g_aload (X : g_X N x cc own nL Ts rm ret) {i : Nat} {v : Nat} (d : decode cc pc = .ok (.aload i, 2)) (j : Nat) (h : lv[j]? = some (i, .ref v))
    (k : g_V K N x nL Q S (pc + 2) lv (.ref v :: rest)) : g_V K N x nL Q S pc lv rest := fun H locs ls hP hS hl => lv_aload X.1 X.2.1 d (lv_at hl j h) (k H locs ls hP hS hl)
theorem g_astore_n (X : g_X N x cc own nL Ts rm ret) (lv' : List (Nat × Value)) {i : Fin 4} {v : Nat} (d : decode cc pc = .ok (.astore_n i, 1)) (hn : (i : Nat) < nL) (hl2 : ((i : Nat), Value.ref v) :: lv.filter (fun q => !(q.1 == (i : Nat)) && !(q.1 + 1 == (i : Nat) && q.2.category == 2)) = lv')
    (k : g_V K N x nL Q S (pc + 1) lv' rest) : g_V K N x nL Q S pc lv (.ref v :: rest) := fun H locs ls hP hS hl => lv_astore_n X.1 X.2.1 d rfl hl hn hl2 (fun ls hl => k H locs ls hP hS hl)
theorem g_astore (X : g_X N x cc own nL Ts rm ret) (lv' : List (Nat × Value)) {i : Nat} {v : Nat} (d : decode cc pc = .ok (.astore i, 2)) (hn : i < nL) (hl2 : (i, Value.ref v) :: lv.filter (fun q => !(q.1 == i) && !(q.1 + 1 == i && q.2.category == 2)) = lv')
    (k : g_V K N x nL Q S (pc + 2) lv' rest) : g_V K N x nL Q S pc lv (.ref v :: rest) := fun H locs ls hP hS hl => lv_astore X.1 X.2.1 d hl hn hl2 (fun ls hl => k H locs ls hP hS hl)
theorem g_iinc (X : g_X N x cc own nL Ts rm ret) (lv' : List (Nat × Value)) {i : Nat} {n : Int} {a v : Int32} (d : decode cc pc = .ok (.iinc i n, 3)) (j : Nat) (hj : lv[j]? = some (i, .int a)) (hv : a + Int32.ofInt n = v) (hn : i < nL) (hl2 : (i, Value.int v) :: lv.filter (fun q => !(q.1 == i) && !(q.1 + 1 == i && q.2.category == 2)) = lv')
    (k : g_V K N x nL Q S (pc + 3) lv' rest) : g_V K N x nL Q S pc lv rest := fun H locs ls hP hS hl => lv_iinc X.1 X.2.1 d hl hj hv hn hl2 (fun ls hl => k H locs ls hP hS hl)
theorem g_sub (ks : List Nat) (lv' : List (Nat × Value)) (h : lv_pick lv ks = lv') (k : g_V K N x nL Q S pc lv' rest) : g_V K N x nL Q S pc lv rest := fun H locs ls hP hS hl => k H locs ls hP hS (lv_sub hl ks h)
theorem g_iadd (X : g_X N x cc own nL Ts rm ret) {a b : Int32} (d : decode cc pc = .ok (.iadd, 1))
    (k : g_V K N x nL Q S (pc + 1) lv (.int (a + b) :: rest)) : g_V K N x nL Q S pc lv (.int b :: .int a :: rest) := fun H locs ls hP hS hl => lv_iadd X.1 X.2.1 d (k H locs ls hP hS hl)
theorem g_isub (X : g_X N x cc own nL Ts rm ret) {a b : Int32} (d : decode cc pc = .ok (.isub, 1))
    (k : g_V K N x nL Q S (pc + 1) lv (.int (a - b) :: rest)) : g_V K N x nL Q S pc lv (.int b :: .int a :: rest) := fun H locs ls hP hS hl => lv_isub X.1 X.2.1 d (k H locs ls hP hS hl)
theorem g_imul (X : g_X N x cc own nL Ts rm ret) {a b : Int32} (d : decode cc pc = .ok (.imul, 1))
    (k : g_V K N x nL Q S (pc + 1) lv (.int (a * b) :: rest)) : g_V K N x nL Q S pc lv (.int b :: .int a :: rest) := fun H locs ls hP hS hl => lv_imul X.1 X.2.1 d (k H locs ls hP hS hl)
theorem g_iand (X : g_X N x cc own nL Ts rm ret) {a b : Int32} (d : decode cc pc = .ok (.iand, 1))
    (k : g_V K N x nL Q S (pc + 1) lv (.int (a &&& b) :: rest)) : g_V K N x nL Q S pc lv (.int b :: .int a :: rest) := fun H locs ls hP hS hl => lv_iand X.1 X.2.1 d (k H locs ls hP hS hl)
theorem g_ior (X : g_X N x cc own nL Ts rm ret) {a b : Int32} (d : decode cc pc = .ok (.ior, 1))
    (k : g_V K N x nL Q S (pc + 1) lv (.int (a ||| b) :: rest)) : g_V K N x nL Q S pc lv (.int b :: .int a :: rest) := fun H locs ls hP hS hl => lv_ior X.1 X.2.1 d (k H locs ls hP hS hl)
theorem g_ixor (X : g_X N x cc own nL Ts rm ret) {a b : Int32} (d : decode cc pc = .ok (.ixor, 1))
    (k : g_V K N x nL Q S (pc + 1) lv (.int (a ^^^ b) :: rest)) : g_V K N x nL Q S pc lv (.int b :: .int a :: rest) := fun H locs ls hP hS hl => lv_ixor X.1 X.2.1 d (k H locs ls hP hS hl)
theorem g_ishl (X : g_X N x cc own nL Ts rm ret) {a b : Int32} (d : decode cc pc = .ok (.ishl, 1))
    (k : g_V K N x nL Q S (pc + 1) lv (.int (a <<< (b &&& 31)) :: rest)) : g_V K N x nL Q S pc lv (.int b :: .int a :: rest) := fun H locs ls hP hS hl => lv_ishl X.1 X.2.1 d (k H locs ls hP hS hl)
theorem g_ishr (X : g_X N x cc own nL Ts rm ret) {a b : Int32} (d : decode cc pc = .ok (.ishr, 1))
    (k : g_V K N x nL Q S (pc + 1) lv (.int (a >>> (b &&& 31)) :: rest)) : g_V K N x nL Q S pc lv (.int b :: .int a :: rest) := fun H locs ls hP hS hl => lv_ishr X.1 X.2.1 d (k H locs ls hP hS hl)
theorem g_iushr (X : g_X N x cc own nL Ts rm ret) {a b : Int32} (d : decode cc pc = .ok (.iushr, 1))
    (k : g_V K N x nL Q S (pc + 1) lv (.int (a.toUInt32 >>> (b.toUInt32 &&& Int32.toUInt32 31)).toInt32 :: rest)) : g_V K N x nL Q S pc lv (.int b :: .int a :: rest) := fun H locs ls hP hS hl => lv_iushr X.1 X.2.1 d rfl (k H locs ls hP hS hl)
theorem g_ladd (X : g_X N x cc own nL Ts rm ret) {a b : Int64} (d : decode cc pc = .ok (.ladd, 1))
    (k : g_V K N x nL Q S (pc + 1) lv (.long (a + b) :: rest)) : g_V K N x nL Q S pc lv (.long b :: .long a :: rest) := fun H locs ls hP hS hl => lv_ladd X.1 X.2.1 d (k H locs ls hP hS hl)
theorem g_lsub (X : g_X N x cc own nL Ts rm ret) {a b : Int64} (d : decode cc pc = .ok (.lsub, 1))
    (k : g_V K N x nL Q S (pc + 1) lv (.long (a - b) :: rest)) : g_V K N x nL Q S pc lv (.long b :: .long a :: rest) := fun H locs ls hP hS hl => lv_lsub X.1 X.2.1 d (k H locs ls hP hS hl)
theorem g_lmul (X : g_X N x cc own nL Ts rm ret) {a b : Int64} (d : decode cc pc = .ok (.lmul, 1))
    (k : g_V K N x nL Q S (pc + 1) lv (.long (a * b) :: rest)) : g_V K N x nL Q S pc lv (.long b :: .long a :: rest) := fun H locs ls hP hS hl => lv_lmul X.1 X.2.1 d (k H locs ls hP hS hl)
theorem g_idiv (X : g_X N x cc own nL Ts rm ret) {β : Type} {z : β} {kk : Option β} {a b : Int32} (d : decode cc pc = .ok (.idiv, 1)) (h : g_nz b kk = some z)
    (k : kk = some z → g_V K N x nL Q S (pc + 1) lv (.int (a / b) :: rest)) : g_V K N x nL Q S pc lv (.int b :: .int a :: rest) := fun H locs ls hP hS hl => lv_idiv X.1 X.2.1 d (g_nz_s h).1 (k (g_nz_s h).2 H locs ls hP hS hl)
theorem g_irem (X : g_X N x cc own nL Ts rm ret) {β : Type} {z : β} {kk : Option β} {a b : Int32} (d : decode cc pc = .ok (.irem, 1)) (h : g_nz b kk = some z)
    (k : kk = some z → g_V K N x nL Q S (pc + 1) lv (.int (a - a / b * b) :: rest)) : g_V K N x nL Q S pc lv (.int b :: .int a :: rest) := fun H locs ls hP hS hl => lv_irem X.1 X.2.1 d (g_nz_s h).1 (k (g_nz_s h).2 H locs ls hP hS hl)
theorem g_ldiv (X : g_X N x cc own nL Ts rm ret) {β : Type} {z : β} {kk : Option β} {a b : Int64} (d : decode cc pc = .ok (.ldiv, 1)) (h : g_nl b kk = some z)
    (k : kk = some z → g_V K N x nL Q S (pc + 1) lv (.long (a / b) :: rest)) : g_V K N x nL Q S pc lv (.long b :: .long a :: rest) := fun H locs ls hP hS hl => lv_ldiv X.1 X.2.1 d (g_nl_s h).1 (k (g_nl_s h).2 H locs ls hP hS hl)
theorem g_lrem (X : g_X N x cc own nL Ts rm ret) {β : Type} {z : β} {kk : Option β} {a b : Int64} (d : decode cc pc = .ok (.lrem, 1)) (h : g_nl b kk = some z)
    (k : kk = some z → g_V K N x nL Q S (pc + 1) lv (.long (a - a / b * b) :: rest)) : g_V K N x nL Q S pc lv (.long b :: .long a :: rest) := fun H locs ls hP hS hl => lv_lrem X.1 X.2.1 d (g_nl_s h).1 (k (g_nl_s h).2 H locs ls hP hS hl)
theorem g_ineg (X : g_X N x cc own nL Ts rm ret) {a : Int32} (d : decode cc pc = .ok (.ineg, 1))
    (k : g_V K N x nL Q S (pc + 1) lv (.int (-a) :: rest)) : g_V K N x nL Q S pc lv (.int a :: rest) := fun H locs ls hP hS hl => lv_ineg X.1 X.2.1 d (k H locs ls hP hS hl)
theorem g_i2l (X : g_X N x cc own nL Ts rm ret) {a : Int32} (d : decode cc pc = .ok (.i2l, 1))
    (k : g_V K N x nL Q S (pc + 1) lv (.long a.toInt64 :: rest)) : g_V K N x nL Q S pc lv (.int a :: rest) := fun H locs ls hP hS hl => lv_i2l X.1 X.2.1 d rfl (k H locs ls hP hS hl)
theorem g_i2b (X : g_X N x cc own nL Ts rm ret) {a : Int32} (d : decode cc pc = .ok (.i2b, 1))
    (k : g_V K N x nL Q S (pc + 1) lv (.int a.toInt8.toInt32 :: rest)) : g_V K N x nL Q S pc lv (.int a :: rest) := fun H locs ls hP hS hl => lv_i2b X.1 X.2.1 d rfl (k H locs ls hP hS hl)
theorem g_i2s (X : g_X N x cc own nL Ts rm ret) {a : Int32} (d : decode cc pc = .ok (.i2s, 1))
    (k : g_V K N x nL Q S (pc + 1) lv (.int a.toInt16.toInt32 :: rest)) : g_V K N x nL Q S pc lv (.int a :: rest) := fun H locs ls hP hS hl => lv_i2s X.1 X.2.1 d rfl (k H locs ls hP hS hl)
theorem g_lcmp (X : g_X N x cc own nL Ts rm ret) {a b : Int64} (d : decode cc pc = .ok (.lcmp, 1))
    (k : g_V K N x nL Q S (pc + 1) lv (.int (lg_cmp a b) :: rest)) : g_V K N x nL Q S pc lv (.long b :: .long a :: rest) := fun H locs ls hP hS hl => W.lcmp X.1 X.2.1 d (k H locs ls hP hS hl)
theorem g_dup (X : g_X N x cc own nL Ts rm ret) {a : Value} (d : decode cc pc = .ok (.dup, 1)) (ha : a.category = 1)
    (k : g_V K N x nL Q S (pc + 1) lv (a :: a :: rest)) : g_V K N x nL Q S pc lv (a :: rest) := fun H locs ls hP hS hl => lv_dup X.1 X.2.1 d ha (k H locs ls hP hS hl)
theorem g_dup_x1 (X : g_X N x cc own nL Ts rm ret) {a b : Value} (d : decode cc pc = .ok (.dup_x1, 1)) (ha : a.category = 1) (hb : b.category = 1)
    (k : g_V K N x nL Q S (pc + 1) lv (a :: b :: a :: rest)) : g_V K N x nL Q S pc lv (a :: b :: rest) := fun H locs ls hP hS hl => lv_dup_x1 X.1 X.2.1 d ha hb (k H locs ls hP hS hl)
theorem g_dup2_11 (X : g_X N x cc own nL Ts rm ret) {a b : Value} (d : decode cc pc = .ok (.dup2, 1)) (ha : a.category = 1) (hb : b.category = 1)
    (k : g_V K N x nL Q S (pc + 1) lv (a :: b :: a :: b :: rest)) : g_V K N x nL Q S pc lv (a :: b :: rest) := fun H locs ls hP hS hl => lv_dup2_11 X.1 X.2.1 d ha hb (k H locs ls hP hS hl)
theorem g_pop (X : g_X N x cc own nL Ts rm ret) {a : Value} (d : decode cc pc = .ok (.pop, 1)) (ha : a.category = 1)
    (k : g_V K N x nL Q S (pc + 1) lv rest) : g_V K N x nL Q S pc lv (a :: rest) := fun H locs ls hP hS hl => lv_pop X.1 X.2.1 d ha (k H locs ls hP hS hl)
theorem g_if_eq (X : g_X N x cc own nL Ts rm ret) {off : Int} (tgt : Nat) {a : Int32} {β : Type} {z : β} {tt ff : Option β} {dc : Decidable (a = 0)} (d : decode cc pc = .ok (.ifCond .eq off, 3)) (ht : (pc : Int) + off = (tgt : Int)) (h : (@ite _ (a = 0) dc tt ff) = some z)
    (kt : (a = 0) → tt = some z → g_V K N x nL Q S tgt lv rest) (kf : (¬ a = 0) → ff = some z → g_V K N x nL Q S (pc + 3) lv rest) : g_V K N x nL Q S pc lv (.int a :: rest) := fun H locs ls hP hS hl => lv_if_eq X.1 X.2.1 d ht (fun q => kt q (by rw [if_pos q] at h; exact h) H locs ls hP hS hl) (fun q => kf q (by rw [if_neg q] at h; exact h) H locs ls hP hS hl)
theorem g_icmp_eq (X : g_X N x cc own nL Ts rm ret) {off : Int} (tgt : Nat) {a b : Int32} {β : Type} {z : β} {tt ff : Option β} {dc : Decidable (a = b)} (d : decode cc pc = .ok (.if_icmp .eq off, 3)) (ht : (pc : Int) + off = (tgt : Int)) (h : (@ite _ (a = b) dc tt ff) = some z)
    (kt : (a = b) → tt = some z → g_V K N x nL Q S tgt lv rest) (kf : (¬ a = b) → ff = some z → g_V K N x nL Q S (pc + 3) lv rest) : g_V K N x nL Q S pc lv (.int b :: .int a :: rest) := fun H locs ls hP hS hl => lv_icmp_eq X.1 X.2.1 d ht (fun q => kt q (by rw [if_pos q] at h; exact h) H locs ls hP hS hl) (fun q => kf q (by rw [if_neg q] at h; exact h) H locs ls hP hS hl)
theorem g_if_ne (X : g_X N x cc own nL Ts rm ret) {off : Int} (tgt : Nat) {a : Int32} {β : Type} {z : β} {tt ff : Option β} {dc : Decidable (a = 0)} (d : decode cc pc = .ok (.ifCond .ne off, 3)) (ht : (pc : Int) + off = (tgt : Int)) (h : (@ite _ (a = 0) dc ff tt) = some z)
    (kt : (¬ a = 0) → tt = some z → g_V K N x nL Q S tgt lv rest) (kf : (a = 0) → ff = some z → g_V K N x nL Q S (pc + 3) lv rest) : g_V K N x nL Q S pc lv (.int a :: rest) := fun H locs ls hP hS hl => lv_if_ne X.1 X.2.1 d ht (fun q => kt q (by rw [if_neg q] at h; exact h) H locs ls hP hS hl) (fun q => kf q (by rw [if_pos q] at h; exact h) H locs ls hP hS hl)
theorem g_icmp_ne (X : g_X N x cc own nL Ts rm ret) {off : Int} (tgt : Nat) {a b : Int32} {β : Type} {z : β} {tt ff : Option β} {dc : Decidable (a = b)} (d : decode cc pc = .ok (.if_icmp .ne off, 3)) (ht : (pc : Int) + off = (tgt : Int)) (h : (@ite _ (a = b) dc ff tt) = some z)
    (kt : (¬ a = b) → tt = some z → g_V K N x nL Q S tgt lv rest) (kf : (a = b) → ff = some z → g_V K N x nL Q S (pc + 3) lv rest) : g_V K N x nL Q S pc lv (.int b :: .int a :: rest) := fun H locs ls hP hS hl => lv_icmp_ne X.1 X.2.1 d ht (fun q => kt q (by rw [if_neg q] at h; exact h) H locs ls hP hS hl) (fun q => kf q (by rw [if_pos q] at h; exact h) H locs ls hP hS hl)
theorem g_if_lt (X : g_X N x cc own nL Ts rm ret) {off : Int} (tgt : Nat) {a : Int32} {β : Type} {z : β} {tt ff : Option β} {dc : Decidable (a < 0)} (d : decode cc pc = .ok (.ifCond .lt off, 3)) (ht : (pc : Int) + off = (tgt : Int)) (h : (@ite _ (a < 0) dc tt ff) = some z)
    (kt : (a < 0) → tt = some z → g_V K N x nL Q S tgt lv rest) (kf : (¬ a < 0) → ff = some z → g_V K N x nL Q S (pc + 3) lv rest) : g_V K N x nL Q S pc lv (.int a :: rest) := fun H locs ls hP hS hl => lv_if_lt X.1 X.2.1 d ht (fun q => kt q (by rw [if_pos q] at h; exact h) H locs ls hP hS hl) (fun q => kf q (by rw [if_neg q] at h; exact h) H locs ls hP hS hl)
theorem g_icmp_lt (X : g_X N x cc own nL Ts rm ret) {off : Int} (tgt : Nat) {a b : Int32} {β : Type} {z : β} {tt ff : Option β} {dc : Decidable (a < b)} (d : decode cc pc = .ok (.if_icmp .lt off, 3)) (ht : (pc : Int) + off = (tgt : Int)) (h : (@ite _ (a < b) dc tt ff) = some z)
    (kt : (a < b) → tt = some z → g_V K N x nL Q S tgt lv rest) (kf : (¬ a < b) → ff = some z → g_V K N x nL Q S (pc + 3) lv rest) : g_V K N x nL Q S pc lv (.int b :: .int a :: rest) := fun H locs ls hP hS hl => lv_icmp_lt X.1 X.2.1 d ht (fun q => kt q (by rw [if_pos q] at h; exact h) H locs ls hP hS hl) (fun q => kf q (by rw [if_neg q] at h; exact h) H locs ls hP hS hl)
theorem g_if_ge (X : g_X N x cc own nL Ts rm ret) {off : Int} (tgt : Nat) {a : Int32} {β : Type} {z : β} {tt ff : Option β} {dc : Decidable (0 ≤ a)} (d : decode cc pc = .ok (.ifCond .ge off, 3)) (ht : (pc : Int) + off = (tgt : Int)) (h : (@ite _ (0 ≤ a) dc tt ff) = some z)
    (kt : (0 ≤ a) → tt = some z → g_V K N x nL Q S tgt lv rest) (kf : (¬ 0 ≤ a) → ff = some z → g_V K N x nL Q S (pc + 3) lv rest) : g_V K N x nL Q S pc lv (.int a :: rest) := fun H locs ls hP hS hl => lv_if_ge X.1 X.2.1 d ht (fun q => kt q (by rw [if_pos q] at h; exact h) H locs ls hP hS hl) (fun q => kf q (by rw [if_neg q] at h; exact h) H locs ls hP hS hl)
theorem g_icmp_ge (X : g_X N x cc own nL Ts rm ret) {off : Int} (tgt : Nat) {a b : Int32} {β : Type} {z : β} {tt ff : Option β} {dc : Decidable (b ≤ a)} (d : decode cc pc = .ok (.if_icmp .ge off, 3)) (ht : (pc : Int) + off = (tgt : Int)) (h : (@ite _ (b ≤ a) dc tt ff) = some z)
    (kt : (b ≤ a) → tt = some z → g_V K N x nL Q S tgt lv rest) (kf : (¬ b ≤ a) → ff = some z → g_V K N x nL Q S (pc + 3) lv rest) : g_V K N x nL Q S pc lv (.int b :: .int a :: rest) := fun H locs ls hP hS hl => lv_icmp_ge X.1 X.2.1 d ht (fun q => kt q (by rw [if_pos q] at h; exact h) H locs ls hP hS hl) (fun q => kf q (by rw [if_neg q] at h; exact h) H locs ls hP hS hl)
theorem g_if_gt (X : g_X N x cc own nL Ts rm ret) {off : Int} (tgt : Nat) {a : Int32} {β : Type} {z : β} {tt ff : Option β} {dc : Decidable (0 < a)} (d : decode cc pc = .ok (.ifCond .gt off, 3)) (ht : (pc : Int) + off = (tgt : Int)) (h : (@ite _ (0 < a) dc tt ff) = some z)
    (kt : (0 < a) → tt = some z → g_V K N x nL Q S tgt lv rest) (kf : (¬ 0 < a) → ff = some z → g_V K N x nL Q S (pc + 3) lv rest) : g_V K N x nL Q S pc lv (.int a :: rest) := fun H locs ls hP hS hl => lv_if_gt X.1 X.2.1 d ht (fun q => kt q (by rw [if_pos q] at h; exact h) H locs ls hP hS hl) (fun q => kf q (by rw [if_neg q] at h; exact h) H locs ls hP hS hl)
theorem g_icmp_gt (X : g_X N x cc own nL Ts rm ret) {off : Int} (tgt : Nat) {a b : Int32} {β : Type} {z : β} {tt ff : Option β} {dc : Decidable (b < a)} (d : decode cc pc = .ok (.if_icmp .gt off, 3)) (ht : (pc : Int) + off = (tgt : Int)) (h : (@ite _ (b < a) dc tt ff) = some z)
    (kt : (b < a) → tt = some z → g_V K N x nL Q S tgt lv rest) (kf : (¬ b < a) → ff = some z → g_V K N x nL Q S (pc + 3) lv rest) : g_V K N x nL Q S pc lv (.int b :: .int a :: rest) := fun H locs ls hP hS hl => lv_icmp_gt X.1 X.2.1 d ht (fun q => kt q (by rw [if_pos q] at h; exact h) H locs ls hP hS hl) (fun q => kf q (by rw [if_neg q] at h; exact h) H locs ls hP hS hl)
theorem g_if_le (X : g_X N x cc own nL Ts rm ret) {off : Int} (tgt : Nat) {a : Int32} {β : Type} {z : β} {tt ff : Option β} {dc : Decidable (a ≤ 0)} (d : decode cc pc = .ok (.ifCond .le off, 3)) (ht : (pc : Int) + off = (tgt : Int)) (h : (@ite _ (a ≤ 0) dc tt ff) = some z)
    (kt : (a ≤ 0) → tt = some z → g_V K N x nL Q S tgt lv rest) (kf : (¬ a ≤ 0) → ff = some z → g_V K N x nL Q S (pc + 3) lv rest) : g_V K N x nL Q S pc lv (.int a :: rest) := fun H locs ls hP hS hl => lv_if_le X.1 X.2.1 d ht (fun q => kt q (by rw [if_pos q] at h; exact h) H locs ls hP hS hl) (fun q => kf q (by rw [if_neg q] at h; exact h) H locs ls hP hS hl)
theorem g_icmp_le (X : g_X N x cc own nL Ts rm ret) {off : Int} (tgt : Nat) {a b : Int32} {β : Type} {z : β} {tt ff : Option β} {dc : Decidable (a ≤ b)} (d : decode cc pc = .ok (.if_icmp .le off, 3)) (ht : (pc : Int) + off = (tgt : Int)) (h : (@ite _ (a ≤ b) dc tt ff) = some z)
    (kt : (a ≤ b) → tt = some z → g_V K N x nL Q S tgt lv rest) (kf : (¬ a ≤ b) → ff = some z → g_V K N x nL Q S (pc + 3) lv rest) : g_V K N x nL Q S pc lv (.int b :: .int a :: rest) := fun H locs ls hP hS hl => lv_icmp_le X.1 X.2.1 d ht (fun q => kt q (by rw [if_pos q] at h; exact h) H locs ls hP hS hl) (fun q => kf q (by rw [if_neg q] at h; exact h) H locs ls hP hS hl)
theorem g_goto (X : g_X N x cc own nL Ts rm ret) {off : Int} (tgt : Nat) (d : decode cc pc = .ok (.goto off, 3)) (ht : (pc : Int) + off = (tgt : Int))
    (k : g_V K N x nL Q S tgt lv rest) : g_V K N x nL Q S pc lv rest := fun H locs ls hP hS hl => lv_goto X.1 X.2.1 d ht (k H locs ls hP hS hl)
theorem g_sw_out {a : Int32} {hi : Int} {n : Nat} (hn : n < 1000) (hh : hi = n) (h : ∀ k : Nat, k ≤ n → a ≠ nI k) : a.toInt < 0 ∨ hi < a.toInt := by
  rcases Classical.em (a.toInt < 0 ∨ hi < a.toInt) with c | c
  · exact c
  · exfalso
    have h0 : 0 ≤ a.toInt := by omega
    have h1 : a.toInt ≤ n := by omega
    refine h a.toInt.toNat (by omega) ?_
    apply Int32.toInt_inj.mp
    rw [nI_toInt (by omega)]
    omega

theorem g_tableIn (X : g_X N x cc own nL Ts rm ret) {dflt lo hi : Int} {offs : Array Int} {len : Nat} {a : Int32} {off : Int} (tgt : Nat) (d : decode cc pc = .ok (.tableswitch dflt lo hi offs, len)) (h1 : ¬ a.toInt < lo) (h2 : ¬ hi < a.toInt) (ho : offs[(a.toInt - lo).toNat]? = some off) (ht : (pc : Int) + off = (tgt : Int))
    (k : g_V K N x nL Q S tgt lv rest) : g_V K N x nL Q S pc lv (.int a :: rest) := fun H locs ls hP hS hl => lv_tableIn X.1 X.2.1 d h1 h2 ho ht (k H locs ls hP hS hl)
theorem g_tableOut (X : g_X N x cc own nL Ts rm ret) {dflt lo hi : Int} {offs : Array Int} {len : Nat} {a : Int32} (tgt : Nat) (d : decode cc pc = .ok (.tableswitch dflt lo hi offs, len)) (h1 : a.toInt < lo ∨ hi < a.toInt) (ht : (pc : Int) + dflt = (tgt : Int))
    (k : g_V K N x nL Q S tgt lv rest) : g_V K N x nL Q S pc lv (.int a :: rest) := fun H locs ls hP hS hl => lv_tableOut X.1 X.2.1 d h1 ht (k H locs ls hP hS hl)
theorem g_geti (X : g_X N x cc own nL Ts rm ret) {ci : Nat} {C : String} {T : u_T} {ty : Nat → FieldType} {n : Nat} {bs : List Bool} (hC : g_C ci C T ty n) (hin : ∀ w ∈ u_ws C T n, w ∈ Ts) (k : Nat) (hk : k < n) {index : Nat} (w : Cond.fieldLink own index (T k).1 (T k).2.1 (T k).2.2.1 ∈ Ts) {j : Nat} (hj : j < N ∧ K j = .inl (ci, bs)) (hb : bs[k]? = some false) (d : decode cc pc = .ok (.getfield index, 3))
    (kk : g_V K N x nL Q S (pc + 3) lv (.int (S.1 j k) :: rest)) : g_V K N x nL Q S pc lv (.ref (g_ad x j) :: rest) := fun H locs ls hP hS hl => va_get (cl := vwCl) X.1 X.2.1 X.2.2.2.2.1 hin X.2.2.2.1 X.2.2.2.2.2.1 hP j (g_at hj) hC.1 k hk (X.2.2.2.2.1 _ w) (fun _ h => h) (g_vals_i hb) d (kk H locs ls hP hS hl)
theorem g_getr (X : g_X N x cc own nL Ts rm ret) {ci : Nat} {C : String} {T : u_T} {ty : Nat → FieldType} {n : Nat} {bs : List Bool} (hC : g_C ci C T ty n) (hin : ∀ w ∈ u_ws C T n, w ∈ Ts) (k : Nat) (hk : k < n) {index : Nat} (w : Cond.fieldLink own index (T k).1 (T k).2.1 (T k).2.2.1 ∈ Ts) {j : Nat} (hj : j < N ∧ K j = .inl (ci, bs)) (hb : bs[k]? = some true) (d : decode cc pc = .ok (.getfield index, 3)) {β : Type} {z : β} {kd : g_Kd} {f : Nat → Option β} (h : g_ld K N kd (S.2 j k) f = some z)
    (kk : ∀ a, (a < N ∧ K a = kd) → f a = some z → g_V K N x nL Q S (pc + 3) lv (.ref (g_ad x a) :: rest)) : g_V K N x nL Q S pc lv (.ref (g_ad x j) :: rest) := by
  obtain ⟨a, ha, hka, hf⟩ := g_ld_s h
  intro H locs ls hP hS hl
  refine va_get (cl := vwCl) (v := .ref (g_ad x a)) X.1 X.2.1 X.2.2.2.2.1 hin X.2.2.2.1 X.2.2.2.2.2.1 hP j (g_at hj) hC.1 k hk (X.2.2.2.2.1 _ w) (fun _ h => h) ?_ d (kk a hka hf H locs ls hP hS hl)
  rw [g_vals_r hb, ha]
  rfl
theorem g_puti (X : g_X N x cc own nL Ts rm ret) {ci : Nat} {C : String} {T : u_T} {ty : Nat → FieldType} {n : Nat} {bs : List Bool} (hC : g_C ci C T ty n) (hin : ∀ w ∈ u_ws C T n, w ∈ Ts) (k : Nat) (hk : k < n) {index : Nat} (w : Cond.fieldLink own index (T k).1 (T k).2.1 (T k).2.2.1 ∈ Ts) {j : Nat} (hj : j < N ∧ K j = .inl (ci, bs)) (hb : bs[k]? = some false) (hfin : (T k).2.2.2 = false) {t : FieldType} {v : Int32} (hd : parseFieldDescriptor (T k).2.2.1 = some t) (hn : narrow t (.int v) = .int v) (hf : fits t (.int v) = true) (d : decode cc pc = .ok (.putfield index, 3))
    (kk : g_V K N x nL Q (g_u S.1 j k v, S.2) (pc + 3) lv rest) : g_V K N x nL Q S pc lv (.int v :: .ref (g_ad x j) :: rest) := by
  intro H locs ls hP hS hl
  refine va_put (cl := vwCl) X.1 X.2.1 X.2.2.2.2.1 hin ty hC.2.1 hC.2.2 X.2.2.2.1 X.2.2.2.2.2.1 hP (g_pw_D X.2.2.2.2.2.2.1) hS j (g_at hj) hC.1 k hk (X.2.2.2.2.1 _ w) (fun _ h => h) hfin hd hn hf (by rw [g_vals_len]; exact (List.getElem?_eq_some_iff.mp hb).1) d ?_
  intro H1 locs1 hP1 hD1 hS1
  rw [g_set (S := S) (S' := (g_u S.1 j k v, S.2)) hj (fun a h => g_u_ne h) (fun _ _ => rfl) (by show _ = Sum.inr (ci, _); rw [g_vals_set hb])] at hP1
  exact kk H1 locs1 ls hP1 hS1 hl
theorem g_iald (X : g_X N x cc own nL Ts rm ret) {a n : Nat} {i : Int32} (ha : a < N ∧ K a = .inr (0, n, false)) (d : decode cc pc = .ok (.iaload, 1)) {β : Type} {z : β} {f : Nat → Option β} (h : g_ix i n f = some z)
    (kk : ∀ j, j = i.toNatClampNeg → f j = some z → g_V K N x nL Q S (pc + 1) lv (.int (S.1 a j) :: rest)) : g_V K N x nL Q S pc lv (.int i :: .ref (g_ad x a) :: rest) := fun H locs ls hP hS hl =>
  va_iald (cl := vwCl) X.1 X.2.1 X.2.2.2.2.2.1 hP a 0 (g_at ha) rfl (g_ix_s h).1 d (kk _ rfl (g_ix_s h).2 H locs ls hP hS hl)
theorem g_bald (X : g_X N x cc own nL Ts rm ret) {a n : Nat} {i : Int32} (ha : a < N ∧ K a = .inr (1, n, false)) (d : decode cc pc = .ok (.baload, 1)) {β : Type} {z : β} {f : Nat → Option β} (h : g_ix i n f = some z)
    (kk : ∀ j, j = i.toNatClampNeg → f j = some z → g_V K N x nL Q S (pc + 1) lv (.int (S.1 a j) :: rest)) : g_V K N x nL Q S pc lv (.int i :: .ref (g_ad x a) :: rest) := fun H locs ls hP hS hl =>
  va_bald (cl := vwCl) X.1 X.2.1 X.2.2.2.2.2.1 hP a 1 (g_at ha) rfl (g_ix_s h).1 d (kk _ rfl (g_ix_s h).2 H locs ls hP hS hl)
theorem g_zald (X : g_X N x cc own nL Ts rm ret) {a n : Nat} {i : Int32} (ha : a < N ∧ K a = .inr (2, n, false)) (d : decode cc pc = .ok (.baload, 1)) {β : Type} {z : β} {f : Nat → Option β} (h : g_ix i n f = some z)
    (kk : ∀ j, j = i.toNatClampNeg → f j = some z → g_V K N x nL Q S (pc + 1) lv (.int (S.1 a j) :: rest)) : g_V K N x nL Q S pc lv (.int i :: .ref (g_ad x a) :: rest) := fun H locs ls hP hS hl =>
  va_zald (cl := vwCl) X.1 X.2.1 X.2.2.2.2.2.1 hP a 2 (g_at ha) rfl (g_ix_s h).1 d (kk _ rfl (g_ix_s h).2 H locs ls hP hS hl)
theorem g_iast (X : g_X N x cc own nL Ts rm ret) {a n : Nat} {i v : Int32} (ha : a < N ∧ K a = .inr (0, n, false)) (d : decode cc pc = .ok (.iastore, 1)) {β : Type} {z : β} {f : Nat → Option β} (h : g_ix i n f = some z)
    (kk : ∀ j, j = i.toNatClampNeg → f j = some z → g_V K N x nL Q (g_u S.1 a j (v), S.2) (pc + 1) lv rest) : g_V K N x nL Q S pc lv (.int v :: .int i :: .ref (g_ad x a) :: rest) := by
  intro H locs ls hP hS hl
  refine va_iast (cl := vwCl) X.1 X.2.1 X.2.2.2.2.2.1 hP (g_pw_D X.2.2.2.2.2.2.1) hS a 0 (g_at ha) rfl (g_ix_s h).1 d ?_
  intro H1 locs1 hP1 hD1 hS1
  rw [g_set (S := S) (S' := (g_u S.1 a i.toNatClampNeg (v), S.2)) ha (fun a h => g_u_ne h) (fun _ _ => rfl) g_ev_ist] at hP1
  exact kk _ rfl (g_ix_s h).2 H1 locs1 ls hP1 hS1 hl
theorem g_bast (X : g_X N x cc own nL Ts rm ret) {a n : Nat} {i v : Int32} (ha : a < N ∧ K a = .inr (1, n, false)) (d : decode cc pc = .ok (.bastore, 1)) {β : Type} {z : β} {f : Nat → Option β} (h : g_ix i n f = some z)
    (kk : ∀ j, j = i.toNatClampNeg → f j = some z → g_V K N x nL Q (g_u S.1 a j (vp_nar .byte v), S.2) (pc + 1) lv rest) : g_V K N x nL Q S pc lv (.int v :: .int i :: .ref (g_ad x a) :: rest) := by
  intro H locs ls hP hS hl
  refine va_bast (cl := vwCl) X.1 X.2.1 X.2.2.2.2.2.1 hP (g_pw_D X.2.2.2.2.2.2.1) hS a 1 (g_at ha) rfl (g_ix_s h).1 d ?_
  intro H1 locs1 hP1 hD1 hS1
  rw [g_set (S := S) (S' := (g_u S.1 a i.toNatClampNeg (vp_nar .byte v), S.2)) ha (fun a h => g_u_ne h) (fun _ _ => rfl) g_ev_ist] at hP1
  exact kk _ rfl (g_ix_s h).2 H1 locs1 ls hP1 hS1 hl
theorem g_zast (X : g_X N x cc own nL Ts rm ret) {a n : Nat} {i v : Int32} (ha : a < N ∧ K a = .inr (2, n, false)) (d : decode cc pc = .ok (.bastore, 1)) {β : Type} {z : β} {f : Nat → Option β} (h : g_ix i n f = some z)
    (kk : ∀ j, j = i.toNatClampNeg → f j = some z → g_V K N x nL Q (g_u S.1 a j (vp_nar .boolean v), S.2) (pc + 1) lv rest) : g_V K N x nL Q S pc lv (.int v :: .int i :: .ref (g_ad x a) :: rest) := by
  intro H locs ls hP hS hl
  refine va_zast (cl := vwCl) X.1 X.2.1 X.2.2.2.2.2.1 hP (g_pw_D X.2.2.2.2.2.2.1) hS a 2 (g_at ha) rfl (g_ix_s h).1 d ?_
  intro H1 locs1 hP1 hD1 hS1
  rw [g_set (S := S) (S' := (g_u S.1 a i.toNatClampNeg (vp_nar .boolean v), S.2)) ha (fun a h => g_u_ne h) (fun _ _ => rfl) g_ev_ist] at hP1
  exact kk _ rfl (g_ix_s h).2 H1 locs1 ls hP1 hS1 hl
theorem g_aald (X : g_X N x cc own nL Ts rm ret) {a n : Nat} {i : Int32} (t : Nat) (C : String) (ht : (g_tys (g_cy x))[t]? = some (g_cy x t, .object C)) (ha : a < N ∧ K a = .inr (t, n, true)) (d : decode cc pc = .ok (.aaload, 1)) {β : Type} {z : β} {kd : g_Kd} {f : Nat → Option β} (h : g_ix i n (fun j => g_ld K N kd (S.2 a j) f) = some z)
    (kk : ∀ b, (b < N ∧ K b = kd) → f b = some z → g_V K N x nL Q S (pc + 1) lv (.ref (g_ad x b) :: rest)) : g_V K N x nL Q S pc lv (.int i :: .ref (g_ad x a) :: rest) := by
  obtain ⟨hi, h1⟩ := g_ix_s h
  obtain ⟨b, hb, hkb, hf⟩ := g_ld_s h1
  intro H locs ls hP hS hl
  refine va_aldq (cl := vwCl) X.1 X.2.1 X.2.2.2.2.2.1 hP a t (g_at ha) ht hi d ?_
  have e : va_rf ((S.2 a i.toNatClampNeg).map (g_ad x)) = .ref (g_ad x b) := by rw [hb]; rfl
  rw [e]
  exact kk b hkb hf H locs ls hP hS hl
theorem g_aaldA (X : g_X N x cc own nL Ts rm ret) {a n : Nat} {i : Int32} (ha : a < N ∧ K a = .inr (7, n, true)) (d : decode cc pc = .ok (.aaload, 1)) {β : Type} {z : β} {kd : g_Kd} {f : Nat → Option β} (h : g_ix i n (fun j => g_ld K N kd (S.2 a j) f) = some z)
    (kk : ∀ b, (b < N ∧ K b = kd) → f b = some z → g_V K N x nL Q S (pc + 1) lv (.ref (g_ad x b) :: rest)) : g_V K N x nL Q S pc lv (.int i :: .ref (g_ad x a) :: rest) := by
  obtain ⟨hi, h1⟩ := g_ix_s h
  obtain ⟨b, hb, hkb, hf⟩ := g_ld_s h1
  intro H locs ls hP hS hl
  have hlt : i.toNatClampNeg < n := Nat.not_le.mp fun q => hi (Or.inr q)
  have e : va_rf ((S.2 a i.toNatClampNeg).map (g_ad x)) = .ref (g_ad x b) := by rw [hb]; rfl
  refine W.aald (v := va_rf ((S.2 a i.toNatClampNeg).map (g_ad x))) (ty := .array .int) X.1 X.2.1 (hP a _ (g_at ha)) ((X.2.2.2.2.2.1.2 7 _ rfl).1 n (fun j => va_rf ((S.2 a j).map (g_ad x)))) rfl (fun q => by cases q) (by show ¬ (i < 0 ∨ (arrV _ _ _).slots.size ≤ _); rw [arrV_size]; exact hi) (by show (arrV _ _ _).slots[_]? = _; rw [arrV_read _ _ hlt]) rfl rfl d ?_
  rw [e]
  exact kk b hkb hf H locs ls hP hS hl
theorem g_aast (X : g_X N x cc own nL Ts rm ret) {a n b : Nat} {i : Int32} (t : Nat) {ci : Nat} {C : String} {T : u_T} {ty : Nat → FieldType} {n0 : Nat} {bs : List Bool} (hC : g_C ci C T ty n0) (ht : (g_tys (g_cy x))[t]? = some (g_cy x t, .object C)) (ha : a < N ∧ K a = .inr (t, n, true)) (hb : b < N ∧ K b = .inl (ci, bs)) (d : decode cc pc = .ok (.aastore, 1)) {β : Type} {z : β} {f : Nat → Option β} (h : g_ix i n f = some z)
    (kk : ∀ j, j = i.toNatClampNeg → f j = some z → g_V K N x nL Q (S.1, g_u S.2 a j (some b)) (pc + 1) lv rest) : g_V K N x nL Q S pc lv (.ref (g_ad x b) :: .int i :: .ref (g_ad x a) :: rest) := by
  intro H locs ls hP hS hl
  refine va_astq (cl := vwCl) (r := (C, T, n0)) X.1 X.2.1 X.2.2.2.2.2.1 hP (g_pw_D X.2.2.2.2.2.2.1) hS a t b ci (g_at ha) ht (g_at hb) hC.1 (g_ix_s h).1 d ?_
  intro H1 locs1 hP1 hD1 hS1
  rw [g_set (S := S) (S' := (S.1, g_u S.2 a i.toNatClampNeg (some b))) ha (fun _ _ => rfl) (fun a h => g_u_ne h) g_ev_ast] at hP1
  exact kk _ rfl (g_ix_s h).2 H1 locs1 ls hP1 hS1 hl
theorem g_alen (X : g_X N x cc own nL Ts rm ret) {a n t : Nat} {b : Bool} {ft : FieldType} (ht : (g_tys (g_cy x))[t]? = some (g_cy x t, ft)) (ha : a < N ∧ K a = .inr (t, n, b)) {v : Int32} (hv : Int32.ofNat n = v) (d : decode cc pc = .ok (.arraylength, 1))
    (kk : g_V K N x nL Q S (pc + 1) lv (.int v :: rest)) : g_V K N x nL Q S pc lv (.ref (g_ad x a) :: rest) := by
  intro H locs ls hP hS hl
  cases b
  · exact va_alen (cl := vwCl) X.1 X.2.1 X.2.2.2.2.2.1 hP a t (g_at ha) ht hv d (kk H locs ls hP hS hl)
  · exact va_alen (cl := vwCl) X.1 X.2.1 X.2.2.2.2.2.1 hP a t (g_at ha) ht hv d (kk H locs ls hP hS hl)
theorem g_iret (X : g_X N x cc own nL Ts rm (some .int)) {v : Int32} {z : Int32 × g_St} (h : some (v, S) = some z) (d : decode cc pc = .ok (.ireturn, 1)) : g_V K N x nL (g_qi K N x z) S pc lv [.int v] := by
  intro H locs ls hP hS hl
  have h := Option.some.inj h
  have hlocks := X.2.2.2.2.2.2.2.2.1
  exact W.iret (v := v) X.1 X.2.1 X.2.2.2.2.2.2.2.2.2.1 (fun t ht hW => ⟨⟨v, S, rfl, h, by show va_P _ _ _ t.heap; rw [ht]; exact hP⟩, hS.F ht⟩) hS.2.2 d
theorem g_lret (X : g_X N x cc own nL Ts rm (some .long)) {v : Int64} {z : Int64 × g_St} (h : some (v, S) = some z) (d : decode cc pc = .ok (.lreturn, 1)) : g_V K N x nL (g_ql K N x z) S pc lv [.long v] := by
  intro H locs ls hP hS hl
  have h := Option.some.inj h
  have hlocks := X.2.2.2.2.2.2.2.2.1
  exact W.lret (v := v) X.1 X.2.1 X.2.2.2.2.2.2.2.2.2.1 (fun t ht hW => ⟨⟨v, S, rfl, h, by show va_P _ _ _ t.heap; rw [ht]; exact hP⟩, hS.F ht⟩) hS.2.2 d
theorem g_zret (X : g_X N x cc own nL Ts rm (some .boolean)) {v : Int32} {z : Int32 × g_St} (h : g_zb v (some (v, S)) = some z) (d : decode cc pc = .ok (.ireturn, 1)) : g_V K N x nL (g_qi K N x z) S pc lv [.int v] := by
  intro H locs ls hP hS hl
  obtain ⟨hv, h⟩ := g_zb_s h
  have h := Option.some.inj h
  have hlocks := X.2.2.2.2.2.2.2.2.1
  exact W.zret (v := v) (ty := .boolean) X.1 X.2.1 X.2.2.2.2.2.2.2.2.2.1 (by rcases hv with rfl | rfl <;> rfl) (fun t ht hW => ⟨⟨v, S, rfl, h, by show va_P _ _ _ t.heap; rw [ht]; exact hP⟩, hS.F ht⟩) hS.2.2 d
theorem g_vret (X : g_X N x cc own nL Ts rm none) {z : Unit × g_St} (h : some ((), S) = some z) (d : decode cc pc = .ok (.return_, 1)) : g_V K N x nL (g_qv K N x z) S pc lv [] := by
  intro H locs ls hP hS hl
  have h := Option.some.inj h
  have hlocks := X.2.2.2.2.2.2.2.2.1
  exact W.vret X.1 X.2.1 X.2.2.2.2.2.2.2.2.2.1 (fun t ht hW => ⟨⟨S, rfl, h, by show va_P _ _ _ t.heap; rw [ht]; exact hP⟩, hS.F ht⟩) hS.2.2 d
theorem g_blind {K : Nat → g_Kd} {N : Nat} {D : va_G} {ad : Nat → Nat} {cy : Nat → ClassId} {zz : (Nat → Nat) × (Nat → Nat)} {av : List Value} {S : g_St} : FrameBlind (g_Pc K N D ad cy zz av S) := fun a U g mk q => ⟨q.1, q.2.1, va_K.moved (u := U) (U := U.calling g mk a) (Vm.Alike.refl U.vm) q.2.2.1, g_Z_blind q.2.2.2⟩
theorem g_callVi (X : g_X N x cc own nL Ts rm ret) {y : MethodName} {bytes : ByteArray} {maxL n index : Nat} {rt : Option FieldType} {ws : List Cond} {rm1 : Room} {b ci : Nat} {C : String} {T : u_T} {ty : Nat → FieldType} {n0 : Nat} {bs : List Bool} (hC : g_C ci C T ty n0) (hb : b < N ∧ K b = .inl (ci, bs)) (As : List Value) (hn : As.length = n) (cw : CallW rm (g_s x) (g_args x) own C index y bytes maxL rt ws rm1 0 0 n) (hr : (rest.map fun v => v.category).sum ≤ 8) (d : decode cc pc = .ok (.invokevirtual index, 3)) {β : Type} {z : β} {fv : Option (Int32 × g_St)} {f : Int32 → g_St → Option β} (h : g_bd fv f = some z)
    (hM : ∀ o, fv = some o → g_Mi (g_l x) K N (g_D x) (g_ad x) (g_cy x) (g_zz x) y ws rm1 (.ref (g_ad x b) :: As) S o)
    (kk : ∀ (r : Int32) (S1 : g_St), f r S1 = some z → g_V K N x nL Q S1 (pc + 3) lv (.int r :: rest)) : g_V K N x nL Q S pc lv (As.reverse ++ .ref (g_ad x b) :: rest) := by
  obtain ⟨r0, S0, hfv, hf⟩ := g_bd_s h
  intro H locs ls hP hS hl
  have hR := X.2.2.2.2.2.2.2.1
  refine va_calli (va_runV (As := As) (rest := rest) (index := index) (ws := ws) (rm := rm1) ⟨X.1, X.2.1, X.2.2.1, X.2.2.2.1, X.2.2.2.2.1⟩ (hM _ hfv) (by rw [hR]; exact cw) ⟨g_blind, va_recv X.2.2.2.2.2.1 hP hC.1 (g_at hb), fun U hU hW => ⟨rfl, by rw [hU]; exact hP, va_K.moved hW.alike X.2.2.2.2.2.1, g_Z_at X.2.2.2.2.2.2.2.2.2.2 hS hU hW⟩⟩ rfl hn hl.1 rfl (lv_room hr) d ⟨Nat.zero_le _, Nat.zero_le _⟩) hS (fun q _ h => h) (fun q h => h) (fun r u t H1 locs1 ht _ hp hB _ _ hS1 => ?_)
  cases hp
  rw [ht] at hB
  exact kk r0 S0 hf H1 locs1 ls hB hS1 hl
theorem g_callSi (X : g_X N x cc own nL Ts rm ret) {y : MethodName} {bytes : ByteArray} {maxL n index : Nat} {rt : Option FieldType} {ws : List Cond} {rm1 : Room}  (As : List Value) (hn : As.length = n) (cw : CallB rm (g_s x) (g_args x) own index y bytes maxL rt ws rm1 0 0 n ∧ (Cond.static y).before (g_args x) (g_s x) = true) (hr : (rest.map fun v => v.category).sum ≤ 8) (d : decode cc pc = .ok (.invokestatic index, 3)) {β : Type} {z : β} {fv : Option (Int32 × g_St)} {f : Int32 → g_St → Option β} (h : g_bd fv f = some z)
    (hM : ∀ o, fv = some o → g_Mi (g_l x) K N (g_D x) (g_ad x) (g_cy x) (g_zz x) y ws rm1 As S o)
    (kk : ∀ (r : Int32) (S1 : g_St), f r S1 = some z → g_V K N x nL Q S1 (pc + 3) lv (.int r :: rest)) : g_V K N x nL Q S pc lv (As.reverse ++ rest) := by
  obtain ⟨r0, S0, hfv, hf⟩ := g_bd_s h
  intro H locs ls hP hS hl
  have hR := X.2.2.2.2.2.2.2.1
  refine va_calli (va_runS (As := As) (rest := rest) (index := index) (ws := ws) (rm := rm1) ⟨X.1, X.2.1, X.2.2.1, X.2.2.2.1, X.2.2.2.2.1⟩ (hM _ hfv) (by rw [hR]; exact cw) ⟨g_blind, fun U hU hW => ⟨rfl, by rw [hU]; exact hP, va_K.moved hW.alike X.2.2.2.2.2.1, g_Z_at X.2.2.2.2.2.2.2.2.2.2 hS hU hW⟩⟩ rfl hn hl.1 rfl (lv_room hr) d ⟨Nat.zero_le _, Nat.zero_le _⟩) hS (fun q _ h => h) (fun q h => h) (fun r u t H1 locs1 ht _ hp hB _ _ hS1 => ?_)
  cases hp
  rw [ht] at hB
  exact kk r0 S0 hf H1 locs1 ls hB hS1 hl
theorem g_callVl (X : g_X N x cc own nL Ts rm ret) {y : MethodName} {bytes : ByteArray} {maxL n index : Nat} {rt : Option FieldType} {ws : List Cond} {rm1 : Room} {b ci : Nat} {C : String} {T : u_T} {ty : Nat → FieldType} {n0 : Nat} {bs : List Bool} (hC : g_C ci C T ty n0) (hb : b < N ∧ K b = .inl (ci, bs)) (As : List Value) (hn : As.length = n) (cw : CallW rm (g_s x) (g_args x) own C index y bytes maxL rt ws rm1 0 0 n) (hr : (rest.map fun v => v.category).sum ≤ 8) (d : decode cc pc = .ok (.invokevirtual index, 3)) {β : Type} {z : β} {fv : Option (Int64 × g_St)} {f : Int64 → g_St → Option β} (h : g_bd fv f = some z)
    (hM : ∀ o, fv = some o → g_Ml (g_l x) K N (g_D x) (g_ad x) (g_cy x) (g_zz x) y ws rm1 (.ref (g_ad x b) :: As) S o)
    (kk : ∀ (r : Int64) (S1 : g_St), f r S1 = some z → g_V K N x nL Q S1 (pc + 3) lv (.long r :: rest)) : g_V K N x nL Q S pc lv (As.reverse ++ .ref (g_ad x b) :: rest) := by
  obtain ⟨r0, S0, hfv, hf⟩ := g_bd_s h
  intro H locs ls hP hS hl
  have hR := X.2.2.2.2.2.2.2.1
  refine va_calll (va_runV (As := As) (rest := rest) (index := index) (ws := ws) (rm := rm1) ⟨X.1, X.2.1, X.2.2.1, X.2.2.2.1, X.2.2.2.2.1⟩ (hM _ hfv) (by rw [hR]; exact cw) ⟨g_blind, va_recv X.2.2.2.2.2.1 hP hC.1 (g_at hb), fun U hU hW => ⟨rfl, by rw [hU]; exact hP, va_K.moved hW.alike X.2.2.2.2.2.1, g_Z_at X.2.2.2.2.2.2.2.2.2.2 hS hU hW⟩⟩ rfl hn hl.1 rfl (lv_room hr) d ⟨Nat.zero_le _, Nat.zero_le _⟩) hS (fun q _ h => h) (fun q h => h) (fun r u t H1 locs1 ht _ hp hB _ _ hS1 => ?_)
  cases hp
  rw [ht] at hB
  exact kk r0 S0 hf H1 locs1 ls hB hS1 hl
theorem g_callSl (X : g_X N x cc own nL Ts rm ret) {y : MethodName} {bytes : ByteArray} {maxL n index : Nat} {rt : Option FieldType} {ws : List Cond} {rm1 : Room}  (As : List Value) (hn : As.length = n) (cw : CallB rm (g_s x) (g_args x) own index y bytes maxL rt ws rm1 0 0 n ∧ (Cond.static y).before (g_args x) (g_s x) = true) (hr : (rest.map fun v => v.category).sum ≤ 8) (d : decode cc pc = .ok (.invokestatic index, 3)) {β : Type} {z : β} {fv : Option (Int64 × g_St)} {f : Int64 → g_St → Option β} (h : g_bd fv f = some z)
    (hM : ∀ o, fv = some o → g_Ml (g_l x) K N (g_D x) (g_ad x) (g_cy x) (g_zz x) y ws rm1 As S o)
    (kk : ∀ (r : Int64) (S1 : g_St), f r S1 = some z → g_V K N x nL Q S1 (pc + 3) lv (.long r :: rest)) : g_V K N x nL Q S pc lv (As.reverse ++ rest) := by
  obtain ⟨r0, S0, hfv, hf⟩ := g_bd_s h
  intro H locs ls hP hS hl
  have hR := X.2.2.2.2.2.2.2.1
  refine va_calll (va_runS (As := As) (rest := rest) (index := index) (ws := ws) (rm := rm1) ⟨X.1, X.2.1, X.2.2.1, X.2.2.2.1, X.2.2.2.2.1⟩ (hM _ hfv) (by rw [hR]; exact cw) ⟨g_blind, fun U hU hW => ⟨rfl, by rw [hU]; exact hP, va_K.moved hW.alike X.2.2.2.2.2.1, g_Z_at X.2.2.2.2.2.2.2.2.2.2 hS hU hW⟩⟩ rfl hn hl.1 rfl (lv_room hr) d ⟨Nat.zero_le _, Nat.zero_le _⟩) hS (fun q _ h => h) (fun q h => h) (fun r u t H1 locs1 ht _ hp hB _ _ hS1 => ?_)
  cases hp
  rw [ht] at hB
  exact kk r0 S0 hf H1 locs1 ls hB hS1 hl
theorem g_callVv (X : g_X N x cc own nL Ts rm ret) {y : MethodName} {bytes : ByteArray} {maxL n index : Nat} {rt : Option FieldType} {ws : List Cond} {rm1 : Room} {b ci : Nat} {C : String} {T : u_T} {ty : Nat → FieldType} {n0 : Nat} {bs : List Bool} (hC : g_C ci C T ty n0) (hb : b < N ∧ K b = .inl (ci, bs)) (As : List Value) (hn : As.length = n) (cw : CallW rm (g_s x) (g_args x) own C index y bytes maxL rt ws rm1 0 0 n) (hr : (rest.map fun v => v.category).sum ≤ 8) (d : decode cc pc = .ok (.invokevirtual index, 3)) {β : Type} {z : β} {fv : Option (Unit × g_St)} {f : Unit → g_St → Option β} (h : g_bd fv f = some z)
    (hM : ∀ o, fv = some o → g_Mv (g_l x) K N (g_D x) (g_ad x) (g_cy x) (g_zz x) y ws rm1 (.ref (g_ad x b) :: As) S o)
    (kk : ∀ (r : Unit) (S1 : g_St), f r S1 = some z → g_V K N x nL Q S1 (pc + 3) lv (rest)) : g_V K N x nL Q S pc lv (As.reverse ++ .ref (g_ad x b) :: rest) := by
  obtain ⟨r0, S0, hfv, hf⟩ := g_bd_s h
  intro H locs ls hP hS hl
  have hR := X.2.2.2.2.2.2.2.1
  refine va_callv (va_runV (As := As) (rest := rest) (index := index) (ws := ws) (rm := rm1) ⟨X.1, X.2.1, X.2.2.1, X.2.2.2.1, X.2.2.2.2.1⟩ (hM _ hfv) (by rw [hR]; exact cw) ⟨g_blind, va_recv X.2.2.2.2.2.1 hP hC.1 (g_at hb), fun U hU hW => ⟨rfl, by rw [hU]; exact hP, va_K.moved hW.alike X.2.2.2.2.2.1, g_Z_at X.2.2.2.2.2.2.2.2.2.2 hS hU hW⟩⟩ rfl hn hl.1 rfl (lv_room hr) d ⟨Nat.zero_le _, Nat.zero_le _⟩) hS (fun q _ h => h) (fun q h => h) (fun u t H1 locs1 ht _ hp hB _ _ hS1 => ?_)
  cases hp
  rw [ht] at hB
  exact kk () S0 hf H1 locs1 ls hB hS1 hl
theorem g_callSv (X : g_X N x cc own nL Ts rm ret) {y : MethodName} {bytes : ByteArray} {maxL n index : Nat} {rt : Option FieldType} {ws : List Cond} {rm1 : Room}  (As : List Value) (hn : As.length = n) (cw : CallB rm (g_s x) (g_args x) own index y bytes maxL rt ws rm1 0 0 n ∧ (Cond.static y).before (g_args x) (g_s x) = true) (hr : (rest.map fun v => v.category).sum ≤ 8) (d : decode cc pc = .ok (.invokestatic index, 3)) {β : Type} {z : β} {fv : Option (Unit × g_St)} {f : Unit → g_St → Option β} (h : g_bd fv f = some z)
    (hM : ∀ o, fv = some o → g_Mv (g_l x) K N (g_D x) (g_ad x) (g_cy x) (g_zz x) y ws rm1 As S o)
    (kk : ∀ (r : Unit) (S1 : g_St), f r S1 = some z → g_V K N x nL Q S1 (pc + 3) lv (rest)) : g_V K N x nL Q S pc lv (As.reverse ++ rest) := by
  obtain ⟨r0, S0, hfv, hf⟩ := g_bd_s h
  intro H locs ls hP hS hl
  have hR := X.2.2.2.2.2.2.2.1
  refine va_callv (va_runS (As := As) (rest := rest) (index := index) (ws := ws) (rm := rm1) ⟨X.1, X.2.1, X.2.2.1, X.2.2.2.1, X.2.2.2.2.1⟩ (hM _ hfv) (by rw [hR]; exact cw) ⟨g_blind, fun U hU hW => ⟨rfl, by rw [hU]; exact hP, va_K.moved hW.alike X.2.2.2.2.2.1, g_Z_at X.2.2.2.2.2.2.2.2.2.2 hS hU hW⟩⟩ rfl hn hl.1 rfl (lv_room hr) d ⟨Nat.zero_le _, Nat.zero_le _⟩) hS (fun q _ h => h) (fun q h => h) (fun u t H1 locs1 ht _ hp hB _ _ hS1 => ?_)
  cases hp
  rw [ht] at hB
  exact kk () S0 hf H1 locs1 ls hB hS1 hl
theorem g_mmax (X : g_X N x cc own nL Ts rm ret) {index : Nat} {a b : Int32} (w1 : Cond.methodLink own index Lib.Math.max.name ∈ Ts) (w2 : Cond.static Lib.Math.max.name ∈ Ts) (w3 : Cond.initialized "java/lang/Math" ∈ Ts) (w4 : Cond.code Lib.Math.max.name Lib.Math.max.code 2 (some .int) ∈ Ts) (hf : 1 ≤ rm.frames) (hr : (rest.map fun v => v.category).sum + 13 ≤ rm.locals) (d : decode cc pc = .ok (.invokestatic index, 3))
    (kk : g_V K N x nL Q S (pc + 3) lv (.int (if a < b then b else a) :: rest)) : g_V K N x nL Q S pc lv (.int b :: .int a :: rest) := by
  intro H locs ls hP hS hl
  have hR := X.2.2.2.2.2.2.2.1
  exact va_mmax X.1 X.2.1 (by rw [X.2.2.1]; exact hl.1.symm) X.2.2.2.1 (X.2.2.2.2.1 _ w1) (X.2.2.2.2.1 _ w2) (X.2.2.2.2.1 _ w3) (X.2.2.2.2.1 _ w4) (by rw [hR]; exact hf) (by rw [hR]; exact hr) (Nat.zero_le _) (Nat.zero_le _) d (kk H locs ls hP hS hl)
theorem g_mmin (X : g_X N x cc own nL Ts rm ret) {index : Nat} {a b : Int32} (w1 : Cond.methodLink own index Lib.Math.min.name ∈ Ts) (w2 : Cond.static Lib.Math.min.name ∈ Ts) (w3 : Cond.initialized "java/lang/Math" ∈ Ts) (w4 : Cond.code Lib.Math.min.name Lib.Math.min.code 2 (some .int) ∈ Ts) (hf : 1 ≤ rm.frames) (hr : (rest.map fun v => v.category).sum + 13 ≤ rm.locals) (d : decode cc pc = .ok (.invokestatic index, 3))
    (kk : g_V K N x nL Q S (pc + 3) lv (.int (if b < a then b else a) :: rest)) : g_V K N x nL Q S pc lv (.int b :: .int a :: rest) := by
  intro H locs ls hP hS hl
  have hR := X.2.2.2.2.2.2.2.1
  exact va_mmin X.1 X.2.1 (by rw [X.2.2.1]; exact hl.1.symm) X.2.2.2.1 (X.2.2.2.2.1 _ w1) (X.2.2.2.2.1 _ w2) (X.2.2.2.2.1 _ w3) (X.2.2.2.2.1 _ w4) (by rw [hR]; exact hf) (by rw [hR]; exact hr) (Nat.zero_le _) (Nat.zero_le _) d (kk H locs ls hP hS hl)
theorem g_mmaxl (X : g_X N x cc own nL Ts rm ret) {index : Nat} {a b : Int64} (w1 : Cond.methodLink own index Lib.MathLoose.max_long.x ∈ Ts) (w2 : Cond.static Lib.MathLoose.max_long.x ∈ Ts) (w3 : Cond.initialized "java/lang/Math" ∈ Ts) (w4 : Cond.code Lib.MathLoose.max_long.x Lib.MathLoose.max_long.code 4 (some .long) ∈ Ts) (hf : 1 ≤ rm.frames) (hr : (rest.map fun v => v.category).sum + 15 ≤ rm.locals) (d : decode cc pc = .ok (.invokestatic index, 3))
    (kk : g_V K N x nL Q S (pc + 3) lv (.long (if b < a then a else b) :: rest)) : g_V K N x nL Q S pc lv (.long b :: .long a :: rest) := by
  intro H locs ls hP hS hl
  have hR := X.2.2.2.2.2.2.2.1
  exact va_mmax_long X.1 X.2.1 (by rw [X.2.2.1]; exact hl.1.symm) X.2.2.2.1 (X.2.2.2.2.1 _ w1) (X.2.2.2.2.1 _ w2) (X.2.2.2.2.1 _ w3) (X.2.2.2.2.1 _ w4) (by rw [hR]; exact hf) (by rw [hR]; exact hr) (Nat.zero_le _) (Nat.zero_le _) d (kk H locs ls hP hS hl)
end GV
theorem g_ofi {l : Launch} {K : Nat → g_Kd} {N : Nat} {D : va_G} {ad : Nat → Nat} {cy : Nat → ClassId} {zz : (Nat → Nat) × (Nat → Nat)} (hinj : ∀ i j, i < N → j < N → ad i = ad j → i = j) {y : MethodName} {ws ws' : List Cond} {rm : Room} {cc : ByteArray} {maxL : Nat} {ret : Option FieldType} {av : List Value} {lv : List (Nat × Value)} {S : g_St} {o : Int32 × g_St} (hy : plainName y.cls = true) (hw : ws = Cond.code y cc maxL ret :: ws') (hle : (lg_sl av).length ≤ maxL) (hlv : lv_args 0 av = lv)
    (body : ∀ x : g_CX, g_X N x cc y.cls maxL ws rm ret → g_l x = l → g_D x = D → g_ad x = ad → g_cy x = cy → g_zz x = zz → g_V K N x maxL (g_qi K N x o) S 0 lv []) : g_Mi l K N D ad cy zz y ws rm av S o := by
  refine Met.ofW (cc := cc) (maxL := maxL) (ret := ret) hy hw ?_
  intro p e s m args below meth c s₁ B hml hv
  obtain ⟨rfl, hP, hK, hZ⟩ := hv
  have hts := atoms_spec (ws := ws) B.pre
  have hown := findClass_of_methodNamed B.named
  have hl := lv_entry av (n := maxL) hle
  rw [lg_entry_eq]
  generalize (lg_sl av ++ List.replicate (maxL - (lg_sl av).length) Slot.unset).toArray = ls at hl ⊢
  rw [hlv] at hl
  exact body (p, l, e, (headSpec ws rm).room, s, m, av.toArray, below, meth, c, D, ad, cy, zz) ⟨B.exec, B.bytes, hml, hown, hts, hK, hinj, rfl, B.notSynchronized, B.returns, hZ⟩ rfl rfl rfl rfl rfl s.heap [] ls hP va_S.rf hl
theorem g_ofl {l : Launch} {K : Nat → g_Kd} {N : Nat} {D : va_G} {ad : Nat → Nat} {cy : Nat → ClassId} {zz : (Nat → Nat) × (Nat → Nat)} (hinj : ∀ i j, i < N → j < N → ad i = ad j → i = j) {y : MethodName} {ws ws' : List Cond} {rm : Room} {cc : ByteArray} {maxL : Nat} {ret : Option FieldType} {av : List Value} {lv : List (Nat × Value)} {S : g_St} {o : Int64 × g_St} (hy : plainName y.cls = true) (hw : ws = Cond.code y cc maxL ret :: ws') (hle : (lg_sl av).length ≤ maxL) (hlv : lv_args 0 av = lv)
    (body : ∀ x : g_CX, g_X N x cc y.cls maxL ws rm ret → g_l x = l → g_D x = D → g_ad x = ad → g_cy x = cy → g_zz x = zz → g_V K N x maxL (g_ql K N x o) S 0 lv []) : g_Ml l K N D ad cy zz y ws rm av S o := by
  refine Met.ofW (cc := cc) (maxL := maxL) (ret := ret) hy hw ?_
  intro p e s m args below meth c s₁ B hml hv
  obtain ⟨rfl, hP, hK, hZ⟩ := hv
  have hts := atoms_spec (ws := ws) B.pre
  have hown := findClass_of_methodNamed B.named
  have hl := lv_entry av (n := maxL) hle
  rw [lg_entry_eq]
  generalize (lg_sl av ++ List.replicate (maxL - (lg_sl av).length) Slot.unset).toArray = ls at hl ⊢
  rw [hlv] at hl
  exact body (p, l, e, (headSpec ws rm).room, s, m, av.toArray, below, meth, c, D, ad, cy, zz) ⟨B.exec, B.bytes, hml, hown, hts, hK, hinj, rfl, B.notSynchronized, B.returns, hZ⟩ rfl rfl rfl rfl rfl s.heap [] ls hP va_S.rf hl
theorem g_ofv {l : Launch} {K : Nat → g_Kd} {N : Nat} {D : va_G} {ad : Nat → Nat} {cy : Nat → ClassId} {zz : (Nat → Nat) × (Nat → Nat)} (hinj : ∀ i j, i < N → j < N → ad i = ad j → i = j) {y : MethodName} {ws ws' : List Cond} {rm : Room} {cc : ByteArray} {maxL : Nat} {ret : Option FieldType} {av : List Value} {lv : List (Nat × Value)} {S : g_St} {o : Unit × g_St} (hy : plainName y.cls = true) (hw : ws = Cond.code y cc maxL ret :: ws') (hle : (lg_sl av).length ≤ maxL) (hlv : lv_args 0 av = lv)
    (body : ∀ x : g_CX, g_X N x cc y.cls maxL ws rm ret → g_l x = l → g_D x = D → g_ad x = ad → g_cy x = cy → g_zz x = zz → g_V K N x maxL (g_qv K N x o) S 0 lv []) : g_Mv l K N D ad cy zz y ws rm av S o := by
  refine Met.ofW (cc := cc) (maxL := maxL) (ret := ret) hy hw ?_
  intro p e s m args below meth c s₁ B hml hv
  obtain ⟨rfl, hP, hK, hZ⟩ := hv
  have hts := atoms_spec (ws := ws) B.pre
  have hown := findClass_of_methodNamed B.named
  have hl := lv_entry av (n := maxL) hle
  rw [lg_entry_eq]
  generalize (lg_sl av ++ List.replicate (maxL - (lg_sl av).length) Slot.unset).toArray = ls at hl ⊢
  rw [hlv] at hl
  exact body (p, l, e, (headSpec ws rm).room, s, m, av.toArray, below, meth, c, D, ad, cy, zz) ⟨B.exec, B.bytes, hml, hown, hts, hK, hinj, rfl, B.notSynchronized, B.returns, hZ⟩ rfl rfl rfl rfl rfl s.heap [] ls hP va_S.rf hl
theorem g_cX0 : g_C 0 RX0 TX0 tyX0 3 := ⟨rfl, tyX0_ok, nmX0⟩
theorem g_cX1 : g_C 1 RX1 TX1 tyX1 6 := ⟨rfl, tyX1_ok, nmX1⟩
theorem g_cX2 : g_C 2 RX2 TX2 tyX2 7 := ⟨rfl, tyX2_ok, nmX2⟩
theorem g_cX3 : g_C 3 RX3 TX3 tyX3 3 := ⟨rfl, tyX3_ok, nmX3⟩
theorem g_cX4 : g_C 4 RX4 TX4 tyX4 4 := ⟨rfl, tyX4_ok, nmX4⟩
theorem g_cX5 : g_C 5 RX5 TX5 tyX5 5 := ⟨rfl, tyX5_ok, nmX5⟩
theorem g_cX6 : g_C 6 RX6 TX6 tyX6 3 := ⟨rfl, tyX6_ok, nmX6⟩
theorem g_cX7 : g_C 7 RX7 TX7 tyX7 11 := ⟨rfl, tyX7_ok, nmX7⟩
theorem g_cX8 : g_C 8 RX8 TX8 tyX8 27 := ⟨rfl, tyX8_ok, nmX8⟩
abbrev g_kX0 : g_Kd := .inl (0, [false, false, false])
abbrev g_kX1 : g_Kd := .inl (1, [false, false, false, false, false, false])
abbrev g_kX2 : g_Kd := .inl (2, [true, true, false, false, false, false, false])
abbrev g_kX3 : g_Kd := .inl (3, [true, true, false])
abbrev g_kX4 : g_Kd := .inl (4, [true, false, false, false])
abbrev g_kX5 : g_Kd := .inl (5, [true, false, false, false, false])
abbrev g_kX6 : g_Kd := .inl (6, [true, true, false])
abbrev g_kX7 : g_Kd := .inl (7, [true, true, true, true, true, true, true, true, true, true, false])
abbrev g_kX8 : g_Kd := .inl (8, [true, true, true, false, false, false, false, false, false, false, false, true, true, false, false, false, false, false, true, true, false, true, true, true, true, true, false])
/-- what each object of the class is, in the order in which they are made: 0 itself; 1 .. 15 the hall now, 16 .. 30 trial (a hall, its doors' row, its crowds' row, 4 doors, 8 crowds); 31 images, 32 kept, 33 tape, 34 its bytes, 35 teller, 36 seen, 37, 38 its rows, 39 sheets, 40 letByRate, 41 .. 50 its rows, 51 letByTick; 52 .. 66, 67 .. 81 the halls of the images; 82 .. 89 four sheets, each with its cells -/
def g_KCh (j : Nat) : g_Kd := if j = 0 then g_kX2 else if j = 1 then .inr (3, 4, true) else if j = 2 then .inr (4, 8, true) else if j < 7 then g_kX1 else g_kX0
def g_KC (i : Nat) : g_Kd := if i = 0 then g_kX7 else if i < 31 then g_KCh ((i - 1) % 15) else if i < 52 then (if i = 31 then .inr (5, 2, true) else if i = 32 then .inr (2, 2, false) else if i = 33 then g_kX5 else if i = 34 then .inr (1, 160, false) else if i = 35 then g_kX6 else if i = 36 then g_kX3 else if i < 39 then .inr (0, 6, false) else if i = 39 then .inr (6, 4, true) else if i = 40 then .inr (7, 10, true) else .inr (0, 41, false)) else if i < 82 then g_KCh ((i - 52) % 15) else if i % 2 = 0 then g_kX4 else .inr (0, 40, false)
/-- the reference: 0 itself, 1 state, 2 readPage, 3 tape, 4 ends, 5 letters, 6 turnedBy, 7 seen, 8 letBy, 9 isKept, 10 lanes, 11 lengths, 12 cells -/
def g_KM (i : Nat) : g_Kd := if i = 0 then g_kX8 else if i = 1 then .inr (0, 270, false) else if i = 2 then .inr (0, 45, false) else if i = 3 then .inr (0, 160, false) else if i = 4 then .inr (0, 6, false) else if i = 5 then .inr (0, 24, false) else if i = 6 then .inr (0, 4, false) else if i = 7 then .inr (0, 12, false) else if i = 8 then .inr (0, 410, false) else if i = 9 then .inr (2, 2, false) else if i < 12 then .inr (0, 4, false) else .inr (0, 160, false)
