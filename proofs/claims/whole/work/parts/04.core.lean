/-! THE ABSTRACT MACHINE. Values are whole numbers; a cell is a row of whole numbers; a reference is the number of a cell.
Cells below 1000 are the program's own; from 1000 on stand cells that nobody writes (static arrays, texts, the script). -/
abbrev mm_V : Type := Int ⊕ (Int ⊕ Option Nat)
abbrev v_i (z : Int) : mm_V := Sum.inl z
abbrev v_l (z : Int) : mm_V := Sum.inr (Sum.inl z)
abbrev v_r (a : Nat) : mm_V := Sum.inr (Sum.inr (some a))
abbrev v_n : mm_V := Sum.inr (Sum.inr none)
def mm_cv (ad : Nat → Nat) : mm_V → Value
  | .inl z => .int (Int32.ofInt z)
  | .inr (.inl z) => .long (Int64.ofInt z)
  | .inr (.inr none) => .null
  | .inr (.inr (some a)) => .ref (ad a)
abbrev mm_S : Type := (FieldType × Nat) ⊕ (Nat × List mm_V)
abbrev mm_M : Type := Nat → Nat → Int
def mm_fv (ad : Nat → Nat) (f : Nat → Int) (k : Nat) : mm_V → Value
  | .inl _ => .int (Int32.ofInt (f k))
  | .inr (.inl _) => .long (Int64.ofInt (f k))
  | .inr (.inr none) => .null
  | .inr (.inr (some a)) => .ref (ad a)
def mm_ar (n : Nat) (t : FieldType) (f : Nat → Int) : vp_A := match t with
  | .long => (n, .inr (.inl (fun j => Int64.ofInt (f j))))
  | _ => (n, .inl (fun j => Int32.ofInt (f j)))
def mm_ce (ty : FieldType → ClassId) (ad : Nat → Nat) (f : Nat → Int) : mm_S → va_E
  | .inl q => .inl (ty q.1, mm_ar q.2 q.1 f)
  | .inr q => .inr (q.1, q.2.mapIdx (mm_fv ad f))
def mm_ws (ty : FieldType → ClassId) (ad : Nat → Nat) (La : List mm_S) (M : mm_M) : va_W := La.mapIdx (fun i s => (ad i, mm_ce ty ad (M i) s))
def mm_up (M : mm_M) (i k : Nat) (v : Int) : mm_M := fun i' k' => if i' = i ∧ k' = k then v else M i' k'
theorem mm_up_ne {M : mm_M} {i k : Nat} {v : Int} {j : Nat} (h : ¬ j = i) : mm_up M i k v j = M j := by
  funext q
  simp [mm_up, h]
theorem mm_up_eq {M : mm_M} {i k : Nat} {v : Int} : mm_up M i k v i k = v := by simp [mm_up]
theorem mm_up_k {M : mm_M} {i k j : Nat} {v : Int} (h : ¬ j = k) : mm_up M i k v i j = M i j := by simp [mm_up, h]
theorem mm_ws_at {ty : FieldType → ClassId} {ad : Nat → Nat} {La : List mm_S} {M : mm_M} {i : Nat} {q : mm_S} (h : La[i]? = some q) : (mm_ws ty ad La M)[i]? = some (ad i, mm_ce ty ad (M i) q) := by
  simp [mm_ws, List.getElem?_mapIdx, h]
theorem mm_ws_up {ty : FieldType → ClassId} {ad : Nat → Nat} {La : List mm_S} {M : mm_M} {i k : Nat} {v : Int} {q : mm_S} (h : La[i]? = some q) :
    (mm_ws ty ad La M).set i (ad i, mm_ce ty ad (mm_up M i k v i) q) = mm_ws ty ad La (mm_up M i k v) := by
  have hi : i < La.length := (List.getElem?_eq_some_iff.mp h).1
  apply List.ext_getElem?
  intro j
  by_cases hj : j = i
  · subst hj
    rw [List.getElem?_set_self (by simpa [mm_ws] using hi), mm_ws_at h]
  · rw [List.getElem?_set_ne (Ne.symm hj)]
    simp only [mm_ws, List.getElem?_mapIdx, mm_up_ne hj]
/-- the same with a cell's own row: what the heap has after a store -/
theorem mm_ws_set {ty : FieldType → ClassId} {ad : Nat → Nat} {La : List mm_S} {M : mm_M} {i k : Nat} {v : Int} {q : mm_S} {x : va_E} (h : La[i]? = some q) (hx : x = mm_ce ty ad (mm_up M i k v i) q) :
    (mm_ws ty ad La M).set i (ad i, x) = mm_ws ty ad La (mm_up M i k v) := by rw [hx]; exact mm_ws_up h
def mm_tys (ty : FieldType → ClassId) : List (ClassId × FieldType) := [(ty .int, .int), (ty .long, .long), (ty .boolean, .boolean)]
/-! what nobody writes -/
def mm_seats : Nat → Int := fun j => ([2, 4, 8, 1, 4] : List Int).getD j 0
def mm_disl : Nat → Int := fun j => ([0, 2, 3, 2, 0, 3, 0, 0, 1, 2, 2, 0, 0, 0, 1] : List Int).getD j 0
def mm_str : List (Nat × String × List Int) := [
  (46, "let |bar ", [108, 101, 116, 32, 124, 98, 97, 114, 32]),
  (52, "pair|four|eight|single|quad|*", [112, 97, 105, 114, 124, 102, 111, 117, 114, 124, 101, 105, 103, 104, 116, 124, 115, 105, 110, 103, 108, 101, 124, 113, 117, 97, 100, 124, 42]),
  (58, " if ", [32, 105, 102, 32]),
  (72, "stream|wind|hour|month|size|young|ice", [115, 116, 114, 101, 97, 109, 124, 119, 105, 110, 100, 124, 104, 111, 117, 114, 124, 109, 111, 110, 116, 104, 124, 115, 105, 122, 101, 124, 121, 111, 117, 110, 103, 124, 105, 99, 101]),
  (74, "=|<|>", [61, 124, 60, 124, 62])]
def mm_slen : List Nat := mm_str.map (fun q => q.2.2.length)
def mm_sbyt : List (List Int32) := mm_str.map (fun q => q.2.2.map Int32.ofInt)
def mm_nest : List (String × Nat × MethodName × String) := [
  (RX9, 11, yX0_init, RX9), (RX9, 20, yX4_init, RX9), (RX9, 27, yX1_init, RX9), (RX9, 34, yX6_init, RX9), (RX9, 41, yX8_init, RX9), (RX9, 48, yX7_init, RX9), (RX9, 55, yX3_init, RX9), (RX9, 62, yX2_init, RX9),
  (RX0, 54, yX9_within, RX9), (RX4, 58, yX9_has, RX9), (RX1, 49, yX9_has, RX9), (RX8, 47, yX9_within, RX9), (RX5, 47, yX9_has, RX9)]
def mm_RO (X : Nat × (Nat → Int)) (ad : Nat → Nat) (A : Nat → Prop) (U : State) (H : Heap) : Prop :=
  (va_T .int (ad 1000) 5 (fun j => .int (Int32.ofInt (mm_seats j))) A U H ∧ va_Z RX0 "SEATS" "[I" (.ref (ad 1000)) A U H) ∧
  (va_T .int (ad 1001) 15 (fun j => .int (Int32.ofInt (mm_disl j))) A U H ∧ va_Z RX0 "DISLIKES" "[I" (.ref (ad 1001)) A U H) ∧
  va_Z RJ0 "COMPACT_STRINGS" "Z" (.int 1) A U H ∧
  vk_S 5 mm_slen mm_sbyt (fun i => ad (1002 + i)) (fun i => ad (1007 + i)) A U H ∧
  (∀ (i : Nat) (q : Nat × String × List Int), mm_str[i]? = some q → vk_R RX7 q.1 q.2.1 (ad (1002 + i)) U) ∧
  va_T .int (ad 1012) X.1 (fun j => .int (Int32.ofInt (X.2 j))) A U H ∧
  (∀ q ∈ mm_nest, va_Nw (.methodLinkNest q.1 q.2.1 q.2.2.1 q.2.2.2) U) ∧
  (va_Z RJ3 "SIOOBE_FORMATTER" "Ljava/util/function/BiFunction;" .null A U H ∨ va_Z RJ3 "SIOOBE_FORMATTER" "Ljava/util/function/BiFunction;" (.ref (ad 1013)) A U H)
theorem mm_RO.move {X : Nat × (Nat → Int)} {ad : Nat → Nat} {A B : Nat → Prop} {s U : State} {H : Heap} (h : mm_RO X ad A s s.heap) (hW : s.WarmedH U.vm) (hk : ∀ a : Nat, a < s.heap.size → ¬ A a → H[a]? = s.heap[a]?) (hU : U.heap = H) (hAB : ∀ q, B q → A q) : mm_RO X ad B U U.heap := by
  obtain ⟨⟨h1, h2⟩, ⟨h3, h4⟩, h5, h6, h7, h8, h9, h10⟩ := h
  rw [hU]
  exact ⟨⟨((h1.kept hk).moved hW.alike).narrow hAB, ((h2.kept hk).moved hW.alike).narrow hAB⟩, ⟨((h3.kept hk).moved hW.alike).narrow hAB, ((h4.kept hk).moved hW.alike).narrow hAB⟩, ((h5.kept hk).moved hW.alike).narrow hAB, ((h6.kept hk).moved hW.alike).narrow hAB, fun i q hq => (h7 i q hq).warm hW, ((h8.kept hk).moved hW.alike).narrow hAB, fun q hq => (h9 q hq).warmM hW, h10.imp (fun h => ((h.kept hk).moved hW.alike).narrow hAB) (fun h => ((h.kept hk).moved hW.alike).narrow hAB)⟩
theorem mm_RO.ad {X : Nat × (Nat → Int)} {ad ad' : Nat → Nat} {A : Nat → Prop} {s : State} {H : Heap} (h : mm_RO X ad A s H) (hq : ∀ i, 1000 ≤ i → ad' i = ad i) : mm_RO X ad' A s H := by
  have e1 : (fun i => ad' (1002 + i)) = (fun i => ad (1002 + i)) := funext fun i => hq _ (by omega)
  have e2 : (fun i => ad' (1007 + i)) = (fun i => ad (1007 + i)) := funext fun i => hq _ (by omega)
  obtain ⟨h1, h3, h5, h6, h7, h8, h9, h10⟩ := h
  refine ⟨?_, ?_, h5, ?_, fun i q hi => ?_, ?_, h9, ?_⟩
  · rw [hq 1000 (by omega)]; exact h1
  · rw [hq 1001 (by omega)]; exact h3
  · rw [e1, e2]; exact h6
  · rw [hq (1002 + i) (by omega)]; exact h7 i q hi
  · rw [hq 1012 (by omega)]; exact h8
  · rw [hq 1013 (by omega)]; exact h10
/-! the judgement -/
abbrev mm_Po : Type := Option mm_V → List mm_S → mm_M → Prop
def mm_At (X : Nat × (Nat → Int)) (d mc ms : Nat) (mi : mm_Mi) (p : Program) (R : Room) (s : State) (m : MethodId) (args : Array Value) (meth : Method) (c : Code) (A : Nat → Prop) (ad : Nat → Nat) (ty : FieldType → ClassId) (D : va_G) : Prop :=
  p.tables.exec = Jvm.exec ∧ c.code = mi.2.1 ∧ c.maxLocals = mi.2.2.1 ∧ s.vm.findClass mi.1.cls = some m.cls ∧ (∀ w ∈ mm_tbl, w.before args s = true) ∧ (d + 1 ≤ R.frames ∧ 60 * (d + 1) ≤ R.locals ∧ mc ≤ R.cells ∧ ms ≤ R.slots) ∧ mm_RO X ad A s s.heap ∧ va_K D vwCl (mm_tys ty) s ∧ (∀ q, s.heap.size ≤ q → A q) ∧ (mi.1.name = "<init>" → meth.name = "<init>")
def mm_Wd (A : Nat → Prop) (ad : Nat → Nat) (ty : FieldType → ClassId) (D : va_G) (La : List mm_S) (M : mm_M) (H0 H : Heap) (locs : List Loc) : Prop :=
  va_P D vwCl (mm_ws ty ad La M) H ∧ va_D A (mm_ws ty ad La M) ∧ va_S A H0 H locs
def mm_rt (mi : mm_Mi) (pc : Nat) (r : Option mm_V) : Prop := match r with
  | none => decode mi.2.1 pc = .ok (.return_, 1) ∧ mi.2.2.2 = none
  | some (.inl z) => decode mi.2.1 pc = .ok (.ireturn, 1) ∧ ∃ t, mi.2.2.2 = some t ∧ narrow t (.int (Int32.ofInt z)) = .int (Int32.ofInt z)
  | some (.inr (.inl _)) => decode mi.2.1 pc = .ok (.lreturn, 1) ∧ mi.2.2.2 = some .long
  | some (.inr (.inr _)) => False
def mm_lo (ad : Nat → Nat) (L : List (Nat × mm_V)) : List (Nat × Value) := L.map (fun q => (q.1, mm_cv ad q.2))
def mm_G (X : Nat × (Nat → Int)) (d mc ms : Nat) (mi : mm_Mi) (Po : mm_Po) (pc : Nat) (L : List (Nat × mm_V)) (st : List mm_V) (La : List mm_S) (M : mm_M) (ck cs : Nat) : Prop :=
  ∀ (p : Program) (l : Launch) (e : Env) (R : Room) (s : State) (m : MethodId) (args : Array Value) (below : List Frame) (meth : Method) (c : Code) (A : Nat → Prop) (ad : Nat → Nat) (ty : FieldType → ClassId) (D : va_G) (H : Heap) (locs : List Loc) (ls : Array Slot) (Q : State → Prop),
    mm_At X d mc ms mi p R s m args meth c A ad ty D → mm_Wd A ad ty D La M s.heap H locs → lv_has ls mi.2.2.1 (mm_lo ad L) →
    (∀ (r : Option mm_V) (La' : List mm_S) (M' : mm_M) (ad' : Nat → Nat) (H' : Heap) (locs' : List Loc) (ls' : Array Slot) (pc' ck' cs' : Nat), Po r La' M' → mm_rt mi pc' r → (∀ i, i < La.length ∨ 1000 ≤ i → ad' i = ad i) → mm_Wd A ad' ty D La' M' s.heap H' locs' → ck' ≤ mc → cs' ≤ ms → W p l e R s m args below meth c H' locs' ck' cs' Q (F0 m pc' ls' (r.toList.map (mm_cv ad')))) →
    ck ≤ mc → cs ≤ ms → W p l e R s m args below meth c H locs ck cs Q (F0 m pc ls (st.map (mm_cv ad)))
def mm_la : Nat → List mm_V → List (Nat × mm_V)
  | _, [] => []
  | i, .inl z :: vs => (i, .inl z) :: mm_la (i + 1) vs
  | i, .inr (.inl z) :: vs => (i, .inr (.inl z)) :: mm_la (i + 2) vs
  | i, .inr (.inr a) :: vs => (i, .inr (.inr a)) :: mm_la (i + 1) vs
theorem mm_la_eq (ad : Nat → Nat) : ∀ (vs : List mm_V) (i : Nat), mm_lo ad (mm_la i vs) = lv_args i (vs.map (mm_cv ad))
  | [], i => rfl
  | .inl z :: vs, i => congrArg (List.cons (i, Value.int (Int32.ofInt z))) (mm_la_eq ad vs (i + 1))
  | .inr (.inl z) :: vs, i => congrArg (List.cons (i, Value.long (Int64.ofInt z))) (mm_la_eq ad vs (i + 2))
  | .inr (.inr none) :: vs, i => congrArg (List.cons (i, Value.null)) (mm_la_eq ad vs (i + 1))
  | .inr (.inr (some a)) :: vs, i => congrArg (List.cons (i, Value.ref (ad a))) (mm_la_eq ad vs (i + 1))
/-- how many words values take -/
def mm_wd : List mm_V → Nat
  | [] => 0
  | .inl _ :: vs => 1 + mm_wd vs
  | .inr (.inl _) :: vs => 2 + mm_wd vs
  | .inr (.inr _) :: vs => 1 + mm_wd vs
theorem mm_wd_sl (ad : Nat → Nat) : ∀ vs : List mm_V, (lg_sl (vs.map (mm_cv ad))).length = mm_wd vs
  | [] => rfl
  | .inl z :: vs => by
    show (([Slot.val (Value.int (Int32.ofInt z))] : List Slot) ++ lg_sl (vs.map (mm_cv ad))).length = 1 + mm_wd vs
    rw [List.length_append, mm_wd_sl ad vs]; rfl
  | .inr (.inl z) :: vs => by
    show (([Slot.val (Value.long (Int64.ofInt z)), Slot.second] : List Slot) ++ lg_sl (vs.map (mm_cv ad))).length = 2 + mm_wd vs
    rw [List.length_append, mm_wd_sl ad vs]; rfl
  | .inr (.inr none) :: vs => by
    show (([Slot.val Value.null] : List Slot) ++ lg_sl (vs.map (mm_cv ad))).length = 1 + mm_wd vs
    rw [List.length_append, mm_wd_sl ad vs]; rfl
  | .inr (.inr (some a)) :: vs => by
    show (([Slot.val (Value.ref (ad a))] : List Slot) ++ lg_sl (vs.map (mm_cv ad))).length = 1 + mm_wd vs
    rw [List.length_append, mm_wd_sl ad vs]; rfl
theorem mm_wd_cat (ad : Nat → Nat) : ∀ vs : List mm_V, ((vs.map (mm_cv ad)).map fun v => v.category).sum = mm_wd vs
  | [] => rfl
  | .inl z :: vs => congrArg (fun n => 1 + n) (mm_wd_cat ad vs)
  | .inr (.inl z) :: vs => congrArg (fun n => 2 + n) (mm_wd_cat ad vs)
  | .inr (.inr none) :: vs => congrArg (fun n => 1 + n) (mm_wd_cat ad vs)
  | .inr (.inr (some a)) :: vs => congrArg (fun n => 1 + n) (mm_wd_cat ad vs)
/-- references among values lie below n, or among what nobody writes -/
def mm_vk (n : Nat) : List mm_V → Bool
  | [] => true
  | .inr (.inr (some a)) :: vs => (decide (a < n) || decide (1000 ≤ a)) && mm_vk n vs
  | _ :: vs => mm_vk n vs
theorem mm_vk_map {n : Nat} {ad ad' : Nat → Nat} (had : ∀ i, i < n ∨ 1000 ≤ i → ad' i = ad i) : ∀ (vs : List mm_V), mm_vk n vs = true → vs.map (mm_cv ad') = vs.map (mm_cv ad)
  | [], _ => rfl
  | .inl z :: vs, h => by
    have h2 := mm_vk_map had vs h
    simp [mm_cv, h2]
  | .inr (.inl z) :: vs, h => by
    have h2 := mm_vk_map had vs h
    simp [mm_cv, h2]
  | .inr (.inr none) :: vs, h => by
    have h2 := mm_vk_map had vs h
    simp [mm_cv, h2]
  | .inr (.inr (some a)) :: vs, h => by
    simp only [mm_vk, Bool.and_eq_true, Bool.or_eq_true, decide_eq_true_eq] at h
    have h2 := mm_vk_map had vs h.2
    simp [mm_cv, h2, had a h.1]
theorem mm_vk_lo {n : Nat} {ad ad' : Nat → Nat} (had : ∀ i, i < n ∨ 1000 ≤ i → ad' i = ad i) (L : List (Nat × mm_V)) (h : mm_vk n (L.map (fun q => q.2)) = true) : mm_lo ad' L = mm_lo ad L := by
  have h2 := mm_vk_map had _ h
  rw [List.map_map, List.map_map] at h2
  simp only [mm_lo]
  apply List.ext_getElem?
  intro j
  have h3 := congrArg (fun l => l[j]?) h2
  simp only [List.getElem?_map, Function.comp] at h3 ⊢
  cases hq : L[j]? with
  | none => rfl
  | some q =>
    rw [hq] at h3
    simp only [Option.map_some, Option.some.injEq] at h3 ⊢
    exact congrArg (fun v => (q.1, v)) h3
def mm_rm (d mc ms : Nat) : Room := { frames := d + 1, cells := mc, slots := ms, locals := 60 * (d + 1) }
def mm_E (X : Nat × (Nat → Int)) (d mc ms : Nat) (mi : mm_Mi) (As : List mm_V) (Po : mm_Po) (La : List mm_S) (M : mm_M) : Prop := mm_G X d mc ms mi Po 0 (mm_la 0 As) [] La M 0 0
def mm_Pc (X : Nat × (Nat → Int)) (As : List mm_V) (La : List mm_S) (M : mm_M) (ad : Nat → Nat) (ty : FieldType → ClassId) (D : va_G) (sz : Nat) : Array Value → State → Prop :=
  va_Pc (As.map (mm_cv ad)) (fun U => U.heap.size = sz ∧ mm_RO X ad (va_A (mm_ws ty ad La M) sz) U U.heap ∧ va_K D vwCl (mm_tys ty) U ∧ va_P D vwCl (mm_ws ty ad La M) U.heap ∧ va_D (fun _ => True) (mm_ws ty ad La M))
def mm_Qc (Po : mm_Po) (La : List mm_S) (M : mm_M) (ad : Nat → Nat) (ty : FieldType → ClassId) (D : va_G) (sz : Nat) : Array Value → State → Outcome → State → Prop := fun _ st o t =>
  ∃ (r : Option mm_V) (La' : List mm_S) (M' : mm_M) (ad' : Nat → Nat), o = .returned (r.map (mm_cv ad')) ∧ Po r La' M' ∧ (∀ i, i < La.length ∨ 1000 ≤ i → ad' i = ad i) ∧ va_P D vwCl (mm_ws ty ad' La' M') t.heap ∧ va_D (va_A (mm_ws ty ad La M) sz) (mm_ws ty ad' La' M') ∧ va_F (va_A (mm_ws ty ad La M) sz) st t
def mm_wz (mi : mm_Mi) : List Cond := Cond.code mi.1 mi.2.1 mi.2.2.1 mi.2.2.2 :: mm_tbl
set_option maxHeartbeats 4000000 in
theorem mm_met {X : Nat × (Nat → Int)} {d mc ms : Nat} {mi : mm_Mi} {As : List mm_V} {Po : mm_Po} {La : List mm_S} {M : mm_M} (hy : plainName mi.1.cls = true) (hn : mm_wd As ≤ mi.2.2.1) (hE : mm_E X d mc ms mi As Po La M) (l : Launch) (ad : Nat → Nat) (ty : FieldType → ClassId) (D : va_G) (sz : Nat) :
    Met l mi.1 (mm_wz mi) (mm_rm d mc ms) (mm_Pc X As La M ad ty D sz) (mm_Qc Po La M ad ty D sz) mc ms (va_A (mm_ws ty ad La M) sz) := by
  refine Met.ofW (cc := mi.2.1) (maxL := mi.2.2.1) (ret := mi.2.2.2) hy rfl ?_
  intro p e s m args below meth c s₁ B hml hv
  obtain ⟨rfl, hsz, hRO, hK, hP, hD0⟩ := hv
  have hx := B.exec
  have hb := B.bytes
  have hr := B.returns
  have hts := atoms_spec (ws := mm_wz mi) B.pre
  have hown : s.vm.findClass mi.1.cls = some m.cls := findClass_of_methodNamed B.named
  have hlocks := B.notSynchronized
  have hnm : meth.name = mi.1.name := (name_of_methodNamed B.named B.method).1
  subst hsz
  have hD := hD0.self (sz := s.heap.size)
  have hl := lv_entry (As.map (mm_cv ad)) (n := mi.2.2.1) (by rw [mm_wd_sl]; exact hn)
  rw [lg_entry_eq]
  rw [← mm_la_eq] at hl
  refine hE p l e (mm_rm d mc ms) s m _ below meth c (va_A (mm_ws ty ad La M) s.heap.size) ad ty D s.heap [] _ _ ⟨hx, hb, hml, hown, fun w hw => hts w (List.mem_cons_of_mem _ hw), ⟨Nat.le_refl _, Nat.le_refl _, Nat.le_refl _, Nat.le_refl _⟩, hRO, hK, fun q h => Or.inr h, fun h => hnm.trans h⟩ ⟨hP, hD, va_S.rf⟩ hl ?_ (Nat.zero_le _) (Nat.zero_le _)
  intro r La' M' ad' H' locs' ls' pc' ck' cs' hPo hrt had hWd h1 h2
  refine W.widen h1 h2 ?_
  have post : ∀ t : State, t.heap = H' → mm_Qc Po La M ad ty D s.heap.size (As.map (mm_cv ad)).toArray s (.returned (r.map (mm_cv ad'))) t := by
    intro t ht
    exact ⟨r, La', M', ad', rfl, hPo, had, by rw [ht]; exact hWd.1, hWd.2.1, hWd.2.2.F ht⟩
  match r, hrt with
  | none, hrt => exact W.vret hx hb (hr.trans hrt.2) (fun t ht _ => post t ht) hWd.2.2.2.2 hrt.1
  | some (.inl z), hrt =>
    obtain ⟨h3, t0, h4, h5⟩ := hrt
    exact W.zret hx hb (hr.trans h4) h5 (fun t ht _ => post t ht) hWd.2.2.2.2 h3
  | some (.inr (.inl z)), hrt => exact W.lret hx hb (hr.trans hrt.2) (fun t ht _ => post t ht) hWd.2.2.2.2 hrt.1
