/-! THE CLAIM OUT OF ONE WALK OF THE LAW'S BODY. Your part is whole_start (and what it stands on); all else here is the same for every law, but numbers. -/
def R_law : String := "DawnEightsLaw"
def lw_P (b : Addr) (xs : List Int32) (args : Array Value) (s : State) : Prop := args = #[.ref b] ∧ s.IntsAt b xs ∧ xs.length ≤ 2560 ∧ (Jvm.Cond.and given_1 narrow_1).before args s = true
def lw_Q (_ : Array Value) (s : State) (o : Outcome) (t : State) : Prop := o = .returned (some (.int 1)) ∧ Framed s o t [] 600000 7302250
def lw_Z (below : List Frame) (a : Array Value) (s : State) : State → Prop := fun t => ∃ o, t.status = .running ∧ Ended t below o ∧ lw_Q a s o t
/-- the law's own end, with 1 on the stack, nothing written that was there before, its room as the claim has it -/
theorem lw_ret {p : Program} {l : Launch} {e : Env} {s : State} {m : MethodId} {below : List Frame} {meth : Method} {c : Code} {b : Nat} (hx : p.tables.exec = Jvm.exec) (hb : c.code = code) (hr : meth.sig.returnType = ret) (hlocks : meth.locks = false) {pc : Nat} {H : Heap} {ls : Array Slot} (hdg : decode code pc = .ok (.ireturn, 1)) : W p l e room_1 s m #[Value.ref b] below meth c H [] 600000 7302250 (lw_Z below #[Value.ref b] s) (F0 m pc ls [.int 1]) := by
  intro T hT X
  obtain ⟨fs, hret, hrun, hended, hW, hframe⟩ := X.leave (v := some (.int 1)) (hlocks := hlocks) (fun h => by rw [hr] at h; cases h)
  have hmeth' : T.vm.method? m = some meth := X.method'
  refine ⟨T.setFrames fs, ?_, .returned (some (.int 1)), hrun, hended, rfl, ⟨_, rfl⟩, hW, hframe⟩
  jvm_step X.here [X.here.top, hx, hb, hdg, hmeth', hr, ret, narrow_b1]
  (try refine ⟨rfl, ?_⟩); (try refine ⟨rfl, ?_⟩)
  first | (intro acts; rw [hret _ acts rfl rfl rfl]) | rw [hret _ _ rfl rfl rfl]
  exact Steps.refl _
/-- what holds at the law's entry: the machine, the code, the tables' words (any of lw_tbl by 'hts w (by decide +kernel)'), the script of L ints xs at the cell b, what the Statement gives of the start (any of its parts by flat_of_before) -/
def lw_At (p : Program) (s : State) (m : MethodId) (meth : Method) (c : Code) (b L : Nat) (xs : Nat → Int32) : Prop :=
  p.tables.exec = Jvm.exec ∧ c.code = code ∧ meth.sig.returnType = ret ∧ c.maxLocals = 4 ∧ s.vm.findClass R_law = some m.cls ∧ (∀ w ∈ lw_tbl, w.before #[Value.ref b] s = true) ∧ va_X b L xs s s.heap ∧ b < s.heap.size ∧ meth.locks = false ∧ (Jvm.Cond.and given_1 narrow_1).before #[Value.ref b] s = true
/-! the start: what the Statement gives, as the abstract machine wants it -/
theorem lw_arrs {args : Array Value} {s : State} {t : FieldType} (h : (Cond.arrayClass t).before args s = true) (ht : t = .int ∨ t = .long ∨ t = .boolean) : ∃ cA : ClassId, ArrOfT s cA t ∧ va_RA s cA t := by
  obtain ⟨cA, kA, comp, h1, h2, h3⟩ := Cond.arrayClass_spec h
  refine ⟨cA, fun n z => ⟨fun k h => (by cases h), kA, h2, comp, h3⟩, ?_⟩
  rcases ht with rfl | rfl | rfl <;> exact h1
def lw_sk : List Nat := [46, 52, 58, 72, 74]
def lw_tm (i : Nat) : Term := Term.string RX7 (lw_sk.getD i 0)
abbrev lw_fl : List Cond := flatC (Jvm.Cond.and given_1 narrow_1)
theorem lw_s1 : ∀ i, i < 5 → Cond.exactly (lw_tm i) "java/lang/String" ∈ lw_fl := by decide +kernel
theorem lw_s2 : ∀ i, i < 5 → Cond.eq (.field (lw_tm i) "java/lang/String" "coder" "B") (.int 0) ∈ lw_fl := by decide +kernel
theorem lw_s3 : ∀ i, i < 5 → Cond.arrayOf (.field (lw_tm i) "java/lang/String" "value" "[B") .byte ∈ lw_fl := by decide +kernel
theorem lw_s4 : ∀ i, i < 5 → Cond.eq (.length (.field (lw_tm i) "java/lang/String" "value" "[B")) (.int (Int32.ofNat (mm_slen.getD i 0))) ∈ lw_fl := by decide +kernel
theorem lw_s5 : ∀ i, i < 5 → ∀ j, j < mm_slen.getD i 0 → Cond.eq (.elem (.field (lw_tm i) "java/lang/String" "value" "[B") (.int (Int32.ofNat j))) (.int ((mm_sbyt.getD i []).getD j 0)) ∈ lw_fl := by decide +kernel
theorem lw_s6 : ∀ i, i < 5 → ∀ j, j < 5 → i ≠ j → Cond.not (Cond.eq (lw_tm i) (lw_tm j)) ∈ lw_fl ∨ Cond.not (Cond.eq (lw_tm j) (lw_tm i)) ∈ lw_fl := by decide +kernel
theorem lw_a1 : ∀ j, j < 5 → Cond.eq (.elem (.static RX0 "SEATS" "[I") (.int (Int32.ofNat j))) (.int (Int32.ofInt (mm_seats j))) ∈ lw_fl := by decide +kernel
theorem lw_a2 : ∀ j, j < 15 → Cond.eq (.elem (.static RX0 "DISLIKES" "[I") (.int (Int32.ofNat j))) (.int (Int32.ofInt (mm_disl j))) ∈ lw_fl := by decide +kernel
theorem lw_n1 : ∀ q ∈ mm_nest, Cond.methodLinkNest q.1 q.2.1 q.2.2.1 q.2.2.2 ∈ lw_tbl := by decide +kernel
theorem lw_n2 : ∀ i, i < 5 → ∀ q, mm_str[i]? = some q → Cond.stringRef RX7 q.1 q.2.1 ∈ lw_tbl ∧ q.1 = lw_sk.getD i 0 := by
  intro i hi q hq
  rcases (show i = 0 ∨ i = 1 ∨ i = 2 ∨ i = 3 ∨ i = 4 by omega) with rfl | rfl | rfl | rfl | rfl <;> (cases hq; exact ⟨by decide +kernel, rfl⟩)
theorem lw_z1 : Cond.laysStatic RX0 "SEATS" "[I" ∈ lw_tbl ∧ Cond.laysStatic RX0 "DISLIKES" "[I" ∈ lw_tbl ∧ Cond.laysStatic RJ0 "COMPACT_STRINGS" "Z" ∈ lw_tbl ∧ Cond.laysStatic RJ3 "SIOOBE_FORMATTER" "Ljava/util/function/BiFunction;" ∈ lw_tbl := ⟨by decide +kernel, by decide +kernel, by decide +kernel, by decide +kernel⟩
theorem lw_z2 : Cond.initialized RX0 ∈ lw_tbl ∧ Cond.initialized RJ0 ∈ lw_tbl ∧ Cond.initialized RJ3 ∈ lw_tbl := ⟨by decide +kernel, by decide +kernel, by decide +kernel⟩
theorem lw_z3 : Cond.arrayOf (.static RX0 "SEATS" "[I") .int ∈ lw_fl ∧ Cond.eq (.length (.static RX0 "SEATS" "[I")) (.int (Int32.ofNat 5)) ∈ lw_fl ∧ Cond.arrayOf (.static RX0 "DISLIKES" "[I") .int ∈ lw_fl ∧ Cond.eq (.length (.static RX0 "DISLIKES" "[I")) (.int (Int32.ofNat 15)) ∈ lw_fl ∧ Cond.eq (.static RJ0 "COMPACT_STRINGS" "Z") (.int 1) ∈ lw_fl ∧ Cond.isRef (.static RJ3 "SIOOBE_FORMATTER" "Ljava/util/function/BiFunction;") ∈ lw_fl := ⟨by decide +kernel, by decide +kernel, by decide +kernel, by decide +kernel, by decide +kernel, by decide +kernel⟩
theorem lw_isref {args : Array Value} {s : State} {C n d : String} {A : Nat → Prop} (hl : (Cond.laysStatic C n d).before args s = true) (hini : (Cond.initialized C).before args s = true) (h : (Cond.isRef (.static C n d)).before args s = true) (hA : ∀ a : Nat, a < s.heap.size → ¬ A a) : va_Zq C n d A s s.heap := by
  cases hv : (Term.static C n d).eval args s none [] s with
  | none => simp [Cond.before, Cond.holds, Cond.value, hv] at h
  | some w =>
    cases w with
    | null => exact Or.inl (va_Zof hl hini hv hA)
    | ref t => exact Or.inr ⟨t, va_Zof hl hini hv hA⟩
    | _ => simp [Cond.before, Cond.holds, Cond.value, hv] at h
theorem lw_known {args : Array Value} {s : State} (hts : ∀ w ∈ mm_tbl, w.before args s = true) : ∃ (dC : Nat → ClassId) (dI : Nat → Nat → Nat), ∀ (k : Nat) (q : vw_C), vwCl[k]? = some q → u_Kn s q.1 q.2.1 q.2.2 (dC k) (dI k) := by
  obtain ⟨c0, s0, k0⟩ := u_known (C := RX0) (T := TX0) (N := 10) (n := 10) hts in_X0 (hts (.instantiable RX0 10) wd_1_29)
  obtain ⟨c1, s1, k1⟩ := u_known (C := RX1) (T := TX1) (N := 3) (n := 3) hts in_X1 (hts (.instantiable RX1 3) wd_1_114)
  obtain ⟨c2, s2, k2⟩ := u_known (C := RX2) (T := TX2) (N := 4) (n := 4) hts in_X2 (hts (.instantiable RX2 4) wd_2_2)
  obtain ⟨c3, s3, k3⟩ := u_known (C := RX3) (T := TX3) (N := 9) (n := 9) hts in_X3 (hts (.instantiable RX3 9) wd_1_202)
  obtain ⟨c4, s4, k4⟩ := u_known (C := RX4) (T := TX4) (N := 8) (n := 8) hts in_X4 (hts (.instantiable RX4 8) wd_1_79)
  obtain ⟨c5, s5, k5⟩ := u_known (C := RX5) (T := TX5) (N := 4) (n := 4) hts in_X5 (hts (.instantiable RX5 4) wd_2_23)
  obtain ⟨c6, s6, k6⟩ := u_known (C := RX6) (T := TX6) (N := 2) (n := 2) hts in_X6 (hts (.instantiable RX6 2) wd_1_130)
  obtain ⟨c7, s7, k7⟩ := u_known (C := RX7) (T := TX7) (N := 9) (n := 9) hts in_X7 (hts (.instantiable RX7 9) wd_1_164)
  obtain ⟨c8, s8, k8⟩ := u_known (C := RX8) (T := TX8) (N := 3) (n := 3) hts in_X8 (hts (.instantiable RX8 3) wd_1_145)
  obtain ⟨c9, s9, k9⟩ := u_known (C := RX9) (T := TX9) (N := 10) (n := 10) hts in_X9 (hts (.instantiable RX9 10) wd_1_21)
  obtain ⟨c10, s10, k10⟩ := u_known (C := RX10) (T := TX10) (N := 53) (n := 53) hts in_X10 (hts (.instantiable RX10 53) wd_4_107)
  refine ⟨fun k => [c0, c1, c2, c3, c4, c5, c6, c7, c8, c9, c10].getD k c0, fun k => [s0, s1, s2, s3, s4, s5, s6, s7, s8, s9, s10].getD k s0, fun k q hq => ?_⟩
  match k, hq with
  | 0, hq => cases hq; exact k0
  | 1, hq => cases hq; exact k1
  | 2, hq => cases hq; exact k2
  | 3, hq => cases hq; exact k3
  | 4, hq => cases hq; exact k4
  | 5, hq => cases hq; exact k5
  | 6, hq => cases hq; exact k6
  | 7, hq => cases hq; exact k7
  | 8, hq => cases hq; exact k8
  | 9, hq => cases hq; exact k9
  | 10, hq => cases hq; exact k10
  | k + 11, hq => simp [vwCl] at hq
theorem lw_ro {s : State} {b L : Nat} {xs : Nat → Int32} {args : Array Value} (hts : ∀ w ∈ lw_tbl, w.before args s = true) (hgv : (Jvm.Cond.and given_1 narrow_1).before args s = true) (hX : va_X b L xs s s.heap) (hL : L ≤ 2560) (hbl : b < s.heap.size) : ∃ ad : Nat → Nat, ad 1012 = b ∧ mm_RO (L, fun j => (xs j).toInt) ad (fun q => s.heap.size ≤ q) s s.heap := by
  have hA : ∀ a : Nat, a < s.heap.size → ¬ (fun q => s.heap.size ≤ q) a := fun a h h2 => by
    have h3 : s.heap.size ≤ a := h2
    omega
  have hs := flat_of_before _ hgv
  obtain ⟨t0, e0, T0⟩ := va_Tof (f := fun j => .int (Int32.ofInt (mm_seats j))) (A := fun q => s.heap.size ≤ q) (by decide) (hs _ lw_z3.1) (va_eqt (hs _ lw_z3.2.1)) (fun j hj => va_eqt (hs _ (lw_a1 j hj))) hA
  obtain ⟨t1, e1, T1⟩ := va_Tof (f := fun j => .int (Int32.ofInt (mm_disl j))) (A := fun q => s.heap.size ≤ q) (by decide) (hs _ lw_z3.2.2.1) (va_eqt (hs _ lw_z3.2.2.2.1)) (fun j hj => va_eqt (hs _ (lw_a2 j hj))) hA
  obtain ⟨adK, adV, hS, hK⟩ := vk_Sof (N := 5) (tm := lw_tm) (len := mm_slen) (byt := mm_sbyt) (A := fun q => s.heap.size ≤ q) (by decide) (fun i hi => hs _ (lw_s1 i hi)) (fun i hi => hs _ (lw_s2 i hi)) (fun i hi => hs _ (lw_s3 i hi)) (fun i hi => hs _ (lw_s4 i hi)) (fun i hi j hj => hs _ (lw_s5 i hi j hj)) (fun i j hi hj hn => (lw_s6 i hi j hj hn).imp (hs _) (hs _)) hA
  have hZ := lw_isref (A := fun q => s.heap.size ≤ q) (hts _ lw_z1.2.2.2) (hts _ lw_z2.2.2) (hs _ lw_z3.2.2.2.2.2) hA
  obtain ⟨tz, hZ2⟩ : ∃ tz : Nat, va_Z RJ3 "SIOOBE_FORMATTER" "Ljava/util/function/BiFunction;" .null (fun q => s.heap.size ≤ q) s s.heap ∨ va_Z RJ3 "SIOOBE_FORMATTER" "Ljava/util/function/BiFunction;" (.ref tz) (fun q => s.heap.size ≤ q) s s.heap := by
    rcases hZ with h | ⟨t, h⟩
    · exact ⟨0, Or.inl h⟩
    · exact ⟨t, Or.inr h⟩
  refine ⟨fun i => if i = 1000 then t0 else if i = 1001 then t1 else if i < 1007 then adK (i - 1002) else if i < 1012 then adV (i - 1007) else if i = 1012 then b else tz, rfl, ⟨T0, va_Zref (hts _ lw_z1.1) (hts _ lw_z2.1) e0 hA⟩, ⟨T1, va_Zref (hts _ lw_z1.2.1) (hts _ lw_z2.1) e1 hA⟩, va_Zof (hts _ lw_z1.2.2.1) (hts _ lw_z2.2.1) (va_eqi (hs _ lw_z3.2.2.2.2.1)) hA, ?_, ?_, ?_, fun q hq => va_Nw.of rfl (hts _ (lw_n1 q hq)), hZ2⟩
  · refine ⟨fun i hi => ?_, fun i j hi hj h => ?_⟩
    · have h := hS.1 i hi
      rcases (show i = 0 ∨ i = 1 ∨ i = 2 ∨ i = 3 ∨ i = 4 by omega) with rfl | rfl | rfl | rfl | rfl <;> exact h
    · refine hS.2 i j hi hj ?_
      rcases (show i = 0 ∨ i = 1 ∨ i = 2 ∨ i = 3 ∨ i = 4 by omega) with rfl | rfl | rfl | rfl | rfl <;> rcases (show j = 0 ∨ j = 1 ∨ j = 2 ∨ j = 3 ∨ j = 4 by omega) with rfl | rfl | rfl | rfl | rfl <;> exact h
  · intro i q hq
    have hi : i < 5 := (List.getElem?_eq_some_iff.mp hq).1
    obtain ⟨n1, n2⟩ := lw_n2 i hi q hq
    have h := hK i hi
    have hh : (Term.string RX7 q.1).eval args s none [] s = some (.ref (adK i)) := by rw [n2]; exact h
    have h3 := vk_R.of (hts _ n1) hh
    rcases (show i = 0 ∨ i = 1 ∨ i = 2 ∨ i = 3 ∨ i = 4 by omega) with rfl | rfl | rfl | rfl | rfl <;> exact h3
  · obtain ⟨scr, g1, g2, g3, g4, g5⟩ := hX
    refine ⟨scr, g1, g2, g3, by omega, by rw [g4], fun j hj => ?_, hA b hbl⟩
    rw [g5 j hj]
    simp
theorem whole_start {p : Program} {e : Env} {s : State} {m : MethodId} {below : List Frame} {meth : Method} {c : Code} (l : Launch) {b L : Nat} {xs : Nat → Int32} (hL : L ≤ 2560) (C0 : lw_At p s m meth c b L xs) : W p l e room_1 s m #[Value.ref b] below meth c s.heap [] 0 0 (lw_Z below #[Value.ref b] s) (entryFrame m ([Value.ref b] : List Value).toArray 4) := by
  obtain ⟨hx, hb, hr, hml, hown, hts, hX, hbl, hlocks, hgv⟩ := id C0
  have htm : ∀ w ∈ mm_tbl, w.before #[Value.ref b] s = true := fun w h => hts w (mm_gd w h).1
  obtain ⟨ad, had, hRO⟩ := lw_ro hts hgv hX hL hbl
  obtain ⟨dC, dI, hKc⟩ := lw_known htm
  obtain ⟨cI, aI, rI⟩ := lw_arrs (htm _ wd_1_77) (Or.inl rfl)
  obtain ⟨cL, aL, rL⟩ := lw_arrs (htm _ wd_1_112) (Or.inr (Or.inl rfl))
  obtain ⟨cZ, aZ, rZ⟩ := lw_arrs (htm _ wd_1_200) (Or.inr (Or.inr rfl))
  obtain ⟨ty, y1, y2, y3⟩ : ∃ ty : FieldType → ClassId, ty .int = cI ∧ ty .long = cL ∧ ty .boolean = cZ := ⟨fun t => match t with | .int => cI | .long => cL | _ => cZ, rfl, rfl, rfl⟩
  have hK : va_K (dC, dI) vwCl (mm_tys ty) s := by
    refine ⟨hKc, fun k q hq => ?_⟩
    match k, hq with
    | 0, hq => cases hq; rw [y1]; exact ⟨aI, rI⟩
    | 1, hq => cases hq; rw [y2]; exact ⟨aL, rL⟩
    | 2, hq => cases hq; rw [y3]; exact ⟨aZ, rZ⟩
    | k + 3, hq => simp [mm_tys] at hq
  have hl := lv_entry ([.ref b]) (n := 4) (Nat.le_of_ble_eq_true rfl)
  rw [lg_entry_eq]
  generalize (lg_sl ([.ref b]) ++ List.replicate (4 - (lg_sl ([.ref b])).length) Slot.unset).toArray = ls at hl ⊢
  have hl : lv_has ls 4 (mm_lo ad [(0, v_r 1012)]) := by
    show lv_has ls 4 [(0, .ref (ad 1012))]
    rw [had]; exact hl
  have hG := law_all (X := (L, fun j => (xs j).toInt)) (fun i => ⟨by have := Int32.le_toInt (xs i); simp only; omega, by have := Int32.toInt_lt (xs i); simp only; omega⟩) hL
  refine hG p l e room_1 s m #[Value.ref b] below meth c (fun q => s.heap.size ≤ q) ad ty (dC, dI) s.heap [] ls (lw_Z below #[Value.ref b] s) ⟨hx, hb, hml, hown, htm, ⟨by decide, by decide, by decide, by decide⟩, hRO, hK, fun _ h => h, fun h => absurd h (by decide)⟩ ⟨fun k q h => by simp [mm_ws] at h, ⟨fun i j p q h => by simp [mm_ws] at h, fun k q h => by simp [mm_ws] at h⟩, va_S.rf⟩ hl ?_ (by decide) (by decide)
  intro r La' M' ad' H' locs' ls' pc' ck' cs' hPo hrt had' hWd h1 h2
  have hPo : r = some (v_i 1) := hPo
  subst hPo
  obtain ⟨hd, -⟩ := hrt
  refine va_forget hWd.2.2.2.2 ?_
  refine W.widen h1 h2 ?_
  exact lw_ret hx hb hr hlocks hd
