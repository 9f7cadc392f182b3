section MMN
variable {X : Nat × (Nat → Int)} {d mc ms : Nat} {mi : mm_Mi} {Po : mm_Po} {pc : Nat} {L : List (Nat × mm_V)} {st : List mm_V} {La : List mm_S} {M : mm_M} {ck cs : Nat}
/-- the references in the cells lie below n, or among what nobody writes -/
def mm_nk (n : Nat) : List mm_S → Bool
  | [] => true
  | .inl _ :: t => mm_nk n t
  | .inr q :: t => mm_vk n q.2 && mm_nk n t
theorem mm_nk_at {n : Nat} : ∀ {La : List mm_S} {i c : Nat} {fs : List mm_V}, mm_nk n La = true → La[i]? = some (.inr (c, fs)) → mm_vk n fs = true
  | [], i, c, fs, _, h => by simp at h
  | .inl q :: t, 0, c, fs, _, h => by simp at h
  | .inr q :: t, 0, c, fs, hk, h => by
    simp only [mm_nk, Bool.and_eq_true] at hk
    simp only [List.getElem?_cons_zero, Option.some.injEq, Sum.inr.injEq] at h
    rw [h] at hk
    exact hk.1
  | .inl q :: t, i + 1, c, fs, hk, h => mm_nk_at (La := t) (i := i) hk (by simpa using h)
  | .inr q :: t, i + 1, c, fs, hk, h => by
    simp only [mm_nk, Bool.and_eq_true] at hk
    exact mm_nk_at (La := t) (i := i) hk.2 (by simpa using h)
theorem mm_vk_at {n : Nat} : ∀ {fs : List mm_V} {k a : Nat}, mm_vk n fs = true → fs[k]? = some (v_r a) → a < n ∨ 1000 ≤ a
  | [], k, a, _, h => by simp at h
  | v :: t, 0, a, hk, h => by
    simp only [List.getElem?_cons_zero, Option.some.injEq] at h
    subst h
    simp only [mm_vk, Bool.and_eq_true, Bool.or_eq_true, decide_eq_true_eq] at hk
    exact hk.1
  | v :: t, k + 1, a, hk, h => by
    have hk2 : mm_vk n t = true := by
      rcases v with v | v | _ | v
      · exact hk
      · exact hk
      · exact hk
      · simp only [mm_vk, Bool.and_eq_true] at hk
        exact hk.2
    exact mm_vk_at (fs := t) (k := k) hk2 (by simpa using h)
def mm_ad (ad : Nat → Nat) (n q : Nat) : Nat → Nat := fun i => if i = n then q else ad i
theorem mm_ad_ok {ad : Nat → Nat} {n q : Nat} (hn : n < 1000) : ∀ i, i < n ∨ 1000 ≤ i → mm_ad ad n q i = ad i := fun i h => if_neg (by omega)
theorem mm_ws_new {ty : FieldType → ClassId} {ad : Nat → Nat} {q : Nat} {sh : mm_S} (hl : La.length < 1000) (hc : mm_nk La.length La = true) :
    mm_ws ty (mm_ad ad La.length q) (La ++ [sh]) M = mm_ws ty ad La M ++ [(q, mm_ce ty (mm_ad ad La.length q) (M La.length) sh)] := by
  apply List.ext_getElem?
  intro j
  have hz : (mm_ws ty ad La M).length = La.length := by simp [mm_ws]
  by_cases hj : j < La.length
  · rw [List.getElem?_append_left (by rw [hz]; exact hj)]
    simp only [mm_ws, List.getElem?_mapIdx, List.getElem?_append_left hj]
    have hsome : La[j]? = some La[j] := List.getElem?_eq_getElem hj
    rw [hsome]
    simp only [Option.map_some, mm_ad_ok hl j (Or.inl hj)]
    congr 2
    cases hs : La[j] with
    | inl x => rfl
    | inr x =>
      obtain ⟨c, fs⟩ := x
      rw [hs] at hsome
      have hv := mm_nk_at hc hsome
      simp only [mm_ce]
      congr 2
      apply List.ext_getElem?
      intro k
      simp only [List.getElem?_mapIdx]
      cases hf : fs[k]? with
      | none => rfl
      | some v =>
        rcases v with v | v | _ | a
        · rfl
        · rfl
        · rfl
        · simp only [Option.map_some, mm_fv, mm_ad_ok hl a (mm_vk_at hv hf)]
  · by_cases hj2 : j = La.length
    · subst hj2
      rw [List.getElem?_append_right (by rw [hz]; exact Nat.le_refl _), hz, Nat.sub_self]
      simp [mm_ws, List.getElem?_mapIdx, mm_ad]
    · have h3 : La.length + 1 ≤ j := by omega
      rw [List.getElem?_eq_none (by simp [mm_ws]; omega), List.getElem?_eq_none (by simp [hz]; omega)]
theorem mm_grow {sh : mm_S} {p : Program} {l : Launch} {e : Env} {R : Room} {s : State} {m : MethodId} {args : Array Value} {below : List Frame} {meth : Method} {c : Code} {A : Nat → Prop} {ad : Nat → Nat} {ty : FieldType → ClassId} {D : va_G} {H1 : Heap} {locs : List Loc} {ls : Array Slot} {Q : State → Prop} {q pc2 ck2 cs2 : Nat} (hAt : mm_At X d mc ms mi p R s m args meth c A ad ty D) (hL : lv_has ls mi.2.2.1 (mm_lo ad L))
    (hK : ∀ (r : Option mm_V) (La' : List mm_S) (M' : mm_M) (ad' : Nat → Nat) (H' : Heap) (locs' : List Loc) (ls' : Array Slot) (pc' ck' cs' : Nat), Po r La' M' → mm_rt mi pc' r → (∀ i, i < La.length ∨ 1000 ≤ i → ad' i = ad i) → mm_Wd A ad' ty D La' M' s.heap H' locs' → ck' ≤ mc → cs' ≤ ms → W p l e R s m args below meth c H' locs' ck' cs' Q (F0 m pc' ls' (r.toList.map (mm_cv ad'))))
    (hl : La.length < 1000) (hc : mm_nk La.length La = true) (hv : mm_vk La.length (st ++ L.map (fun q => q.2)) = true) (hm : ck2 ≤ mc ∧ cs2 ≤ ms)
    (hP : va_P D vwCl (mm_ws ty ad La M ++ [(q, mm_ce ty (mm_ad ad La.length q) (M La.length) sh)]) H1) (hD : va_D A (mm_ws ty ad La M ++ [(q, mm_ce ty (mm_ad ad La.length q) (M La.length) sh)])) (hS : va_S A s.heap H1 locs)
    (K : mm_G X d mc ms mi Po pc2 L (v_r La.length :: st) (La ++ [sh]) M ck2 cs2) : W p l e R s m args below meth c H1 locs ck2 cs2 Q (F0 m pc2 ls (.ref q :: st.map (mm_cv ad))) := by
  have had := mm_ad_ok (ad := ad) (q := q) hl
  have hv2 := mm_vk_app hv
  rw [← mm_ws_new hl hc] at hP hD
  have kk := K p l e R s m args below meth c A (mm_ad ad La.length q) ty D H1 locs ls Q ⟨hAt.1, hAt.2.1, hAt.2.2.1, hAt.2.2.2.1, hAt.2.2.2.2.1, hAt.2.2.2.2.2.1, hAt.2.2.2.2.2.2.1.ad (fun i hi => had i (Or.inr hi)), hAt.2.2.2.2.2.2.2⟩ ⟨hP, hD, hS⟩ (by rw [mm_vk_lo had L hv2.2]; exact hL) (fun r2 La2 M2 ad2 H2 locs2 ls2 pc2 ck2 cs2 q1 q2 q3 => hK r2 La2 M2 ad2 H2 locs2 ls2 pc2 ck2 cs2 q1 q2 (fun i hi => (q3 i (by simp; omega)).trans (had i hi))) hm.1 hm.2
  have e1 : (v_r La.length :: st).map (mm_cv (mm_ad ad La.length q)) = .ref q :: st.map (mm_cv ad) := by
    rw [List.map_cons, mm_vk_map had st hv2.1]
    simp [mm_cv, mm_ad]
  rw [e1] at kk
  exact kk
theorem mm_newa {at0 : ArrayType} {t : FieldType} {n : Nat} (hd : decode mi.2.1 pc = .ok (.newarray at0, 2)) (w : Cond.arrayClass (newarray.typeOf at0) ∈ mm_tbl) (ht : newarray.typeOf at0 = t) (hk : t = .int ∨ t = .long ∨ t = .boolean) (hn : n ≤ 5000) (hm : ck + 1 ≤ mc ∧ cs + n ≤ ms) (hl : La.length < 1000) (hc : mm_nk La.length La = true) (hv : mm_vk La.length (st ++ L.map (fun q => q.2)) = true) (hz : ∀ k, M La.length k = 0)
    (K : mm_G X d mc ms mi Po (pc + 2) L (v_r La.length :: st) (La ++ [.inl (t, n)]) M (ck + 1) (cs + n)) : mm_G X d mc ms mi Po pc L (v_i (n : Int) :: st) La M ck cs := by
  intro p l e R s m args below meth c A ad ty D H locs ls Q hAt hWd hL hK h1 h2
  obtain ⟨r1, r2, r3, r4⟩ := hAt.2.2.2.2.2.1
  have hts := hAt.2.2.2.2.1
  have hKK := hAt.2.2.2.2.2.2.2.1
  have hMz : M La.length = fun _ => 0 := funext hz
  have hnn : (Int32.ofInt (n : Int)).toNatClampNeg = n ∧ ¬ Int32.ofInt (n : Int) < 0 := by
    have h3 : (Int32.ofInt (n : Int)).toInt = n := mm_o32 (by omega)
    refine ⟨?_, fun h => ?_⟩
    · show (Int32.ofInt (n : Int)).toInt.toNat = n
      rw [h3]; simp
    · have h4 := Int32.lt_iff_toInt_lt.mp h
      rw [h3] at h4
      have h5 : (0 : Int32).toInt = 0 := rfl
      omega
  have key : ∀ (cA : ClassId), va_K D vwCl (mm_tys ty ++ [(cA, t)]) s → cA = ty t := by
    intro cA hk2
    have g1 := (hk2.2 3 (cA, t) rfl).2
    rcases hk with rfl | rfl | rfl
    · have g2 := (hKK.2 0 (ty .int, .int) rfl).2
      exact Option.some.inj (g1.symm.trans g2)
    · have g2 := (hKK.2 1 (ty .long, .long) rfl).2
      exact Option.some.inj (g1.symm.trans g2)
    · have g2 := (hKK.2 2 (ty .boolean, .boolean) rfl).2
      exact Option.some.inj (g1.symm.trans g2)
  refine va_newa (a0 := mm_ar n t (M La.length)) hAt.1 hAt.2.1 (hts _ w) ht hKK hWd.1 hWd.2.1 hWd.2.2 hAt.2.2.2.2.2.2.2.2.1 (n := Int32.ofInt (n : Int)) (N' := n) ?_ hnn.2 hnn.1 ?_ (by omega) (by omega) hd (fun q cA H1 hK2 hP hD hS => ?_)
  · intro cA
    rw [hMz]
    rcases hk with rfl | rfl | rfl <;> rfl
  · rcases hk with rfl | rfl | rfl <;> simp [componentBytes] <;> omega
  · have hcA := key cA hK2
    subst hcA
    exact mm_grow (sh := .inl (t, n)) hAt hL hK hl hc hv ⟨hm.1, hm.2⟩ hP hD hS K
def mm_dv : FieldType → mm_V
  | .int => v_i 0
  | .long => v_l 0
  | _ => v_n
def mm_dt : FieldType → Bool
  | .int => true
  | .long => true
  | .array _ => true
  | .object _ => true
  | _ => false
theorem mm_dv_ok {t : FieldType} {ad : Nat → Nat} {f : Nat → Int} {k : Nat} (hf : ∀ k, f k = 0) (h : mm_dt t = true) : defaultValue t = mm_fv ad f k (mm_dv t) := by
  cases t <;> first | (simp only [mm_dv, mm_fv, hf]; rfl) | (cases h)
theorem mm_new {idx ci N : Nat} {C : String} {T : u_T} {ty0 : Nat → FieldType} {fs : List mm_V} (hd : decode mi.2.1 pc = .ok (.new idx, 3)) (hci : vwCl[ci]? = some (C, T, N)) (hin : ∀ w ∈ u_ws C T N, w ∈ mm_tbl) (hty : ∀ k, k < N → parseFieldDescriptor (T k).2.2.1 = some (ty0 k)) (w1 : Cond.classLink mi.1.cls idx C ∈ mm_tbl) (w2 : Cond.instantiable C N ∈ mm_tbl) (w3 : Cond.initialized C ∈ mm_tbl)
    (hdt : (List.range N).all (fun k => mm_dt (ty0 k)) = true) (hfs : (List.range N).map (fun k => mm_dv (ty0 k)) = fs) (hm : ck + 1 ≤ mc ∧ cs + N ≤ ms) (hl : La.length < 1000) (hc : mm_nk La.length La = true) (hv : mm_vk La.length (st ++ L.map (fun q => q.2)) = true) (hz : ∀ k, M La.length k = 0)
    (K : mm_G X d mc ms mi Po (pc + 3) L (v_r La.length :: st) (La ++ [.inr (ci, fs)]) M (ck + 1) (cs + N)) : mm_G X d mc ms mi Po pc L st La M ck cs := by
  intro p l e R s m args below meth c A ad ty D H locs ls Q hAt hWd hL hK h1 h2
  obtain ⟨r1, r2, r3, r4⟩ := hAt.2.2.2.2.2.1
  have hts := hAt.2.2.2.2.1
  subst hfs
  refine W.of (H' := H) (locs' := locs) (cells' := ck) (slots' := cs) (g2 := F0 m pc ls (st.map (mm_cv ad))) (fun T0 hT0 Z => ⟨T0, hT0, Z, fun _ h => h⟩) ?_
  by_cases hq0 : True
  · have hfree : ∀ q : Nat, ∀ j, j < N → defaultValue (ty0 j) = vp_V (((List.range N).map (fun k => mm_dv (ty0 k))).mapIdx (mm_fv (mm_ad ad La.length q) (M La.length))) j := by
      intro q j hj
      have h3 : ((List.range N).map (fun k => mm_dv (ty0 k)))[j]? = some (mm_dv (ty0 j)) := by simp [hj]
      simp only [vp_V, List.getD, mm_fs_at h3, Option.getD_some]
      exact mm_dv_ok hz (List.all_eq_true.mp hdt j (List.mem_range.mpr hj))
    refine va_new (fs := ((List.range N).map (fun k => mm_dv (ty0 k))).mapIdx (mm_fv (mm_ad ad La.length 0) (M La.length))) hAt.1 hAt.2.1 hts hin ty0 hty hAt.2.2.2.1 (hts _ w1) (hts _ w2) (hts _ w3) hAt.2.2.2.2.2.2.2.1 hWd.1 hWd.2.1 hWd.2.2 hAt.2.2.2.2.2.2.2.2.1 hci (hfree 0) (by omega) (by omega) hd (fun q H1 hP hD hS => ?_)
    have e2 : ((List.range N).map (fun k => mm_dv (ty0 k))).mapIdx (mm_fv (mm_ad ad La.length 0) (M La.length)) = ((List.range N).map (fun k => mm_dv (ty0 k))).mapIdx (mm_fv (mm_ad ad La.length q) (M La.length)) := by
      apply List.ext_getElem?
      intro j
      simp only [List.getElem?_mapIdx, List.getElem?_map]
      cases hr : (List.range N)[j]? with
      | none => rfl
      | some k =>
        simp only [Option.map_some]
        cases ty0 k <;> rfl
    rw [e2] at hP hD
    exact mm_grow (sh := .inr (ci, (List.range N).map (fun k => mm_dv (ty0 k)))) hAt hL hK hl hc hv ⟨hm.1, hm.2⟩ hP hD hS K
  · exact absurd trivial hq0
end MMN
