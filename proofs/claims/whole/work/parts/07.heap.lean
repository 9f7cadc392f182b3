section MMH
variable {X : Nat × (Nat → Int)} {d mc ms : Nat} {mi : mm_Mi} {Po : mm_Po} {pc : Nat} {L : List (Nat × mm_V)} {st : List mm_V} {La : List mm_S} {M : mm_M} {ck cs : Nat}
theorem mm_fs_at {ad : Nat → Nat} {f : Nat → Int} {fs : List mm_V} {k : Nat} {v : mm_V} (h : fs[k]? = some v) : (fs.mapIdx (mm_fv ad f))[k]? = some (mm_fv ad f k v) := by
  simp [List.getElem?_mapIdx, h]
theorem mm_getI {idx b ci N k : Nat} {C : String} {T : u_T} {fs : List mm_V} {z : Int} (hd : decode mi.2.1 pc = .ok (.getfield idx, 3)) (hc : vwCl[ci]? = some (C, T, N)) (hin : ∀ w ∈ u_ws C T N, w ∈ mm_tbl) (hk : k < N) (w : Cond.fieldLink mi.1.cls idx (T k).1 (T k).2.1 (T k).2.2.1 ∈ mm_tbl) (hb : La[b]? = some (.inr (ci, fs))) (hf : fs[k]? = some (v_i z)) (K : mm_G X d mc ms mi Po (pc + 3) L (v_i (M b k) :: st) La M ck cs) : mm_G X d mc ms mi Po pc L (v_r b :: st) La M ck cs := by
  intro p l e R s m args below meth c A ad ty D H locs ls Q hAt hWd hL hK h1 h2
  have kk := K p l e R s m args below meth c A ad ty D H locs ls Q hAt hWd hL hK h1 h2
  exact va_get hAt.1 hAt.2.1 hAt.2.2.2.2.1 hin hAt.2.2.2.1 hAt.2.2.2.2.2.2.2.1 hWd.1 b (mm_ws_at hb) hc k hk (hAt.2.2.2.2.1 _ w) (fun _ h => h) (mm_fs_at hf) hd kk
theorem mm_getL {idx b ci N k : Nat} {C : String} {T : u_T} {fs : List mm_V} {z : Int} (hd : decode mi.2.1 pc = .ok (.getfield idx, 3)) (hc : vwCl[ci]? = some (C, T, N)) (hin : ∀ w ∈ u_ws C T N, w ∈ mm_tbl) (hk : k < N) (w : Cond.fieldLink mi.1.cls idx (T k).1 (T k).2.1 (T k).2.2.1 ∈ mm_tbl) (hb : La[b]? = some (.inr (ci, fs))) (hf : fs[k]? = some (v_l z)) (K : mm_G X d mc ms mi Po (pc + 3) L (v_l (M b k) :: st) La M ck cs) : mm_G X d mc ms mi Po pc L (v_r b :: st) La M ck cs := by
  intro p l e R s m args below meth c A ad ty D H locs ls Q hAt hWd hL hK h1 h2
  have kk := K p l e R s m args below meth c A ad ty D H locs ls Q hAt hWd hL hK h1 h2
  exact va_get hAt.1 hAt.2.1 hAt.2.2.2.2.1 hin hAt.2.2.2.1 hAt.2.2.2.2.2.2.2.1 hWd.1 b (mm_ws_at hb) hc k hk (hAt.2.2.2.2.1 _ w) (fun _ h => h) (mm_fs_at hf) hd kk
theorem mm_getR {idx b ci N k a : Nat} {C : String} {T : u_T} {fs : List mm_V} (hd : decode mi.2.1 pc = .ok (.getfield idx, 3)) (hc : vwCl[ci]? = some (C, T, N)) (hin : ∀ w ∈ u_ws C T N, w ∈ mm_tbl) (hk : k < N) (w : Cond.fieldLink mi.1.cls idx (T k).1 (T k).2.1 (T k).2.2.1 ∈ mm_tbl) (hb : La[b]? = some (.inr (ci, fs))) (hf : fs[k]? = some (v_r a)) (K : mm_G X d mc ms mi Po (pc + 3) L (v_r a :: st) La M ck cs) : mm_G X d mc ms mi Po pc L (v_r b :: st) La M ck cs := by
  intro p l e R s m args below meth c A ad ty D H locs ls Q hAt hWd hL hK h1 h2
  have kk := K p l e R s m args below meth c A ad ty D H locs ls Q hAt hWd hL hK h1 h2
  exact va_get hAt.1 hAt.2.1 hAt.2.2.2.2.1 hin hAt.2.2.2.1 hAt.2.2.2.2.2.2.2.1 hWd.1 b (mm_ws_at hb) hc k hk (hAt.2.2.2.2.1 _ w) (fun _ h => h) (mm_fs_at hf) hd kk
theorem mm_fs_up {ad : Nat → Nat} {M : mm_M} {b k : Nat} {v : Int} {fs : List mm_V} {q : mm_V} {w : Value} (h : fs[k]? = some q) (hw : w = mm_fv ad (mm_up M b k v b) k q) : (fs.mapIdx (mm_fv ad (M b))).set k w = fs.mapIdx (mm_fv ad (mm_up M b k v b)) := by
  have hk : k < fs.length := (List.getElem?_eq_some_iff.mp h).1
  apply List.ext_getElem?
  intro j
  by_cases hj : j = k
  · subst hj
    rw [List.getElem?_set_self (by simpa using hk), mm_fs_at h, hw]
  · rw [List.getElem?_set_ne (Ne.symm hj)]
    simp only [List.getElem?_mapIdx]
    congr 1
    funext x
    rcases x with x | x | _ | a <;> simp only [mm_fv, mm_up_k hj]
theorem mm_putI {idx b ci N k : Nat} {C : String} {T : u_T} {fs : List mm_V} {z x : Int} {ty0 : Nat → FieldType} (hd : decode mi.2.1 pc = .ok (.putfield idx, 3)) (hc : vwCl[ci]? = some (C, T, N)) (hin : ∀ w ∈ u_ws C T N, w ∈ mm_tbl) (hty : ∀ k, k < N → parseFieldDescriptor (T k).2.2.1 = some (ty0 k)) (hnm : ∀ a, a < N → ∀ b, b < N → a ≠ b → (T a).2.1 ≠ (T b).2.1) (hk : k < N) (w : Cond.fieldLink mi.1.cls idx (T k).1 (T k).2.1 (T k).2.2.1 ∈ mm_tbl) (hfin : (T k).2.2.2 = false) (ht : ty0 k = .int) (hb : La[b]? = some (.inr (ci, fs))) (hf : fs[k]? = some (v_i z)) (K : mm_G X d mc ms mi Po (pc + 3) L st La (mm_up M b k x) ck cs) : mm_G X d mc ms mi Po pc L (v_i x :: v_r b :: st) La M ck cs := by
  intro p l e R s m args below meth c A ad ty D H locs ls Q hAt hWd hL hK h1 h2
  refine va_put (v := .int (Int32.ofInt x)) (ty := .int) hAt.1 hAt.2.1 hAt.2.2.2.2.1 hin ty0 hty hnm hAt.2.2.2.1 hAt.2.2.2.2.2.2.2.1 hWd.1 hWd.2.1 hWd.2.2 b (mm_ws_at hb) hc k hk (hAt.2.2.2.2.1 _ w) (fun _ h => h) hfin (by rw [hty k hk, ht]) rfl rfl (by simpa using (List.getElem?_eq_some_iff.mp hf).1) hd (fun H1 locs1 hP hD hS => ?_)
  rw [mm_fs_up (v := x) hf (by simp only [mm_fv, mm_up_eq])] at hP hD
  have hP : va_P D vwCl (mm_ws ty ad La (mm_up M b k x)) H1 := by rw [← mm_ws_up (k := k) (v := x) hb]; exact hP
  have hD : va_D A (mm_ws ty ad La (mm_up M b k x)) := by rw [← mm_ws_up (k := k) (v := x) hb]; exact hD
  exact K p l e R s m args below meth c A ad ty D H1 locs1 ls Q hAt ⟨hP, hD, hS⟩ hL hK h1 h2
theorem mm_putL {idx b ci N k : Nat} {C : String} {T : u_T} {fs : List mm_V} {z x : Int} {ty0 : Nat → FieldType} (hd : decode mi.2.1 pc = .ok (.putfield idx, 3)) (hc : vwCl[ci]? = some (C, T, N)) (hin : ∀ w ∈ u_ws C T N, w ∈ mm_tbl) (hty : ∀ k, k < N → parseFieldDescriptor (T k).2.2.1 = some (ty0 k)) (hnm : ∀ a, a < N → ∀ b, b < N → a ≠ b → (T a).2.1 ≠ (T b).2.1) (hk : k < N) (w : Cond.fieldLink mi.1.cls idx (T k).1 (T k).2.1 (T k).2.2.1 ∈ mm_tbl) (hfin : (T k).2.2.2 = false) (ht : ty0 k = .long) (hb : La[b]? = some (.inr (ci, fs))) (hf : fs[k]? = some (v_l z)) (K : mm_G X d mc ms mi Po (pc + 3) L st La (mm_up M b k x) ck cs) : mm_G X d mc ms mi Po pc L (v_l x :: v_r b :: st) La M ck cs := by
  intro p l e R s m args below meth c A ad ty D H locs ls Q hAt hWd hL hK h1 h2
  refine va_put (v := .long (Int64.ofInt x)) (ty := .long) hAt.1 hAt.2.1 hAt.2.2.2.2.1 hin ty0 hty hnm hAt.2.2.2.1 hAt.2.2.2.2.2.2.2.1 hWd.1 hWd.2.1 hWd.2.2 b (mm_ws_at hb) hc k hk (hAt.2.2.2.2.1 _ w) (fun _ h => h) hfin (by rw [hty k hk, ht]) rfl rfl (by simpa using (List.getElem?_eq_some_iff.mp hf).1) hd (fun H1 locs1 hP hD hS => ?_)
  rw [mm_fs_up (v := x) hf (by simp only [mm_fv, mm_up_eq])] at hP hD
  have hP : va_P D vwCl (mm_ws ty ad La (mm_up M b k x)) H1 := by rw [← mm_ws_up (k := k) (v := x) hb]; exact hP
  have hD : va_D A (mm_ws ty ad La (mm_up M b k x)) := by rw [← mm_ws_up (k := k) (v := x) hb]; exact hD
  exact K p l e R s m args below meth c A ad ty D H1 locs1 ls Q hAt ⟨hP, hD, hS⟩ hL hK h1 h2
/-- a final field of references, in a constructor -/
theorem mm_ws_ref {ty : FieldType → ClassId} {ad : Nat → Nat} {M : mm_M} {b k ci a : Nat} {fs : List mm_V} (hb : La[b]? = some (.inr (ci, fs))) (hk : k < fs.length) :
    (mm_ws ty ad La M).set b (ad b, .inr (ci, (fs.mapIdx (mm_fv ad (M b))).set k (.ref (ad a)))) = mm_ws ty ad (La.set b (.inr (ci, fs.set k (v_r a)))) M := by
  have hi : b < La.length := (List.getElem?_eq_some_iff.mp hb).1
  apply List.ext_getElem?
  intro j
  by_cases hj : j = b
  · subst hj
    rw [List.getElem?_set_self (by simpa [mm_ws] using hi), mm_ws_at (List.getElem?_set_self hi)]
    have e : (fs.mapIdx (mm_fv ad (M j))).set k (.ref (ad a)) = (fs.set k (v_r a)).mapIdx (mm_fv ad (M j)) := by
      apply List.ext_getElem?
      intro i
      by_cases hik : i = k
      · subst hik
        rw [List.getElem?_set_self (by simpa using hk), mm_fs_at (List.getElem?_set_self hk)]
        rfl
      · rw [List.getElem?_set_ne (Ne.symm hik)]
        simp only [List.getElem?_mapIdx, List.getElem?_set_ne (Ne.symm hik)]
    rw [e]
    rfl
  · rw [List.getElem?_set_ne (Ne.symm hj)]
    simp only [mm_ws, List.getElem?_mapIdx, List.getElem?_set_ne (Ne.symm hj)]
theorem mm_putR {idx b ci N k a : Nat} {C : String} {T : u_T} {fs : List mm_V} {ty0 : Nat → FieldType} {La' : List mm_S} (hd : decode mi.2.1 pc = .ok (.putfield idx, 3)) (hc : vwCl[ci]? = some (C, T, N)) (hin : ∀ w ∈ u_ws C T N, w ∈ mm_tbl) (hty : ∀ k, k < N → parseFieldDescriptor (T k).2.2.1 = some (ty0 k)) (hnm : ∀ a, a < N → ∀ b, b < N → a ≠ b → (T a).2.1 ≠ (T b).2.1) (hk : k < N) (w : Cond.fieldLink mi.1.cls idx (T k).1 (T k).2.1 (T k).2.2.1 ∈ mm_tbl) (hfin : (T k).2.2.2 = true) (hinit : mi.1.name = "<init>") (hdecl : (T k).1 = mi.1.cls) (hn : ∀ q : Nat, narrow (ty0 k) (.ref q) = .ref q) (hfit : ∀ q : Nat, fits (ty0 k) (.ref q) = true) (hb : La[b]? = some (.inr (ci, fs))) (hf : k < fs.length) (hL' : La.set b (.inr (ci, fs.set k (v_r a))) = La') (K : mm_G X d mc ms mi Po (pc + 3) L st La' M ck cs) : mm_G X d mc ms mi Po pc L (v_r a :: v_r b :: st) La M ck cs := by
  intro p l e R s m args below meth c A ad ty D H locs ls Q hAt hWd hL hK h1 h2
  subst hL'
  refine va_putF (v := .ref (ad a)) (ty := ty0 k) hAt.1 hAt.2.1 hAt.2.2.2.2.1 hin ty0 hty hnm hAt.2.2.2.1 hAt.2.2.2.2.2.2.2.1 hWd.1 hWd.2.1 hWd.2.2 b (mm_ws_at hb) hc k hk (hAt.2.2.2.2.1 _ w) (fun _ h => h) hfin (hAt.2.2.2.2.2.2.2.2.2 hinit) hdecl (hty k hk) (hn _) (hfit _) (by simpa using hf) hd (fun H1 locs1 hP hD hS => ?_)
  rw [mm_ws_ref hb hf] at hP hD
  exact K p l e R s m args below meth c A ad ty D H1 locs1 ls Q hAt ⟨hP, hD, hS⟩ hL (fun r La' M' ad' H' locs' ls' pc' ck' cs' q1 q2 q3 => hK r La' M' ad' H' locs' ls' pc' ck' cs' q1 q2 (fun i hi => q3 i (by rw [List.length_set]; exact hi))) h1 h2
/-! arrays -/
theorem mm_iald {b n : Nat} {j : Int} (hd : decode mi.2.1 pc = .ok (.iaload, 1)) (hb : La[b]? = some (.inl (.int, n))) (h0 : 0 ≤ j) (h3 : j < n) (hn : n < 2147483648) (K : mm_G X d mc ms mi Po (pc + 1) L (v_i (M b j.toNat) :: st) La M ck cs) : mm_G X d mc ms mi Po pc L (v_i j :: v_r b :: st) La M ck cs := by
  intro p l e R s m args below meth c A ad ty D H locs ls Q hAt hWd hL hK h1 h2
  have kk := K p l e R s m args below meth c A ad ty D H locs ls Q hAt hWd hL hK h1 h2
  obtain ⟨q1, q2⟩ := mm_ix h0 h3 hn
  refine va_iald (f := fun j => Int32.ofInt (M b j)) hAt.1 hAt.2.1 hAt.2.2.2.2.2.2.2.1 hWd.1 b 0 (mm_ws_at hb) rfl q1 hd ?_
  rw [q2]
  exact kk
theorem mm_zald {b n : Nat} {j : Int} (hd : decode mi.2.1 pc = .ok (.baload, 1)) (hb : La[b]? = some (.inl (.boolean, n))) (h0 : 0 ≤ j) (h3 : j < n) (hn : n < 2147483648) (K : mm_G X d mc ms mi Po (pc + 1) L (v_i (M b j.toNat) :: st) La M ck cs) : mm_G X d mc ms mi Po pc L (v_i j :: v_r b :: st) La M ck cs := by
  intro p l e R s m args below meth c A ad ty D H locs ls Q hAt hWd hL hK h1 h2
  have kk := K p l e R s m args below meth c A ad ty D H locs ls Q hAt hWd hL hK h1 h2
  obtain ⟨q1, q2⟩ := mm_ix h0 h3 hn
  refine va_zald (f := fun j => Int32.ofInt (M b j)) hAt.1 hAt.2.1 hAt.2.2.2.2.2.2.2.1 hWd.1 b 2 (mm_ws_at hb) rfl q1 hd ?_
  rw [q2]
  exact kk
theorem mm_lald {b n : Nat} {j : Int} (hd : decode mi.2.1 pc = .ok (.laload, 1)) (hb : La[b]? = some (.inl (.long, n))) (h0 : 0 ≤ j) (h3 : j < n) (hn : n < 2147483648) (K : mm_G X d mc ms mi Po (pc + 1) L (v_l (M b j.toNat) :: st) La M ck cs) : mm_G X d mc ms mi Po pc L (v_i j :: v_r b :: st) La M ck cs := by
  intro p l e R s m args below meth c A ad ty D H locs ls Q hAt hWd hL hK h1 h2
  have kk := K p l e R s m args below meth c A ad ty D H locs ls Q hAt hWd hL hK h1 h2
  obtain ⟨q1, q2⟩ := mm_ix h0 h3 hn
  refine va_lald (f := fun j => Int64.ofInt (M b j)) hAt.1 hAt.2.1 hAt.2.2.2.2.2.2.2.1 hWd.1 b 1 (mm_ws_at hb) rfl q1 hd ?_
  rw [q2]
  exact kk
theorem mm_arr_i {ty : FieldType → ClassId} {ad : Nat → Nat} {b n k : Nat} {x : Int} : (Sum.inl (ty .int, n, .inl (upd (fun j => Int32.ofInt (M b j)) k (Int32.ofInt x))) : va_E) = mm_ce ty ad (mm_up M b k x b) (.inl (.int, n)) := by
  have e : upd (fun j => Int32.ofInt (M b j)) k (Int32.ofInt x) = fun j => Int32.ofInt (mm_up M b k x b j) := by
    funext j
    by_cases hj : j = k
    · subst hj; simp [upd, mm_up]
    · simp [upd, mm_up, hj]
  rw [e]; rfl
theorem mm_arr_z {ty : FieldType → ClassId} {ad : Nat → Nat} {b n k : Nat} {x : Int} : (Sum.inl (ty .boolean, n, .inl (upd (fun j => Int32.ofInt (M b j)) k (Int32.ofInt x))) : va_E) = mm_ce ty ad (mm_up M b k x b) (.inl (.boolean, n)) := by
  have e : upd (fun j => Int32.ofInt (M b j)) k (Int32.ofInt x) = fun j => Int32.ofInt (mm_up M b k x b j) := by
    funext j
    by_cases hj : j = k
    · subst hj; simp [upd, mm_up]
    · simp [upd, mm_up, hj]
  rw [e]; rfl
theorem mm_arr_l {ty : FieldType → ClassId} {ad : Nat → Nat} {b n k : Nat} {x : Int} : (Sum.inl (ty .long, n, .inr (.inl (vp_updL (fun j => Int64.ofInt (M b j)) k (Int64.ofInt x)))) : va_E) = mm_ce ty ad (mm_up M b k x b) (.inl (.long, n)) := by
  have e : vp_updL (fun j => Int64.ofInt (M b j)) k (Int64.ofInt x) = fun j => Int64.ofInt (mm_up M b k x b j) := by
    funext j
    by_cases hj : j = k
    · subst hj; simp [vp_updL, mm_up]
    · simp [vp_updL, mm_up, hj]
  rw [e]; rfl
theorem mm_iast {b n : Nat} {j x : Int} (hd : decode mi.2.1 pc = .ok (.iastore, 1)) (hb : La[b]? = some (.inl (.int, n))) (h0 : 0 ≤ j) (h3 : j < n) (hn : n < 2147483648) (K : mm_G X d mc ms mi Po (pc + 1) L st La (mm_up M b j.toNat x) ck cs) : mm_G X d mc ms mi Po pc L (v_i x :: v_i j :: v_r b :: st) La M ck cs := by
  intro p l e R s m args below meth c A ad ty D H locs ls Q hAt hWd hL hK h1 h2
  obtain ⟨q1, q2⟩ := mm_ix h0 h3 hn
  refine va_iast (f := fun j => Int32.ofInt (M b j)) hAt.1 hAt.2.1 hAt.2.2.2.2.2.2.2.1 hWd.1 hWd.2.1 hWd.2.2 b 0 (mm_ws_at hb) rfl q1 hd (fun H1 locs1 hP hD hS => ?_)
  rw [q2, mm_ws_set hb mm_arr_i] at hP hD
  exact K p l e R s m args below meth c A ad ty D H1 locs1 ls Q hAt ⟨hP, hD, hS⟩ hL hK h1 h2
theorem mm_last {b n : Nat} {j x : Int} (hd : decode mi.2.1 pc = .ok (.lastore, 1)) (hb : La[b]? = some (.inl (.long, n))) (h0 : 0 ≤ j) (h3 : j < n) (hn : n < 2147483648) (K : mm_G X d mc ms mi Po (pc + 1) L st La (mm_up M b j.toNat x) ck cs) : mm_G X d mc ms mi Po pc L (v_l x :: v_i j :: v_r b :: st) La M ck cs := by
  intro p l e R s m args below meth c A ad ty D H locs ls Q hAt hWd hL hK h1 h2
  obtain ⟨q1, q2⟩ := mm_ix h0 h3 hn
  refine va_last (f := fun j => Int64.ofInt (M b j)) hAt.1 hAt.2.1 hAt.2.2.2.2.2.2.2.1 hWd.1 hWd.2.1 hWd.2.2 b 1 (mm_ws_at hb) rfl q1 hd (fun H1 locs1 hP hD hS => ?_)
  rw [q2, mm_ws_set hb mm_arr_l] at hP hD
  exact K p l e R s m args below meth c A ad ty D H1 locs1 ls Q hAt ⟨hP, hD, hS⟩ hL hK h1 h2
theorem mm_zast {b n : Nat} {j x : Int} (hd : decode mi.2.1 pc = .ok (.bastore, 1)) (hb : La[b]? = some (.inl (.boolean, n))) (h0 : 0 ≤ j) (h3 : j < n) (hn : n < 2147483648) (hz : x = 0 ∨ x = 1) (K : mm_G X d mc ms mi Po (pc + 1) L st La (mm_up M b j.toNat x) ck cs) : mm_G X d mc ms mi Po pc L (v_i x :: v_i j :: v_r b :: st) La M ck cs := by
  intro p l e R s m args below meth c A ad ty D H locs ls Q hAt hWd hL hK h1 h2
  obtain ⟨q1, q2⟩ := mm_ix h0 h3 hn
  have q3 : vp_nar .boolean (Int32.ofInt x) = Int32.ofInt x := by rcases hz with rfl | rfl <;> rfl
  refine va_zast (f := fun j => Int32.ofInt (M b j)) hAt.1 hAt.2.1 hAt.2.2.2.2.2.2.2.1 hWd.1 hWd.2.1 hWd.2.2 b 2 (mm_ws_at hb) rfl q1 hd (fun H1 locs1 hP hD hS => ?_)
  rw [q2, q3, mm_ws_set hb mm_arr_z] at hP hD
  exact K p l e R s m args below meth c A ad ty D H1 locs1 ls Q hAt ⟨hP, hD, hS⟩ hL hK h1 h2
theorem mm_alen {b n : Nat} {t : FieldType} (hd : decode mi.2.1 pc = .ok (.arraylength, 1)) (hb : La[b]? = some (.inl (t, n))) (ht : t = .int ∨ t = .long ∨ t = .boolean) (K : mm_G X d mc ms mi Po (pc + 1) L (v_i (n : Int) :: st) La M ck cs) : mm_G X d mc ms mi Po pc L (v_r b :: st) La M ck cs := by
  intro p l e R s m args below meth c A ad ty D H locs ls Q hAt hWd hL hK h1 h2
  have kk := K p l e R s m args below meth c A ad ty D H locs ls Q hAt hWd hL hK h1 h2
  rcases ht with rfl | rfl | rfl
  · exact va_alen hAt.1 hAt.2.1 hAt.2.2.2.2.2.2.2.1 hWd.1 b 0 (mm_ws_at hb) rfl rfl hd kk
  · exact va_alen hAt.1 hAt.2.1 hAt.2.2.2.2.2.2.2.1 hWd.1 b 1 (mm_ws_at hb) rfl rfl hd kk
  · exact va_alen hAt.1 hAt.2.1 hAt.2.2.2.2.2.2.2.1 hWd.1 b 2 (mm_ws_at hb) rfl rfl hd kk
/-! what nobody writes -/
theorem mm_getS0 {idx : Nat} (hd : decode mi.2.1 pc = .ok (.getstatic idx, 3)) (w : Cond.fieldLink mi.1.cls idx RX0 "SEATS" "[I" ∈ mm_tbl) (K : mm_G X d mc ms mi Po (pc + 3) L (v_r 1000 :: st) La M ck cs) : mm_G X d mc ms mi Po pc L st La M ck cs := by
  intro p l e R s m args below meth c A ad ty D H locs ls Q hAt hWd hL hK h1 h2
  have kk := K p l e R s m args below meth c A ad ty D H locs ls Q hAt hWd hL hK h1 h2
  exact va_gets hAt.1 hAt.2.1 hAt.2.2.2.2.2.2.1.1.2 hWd.2.2 hAt.2.2.2.1 (hAt.2.2.2.2.1 _ w) (fun _ h => h) hd kk
theorem mm_getS1 {idx : Nat} (hd : decode mi.2.1 pc = .ok (.getstatic idx, 3)) (w : Cond.fieldLink mi.1.cls idx RX0 "DISLIKES" "[I" ∈ mm_tbl) (K : mm_G X d mc ms mi Po (pc + 3) L (v_r 1001 :: st) La M ck cs) : mm_G X d mc ms mi Po pc L st La M ck cs := by
  intro p l e R s m args below meth c A ad ty D H locs ls Q hAt hWd hL hK h1 h2
  have kk := K p l e R s m args below meth c A ad ty D H locs ls Q hAt hWd hL hK h1 h2
  exact va_gets hAt.1 hAt.2.1 hAt.2.2.2.2.2.2.1.2.1.2 hWd.2.2 hAt.2.2.2.1 (hAt.2.2.2.2.1 _ w) (fun _ h => h) hd kk
theorem mm_getS2 {idx : Nat} (hd : decode mi.2.1 pc = .ok (.getstatic idx, 3)) (w : Cond.fieldLink mi.1.cls idx RJ0 "COMPACT_STRINGS" "Z" ∈ mm_tbl) (K : mm_G X d mc ms mi Po (pc + 3) L (v_i 1 :: st) La M ck cs) : mm_G X d mc ms mi Po pc L st La M ck cs := by
  intro p l e R s m args below meth c A ad ty D H locs ls Q hAt hWd hL hK h1 h2
  have kk := K p l e R s m args below meth c A ad ty D H locs ls Q hAt hWd hL hK h1 h2
  exact va_gets hAt.1 hAt.2.1 hAt.2.2.2.2.2.2.1.2.2.1 hWd.2.2 hAt.2.2.2.1 (hAt.2.2.2.2.1 _ w) (fun _ h => h) hd kk
theorem mm_ald0 {j : Int} (hd : decode mi.2.1 pc = .ok (.iaload, 1)) (h0 : 0 ≤ j) (h3 : j < 5) (K : mm_G X d mc ms mi Po (pc + 1) L (v_i (mm_seats j.toNat) :: st) La M ck cs) : mm_G X d mc ms mi Po pc L (v_i j :: v_r 1000 :: st) La M ck cs := by
  intro p l e R s m args below meth c A ad ty D H locs ls Q hAt hWd hL hK h1 h2
  have kk := K p l e R s m args below meth c A ad ty D H locs ls Q hAt hWd hL hK h1 h2
  obtain ⟨q1, q2⟩ := mm_ix (n := 5) h0 (by omega) (by omega)
  exact va_ti hAt.1 hAt.2.1 hAt.2.2.2.2.2.2.1.1.1 hWd.2.2 q1 (by rw [q2]; rfl) hd kk
theorem mm_ald1 {j : Int} (hd : decode mi.2.1 pc = .ok (.iaload, 1)) (h0 : 0 ≤ j) (h3 : j < 15) (K : mm_G X d mc ms mi Po (pc + 1) L (v_i (mm_disl j.toNat) :: st) La M ck cs) : mm_G X d mc ms mi Po pc L (v_i j :: v_r 1001 :: st) La M ck cs := by
  intro p l e R s m args below meth c A ad ty D H locs ls Q hAt hWd hL hK h1 h2
  have kk := K p l e R s m args below meth c A ad ty D H locs ls Q hAt hWd hL hK h1 h2
  obtain ⟨q1, q2⟩ := mm_ix (n := 15) h0 (by omega) (by omega)
  exact va_ti hAt.1 hAt.2.1 hAt.2.2.2.2.2.2.1.2.1.1 hWd.2.2 q1 (by rw [q2]; rfl) hd kk
theorem mm_aldX {j : Int} (hd : decode mi.2.1 pc = .ok (.iaload, 1)) (h0 : 0 ≤ j) (h3 : j < X.1) (hn : X.1 < 2147483648) (K : mm_G X d mc ms mi Po (pc + 1) L (v_i (X.2 j.toNat) :: st) La M ck cs) : mm_G X d mc ms mi Po pc L (v_i j :: v_r 1012 :: st) La M ck cs := by
  intro p l e R s m args below meth c A ad ty D H locs ls Q hAt hWd hL hK h1 h2
  have kk := K p l e R s m args below meth c A ad ty D H locs ls Q hAt hWd hL hK h1 h2
  obtain ⟨q1, q2⟩ := mm_ix h0 h3 hn
  exact va_ti hAt.1 hAt.2.1 hAt.2.2.2.2.2.2.1.2.2.2.2.2.1 hWd.2.2 q1 (by rw [q2]; rfl) hd kk
theorem mm_alenT {t : FieldType} {q N : Nat} {f : (Nat → Nat) → Nat → Value} (hT : ∀ (ad : Nat → Nat) (A : Nat → Prop) (U : State) (H : Heap), mm_RO X ad A U H → va_T t (ad q) N (f ad) A U H) (hd : decode mi.2.1 pc = .ok (.arraylength, 1)) (K : mm_G X d mc ms mi Po (pc + 1) L (v_i (N : Int) :: st) La M ck cs) : mm_G X d mc ms mi Po pc L (v_r q :: st) La M ck cs := by
  intro p l e R s m args below meth c A ad ty D H locs ls Q hAt hWd hL hK h1 h2
  have kk := K p l e R s m args below meth c A ad ty D H locs ls Q hAt hWd hL hK h1 h2
  obtain ⟨cell, g1, g2, g3, g4, g5, g6, g7⟩ := hT ad A s s.heap hAt.2.2.2.2.2.2.1
  exact W.alen (n := Int32.ofNat N) hAt.1 hAt.2.1 (by rw [hWd.2.2.2.1 _ (Array.getElem?_eq_some_iff.mp g1).1 g7]; exact g1) g2 g5 rfl rfl hd kk
theorem mm_alenX (hd : decode mi.2.1 pc = .ok (.arraylength, 1)) (K : mm_G X d mc ms mi Po (pc + 1) L (v_i (X.1 : Int) :: st) La M ck cs) : mm_G X d mc ms mi Po pc L (v_r 1012 :: st) La M ck cs :=
  mm_alenT (fun ad A U H h => h.2.2.2.2.2.1) hd K
/-- a text's bytes -/
theorem mm_sval {i n : Nat} (hn : mm_slen[i]? = some n) : ∀ (ad : Nat → Nat) (A : Nat → Prop) (U : State) (H : Heap), mm_RO X ad A U H → va_T .byte (ad (1007 + i)) n (fun j => .int ((mm_sbyt.getD i []).getD j 0)) A U H := by
  intro ad A U H h
  have hi : i < 5 := by have := (List.getElem?_eq_some_iff.mp hn).1; exact this
  have h2 := (h.2.2.2.1.1 i hi).2.2.2
  have e : mm_slen.getD i 0 = n := by simp [List.getD, hn]
  rw [e] at h2
  exact h2
theorem mm_ldcS {i k : Nat} {tx : String} {bs : List Int} (hd : decode mi.2.1 pc = .ok (.ldc k, 2)) (ho : mi.1.cls = RX7) (hi : mm_str[i]? = some (k, tx, bs)) (K : mm_G X d mc ms mi Po (pc + 2) L (v_r (1002 + i) :: st) La M ck cs) : mm_G X d mc ms mi Po pc L st La M ck cs := by
  intro p l e R s m args below meth c A ad ty D H locs ls Q hAt hWd hL hK h1 h2
  have kk := K p l e R s m args below meth c A ad ty D H locs ls Q hAt hWd hL hK h1 h2
  exact va_ldcS (own := RX7) hAt.1 hAt.2.1 (by rw [← ho]; exact hAt.2.2.2.1) (hAt.2.2.2.2.2.2.1.2.2.2.2.1 i _ hi) hd kk
theorem mm_getC {idx i : Nat} (hi : i < 5) (hd : decode mi.2.1 pc = .ok (.getfield idx, 3)) (w : Cond.fieldLink mi.1.cls idx RJ0 "coder" "B" ∈ mm_tbl) (K : mm_G X d mc ms mi Po (pc + 3) L (v_i 0 :: st) La M ck cs) : mm_G X d mc ms mi Po pc L (v_r (1002 + i) :: st) La M ck cs := by
  intro p l e R s m args below meth c A ad ty D H locs ls Q hAt hWd hL hK h1 h2
  have kk := K p l e R s m args below meth c A ad ty D H locs ls Q hAt hWd hL hK h1 h2
  exact vk_getf hAt.1 hAt.2.1 (hAt.2.2.2.2.2.2.1.2.2.2.1.1 i hi).2.1 hWd.2.2 hAt.2.2.2.1 (hAt.2.2.2.2.1 _ w) (fun _ h => h) hd kk
theorem mm_getV {idx i : Nat} (hi : i < 5) (hd : decode mi.2.1 pc = .ok (.getfield idx, 3)) (w : Cond.fieldLink mi.1.cls idx RJ0 "value" "[B" ∈ mm_tbl) (K : mm_G X d mc ms mi Po (pc + 3) L (v_r (1007 + i) :: st) La M ck cs) : mm_G X d mc ms mi Po pc L (v_r (1002 + i) :: st) La M ck cs := by
  intro p l e R s m args below meth c A ad ty D H locs ls Q hAt hWd hL hK h1 h2
  have kk := K p l e R s m args below meth c A ad ty D H locs ls Q hAt hWd hL hK h1 h2
  exact vk_getf hAt.1 hAt.2.1 (hAt.2.2.2.2.2.2.1.2.2.2.1.1 i hi).2.2.1 hWd.2.2 hAt.2.2.2.1 (hAt.2.2.2.2.1 _ w) (fun _ h => h) hd kk
theorem mm_bald {i n : Nat} {j v : Int} (hn : mm_slen[i]? = some n) (h0 : 0 ≤ j) (h3 : j < n) (hb3 : n < 2147483648) (hv : (mm_sbyt.getD i []).getD j.toNat 0 = Int32.ofInt v) (hd : decode mi.2.1 pc = .ok (.baload, 1)) (K : mm_G X d mc ms mi Po (pc + 1) L (v_i v :: st) La M ck cs) : mm_G X d mc ms mi Po pc L (v_i j :: v_r (1007 + i) :: st) La M ck cs := by
  intro p l e R s m args below meth c A ad ty D H locs ls Q hAt hWd hL hK h1 h2
  have kk := K p l e R s m args below meth c A ad ty D H locs ls Q hAt hWd hL hK h1 h2
  obtain ⟨q1, q2⟩ := mm_ix h0 h3 hb3
  exact va_tb hAt.1 hAt.2.1 (mm_sval hn ad A s s.heap hAt.2.2.2.2.2.2.1) hWd.2.2 q1 (by rw [q2, hv]; rfl) hd kk
theorem mm_alenB {i n : Nat} (hn : mm_slen[i]? = some n) (hd : decode mi.2.1 pc = .ok (.arraylength, 1)) (K : mm_G X d mc ms mi Po (pc + 1) L (v_i (n : Int) :: st) La M ck cs) : mm_G X d mc ms mi Po pc L (v_r (1007 + i) :: st) La M ck cs :=
  mm_alenT (mm_sval hn) hd K
end MMH
