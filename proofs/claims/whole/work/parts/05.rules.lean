theorem mm_dc {b : ByteArray} {ops : List (Nat × Instr × Nat)} (h : ∀ q ∈ ops, decode b q.1 = .ok q.2) (k : Nat) {pc : Nat} {i : Instr × Nat} (hk : ops[k]? = some (pc, i)) : decode b pc = .ok i := h (pc, i) (List.mem_of_getElem? hk)
def mm_lk : List (Nat × mm_V) → Nat → Option mm_V
  | [], _ => none
  | (j, v) :: t, i => if j = i then some v else mm_lk t i
theorem mm_lk_mem : ∀ {L : List (Nat × mm_V)} {i : Nat} {v : mm_V}, mm_lk L i = some v → (i, v) ∈ L
  | [], _, _, h => by cases h
  | (j, w) :: t, i, v, h => by
    unfold mm_lk at h
    by_cases hj : j = i
    · rw [if_pos hj] at h
      cases h
      subst hj
      exact List.mem_cons_self
    · rw [if_neg hj] at h
      exact List.mem_cons_of_mem _ (mm_lk_mem h)
theorem mm_lv {ad : Nat → Nat} {ls : Array Slot} {n : Nat} {L : List (Nat × mm_V)} {i : Nat} {v : mm_V} (h : lv_has ls n (mm_lo ad L)) (hl : mm_lk L i = some v) : ls[i]? = some (.val (mm_cv ad v)) := h.2.2 (i, mm_cv ad v) (List.mem_map.mpr ⟨(i, v), mm_lk_mem hl, rfl⟩)
def mm_two : mm_V → Bool
  | .inr (.inl _) => true
  | _ => false
theorem mm_two_cat (ad : Nat → Nat) (v : mm_V) : ((mm_cv ad v).category == 2) = mm_two v := by
  rcases v with z | z | _ | a <;> rfl
def mm_in : List (Nat × mm_V) → Nat → mm_V → List (Nat × mm_V)
  | [], i, v => [(i, v)]
  | (j, w) :: t, i, v => if i < j then (i, v) :: (j, w) :: t else (j, w) :: mm_in t i v
theorem mm_in_mem {i : Nat} {v : mm_V} : ∀ {L : List (Nat × mm_V)} {q : Nat × mm_V}, q ∈ mm_in L i v → q = (i, v) ∨ q ∈ L
  | [], q, h => Or.inl (List.mem_singleton.mp h)
  | (j, w) :: t, q, h => by
    unfold mm_in at h
    by_cases hj : i < j
    · rw [if_pos hj] at h
      rcases List.mem_cons.mp h with h | h
      · exact Or.inl h
      · exact Or.inr h
    · rw [if_neg hj] at h
      rcases List.mem_cons.mp h with h | h
      · exact Or.inr (h ▸ List.mem_cons_self)
      · rcases mm_in_mem h with h | h
        · exact Or.inl h
        · exact Or.inr (List.mem_cons_of_mem _ h)
/-- a store into the locals: of a value of one word, of two -/
def mm_s1 (L : List (Nat × mm_V)) (i : Nat) (v : mm_V) : List (Nat × mm_V) := mm_in (L.filter (fun q => !(q.1 == i) && !(q.1 + 1 == i && mm_two q.2))) i v
def mm_s2 (L : List (Nat × mm_V)) (i : Nat) (v : mm_V) : List (Nat × mm_V) := mm_in (L.filter (fun q => !(q.1 == i) && (!(q.1 == i + 1) && !(q.1 + 1 == i && mm_two q.2)))) i v
theorem mm_h1 {ad : Nat → Nat} {ls : Array Slot} {n i : Nat} {L : List (Nat × mm_V)} {v : mm_V} (h : lv_has ls n ((i, mm_cv ad v) :: (mm_lo ad L).filter (fun q => !(q.1 == i) && !(q.1 + 1 == i && q.2.category == 2)))) : lv_has ls n (mm_lo ad (mm_s1 L i v)) := by
  refine ⟨h.1, h.2.1, fun q hq => h.2.2 q ?_⟩
  obtain ⟨w, hw, rfl⟩ := List.mem_map.mp hq
  rcases mm_in_mem hw with rfl | hw
  · exact List.mem_cons_self
  · obtain ⟨h3, h4⟩ := List.mem_filter.mp hw
    refine List.mem_cons_of_mem _ (List.mem_filter.mpr ⟨List.mem_map.mpr ⟨w, h3, rfl⟩, ?_⟩)
    simpa only [mm_two_cat] using h4
theorem mm_h2 {ad : Nat → Nat} {ls : Array Slot} {n i : Nat} {L : List (Nat × mm_V)} {v : mm_V} (h : lv_has ls n ((i, mm_cv ad v) :: (mm_lo ad L).filter (fun q => !(q.1 == i) && (!(q.1 == i + 1) && !(q.1 + 1 == i && q.2.category == 2))))) : lv_has ls n (mm_lo ad (mm_s2 L i v)) := by
  refine ⟨h.1, h.2.1, fun q hq => h.2.2 q ?_⟩
  obtain ⟨w, hw, rfl⟩ := List.mem_map.mp hq
  rcases mm_in_mem hw with rfl | hw
  · exact List.mem_cons_self
  · obtain ⟨h3, h4⟩ := List.mem_filter.mp hw
    refine List.mem_cons_of_mem _ (List.mem_filter.mpr ⟨List.mem_map.mpr ⟨w, h3, rfl⟩, ?_⟩)
    simpa only [mm_two_cat] using h4
abbrev mm_r32 (z : Int) : Prop := -2147483648 ≤ z ∧ z < 2147483648
abbrev mm_r64 (z : Int) : Prop := -9223372036854775808 ≤ z ∧ z < 9223372036854775808
theorem mm_o32 {z : Int} (h : mm_r32 z) : (Int32.ofInt z).toInt = z := Int32.toInt_ofInt_of_le (by omega) (by omega)
theorem mm_o64 {z : Int} (h : mm_r64 z) : (Int64.ofInt z).toInt = z := Int64.toInt_ofInt_of_le (by omega) (by omega)
theorem mm_lt32 {a b : Int} (ha : mm_r32 a) (hb : mm_r32 b) : Int32.ofInt a < Int32.ofInt b ↔ a < b := by rw [Int32.lt_iff_toInt_lt, mm_o32 ha, mm_o32 hb]
theorem mm_le32 {a b : Int} (ha : mm_r32 a) (hb : mm_r32 b) : Int32.ofInt a ≤ Int32.ofInt b ↔ a ≤ b := by rw [Int32.le_iff_toInt_le, mm_o32 ha, mm_o32 hb]
theorem mm_eq32 {a b : Int} (ha : mm_r32 a) (hb : mm_r32 b) : Int32.ofInt a = Int32.ofInt b ↔ a = b := by rw [← Int32.toInt_inj, mm_o32 ha, mm_o32 hb]
theorem mm_lt64 {a b : Int} (ha : mm_r64 a) (hb : mm_r64 b) : Int64.ofInt a < Int64.ofInt b ↔ a < b := by rw [Int64.lt_iff_toInt_lt, mm_o64 ha, mm_o64 hb]
theorem mm_eq64 {a b : Int} (ha : mm_r64 a) (hb : mm_r64 b) : Int64.ofInt a = Int64.ofInt b ↔ a = b := by rw [← Int64.toInt_inj, mm_o64 ha, mm_o64 hb]
theorem mm_ix {j : Int} {n : Nat} (h0 : 0 ≤ j) (h1 : j < n) (hn : n < 2147483648) : vp_in (Int32.ofInt j) n ∧ (Int32.ofInt j).toNatClampNeg = j.toNat := by
  have hj : (Int32.ofInt j).toInt = j := mm_o32 (by omega)
  refine ⟨vp_in_iff.mpr (by rw [hj]; exact ⟨h0, h1⟩), ?_⟩
  show (Int32.ofInt j).toInt.toNat = _
  rw [hj]
def mm_cmp (x y : Int) : Int := if y < x then 1 else if x = y then 0 else -1
theorem mm_cmp64 {x y : Int} (hx : mm_r64 x) (hy : mm_r64 y) : lg_cmp (Int64.ofInt x) (Int64.ofInt y) = Int32.ofInt (mm_cmp x y) := by
  unfold lg_cmp mm_cmp
  by_cases h1 : y < x
  · rw [if_pos ((mm_lt64 hy hx).mpr h1), if_pos h1]; rfl
  · rw [if_neg (fun h => h1 ((mm_lt64 hy hx).mp h)), if_neg h1]
    by_cases h2 : x = y
    · rw [if_pos (by rw [h2]), if_pos h2]; rfl
    · rw [if_neg (fun h => h2 ((mm_eq64 hx hy).mp h)), if_neg h2]; rfl
/-! numbers' words: what no ring gives -/
def fx_shl (x y : Int) : Int := (Int32.ofInt x <<< (Int32.ofInt y &&& 31)).toInt
def fx_shr (x y : Int) : Int := (Int32.ofInt x >>> (Int32.ofInt y &&& 31)).toInt
def fx_ushr (x y : Int) : Int := ((Int32.ofInt x).toUInt32 >>> ((Int32.ofInt y).toUInt32 &&& Int32.toUInt32 31)).toInt32.toInt
def fx_and (x y : Int) : Int := (Int32.ofInt x &&& Int32.ofInt y).toInt
def fx_or (x y : Int) : Int := (Int32.ofInt x ||| Int32.ofInt y).toInt
def fx_xor (x y : Int) : Int := (Int32.ofInt x ^^^ Int32.ofInt y).toInt
def fx_lshl (x y : Int) : Int := (Int64.ofInt x <<< ((Int32.ofInt y).toInt64 &&& 63)).toInt
def fx_lshr (x y : Int) : Int := (Int64.ofInt x >>> ((Int32.ofInt y).toInt64 &&& 63)).toInt
def fx_lushr (x y : Int) : Int := ((Int64.ofInt x).toUInt64 >>> ((Int32.ofInt y).toInt64.toUInt64 &&& Int64.toUInt64 63)).toInt64.toInt
def fx_land (x y : Int) : Int := (Int64.ofInt x &&& Int64.ofInt y).toInt
def fx_lor (x y : Int) : Int := (Int64.ofInt x ||| Int64.ofInt y).toInt
section MMR
variable {X : Nat × (Nat → Int)} {d mc ms : Nat} {mi : mm_Mi} {Po : mm_Po} {pc : Nat} {L : List (Nat × mm_V)} {st : List mm_V} {La : List mm_S} {M : mm_M} {ck cs : Nat}
theorem mm_topi {z : Int} (k : ∀ y : Int, y = z → mm_G X d mc ms mi Po pc L (v_i y :: st) La M ck cs) : mm_G X d mc ms mi Po pc L (v_i z :: st) La M ck cs := k z rfl
theorem mm_topl {z : Int} (k : ∀ y : Int, y = z → mm_G X d mc ms mi Po pc L (v_l y :: st) La M ck cs) : mm_G X d mc ms mi Po pc L (v_l z :: st) La M ck cs := k z rfl
theorem mm_nm (k : ∀ N : mm_M, N = M → mm_G X d mc ms mi Po pc L st La N ck cs) : mm_G X d mc ms mi Po pc L st La M ck cs := k M rfl
theorem mm_mo {Po' : mm_Po} (h : ∀ r La' M', Po' r La' M' → Po r La' M') (k : mm_G X d mc ms mi Po' pc L st La M ck cs) : mm_G X d mc ms mi Po pc L st La M ck cs :=
  fun p l e R s m args below meth c A ad ty D H locs ls Q hAt hWd hL hK h1 h2 => k p l e R s m args below meth c A ad ty D H locs ls Q hAt hWd hL (fun r La' M' ad' H' locs' ls' pc' ck' cs' hPo => hK r La' M' ad' H' locs' ls' pc' ck' cs' (h r La' M' hPo)) h1 h2
def mm_pk (L : List (Nat × mm_V)) (ks : List Nat) : List (Nat × mm_V) := ks.filterMap (fun k => L[k]?)
/-- fewer locals -/
theorem mm_less {L' : List (Nat × mm_V)} (ks : List Nat) (hl : mm_pk L ks = L') (k : mm_G X d mc ms mi Po pc L' st La M ck cs) : mm_G X d mc ms mi Po pc L st La M ck cs := by
  intro p l e R s m args below meth c A ad ty D H locs ls Q hAt hWd hL hK h1 h2
  refine k p l e R s m args below meth c A ad ty D H locs ls Q hAt hWd ⟨hL.1, hL.2.1, fun q hq => hL.2.2 q ?_⟩ hK h1 h2
  obtain ⟨w, hw, rfl⟩ := List.mem_map.mp hq
  rw [← hl] at hw
  obtain ⟨j, -, hj⟩ := List.mem_filterMap.mp hw
  exact List.mem_map.mpr ⟨w, List.mem_of_getElem? hj, rfl⟩
theorem mm_iconst {n : Int} (hd : decode mi.2.1 pc = .ok (.iconst n, 1))  (k : mm_G X d mc ms mi Po (pc + 1) L (v_i (n) :: st) La M ck cs) : mm_G X d mc ms mi Po pc L (st) La M ck cs := by
  intro p l e R s m args below meth c A ad ty D H locs ls Q hAt hWd hL hK h1 h2
  have hx := hAt.1
  have hb := hAt.2.1
  have kk := k p l e R s m args below meth c A ad ty D H locs ls Q hAt hWd hL hK h1 h2
  change W p l e R s m args below meth c H locs ck cs Q (F0 m (pc + 1) ls (.int (Int32.ofInt (n)) :: st.map (mm_cv ad))) at kk
  show W p l e R s m args below meth c H locs ck cs Q (F0 m pc ls (st.map (mm_cv ad)))
  exact lv_iconst hx hb hd rfl kk
theorem mm_bipush {n : Int} (hd : decode mi.2.1 pc = .ok (.bipush n, 2)) (h : (Int8.ofInt n).toInt32 = Int32.ofInt n) (k : mm_G X d mc ms mi Po (pc + 2) L (v_i (n) :: st) La M ck cs) : mm_G X d mc ms mi Po pc L (st) La M ck cs := by
  intro p l e R s m args below meth c A ad ty D H locs ls Q hAt hWd hL hK h1 h2
  have hx := hAt.1
  have hb := hAt.2.1
  have kk := k p l e R s m args below meth c A ad ty D H locs ls Q hAt hWd hL hK h1 h2
  change W p l e R s m args below meth c H locs ck cs Q (F0 m (pc + 2) ls (.int (Int32.ofInt (n)) :: st.map (mm_cv ad))) at kk
  show W p l e R s m args below meth c H locs ck cs Q (F0 m pc ls (st.map (mm_cv ad)))
  exact lv_bipush hx hb hd h kk
theorem mm_sipush {n : Int} (hd : decode mi.2.1 pc = .ok (.sipush n, 3)) (h : (Int16.ofInt n).toInt32 = Int32.ofInt n) (k : mm_G X d mc ms mi Po (pc + 3) L (v_i (n) :: st) La M ck cs) : mm_G X d mc ms mi Po pc L (st) La M ck cs := by
  intro p l e R s m args below meth c A ad ty D H locs ls Q hAt hWd hL hK h1 h2
  have hx := hAt.1
  have hb := hAt.2.1
  have kk := k p l e R s m args below meth c A ad ty D H locs ls Q hAt hWd hL hK h1 h2
  change W p l e R s m args below meth c H locs ck cs Q (F0 m (pc + 3) ls (.int (Int32.ofInt (n)) :: st.map (mm_cv ad))) at kk
  show W p l e R s m args below meth c H locs ck cs Q (F0 m pc ls (st.map (mm_cv ad)))
  exact lv_sipush hx hb hd h kk
theorem mm_lconst {n : Fin 2} (hd : decode mi.2.1 pc = .ok (.lconst n, 1))  (k : mm_G X d mc ms mi Po (pc + 1) L (v_l (((n : Nat) : Int)) :: st) La M ck cs) : mm_G X d mc ms mi Po pc L (st) La M ck cs := by
  intro p l e R s m args below meth c A ad ty D H locs ls Q hAt hWd hL hK h1 h2
  have hx := hAt.1
  have hb := hAt.2.1
  have kk := k p l e R s m args below meth c A ad ty D H locs ls Q hAt hWd hL hK h1 h2
  change W p l e R s m args below meth c H locs ck cs Q (F0 m (pc + 1) ls (.long (Int64.ofInt (((n : Nat) : Int))) :: st.map (mm_cv ad))) at kk
  show W p l e R s m args below meth c H locs ck cs Q (F0 m pc ls (st.map (mm_cv ad)))
  refine lv_lconst hx hb hd ?_ kk
  rcases n with ⟨_ | _ | n, hn⟩
  · rfl
  · rfl
  · omega
theorem mm_iload_n {j : Fin 4} {z : Int} (hd : decode mi.2.1 pc = .ok (.iload_n j, 1)) (hl : mm_lk L (j : Nat) = some (v_i (z))) (k : mm_G X d mc ms mi Po (pc + 1) L (v_i (z) :: st) La M ck cs) : mm_G X d mc ms mi Po pc L (st) La M ck cs := by
  intro p l e R s m args below meth c A ad ty D H locs ls Q hAt hWd hL hK h1 h2
  have hx := hAt.1
  have hb := hAt.2.1
  have kk := k p l e R s m args below meth c A ad ty D H locs ls Q hAt hWd hL hK h1 h2
  change W p l e R s m args below meth c H locs ck cs Q (F0 m (pc + 1) ls (.int (Int32.ofInt (z)) :: st.map (mm_cv ad))) at kk
  show W p l e R s m args below meth c H locs ck cs Q (F0 m pc ls (st.map (mm_cv ad)))
  exact lv_iload_n hx hb hd rfl (mm_lv hL hl) kk
theorem mm_iload {j : Nat} {z : Int} (hd : decode mi.2.1 pc = .ok (.iload j, 2)) (hl : mm_lk L j = some (v_i (z))) (k : mm_G X d mc ms mi Po (pc + 2) L (v_i (z) :: st) La M ck cs) : mm_G X d mc ms mi Po pc L (st) La M ck cs := by
  intro p l e R s m args below meth c A ad ty D H locs ls Q hAt hWd hL hK h1 h2
  have hx := hAt.1
  have hb := hAt.2.1
  have kk := k p l e R s m args below meth c A ad ty D H locs ls Q hAt hWd hL hK h1 h2
  change W p l e R s m args below meth c H locs ck cs Q (F0 m (pc + 2) ls (.int (Int32.ofInt (z)) :: st.map (mm_cv ad))) at kk
  show W p l e R s m args below meth c H locs ck cs Q (F0 m pc ls (st.map (mm_cv ad)))
  exact lv_iload hx hb hd (mm_lv hL hl) kk
theorem mm_istore_n {j : Fin 4} {z : Int} {L' : List (Nat × mm_V)} (hd : decode mi.2.1 pc = .ok (.istore_n j, 1)) (hn : (j : Nat) < mi.2.2.1) (hl : mm_s1 L (j : Nat) (v_i (z)) = L') (k : mm_G X d mc ms mi Po (pc + 1) L' st La M ck cs) : mm_G X d mc ms mi Po pc L (v_i (z) :: st) La M ck cs := by
  intro p l e R s m args below meth c A ad ty D H locs ls Q hAt hWd hL hK h1 h2
  have hx := hAt.1
  have hb := hAt.2.1
  subst hl
  show W p l e R s m args below meth c H locs ck cs Q (F0 m pc ls (.int (Int32.ofInt (z)) :: st.map (mm_cv ad)))
  refine lv_istore_n hx hb hd rfl hL hn rfl (fun ls hl => ?_)
  exact k p l e R s m args below meth c A ad ty D H locs ls Q hAt hWd (mm_h1 hl) hK h1 h2
theorem mm_istore {j : Nat} {z : Int} {L' : List (Nat × mm_V)} (hd : decode mi.2.1 pc = .ok (.istore j, 2)) (hn : (j : Nat) < mi.2.2.1) (hl : mm_s1 L (j : Nat) (v_i (z)) = L') (k : mm_G X d mc ms mi Po (pc + 2) L' st La M ck cs) : mm_G X d mc ms mi Po pc L (v_i (z) :: st) La M ck cs := by
  intro p l e R s m args below meth c A ad ty D H locs ls Q hAt hWd hL hK h1 h2
  have hx := hAt.1
  have hb := hAt.2.1
  subst hl
  show W p l e R s m args below meth c H locs ck cs Q (F0 m pc ls (.int (Int32.ofInt (z)) :: st.map (mm_cv ad)))
  refine lv_istore hx hb hd hL hn rfl (fun ls hl => ?_)
  exact k p l e R s m args below meth c A ad ty D H locs ls Q hAt hWd (mm_h1 hl) hK h1 h2
theorem mm_lload_n {j : Fin 4} {z : Int} (hd : decode mi.2.1 pc = .ok (.lload_n j, 1)) (hl : mm_lk L (j : Nat) = some (v_l (z))) (k : mm_G X d mc ms mi Po (pc + 1) L (v_l (z) :: st) La M ck cs) : mm_G X d mc ms mi Po pc L (st) La M ck cs := by
  intro p l e R s m args below meth c A ad ty D H locs ls Q hAt hWd hL hK h1 h2
  have hx := hAt.1
  have hb := hAt.2.1
  have kk := k p l e R s m args below meth c A ad ty D H locs ls Q hAt hWd hL hK h1 h2
  change W p l e R s m args below meth c H locs ck cs Q (F0 m (pc + 1) ls (.long (Int64.ofInt (z)) :: st.map (mm_cv ad))) at kk
  show W p l e R s m args below meth c H locs ck cs Q (F0 m pc ls (st.map (mm_cv ad)))
  exact lv_lload_n hx hb hd rfl (mm_lv hL hl) kk
theorem mm_lload {j : Nat} {z : Int} (hd : decode mi.2.1 pc = .ok (.lload j, 2)) (hl : mm_lk L j = some (v_l (z))) (k : mm_G X d mc ms mi Po (pc + 2) L (v_l (z) :: st) La M ck cs) : mm_G X d mc ms mi Po pc L (st) La M ck cs := by
  intro p l e R s m args below meth c A ad ty D H locs ls Q hAt hWd hL hK h1 h2
  have hx := hAt.1
  have hb := hAt.2.1
  have kk := k p l e R s m args below meth c A ad ty D H locs ls Q hAt hWd hL hK h1 h2
  change W p l e R s m args below meth c H locs ck cs Q (F0 m (pc + 2) ls (.long (Int64.ofInt (z)) :: st.map (mm_cv ad))) at kk
  show W p l e R s m args below meth c H locs ck cs Q (F0 m pc ls (st.map (mm_cv ad)))
  exact lv_lload hx hb hd (mm_lv hL hl) kk
theorem mm_lstore_n {j : Fin 4} {z : Int} {L' : List (Nat × mm_V)} (hd : decode mi.2.1 pc = .ok (.lstore_n j, 1)) (hn : (j : Nat) + 1 < mi.2.2.1) (hl : mm_s2 L (j : Nat) (v_l (z)) = L') (k : mm_G X d mc ms mi Po (pc + 1) L' st La M ck cs) : mm_G X d mc ms mi Po pc L (v_l (z) :: st) La M ck cs := by
  intro p l e R s m args below meth c A ad ty D H locs ls Q hAt hWd hL hK h1 h2
  have hx := hAt.1
  have hb := hAt.2.1
  subst hl
  show W p l e R s m args below meth c H locs ck cs Q (F0 m pc ls (.long (Int64.ofInt (z)) :: st.map (mm_cv ad)))
  refine lv_lstore_n hx hb hd rfl hL hn rfl (fun ls hl => ?_)
  exact k p l e R s m args below meth c A ad ty D H locs ls Q hAt hWd (mm_h2 hl) hK h1 h2
theorem mm_lstore {j : Nat} {z : Int} {L' : List (Nat × mm_V)} (hd : decode mi.2.1 pc = .ok (.lstore j, 2)) (hn : (j : Nat) + 1 < mi.2.2.1) (hl : mm_s2 L (j : Nat) (v_l (z)) = L') (k : mm_G X d mc ms mi Po (pc + 2) L' st La M ck cs) : mm_G X d mc ms mi Po pc L (v_l (z) :: st) La M ck cs := by
  intro p l e R s m args below meth c A ad ty D H locs ls Q hAt hWd hL hK h1 h2
  have hx := hAt.1
  have hb := hAt.2.1
  subst hl
  show W p l e R s m args below meth c H locs ck cs Q (F0 m pc ls (.long (Int64.ofInt (z)) :: st.map (mm_cv ad)))
  refine lv_lstore hx hb hd hL hn rfl (fun ls hl => ?_)
  exact k p l e R s m args below meth c A ad ty D H locs ls Q hAt hWd (mm_h2 hl) hK h1 h2
theorem mm_aload_n {j : Fin 4} {z : Nat} (hd : decode mi.2.1 pc = .ok (.aload_n j, 1)) (hl : mm_lk L (j : Nat) = some (v_r (z))) (k : mm_G X d mc ms mi Po (pc + 1) L (v_r (z) :: st) La M ck cs) : mm_G X d mc ms mi Po pc L (st) La M ck cs := by
  intro p l e R s m args below meth c A ad ty D H locs ls Q hAt hWd hL hK h1 h2
  have hx := hAt.1
  have hb := hAt.2.1
  have kk := k p l e R s m args below meth c A ad ty D H locs ls Q hAt hWd hL hK h1 h2
  change W p l e R s m args below meth c H locs ck cs Q (F0 m (pc + 1) ls (.ref (ad (z)) :: st.map (mm_cv ad))) at kk
  show W p l e R s m args below meth c H locs ck cs Q (F0 m pc ls (st.map (mm_cv ad)))
  exact lv_aload_n hx hb hd rfl (mm_lv hL hl) kk
theorem mm_aload {j : Nat} {z : Nat} (hd : decode mi.2.1 pc = .ok (.aload j, 2)) (hl : mm_lk L j = some (v_r (z))) (k : mm_G X d mc ms mi Po (pc + 2) L (v_r (z) :: st) La M ck cs) : mm_G X d mc ms mi Po pc L (st) La M ck cs := by
  intro p l e R s m args below meth c A ad ty D H locs ls Q hAt hWd hL hK h1 h2
  have hx := hAt.1
  have hb := hAt.2.1
  have kk := k p l e R s m args below meth c A ad ty D H locs ls Q hAt hWd hL hK h1 h2
  change W p l e R s m args below meth c H locs ck cs Q (F0 m (pc + 2) ls (.ref (ad (z)) :: st.map (mm_cv ad))) at kk
  show W p l e R s m args below meth c H locs ck cs Q (F0 m pc ls (st.map (mm_cv ad)))
  exact lv_aload hx hb hd (mm_lv hL hl) kk
theorem mm_astore_n {j : Fin 4} {z : Nat} {L' : List (Nat × mm_V)} (hd : decode mi.2.1 pc = .ok (.astore_n j, 1)) (hn : (j : Nat) < mi.2.2.1) (hl : mm_s1 L (j : Nat) (v_r (z)) = L') (k : mm_G X d mc ms mi Po (pc + 1) L' st La M ck cs) : mm_G X d mc ms mi Po pc L (v_r (z) :: st) La M ck cs := by
  intro p l e R s m args below meth c A ad ty D H locs ls Q hAt hWd hL hK h1 h2
  have hx := hAt.1
  have hb := hAt.2.1
  subst hl
  show W p l e R s m args below meth c H locs ck cs Q (F0 m pc ls (.ref (ad (z)) :: st.map (mm_cv ad)))
  refine lv_astore_n hx hb hd rfl hL hn rfl (fun ls hl => ?_)
  exact k p l e R s m args below meth c A ad ty D H locs ls Q hAt hWd (mm_h1 hl) hK h1 h2
theorem mm_astore {j : Nat} {z : Nat} {L' : List (Nat × mm_V)} (hd : decode mi.2.1 pc = .ok (.astore j, 2)) (hn : (j : Nat) < mi.2.2.1) (hl : mm_s1 L (j : Nat) (v_r (z)) = L') (k : mm_G X d mc ms mi Po (pc + 2) L' st La M ck cs) : mm_G X d mc ms mi Po pc L (v_r (z) :: st) La M ck cs := by
  intro p l e R s m args below meth c A ad ty D H locs ls Q hAt hWd hL hK h1 h2
  have hx := hAt.1
  have hb := hAt.2.1
  subst hl
  show W p l e R s m args below meth c H locs ck cs Q (F0 m pc ls (.ref (ad (z)) :: st.map (mm_cv ad)))
  refine lv_astore hx hb hd hL hn rfl (fun ls hl => ?_)
  exact k p l e R s m args below meth c A ad ty D H locs ls Q hAt hWd (mm_h1 hl) hK h1 h2
theorem mm_iinc {j : Nat} {n z : Int} {L' : List (Nat × mm_V)} (hd : decode mi.2.1 pc = .ok (.iinc j n, 3)) (hv : mm_lk L j = some (v_i z)) (hn : j < mi.2.2.1) (hl : mm_s1 L j (v_i (z + n)) = L') (k : mm_G X d mc ms mi Po (pc + 3) L' st La M ck cs) : mm_G X d mc ms mi Po pc L st La M ck cs := by
  intro p l e R s m args below meth c A ad ty D H locs ls Q hAt hWd hL hK h1 h2
  have hx := hAt.1
  have hb := hAt.2.1
  subst hl
  obtain ⟨q, hq⟩ := List.getElem?_of_mem (List.mem_map.mpr ⟨(j, v_i z), mm_lk_mem hv, rfl⟩ : (j, mm_cv ad (v_i z)) ∈ mm_lo ad L)
  refine lv_iinc (v := Int32.ofInt (z + n)) hx hb hd hL hq (by rw [Int32.ofInt_add]) hn rfl (fun ls hl => ?_)
  exact k p l e R s m args below meth c A ad ty D H locs ls Q hAt hWd (mm_h1 hl) hK h1 h2
theorem mm_iadd {x y : Int} (hd : decode mi.2.1 pc = .ok (.iadd, 1))  (k : mm_G X d mc ms mi Po (pc + 1) L (v_i (x + y) :: st) La M ck cs) : mm_G X d mc ms mi Po pc L (v_i (y) :: v_i (x) :: st) La M ck cs := by
  intro p l e R s m args below meth c A ad ty D H locs ls Q hAt hWd hL hK h1 h2
  have hx := hAt.1
  have hb := hAt.2.1
  have kk := k p l e R s m args below meth c A ad ty D H locs ls Q hAt hWd hL hK h1 h2
  change W p l e R s m args below meth c H locs ck cs Q (F0 m (pc + 1) ls (.int (Int32.ofInt (x + y)) :: st.map (mm_cv ad))) at kk
  show W p l e R s m args below meth c H locs ck cs Q (F0 m pc ls (.int (Int32.ofInt (y)) :: .int (Int32.ofInt (x)) :: st.map (mm_cv ad)))
  rw [Int32.ofInt_add] at kk
  exact lv_iadd hx hb hd kk
theorem mm_ladd {x y : Int} (hd : decode mi.2.1 pc = .ok (.ladd, 1))  (k : mm_G X d mc ms mi Po (pc + 1) L (v_l (x + y) :: st) La M ck cs) : mm_G X d mc ms mi Po pc L (v_l (y) :: v_l (x) :: st) La M ck cs := by
  intro p l e R s m args below meth c A ad ty D H locs ls Q hAt hWd hL hK h1 h2
  have hx := hAt.1
  have hb := hAt.2.1
  have kk := k p l e R s m args below meth c A ad ty D H locs ls Q hAt hWd hL hK h1 h2
  change W p l e R s m args below meth c H locs ck cs Q (F0 m (pc + 1) ls (.long (Int64.ofInt (x + y)) :: st.map (mm_cv ad))) at kk
  show W p l e R s m args below meth c H locs ck cs Q (F0 m pc ls (.long (Int64.ofInt (y)) :: .long (Int64.ofInt (x)) :: st.map (mm_cv ad)))
  rw [Int64.ofInt_add] at kk
  exact lv_ladd hx hb hd kk
theorem mm_isub {x y : Int} (hd : decode mi.2.1 pc = .ok (.isub, 1))  (k : mm_G X d mc ms mi Po (pc + 1) L (v_i (x - y) :: st) La M ck cs) : mm_G X d mc ms mi Po pc L (v_i (y) :: v_i (x) :: st) La M ck cs := by
  intro p l e R s m args below meth c A ad ty D H locs ls Q hAt hWd hL hK h1 h2
  have hx := hAt.1
  have hb := hAt.2.1
  have kk := k p l e R s m args below meth c A ad ty D H locs ls Q hAt hWd hL hK h1 h2
  change W p l e R s m args below meth c H locs ck cs Q (F0 m (pc + 1) ls (.int (Int32.ofInt (x - y)) :: st.map (mm_cv ad))) at kk
  show W p l e R s m args below meth c H locs ck cs Q (F0 m pc ls (.int (Int32.ofInt (y)) :: .int (Int32.ofInt (x)) :: st.map (mm_cv ad)))
  rw [Int32.ofInt_sub] at kk
  exact lv_isub hx hb hd kk
theorem mm_lsub {x y : Int} (hd : decode mi.2.1 pc = .ok (.lsub, 1))  (k : mm_G X d mc ms mi Po (pc + 1) L (v_l (x - y) :: st) La M ck cs) : mm_G X d mc ms mi Po pc L (v_l (y) :: v_l (x) :: st) La M ck cs := by
  intro p l e R s m args below meth c A ad ty D H locs ls Q hAt hWd hL hK h1 h2
  have hx := hAt.1
  have hb := hAt.2.1
  have kk := k p l e R s m args below meth c A ad ty D H locs ls Q hAt hWd hL hK h1 h2
  change W p l e R s m args below meth c H locs ck cs Q (F0 m (pc + 1) ls (.long (Int64.ofInt (x - y)) :: st.map (mm_cv ad))) at kk
  show W p l e R s m args below meth c H locs ck cs Q (F0 m pc ls (.long (Int64.ofInt (y)) :: .long (Int64.ofInt (x)) :: st.map (mm_cv ad)))
  rw [Int64.ofInt_sub] at kk
  exact lv_lsub hx hb hd kk
theorem mm_imul {x y : Int} (hd : decode mi.2.1 pc = .ok (.imul, 1))  (k : mm_G X d mc ms mi Po (pc + 1) L (v_i (x * y) :: st) La M ck cs) : mm_G X d mc ms mi Po pc L (v_i (y) :: v_i (x) :: st) La M ck cs := by
  intro p l e R s m args below meth c A ad ty D H locs ls Q hAt hWd hL hK h1 h2
  have hx := hAt.1
  have hb := hAt.2.1
  have kk := k p l e R s m args below meth c A ad ty D H locs ls Q hAt hWd hL hK h1 h2
  change W p l e R s m args below meth c H locs ck cs Q (F0 m (pc + 1) ls (.int (Int32.ofInt (x * y)) :: st.map (mm_cv ad))) at kk
  show W p l e R s m args below meth c H locs ck cs Q (F0 m pc ls (.int (Int32.ofInt (y)) :: .int (Int32.ofInt (x)) :: st.map (mm_cv ad)))
  rw [Int32.ofInt_mul] at kk
  exact lv_imul hx hb hd kk
theorem mm_lmul {x y : Int} (hd : decode mi.2.1 pc = .ok (.lmul, 1))  (k : mm_G X d mc ms mi Po (pc + 1) L (v_l (x * y) :: st) La M ck cs) : mm_G X d mc ms mi Po pc L (v_l (y) :: v_l (x) :: st) La M ck cs := by
  intro p l e R s m args below meth c A ad ty D H locs ls Q hAt hWd hL hK h1 h2
  have hx := hAt.1
  have hb := hAt.2.1
  have kk := k p l e R s m args below meth c A ad ty D H locs ls Q hAt hWd hL hK h1 h2
  change W p l e R s m args below meth c H locs ck cs Q (F0 m (pc + 1) ls (.long (Int64.ofInt (x * y)) :: st.map (mm_cv ad))) at kk
  show W p l e R s m args below meth c H locs ck cs Q (F0 m pc ls (.long (Int64.ofInt (y)) :: .long (Int64.ofInt (x)) :: st.map (mm_cv ad)))
  rw [Int64.ofInt_mul] at kk
  exact lv_lmul hx hb hd kk
theorem mm_ineg {x : Int} (hd : decode mi.2.1 pc = .ok (.ineg, 1))  (k : mm_G X d mc ms mi Po (pc + 1) L (v_i (-x) :: st) La M ck cs) : mm_G X d mc ms mi Po pc L (v_i (x) :: st) La M ck cs := by
  intro p l e R s m args below meth c A ad ty D H locs ls Q hAt hWd hL hK h1 h2
  have hx := hAt.1
  have hb := hAt.2.1
  have kk := k p l e R s m args below meth c A ad ty D H locs ls Q hAt hWd hL hK h1 h2
  change W p l e R s m args below meth c H locs ck cs Q (F0 m (pc + 1) ls (.int (Int32.ofInt (-x)) :: st.map (mm_cv ad))) at kk
  show W p l e R s m args below meth c H locs ck cs Q (F0 m pc ls (.int (Int32.ofInt (x)) :: st.map (mm_cv ad)))
  rw [Int32.ofInt_neg] at kk
  exact lv_ineg hx hb hd kk
theorem mm_lneg {x : Int} (hd : decode mi.2.1 pc = .ok (.lneg, 1))  (k : mm_G X d mc ms mi Po (pc + 1) L (v_l (-x) :: st) La M ck cs) : mm_G X d mc ms mi Po pc L (v_l (x) :: st) La M ck cs := by
  intro p l e R s m args below meth c A ad ty D H locs ls Q hAt hWd hL hK h1 h2
  have hx := hAt.1
  have hb := hAt.2.1
  have kk := k p l e R s m args below meth c A ad ty D H locs ls Q hAt hWd hL hK h1 h2
  change W p l e R s m args below meth c H locs ck cs Q (F0 m (pc + 1) ls (.long (Int64.ofInt (-x)) :: st.map (mm_cv ad))) at kk
  show W p l e R s m args below meth c H locs ck cs Q (F0 m pc ls (.long (Int64.ofInt (x)) :: st.map (mm_cv ad)))
  rw [Int64.ofInt_neg] at kk
  exact lv_lneg hx hb hd kk
theorem mm_iand {x y : Int} (hd : decode mi.2.1 pc = .ok (.iand, 1))  (k : mm_G X d mc ms mi Po (pc + 1) L (v_i (fx_and x y) :: st) La M ck cs) : mm_G X d mc ms mi Po pc L (v_i (y) :: v_i (x) :: st) La M ck cs := by
  intro p l e R s m args below meth c A ad ty D H locs ls Q hAt hWd hL hK h1 h2
  have hx := hAt.1
  have hb := hAt.2.1
  have kk := k p l e R s m args below meth c A ad ty D H locs ls Q hAt hWd hL hK h1 h2
  change W p l e R s m args below meth c H locs ck cs Q (F0 m (pc + 1) ls (.int (Int32.ofInt (fx_and x y)) :: st.map (mm_cv ad))) at kk
  show W p l e R s m args below meth c H locs ck cs Q (F0 m pc ls (.int (Int32.ofInt (y)) :: .int (Int32.ofInt (x)) :: st.map (mm_cv ad)))
  rw [fx_and, Int32.ofInt_toInt] at kk
  exact lv_iand hx hb hd kk
theorem mm_ior {x y : Int} (hd : decode mi.2.1 pc = .ok (.ior, 1))  (k : mm_G X d mc ms mi Po (pc + 1) L (v_i (fx_or x y) :: st) La M ck cs) : mm_G X d mc ms mi Po pc L (v_i (y) :: v_i (x) :: st) La M ck cs := by
  intro p l e R s m args below meth c A ad ty D H locs ls Q hAt hWd hL hK h1 h2
  have hx := hAt.1
  have hb := hAt.2.1
  have kk := k p l e R s m args below meth c A ad ty D H locs ls Q hAt hWd hL hK h1 h2
  change W p l e R s m args below meth c H locs ck cs Q (F0 m (pc + 1) ls (.int (Int32.ofInt (fx_or x y)) :: st.map (mm_cv ad))) at kk
  show W p l e R s m args below meth c H locs ck cs Q (F0 m pc ls (.int (Int32.ofInt (y)) :: .int (Int32.ofInt (x)) :: st.map (mm_cv ad)))
  rw [fx_or, Int32.ofInt_toInt] at kk
  exact lv_ior hx hb hd kk
theorem mm_ixor {x y : Int} (hd : decode mi.2.1 pc = .ok (.ixor, 1))  (k : mm_G X d mc ms mi Po (pc + 1) L (v_i (fx_xor x y) :: st) La M ck cs) : mm_G X d mc ms mi Po pc L (v_i (y) :: v_i (x) :: st) La M ck cs := by
  intro p l e R s m args below meth c A ad ty D H locs ls Q hAt hWd hL hK h1 h2
  have hx := hAt.1
  have hb := hAt.2.1
  have kk := k p l e R s m args below meth c A ad ty D H locs ls Q hAt hWd hL hK h1 h2
  change W p l e R s m args below meth c H locs ck cs Q (F0 m (pc + 1) ls (.int (Int32.ofInt (fx_xor x y)) :: st.map (mm_cv ad))) at kk
  show W p l e R s m args below meth c H locs ck cs Q (F0 m pc ls (.int (Int32.ofInt (y)) :: .int (Int32.ofInt (x)) :: st.map (mm_cv ad)))
  rw [fx_xor, Int32.ofInt_toInt] at kk
  exact lv_ixor hx hb hd kk
theorem mm_ishl {x y : Int} (hd : decode mi.2.1 pc = .ok (.ishl, 1))  (k : mm_G X d mc ms mi Po (pc + 1) L (v_i (fx_shl x y) :: st) La M ck cs) : mm_G X d mc ms mi Po pc L (v_i (y) :: v_i (x) :: st) La M ck cs := by
  intro p l e R s m args below meth c A ad ty D H locs ls Q hAt hWd hL hK h1 h2
  have hx := hAt.1
  have hb := hAt.2.1
  have kk := k p l e R s m args below meth c A ad ty D H locs ls Q hAt hWd hL hK h1 h2
  change W p l e R s m args below meth c H locs ck cs Q (F0 m (pc + 1) ls (.int (Int32.ofInt (fx_shl x y)) :: st.map (mm_cv ad))) at kk
  show W p l e R s m args below meth c H locs ck cs Q (F0 m pc ls (.int (Int32.ofInt (y)) :: .int (Int32.ofInt (x)) :: st.map (mm_cv ad)))
  rw [fx_shl, Int32.ofInt_toInt] at kk
  exact lv_ishl hx hb hd kk
theorem mm_lshl {x y : Int} (hd : decode mi.2.1 pc = .ok (.lshl, 1))  (k : mm_G X d mc ms mi Po (pc + 1) L (v_l (fx_lshl x y) :: st) La M ck cs) : mm_G X d mc ms mi Po pc L (v_i (y) :: v_l (x) :: st) La M ck cs := by
  intro p l e R s m args below meth c A ad ty D H locs ls Q hAt hWd hL hK h1 h2
  have hx := hAt.1
  have hb := hAt.2.1
  have kk := k p l e R s m args below meth c A ad ty D H locs ls Q hAt hWd hL hK h1 h2
  change W p l e R s m args below meth c H locs ck cs Q (F0 m (pc + 1) ls (.long (Int64.ofInt (fx_lshl x y)) :: st.map (mm_cv ad))) at kk
  show W p l e R s m args below meth c H locs ck cs Q (F0 m pc ls (.int (Int32.ofInt (y)) :: .long (Int64.ofInt (x)) :: st.map (mm_cv ad)))
  rw [fx_lshl, Int64.ofInt_toInt] at kk
  exact lv_lshl hx hb hd rfl kk
theorem mm_ishr {x y : Int} (hd : decode mi.2.1 pc = .ok (.ishr, 1))  (k : mm_G X d mc ms mi Po (pc + 1) L (v_i (fx_shr x y) :: st) La M ck cs) : mm_G X d mc ms mi Po pc L (v_i (y) :: v_i (x) :: st) La M ck cs := by
  intro p l e R s m args below meth c A ad ty D H locs ls Q hAt hWd hL hK h1 h2
  have hx := hAt.1
  have hb := hAt.2.1
  have kk := k p l e R s m args below meth c A ad ty D H locs ls Q hAt hWd hL hK h1 h2
  change W p l e R s m args below meth c H locs ck cs Q (F0 m (pc + 1) ls (.int (Int32.ofInt (fx_shr x y)) :: st.map (mm_cv ad))) at kk
  show W p l e R s m args below meth c H locs ck cs Q (F0 m pc ls (.int (Int32.ofInt (y)) :: .int (Int32.ofInt (x)) :: st.map (mm_cv ad)))
  rw [fx_shr, Int32.ofInt_toInt] at kk
  exact lv_ishr hx hb hd kk
theorem mm_lshr {x y : Int} (hd : decode mi.2.1 pc = .ok (.lshr, 1))  (k : mm_G X d mc ms mi Po (pc + 1) L (v_l (fx_lshr x y) :: st) La M ck cs) : mm_G X d mc ms mi Po pc L (v_i (y) :: v_l (x) :: st) La M ck cs := by
  intro p l e R s m args below meth c A ad ty D H locs ls Q hAt hWd hL hK h1 h2
  have hx := hAt.1
  have hb := hAt.2.1
  have kk := k p l e R s m args below meth c A ad ty D H locs ls Q hAt hWd hL hK h1 h2
  change W p l e R s m args below meth c H locs ck cs Q (F0 m (pc + 1) ls (.long (Int64.ofInt (fx_lshr x y)) :: st.map (mm_cv ad))) at kk
  show W p l e R s m args below meth c H locs ck cs Q (F0 m pc ls (.int (Int32.ofInt (y)) :: .long (Int64.ofInt (x)) :: st.map (mm_cv ad)))
  rw [fx_lshr, Int64.ofInt_toInt] at kk
  exact lv_lshr hx hb hd rfl kk
theorem mm_iushr {x y : Int} (hd : decode mi.2.1 pc = .ok (.iushr, 1))  (k : mm_G X d mc ms mi Po (pc + 1) L (v_i (fx_ushr x y) :: st) La M ck cs) : mm_G X d mc ms mi Po pc L (v_i (y) :: v_i (x) :: st) La M ck cs := by
  intro p l e R s m args below meth c A ad ty D H locs ls Q hAt hWd hL hK h1 h2
  have hx := hAt.1
  have hb := hAt.2.1
  have kk := k p l e R s m args below meth c A ad ty D H locs ls Q hAt hWd hL hK h1 h2
  change W p l e R s m args below meth c H locs ck cs Q (F0 m (pc + 1) ls (.int (Int32.ofInt (fx_ushr x y)) :: st.map (mm_cv ad))) at kk
  show W p l e R s m args below meth c H locs ck cs Q (F0 m pc ls (.int (Int32.ofInt (y)) :: .int (Int32.ofInt (x)) :: st.map (mm_cv ad)))
  rw [fx_ushr, Int32.ofInt_toInt] at kk
  exact lv_iushr hx hb hd rfl kk
theorem mm_lushr {x y : Int} (hd : decode mi.2.1 pc = .ok (.lushr, 1))  (k : mm_G X d mc ms mi Po (pc + 1) L (v_l (fx_lushr x y) :: st) La M ck cs) : mm_G X d mc ms mi Po pc L (v_i (y) :: v_l (x) :: st) La M ck cs := by
  intro p l e R s m args below meth c A ad ty D H locs ls Q hAt hWd hL hK h1 h2
  have hx := hAt.1
  have hb := hAt.2.1
  have kk := k p l e R s m args below meth c A ad ty D H locs ls Q hAt hWd hL hK h1 h2
  change W p l e R s m args below meth c H locs ck cs Q (F0 m (pc + 1) ls (.long (Int64.ofInt (fx_lushr x y)) :: st.map (mm_cv ad))) at kk
  show W p l e R s m args below meth c H locs ck cs Q (F0 m pc ls (.int (Int32.ofInt (y)) :: .long (Int64.ofInt (x)) :: st.map (mm_cv ad)))
  rw [fx_lushr, Int64.ofInt_toInt] at kk
  exact lv_lushr hx hb hd rfl kk
theorem mm_land {x y : Int} (hd : decode mi.2.1 pc = .ok (.land, 1))  (k : mm_G X d mc ms mi Po (pc + 1) L (v_l (fx_land x y) :: st) La M ck cs) : mm_G X d mc ms mi Po pc L (v_l (y) :: v_l (x) :: st) La M ck cs := by
  intro p l e R s m args below meth c A ad ty D H locs ls Q hAt hWd hL hK h1 h2
  have hx := hAt.1
  have hb := hAt.2.1
  have kk := k p l e R s m args below meth c A ad ty D H locs ls Q hAt hWd hL hK h1 h2
  change W p l e R s m args below meth c H locs ck cs Q (F0 m (pc + 1) ls (.long (Int64.ofInt (fx_land x y)) :: st.map (mm_cv ad))) at kk
  show W p l e R s m args below meth c H locs ck cs Q (F0 m pc ls (.long (Int64.ofInt (y)) :: .long (Int64.ofInt (x)) :: st.map (mm_cv ad)))
  rw [fx_land, Int64.ofInt_toInt] at kk
  exact lv_land hx hb hd kk
theorem mm_lor {x y : Int} (hd : decode mi.2.1 pc = .ok (.lor, 1))  (k : mm_G X d mc ms mi Po (pc + 1) L (v_l (fx_lor x y) :: st) La M ck cs) : mm_G X d mc ms mi Po pc L (v_l (y) :: v_l (x) :: st) La M ck cs := by
  intro p l e R s m args below meth c A ad ty D H locs ls Q hAt hWd hL hK h1 h2
  have hx := hAt.1
  have hb := hAt.2.1
  have kk := k p l e R s m args below meth c A ad ty D H locs ls Q hAt hWd hL hK h1 h2
  change W p l e R s m args below meth c H locs ck cs Q (F0 m (pc + 1) ls (.long (Int64.ofInt (fx_lor x y)) :: st.map (mm_cv ad))) at kk
  show W p l e R s m args below meth c H locs ck cs Q (F0 m pc ls (.long (Int64.ofInt (y)) :: .long (Int64.ofInt (x)) :: st.map (mm_cv ad)))
  rw [fx_lor, Int64.ofInt_toInt] at kk
  exact lv_lor hx hb hd kk
theorem mm_idiv {x y : Int} (hd : decode mi.2.1 pc = .ok (.idiv, 1)) (ha : mm_r32 x) (hb0 : mm_r32 y) (hne : y ≠ 0) (k : mm_G X d mc ms mi Po (pc + 1) L (v_i (x.tdiv y) :: st) La M ck cs) : mm_G X d mc ms mi Po pc L (v_i (y) :: v_i (x) :: st) La M ck cs := by
  intro p l e R s m args below meth c A ad ty D H locs ls Q hAt hWd hL hK h1 h2
  have hx := hAt.1
  have hb := hAt.2.1
  have kk := k p l e R s m args below meth c A ad ty D H locs ls Q hAt hWd hL hK h1 h2
  change W p l e R s m args below meth c H locs ck cs Q (F0 m (pc + 1) ls (.int (Int32.ofInt (x.tdiv y)) :: st.map (mm_cv ad))) at kk
  show W p l e R s m args below meth c H locs ck cs Q (F0 m pc ls (.int (Int32.ofInt (y)) :: .int (Int32.ofInt (x)) :: st.map (mm_cv ad)))
  rw [Int32.ofInt_tdiv (show (-2147483648 : Int) ≤ x from ha.1) (show x ≤ 2147483647 by omega) (show (-2147483648 : Int) ≤ y from hb0.1) (show y ≤ 2147483647 by omega)] at kk
  exact lv_idiv hx hb hd (fun h => hne ((mm_eq32 hb0 (by omega)).mp h)) kk
theorem mm_irem {x y : Int} (hd : decode mi.2.1 pc = .ok (.irem, 1)) (ha : mm_r32 x) (hb0 : mm_r32 y) (hne : y ≠ 0) (k : mm_G X d mc ms mi Po (pc + 1) L (v_i (x.tmod y) :: st) La M ck cs) : mm_G X d mc ms mi Po pc L (v_i (y) :: v_i (x) :: st) La M ck cs := by
  intro p l e R s m args below meth c A ad ty D H locs ls Q hAt hWd hL hK h1 h2
  have hx := hAt.1
  have hb := hAt.2.1
  have kk := k p l e R s m args below meth c A ad ty D H locs ls Q hAt hWd hL hK h1 h2
  change W p l e R s m args below meth c H locs ck cs Q (F0 m (pc + 1) ls (.int (Int32.ofInt (x.tmod y)) :: st.map (mm_cv ad))) at kk
  show W p l e R s m args below meth c H locs ck cs Q (F0 m pc ls (.int (Int32.ofInt (y)) :: .int (Int32.ofInt (x)) :: st.map (mm_cv ad)))
  have e : Int32.ofInt (x.tmod y) = Int32.ofInt x - Int32.ofInt x / Int32.ofInt y * Int32.ofInt y := by
    rw [← Int32.ofInt_tdiv (show (-2147483648 : Int) ≤ x from ha.1) (show x ≤ 2147483647 by omega) (show (-2147483648 : Int) ≤ y from hb0.1) (show y ≤ 2147483647 by omega), ← Int32.ofInt_mul, ← Int32.ofInt_sub]
    congr 1
    have := Int.tmod_add_mul_tdiv x y
    rw [Int.mul_comm] at this
    omega
  rw [e] at kk
  exact lv_irem hx hb hd (fun h => hne ((mm_eq32 hb0 (by omega)).mp h)) kk
theorem mm_ldiv {x y : Int} (hd : decode mi.2.1 pc = .ok (.ldiv, 1)) (ha : mm_r64 x) (hb0 : mm_r64 y) (hne : y ≠ 0) (k : mm_G X d mc ms mi Po (pc + 1) L (v_l (x.tdiv y) :: st) La M ck cs) : mm_G X d mc ms mi Po pc L (v_l (y) :: v_l (x) :: st) La M ck cs := by
  intro p l e R s m args below meth c A ad ty D H locs ls Q hAt hWd hL hK h1 h2
  have hx := hAt.1
  have hb := hAt.2.1
  have kk := k p l e R s m args below meth c A ad ty D H locs ls Q hAt hWd hL hK h1 h2
  change W p l e R s m args below meth c H locs ck cs Q (F0 m (pc + 1) ls (.long (Int64.ofInt (x.tdiv y)) :: st.map (mm_cv ad))) at kk
  show W p l e R s m args below meth c H locs ck cs Q (F0 m pc ls (.long (Int64.ofInt (y)) :: .long (Int64.ofInt (x)) :: st.map (mm_cv ad)))
  rw [Int64.ofInt_tdiv (show (-9223372036854775808 : Int) ≤ x from ha.1) (show x ≤ 9223372036854775807 by omega) (show (-9223372036854775808 : Int) ≤ y from hb0.1) (show y ≤ 9223372036854775807 by omega)] at kk
  exact lv_ldiv hx hb hd (fun h => hne ((mm_eq64 hb0 (by omega)).mp h)) kk
theorem mm_lrem {x y : Int} (hd : decode mi.2.1 pc = .ok (.lrem, 1)) (ha : mm_r64 x) (hb0 : mm_r64 y) (hne : y ≠ 0) (k : mm_G X d mc ms mi Po (pc + 1) L (v_l (x.tmod y) :: st) La M ck cs) : mm_G X d mc ms mi Po pc L (v_l (y) :: v_l (x) :: st) La M ck cs := by
  intro p l e R s m args below meth c A ad ty D H locs ls Q hAt hWd hL hK h1 h2
  have hx := hAt.1
  have hb := hAt.2.1
  have kk := k p l e R s m args below meth c A ad ty D H locs ls Q hAt hWd hL hK h1 h2
  change W p l e R s m args below meth c H locs ck cs Q (F0 m (pc + 1) ls (.long (Int64.ofInt (x.tmod y)) :: st.map (mm_cv ad))) at kk
  show W p l e R s m args below meth c H locs ck cs Q (F0 m pc ls (.long (Int64.ofInt (y)) :: .long (Int64.ofInt (x)) :: st.map (mm_cv ad)))
  have e : Int64.ofInt (x.tmod y) = Int64.ofInt x - Int64.ofInt x / Int64.ofInt y * Int64.ofInt y := by
    rw [← Int64.ofInt_tdiv (show (-9223372036854775808 : Int) ≤ x from ha.1) (show x ≤ 9223372036854775807 by omega) (show (-9223372036854775808 : Int) ≤ y from hb0.1) (show y ≤ 9223372036854775807 by omega), ← Int64.ofInt_mul, ← Int64.ofInt_sub]
    congr 1
    have := Int.tmod_add_mul_tdiv x y
    rw [Int.mul_comm] at this
    omega
  rw [e] at kk
  exact lv_lrem hx hb hd (fun h => hne ((mm_eq64 hb0 (by omega)).mp h)) kk
theorem mm_i2l {x : Int} (hd : decode mi.2.1 pc = .ok (.i2l, 1)) (ha : mm_r32 x) (k : mm_G X d mc ms mi Po (pc + 1) L (v_l (x) :: st) La M ck cs) : mm_G X d mc ms mi Po pc L (v_i (x) :: st) La M ck cs := by
  intro p l e R s m args below meth c A ad ty D H locs ls Q hAt hWd hL hK h1 h2
  have hx := hAt.1
  have hb := hAt.2.1
  have kk := k p l e R s m args below meth c A ad ty D H locs ls Q hAt hWd hL hK h1 h2
  change W p l e R s m args below meth c H locs ck cs Q (F0 m (pc + 1) ls (.long (Int64.ofInt (x)) :: st.map (mm_cv ad))) at kk
  show W p l e R s m args below meth c H locs ck cs Q (F0 m pc ls (.int (Int32.ofInt (x)) :: st.map (mm_cv ad)))
  exact lv_i2l hx hb hd (Int32.toInt64_ofInt (show (-2147483648 : Int) ≤ x from ha.1) (show x ≤ 2147483647 by omega)) kk
theorem mm_l2i {x : Int} (hd : decode mi.2.1 pc = .ok (.l2i, 1))  (k : mm_G X d mc ms mi Po (pc + 1) L (v_i (x) :: st) La M ck cs) : mm_G X d mc ms mi Po pc L (v_l (x) :: st) La M ck cs := by
  intro p l e R s m args below meth c A ad ty D H locs ls Q hAt hWd hL hK h1 h2
  have hx := hAt.1
  have hb := hAt.2.1
  have kk := k p l e R s m args below meth c A ad ty D H locs ls Q hAt hWd hL hK h1 h2
  change W p l e R s m args below meth c H locs ck cs Q (F0 m (pc + 1) ls (.int (Int32.ofInt (x)) :: st.map (mm_cv ad))) at kk
  show W p l e R s m args below meth c H locs ck cs Q (F0 m pc ls (.long (Int64.ofInt (x)) :: st.map (mm_cv ad)))
  exact lv_l2i hx hb hd Int64.toInt32_ofInt kk
theorem mm_i2c {x : Int} (hd : decode mi.2.1 pc = .ok (.i2c, 1)) (ha : ((Int32.ofInt x).toUInt32 % 65536).toInt32 = Int32.ofInt x) (k : mm_G X d mc ms mi Po (pc + 1) L (v_i (x) :: st) La M ck cs) : mm_G X d mc ms mi Po pc L (v_i (x) :: st) La M ck cs := by
  intro p l e R s m args below meth c A ad ty D H locs ls Q hAt hWd hL hK h1 h2
  have hx := hAt.1
  have hb := hAt.2.1
  have kk := k p l e R s m args below meth c A ad ty D H locs ls Q hAt hWd hL hK h1 h2
  change W p l e R s m args below meth c H locs ck cs Q (F0 m (pc + 1) ls (.int (Int32.ofInt (x)) :: st.map (mm_cv ad))) at kk
  show W p l e R s m args below meth c H locs ck cs Q (F0 m pc ls (.int (Int32.ofInt (x)) :: st.map (mm_cv ad)))
  exact lv_i2c hx hb hd ha kk
theorem mm_lcmp {x y : Int} (hd : decode mi.2.1 pc = .ok (.lcmp, 1)) (ha : mm_r64 x) (hb0 : mm_r64 y) (k : mm_G X d mc ms mi Po (pc + 1) L (v_i (mm_cmp x y) :: st) La M ck cs) : mm_G X d mc ms mi Po pc L (v_l (y) :: v_l (x) :: st) La M ck cs := by
  intro p l e R s m args below meth c A ad ty D H locs ls Q hAt hWd hL hK h1 h2
  have hx := hAt.1
  have hb := hAt.2.1
  have kk := k p l e R s m args below meth c A ad ty D H locs ls Q hAt hWd hL hK h1 h2
  change W p l e R s m args below meth c H locs ck cs Q (F0 m (pc + 1) ls (.int (Int32.ofInt (mm_cmp x y)) :: st.map (mm_cv ad))) at kk
  show W p l e R s m args below meth c H locs ck cs Q (F0 m pc ls (.long (Int64.ofInt (y)) :: .long (Int64.ofInt (x)) :: st.map (mm_cv ad)))
  rw [← mm_cmp64 ha hb0] at kk
  exact W.lcmp hx hb hd kk
theorem mm_dup_i {x : Int} (hd : decode mi.2.1 pc = .ok (.dup, 1))  (k : mm_G X d mc ms mi Po (pc + 1) L (v_i (x) :: v_i (x) :: st) La M ck cs) : mm_G X d mc ms mi Po pc L (v_i (x) :: st) La M ck cs := by
  intro p l e R s m args below meth c A ad ty D H locs ls Q hAt hWd hL hK h1 h2
  have hx := hAt.1
  have hb := hAt.2.1
  have kk := k p l e R s m args below meth c A ad ty D H locs ls Q hAt hWd hL hK h1 h2
  change W p l e R s m args below meth c H locs ck cs Q (F0 m (pc + 1) ls (.int (Int32.ofInt (x)) :: .int (Int32.ofInt (x)) :: st.map (mm_cv ad))) at kk
  show W p l e R s m args below meth c H locs ck cs Q (F0 m pc ls (.int (Int32.ofInt (x)) :: st.map (mm_cv ad)))
  exact lv_dup hx hb hd rfl kk
theorem mm_dup_r {x : Nat} (hd : decode mi.2.1 pc = .ok (.dup, 1))  (k : mm_G X d mc ms mi Po (pc + 1) L (v_r (x) :: v_r (x) :: st) La M ck cs) : mm_G X d mc ms mi Po pc L (v_r (x) :: st) La M ck cs := by
  intro p l e R s m args below meth c A ad ty D H locs ls Q hAt hWd hL hK h1 h2
  have hx := hAt.1
  have hb := hAt.2.1
  have kk := k p l e R s m args below meth c A ad ty D H locs ls Q hAt hWd hL hK h1 h2
  change W p l e R s m args below meth c H locs ck cs Q (F0 m (pc + 1) ls (.ref (ad (x)) :: .ref (ad (x)) :: st.map (mm_cv ad))) at kk
  show W p l e R s m args below meth c H locs ck cs Q (F0 m pc ls (.ref (ad (x)) :: st.map (mm_cv ad)))
  exact lv_dup hx hb hd rfl kk
theorem mm_dup2_ir {x : Int} {y : Nat} (hd : decode mi.2.1 pc = .ok (.dup2, 1))  (k : mm_G X d mc ms mi Po (pc + 1) L (v_i (x) :: v_r (y) :: v_i (x) :: v_r (y) :: st) La M ck cs) : mm_G X d mc ms mi Po pc L (v_i (x) :: v_r (y) :: st) La M ck cs := by
  intro p l e R s m args below meth c A ad ty D H locs ls Q hAt hWd hL hK h1 h2
  have hx := hAt.1
  have hb := hAt.2.1
  have kk := k p l e R s m args below meth c A ad ty D H locs ls Q hAt hWd hL hK h1 h2
  change W p l e R s m args below meth c H locs ck cs Q (F0 m (pc + 1) ls (.int (Int32.ofInt (x)) :: .ref (ad (y)) :: .int (Int32.ofInt (x)) :: .ref (ad (y)) :: st.map (mm_cv ad))) at kk
  show W p l e R s m args below meth c H locs ck cs Q (F0 m pc ls (.int (Int32.ofInt (x)) :: .ref (ad (y)) :: st.map (mm_cv ad)))
  exact lv_dup2_11 hx hb hd rfl rfl kk
theorem mm_pop_i {x : Int} (hd : decode mi.2.1 pc = .ok (.pop, 1))  (k : mm_G X d mc ms mi Po (pc + 1) L (st) La M ck cs) : mm_G X d mc ms mi Po pc L (v_i (x) :: st) La M ck cs := by
  intro p l e R s m args below meth c A ad ty D H locs ls Q hAt hWd hL hK h1 h2
  have hx := hAt.1
  have hb := hAt.2.1
  have kk := k p l e R s m args below meth c A ad ty D H locs ls Q hAt hWd hL hK h1 h2
  change W p l e R s m args below meth c H locs ck cs Q (F0 m (pc + 1) ls (st.map (mm_cv ad))) at kk
  show W p l e R s m args below meth c H locs ck cs Q (F0 m pc ls (.int (Int32.ofInt (x)) :: st.map (mm_cv ad)))
  exact lv_pop hx hb hd rfl kk
theorem mm_goto {off : Int} (tgt : Nat) (hd : decode mi.2.1 pc = .ok (.goto off, 3)) (ht : (pc : Int) + off = (tgt : Int)) (k : mm_G X d mc ms mi Po tgt L st La M ck cs) : mm_G X d mc ms mi Po pc L st La M ck cs := by
  intro p l e R s m args below meth c A ad ty D H locs ls Q hAt hWd hL hK h1 h2
  have hx := hAt.1
  have hb := hAt.2.1
  have kk := k p l e R s m args below meth c A ad ty D H locs ls Q hAt hWd hL hK h1 h2
  exact lv_goto hx hb hd ht kk
theorem mm_icmp_eq {x y off : Int} (tgt : Nat) (hd : decode mi.2.1 pc = .ok (.if_icmp .eq off, 3)) (ht : (pc : Int) + off = (tgt : Int)) (ha : mm_r32 x) (hb0 : mm_r32 y) (kt : x = y → mm_G X d mc ms mi Po tgt L st La M ck cs) (kf : ¬ x = y → mm_G X d mc ms mi Po (pc + 3) L st La M ck cs) : mm_G X d mc ms mi Po pc L (v_i y :: v_i x :: st) La M ck cs := by
  intro p l e R s m args below meth c A ad ty D H locs ls Q hAt hWd hL hK h1 h2
  have hx := hAt.1
  have hb := hAt.2.1
  show W p l e R s m args below meth c H locs ck cs Q (F0 m pc ls (.int (Int32.ofInt y) :: .int (Int32.ofInt x) :: st.map (mm_cv ad)))
  exact lv_icmp_eq hx hb hd ht (fun h => kt ((mm_eq32 ha hb0).mp h) p l e R s m args below meth c A ad ty D H locs ls Q hAt hWd hL hK h1 h2) (fun h => kf (fun h3 => h ((mm_eq32 ha hb0).mpr h3)) p l e R s m args below meth c A ad ty D H locs ls Q hAt hWd hL hK h1 h2)
theorem mm_if_eq {x off : Int} (tgt : Nat) (hd : decode mi.2.1 pc = .ok (.ifCond .eq off, 3)) (ht : (pc : Int) + off = (tgt : Int)) (ha : mm_r32 x) (kt : x = 0 → mm_G X d mc ms mi Po tgt L st La M ck cs) (kf : ¬ x = 0 → mm_G X d mc ms mi Po (pc + 3) L st La M ck cs) : mm_G X d mc ms mi Po pc L (v_i x :: st) La M ck cs := by
  intro p l e R s m args below meth c A ad ty D H locs ls Q hAt hWd hL hK h1 h2
  have hx := hAt.1
  have hb := hAt.2.1
  have hb0 : mm_r32 0 := by decide
  show W p l e R s m args below meth c H locs ck cs Q (F0 m pc ls (.int (Int32.ofInt x) :: st.map (mm_cv ad)))
  exact lv_if_eq hx hb hd ht (fun h => kt ((mm_eq32 ha hb0).mp h) p l e R s m args below meth c A ad ty D H locs ls Q hAt hWd hL hK h1 h2) (fun h => kf (fun h3 => h ((mm_eq32 ha hb0).mpr h3)) p l e R s m args below meth c A ad ty D H locs ls Q hAt hWd hL hK h1 h2)
theorem mm_icmp_ne {x y off : Int} (tgt : Nat) (hd : decode mi.2.1 pc = .ok (.if_icmp .ne off, 3)) (ht : (pc : Int) + off = (tgt : Int)) (ha : mm_r32 x) (hb0 : mm_r32 y) (kt : ¬ x = y → mm_G X d mc ms mi Po tgt L st La M ck cs) (kf : x = y → mm_G X d mc ms mi Po (pc + 3) L st La M ck cs) : mm_G X d mc ms mi Po pc L (v_i y :: v_i x :: st) La M ck cs := by
  intro p l e R s m args below meth c A ad ty D H locs ls Q hAt hWd hL hK h1 h2
  have hx := hAt.1
  have hb := hAt.2.1
  show W p l e R s m args below meth c H locs ck cs Q (F0 m pc ls (.int (Int32.ofInt y) :: .int (Int32.ofInt x) :: st.map (mm_cv ad)))
  exact lv_icmp_ne hx hb hd ht (fun h => kt (fun h3 => h ((mm_eq32 ha hb0).mpr h3)) p l e R s m args below meth c A ad ty D H locs ls Q hAt hWd hL hK h1 h2) (fun h => kf ((mm_eq32 ha hb0).mp h) p l e R s m args below meth c A ad ty D H locs ls Q hAt hWd hL hK h1 h2)
theorem mm_if_ne {x off : Int} (tgt : Nat) (hd : decode mi.2.1 pc = .ok (.ifCond .ne off, 3)) (ht : (pc : Int) + off = (tgt : Int)) (ha : mm_r32 x) (kt : ¬ x = 0 → mm_G X d mc ms mi Po tgt L st La M ck cs) (kf : x = 0 → mm_G X d mc ms mi Po (pc + 3) L st La M ck cs) : mm_G X d mc ms mi Po pc L (v_i x :: st) La M ck cs := by
  intro p l e R s m args below meth c A ad ty D H locs ls Q hAt hWd hL hK h1 h2
  have hx := hAt.1
  have hb := hAt.2.1
  have hb0 : mm_r32 0 := by decide
  show W p l e R s m args below meth c H locs ck cs Q (F0 m pc ls (.int (Int32.ofInt x) :: st.map (mm_cv ad)))
  exact lv_if_ne hx hb hd ht (fun h => kt (fun h3 => h ((mm_eq32 ha hb0).mpr h3)) p l e R s m args below meth c A ad ty D H locs ls Q hAt hWd hL hK h1 h2) (fun h => kf ((mm_eq32 ha hb0).mp h) p l e R s m args below meth c A ad ty D H locs ls Q hAt hWd hL hK h1 h2)
theorem mm_icmp_lt {x y off : Int} (tgt : Nat) (hd : decode mi.2.1 pc = .ok (.if_icmp .lt off, 3)) (ht : (pc : Int) + off = (tgt : Int)) (ha : mm_r32 x) (hb0 : mm_r32 y) (kt : x < y → mm_G X d mc ms mi Po tgt L st La M ck cs) (kf : y ≤ x → mm_G X d mc ms mi Po (pc + 3) L st La M ck cs) : mm_G X d mc ms mi Po pc L (v_i y :: v_i x :: st) La M ck cs := by
  intro p l e R s m args below meth c A ad ty D H locs ls Q hAt hWd hL hK h1 h2
  have hx := hAt.1
  have hb := hAt.2.1
  show W p l e R s m args below meth c H locs ck cs Q (F0 m pc ls (.int (Int32.ofInt y) :: .int (Int32.ofInt x) :: st.map (mm_cv ad)))
  exact lv_icmp_lt hx hb hd ht (fun h => kt ((mm_lt32 ha hb0).mp h) p l e R s m args below meth c A ad ty D H locs ls Q hAt hWd hL hK h1 h2) (fun h => kf (Int.not_lt.mp (fun h3 => h ((mm_lt32 ha hb0).mpr h3))) p l e R s m args below meth c A ad ty D H locs ls Q hAt hWd hL hK h1 h2)
theorem mm_if_lt {x off : Int} (tgt : Nat) (hd : decode mi.2.1 pc = .ok (.ifCond .lt off, 3)) (ht : (pc : Int) + off = (tgt : Int)) (ha : mm_r32 x) (kt : x < 0 → mm_G X d mc ms mi Po tgt L st La M ck cs) (kf : 0 ≤ x → mm_G X d mc ms mi Po (pc + 3) L st La M ck cs) : mm_G X d mc ms mi Po pc L (v_i x :: st) La M ck cs := by
  intro p l e R s m args below meth c A ad ty D H locs ls Q hAt hWd hL hK h1 h2
  have hx := hAt.1
  have hb := hAt.2.1
  have hb0 : mm_r32 0 := by decide
  show W p l e R s m args below meth c H locs ck cs Q (F0 m pc ls (.int (Int32.ofInt x) :: st.map (mm_cv ad)))
  exact lv_if_lt hx hb hd ht (fun h => kt ((mm_lt32 ha hb0).mp h) p l e R s m args below meth c A ad ty D H locs ls Q hAt hWd hL hK h1 h2) (fun h => kf (Int.not_lt.mp (fun h3 => h ((mm_lt32 ha hb0).mpr h3))) p l e R s m args below meth c A ad ty D H locs ls Q hAt hWd hL hK h1 h2)
theorem mm_icmp_ge {x y off : Int} (tgt : Nat) (hd : decode mi.2.1 pc = .ok (.if_icmp .ge off, 3)) (ht : (pc : Int) + off = (tgt : Int)) (ha : mm_r32 x) (hb0 : mm_r32 y) (kt : y ≤ x → mm_G X d mc ms mi Po tgt L st La M ck cs) (kf : x < y → mm_G X d mc ms mi Po (pc + 3) L st La M ck cs) : mm_G X d mc ms mi Po pc L (v_i y :: v_i x :: st) La M ck cs := by
  intro p l e R s m args below meth c A ad ty D H locs ls Q hAt hWd hL hK h1 h2
  have hx := hAt.1
  have hb := hAt.2.1
  show W p l e R s m args below meth c H locs ck cs Q (F0 m pc ls (.int (Int32.ofInt y) :: .int (Int32.ofInt x) :: st.map (mm_cv ad)))
  exact lv_icmp_ge hx hb hd ht (fun h => kt ((mm_le32 hb0 ha).mp h) p l e R s m args below meth c A ad ty D H locs ls Q hAt hWd hL hK h1 h2) (fun h => kf (Int.not_le.mp (fun h3 => h ((mm_le32 hb0 ha).mpr h3))) p l e R s m args below meth c A ad ty D H locs ls Q hAt hWd hL hK h1 h2)
theorem mm_if_ge {x off : Int} (tgt : Nat) (hd : decode mi.2.1 pc = .ok (.ifCond .ge off, 3)) (ht : (pc : Int) + off = (tgt : Int)) (ha : mm_r32 x) (kt : 0 ≤ x → mm_G X d mc ms mi Po tgt L st La M ck cs) (kf : x < 0 → mm_G X d mc ms mi Po (pc + 3) L st La M ck cs) : mm_G X d mc ms mi Po pc L (v_i x :: st) La M ck cs := by
  intro p l e R s m args below meth c A ad ty D H locs ls Q hAt hWd hL hK h1 h2
  have hx := hAt.1
  have hb := hAt.2.1
  have hb0 : mm_r32 0 := by decide
  show W p l e R s m args below meth c H locs ck cs Q (F0 m pc ls (.int (Int32.ofInt x) :: st.map (mm_cv ad)))
  exact lv_if_ge hx hb hd ht (fun h => kt ((mm_le32 hb0 ha).mp h) p l e R s m args below meth c A ad ty D H locs ls Q hAt hWd hL hK h1 h2) (fun h => kf (Int.not_le.mp (fun h3 => h ((mm_le32 hb0 ha).mpr h3))) p l e R s m args below meth c A ad ty D H locs ls Q hAt hWd hL hK h1 h2)
theorem mm_icmp_gt {x y off : Int} (tgt : Nat) (hd : decode mi.2.1 pc = .ok (.if_icmp .gt off, 3)) (ht : (pc : Int) + off = (tgt : Int)) (ha : mm_r32 x) (hb0 : mm_r32 y) (kt : y < x → mm_G X d mc ms mi Po tgt L st La M ck cs) (kf : x ≤ y → mm_G X d mc ms mi Po (pc + 3) L st La M ck cs) : mm_G X d mc ms mi Po pc L (v_i y :: v_i x :: st) La M ck cs := by
  intro p l e R s m args below meth c A ad ty D H locs ls Q hAt hWd hL hK h1 h2
  have hx := hAt.1
  have hb := hAt.2.1
  show W p l e R s m args below meth c H locs ck cs Q (F0 m pc ls (.int (Int32.ofInt y) :: .int (Int32.ofInt x) :: st.map (mm_cv ad)))
  exact lv_icmp_gt hx hb hd ht (fun h => kt ((mm_lt32 hb0 ha).mp h) p l e R s m args below meth c A ad ty D H locs ls Q hAt hWd hL hK h1 h2) (fun h => kf (Int.not_lt.mp (fun h3 => h ((mm_lt32 hb0 ha).mpr h3))) p l e R s m args below meth c A ad ty D H locs ls Q hAt hWd hL hK h1 h2)
theorem mm_if_gt {x off : Int} (tgt : Nat) (hd : decode mi.2.1 pc = .ok (.ifCond .gt off, 3)) (ht : (pc : Int) + off = (tgt : Int)) (ha : mm_r32 x) (kt : 0 < x → mm_G X d mc ms mi Po tgt L st La M ck cs) (kf : x ≤ 0 → mm_G X d mc ms mi Po (pc + 3) L st La M ck cs) : mm_G X d mc ms mi Po pc L (v_i x :: st) La M ck cs := by
  intro p l e R s m args below meth c A ad ty D H locs ls Q hAt hWd hL hK h1 h2
  have hx := hAt.1
  have hb := hAt.2.1
  have hb0 : mm_r32 0 := by decide
  show W p l e R s m args below meth c H locs ck cs Q (F0 m pc ls (.int (Int32.ofInt x) :: st.map (mm_cv ad)))
  exact lv_if_gt hx hb hd ht (fun h => kt ((mm_lt32 hb0 ha).mp h) p l e R s m args below meth c A ad ty D H locs ls Q hAt hWd hL hK h1 h2) (fun h => kf (Int.not_lt.mp (fun h3 => h ((mm_lt32 hb0 ha).mpr h3))) p l e R s m args below meth c A ad ty D H locs ls Q hAt hWd hL hK h1 h2)
theorem mm_icmp_le {x y off : Int} (tgt : Nat) (hd : decode mi.2.1 pc = .ok (.if_icmp .le off, 3)) (ht : (pc : Int) + off = (tgt : Int)) (ha : mm_r32 x) (hb0 : mm_r32 y) (kt : x ≤ y → mm_G X d mc ms mi Po tgt L st La M ck cs) (kf : y < x → mm_G X d mc ms mi Po (pc + 3) L st La M ck cs) : mm_G X d mc ms mi Po pc L (v_i y :: v_i x :: st) La M ck cs := by
  intro p l e R s m args below meth c A ad ty D H locs ls Q hAt hWd hL hK h1 h2
  have hx := hAt.1
  have hb := hAt.2.1
  show W p l e R s m args below meth c H locs ck cs Q (F0 m pc ls (.int (Int32.ofInt y) :: .int (Int32.ofInt x) :: st.map (mm_cv ad)))
  exact lv_icmp_le hx hb hd ht (fun h => kt ((mm_le32 ha hb0).mp h) p l e R s m args below meth c A ad ty D H locs ls Q hAt hWd hL hK h1 h2) (fun h => kf (Int.not_le.mp (fun h3 => h ((mm_le32 ha hb0).mpr h3))) p l e R s m args below meth c A ad ty D H locs ls Q hAt hWd hL hK h1 h2)
theorem mm_if_le {x off : Int} (tgt : Nat) (hd : decode mi.2.1 pc = .ok (.ifCond .le off, 3)) (ht : (pc : Int) + off = (tgt : Int)) (ha : mm_r32 x) (kt : x ≤ 0 → mm_G X d mc ms mi Po tgt L st La M ck cs) (kf : 0 < x → mm_G X d mc ms mi Po (pc + 3) L st La M ck cs) : mm_G X d mc ms mi Po pc L (v_i x :: st) La M ck cs := by
  intro p l e R s m args below meth c A ad ty D H locs ls Q hAt hWd hL hK h1 h2
  have hx := hAt.1
  have hb := hAt.2.1
  have hb0 : mm_r32 0 := by decide
  show W p l e R s m args below meth c H locs ck cs Q (F0 m pc ls (.int (Int32.ofInt x) :: st.map (mm_cv ad)))
  exact lv_if_le hx hb hd ht (fun h => kt ((mm_le32 ha hb0).mp h) p l e R s m args below meth c A ad ty D H locs ls Q hAt hWd hL hK h1 h2) (fun h => kf (Int.not_le.mp (fun h3 => h ((mm_le32 ha hb0).mpr h3))) p l e R s m args below meth c A ad ty D H locs ls Q hAt hWd hL hK h1 h2)
theorem mm_tabOut {x dflt lo hi : Int} {offs : Array Int} {len : Nat} (tgt : Nat) (hd : decode mi.2.1 pc = .ok (.tableswitch dflt lo hi offs, len)) (ha : mm_r32 x) (h : x < lo ∨ hi < x) (ht : (pc : Int) + dflt = (tgt : Int)) (k : mm_G X d mc ms mi Po tgt L st La M ck cs) : mm_G X d mc ms mi Po pc L (v_i x :: st) La M ck cs := by
  intro p l e R s m args below meth c A ad ty D H locs ls Q hAt hWd hL hK h1 h2
  have hx := hAt.1
  have hb := hAt.2.1
  have kk := k p l e R s m args below meth c A ad ty D H locs ls Q hAt hWd hL hK h1 h2
  exact lv_tableOut hx hb hd (by rw [mm_o32 ha]; exact h) ht kk
theorem mm_tabIn {x dflt lo hi off : Int} {offs : Array Int} {len : Nat} (tgt : Nat) (hd : decode mi.2.1 pc = .ok (.tableswitch dflt lo hi offs, len)) (ha : mm_r32 x) (h3 : lo ≤ x) (h4 : x ≤ hi) (ho : offs[(x - lo).toNat]? = some off) (ht : (pc : Int) + off = (tgt : Int)) (k : mm_G X d mc ms mi Po tgt L st La M ck cs) : mm_G X d mc ms mi Po pc L (v_i x :: st) La M ck cs := by
  intro p l e R s m args below meth c A ad ty D H locs ls Q hAt hWd hL hK h1 h2
  have hx := hAt.1
  have hb := hAt.2.1
  have kk := k p l e R s m args below meth c A ad ty D H locs ls Q hAt hWd hL hK h1 h2
  exact lv_tableIn hx hb hd (by rw [mm_o32 ha]; omega) (by rw [mm_o32 ha]; omega) (by rw [mm_o32 ha]; exact ho) ht kk
theorem mm_ret (hd : decode mi.2.1 pc = .ok (.return_, 1)) (hr : mi.2.2.2 = none) (h : Po none La M) : mm_G X d mc ms mi Po pc L [] La M ck cs := by
  intro p l e R s m args below meth c A ad ty D H locs ls Q hAt hWd hL hK h1 h2
  have hx := hAt.1
  have hb := hAt.2.1
  exact hK none La M ad H locs ls pc ck cs h ⟨hd, hr⟩ (fun _ _ => rfl) hWd h1 h2
theorem mm_iret {z : Int} (hd : decode mi.2.1 pc = .ok (.ireturn, 1)) (hr : mi.2.2.2 = some .int) (h : Po (some (v_i z)) La M) : mm_G X d mc ms mi Po pc L [v_i z] La M ck cs := by
  intro p l e R s m args below meth c A ad ty D H locs ls Q hAt hWd hL hK h1 h2
  have hx := hAt.1
  have hb := hAt.2.1
  exact hK (some (v_i z)) La M ad H locs ls pc ck cs h ⟨hd, .int, hr, rfl⟩ (fun _ _ => rfl) hWd h1 h2
theorem mm_zret {z : Int} (t : FieldType) (hd : decode mi.2.1 pc = .ok (.ireturn, 1)) (hr : mi.2.2.2 = some t) (hn : narrow t (.int (Int32.ofInt z)) = .int (Int32.ofInt z)) (h : Po (some (v_i z)) La M) : mm_G X d mc ms mi Po pc L [v_i z] La M ck cs := by
  intro p l e R s m args below meth c A ad ty D H locs ls Q hAt hWd hL hK h1 h2
  have hx := hAt.1
  have hb := hAt.2.1
  exact hK (some (v_i z)) La M ad H locs ls pc ck cs h ⟨hd, t, hr, hn⟩ (fun _ _ => rfl) hWd h1 h2
theorem mm_lret {z : Int} (hd : decode mi.2.1 pc = .ok (.lreturn, 1)) (hr : mi.2.2.2 = some .long) (h : Po (some (v_l z)) La M) : mm_G X d mc ms mi Po pc L [v_l z] La M ck cs := by
  intro p l e R s m args below meth c A ad ty D H locs ls Q hAt hWd hL hK h1 h2
  have hx := hAt.1
  have hb := hAt.2.1
  exact hK (some (v_l z)) La M ad H locs ls pc ck cs h ⟨hd, hr⟩ (fun _ _ => rfl) hWd h1 h2
theorem mm_ldc {i : Nat} {z : Int} (hd : decode mi.2.1 pc = .ok (.ldc i, 2)) (w : Cond.constant mi.1.cls i (Int32.ofInt z) ∈ mm_tbl) (k : mm_G X d mc ms mi Po (pc + 2) L (v_i (z) :: st) La M ck cs) : mm_G X d mc ms mi Po pc L (st) La M ck cs := by
  intro p l e R s m args below meth c A ad ty D H locs ls Q hAt hWd hL hK h1 h2
  have hx := hAt.1
  have hb := hAt.2.1
  have kk := k p l e R s m args below meth c A ad ty D H locs ls Q hAt hWd hL hK h1 h2
  change W p l e R s m args below meth c H locs ck cs Q (F0 m (pc + 2) ls (.int (Int32.ofInt (z)) :: st.map (mm_cv ad))) at kk
  show W p l e R s m args below meth c H locs ck cs Q (F0 m pc ls (st.map (mm_cv ad)))
  exact lv_ldc hx hb hAt.2.2.2.1 (hAt.2.2.2.2.1 _ w) hd kk
theorem mm_ldcw {i : Nat} {z : Int} (hd : decode mi.2.1 pc = .ok (.ldc_w i, 3)) (w : Cond.constant mi.1.cls i (Int32.ofInt z) ∈ mm_tbl) (k : mm_G X d mc ms mi Po (pc + 3) L (v_i (z) :: st) La M ck cs) : mm_G X d mc ms mi Po pc L (st) La M ck cs := by
  intro p l e R s m args below meth c A ad ty D H locs ls Q hAt hWd hL hK h1 h2
  have hx := hAt.1
  have hb := hAt.2.1
  have kk := k p l e R s m args below meth c A ad ty D H locs ls Q hAt hWd hL hK h1 h2
  change W p l e R s m args below meth c H locs ck cs Q (F0 m (pc + 3) ls (.int (Int32.ofInt (z)) :: st.map (mm_cv ad))) at kk
  show W p l e R s m args below meth c H locs ck cs Q (F0 m pc ls (st.map (mm_cv ad)))
  exact lv_ldcw hx hb hAt.2.2.2.1 (hAt.2.2.2.2.1 _ w) hd kk
theorem mm_ldc2 {i : Nat} {z : Int} (hd : decode mi.2.1 pc = .ok (.ldc2_w i, 3)) (w : Cond.constantLong mi.1.cls i (Int64.ofInt z) ∈ mm_tbl) (k : mm_G X d mc ms mi Po (pc + 3) L (v_l (z) :: st) La M ck cs) : mm_G X d mc ms mi Po pc L (st) La M ck cs := by
  intro p l e R s m args below meth c A ad ty D H locs ls Q hAt hWd hL hK h1 h2
  have hx := hAt.1
  have hb := hAt.2.1
  have kk := k p l e R s m args below meth c A ad ty D H locs ls Q hAt hWd hL hK h1 h2
  change W p l e R s m args below meth c H locs ck cs Q (F0 m (pc + 3) ls (.long (Int64.ofInt (z)) :: st.map (mm_cv ad))) at kk
  show W p l e R s m args below meth c H locs ck cs Q (F0 m pc ls (st.map (mm_cv ad)))
  exact lv_ldc2 hx hb hAt.2.2.2.1 (hAt.2.2.2.2.1 _ w) hd kk
end MMR
