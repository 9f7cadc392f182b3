section MMT
variable {X : Nat × (Nat → Int)} {d mc ms : Nat} {mi : mm_Mi} {Po : mm_Po} {pc : Nat} {L : List (Nat × mm_V)} {st : List mm_V} {La : List mm_S} {M : mm_M} {ck cs : Nat}
theorem mm_mmax {idx : Nat} {x y : Int} (hd : decode mi.2.1 pc = .ok (.invokestatic idx, 3)) (wl : Cond.methodLink mi.1.cls idx yJ9_max_7cf53 ∈ mm_tbl) (wi : Cond.static yJ9_max_7cf53 ∈ mm_tbl) (wn : Cond.initialized RJ9 ∈ mm_tbl) (wc : Cond.code yJ9_max_7cf53 cJ9_max_7cf53 2 (some .int) ∈ mm_tbl) (ha : mm_r32 x) (hb0 : mm_r32 y) (hcat : mm_wd st ≤ 8) (K : mm_G X d mc ms mi Po (pc + 3) L (v_i (max x y) :: st) La M ck cs) : mm_G X d mc ms mi Po pc L (v_i y :: v_i x :: st) La M ck cs := by
  intro p l e R s m args below meth c A ad ty D H locs ls Q hAt hWd hL hK h1 h2
  have kk := K p l e R s m args below meth c A ad ty D H locs ls Q hAt hWd hL hK h1 h2
  obtain ⟨r1, r2, r3, r4⟩ := hAt.2.2.2.2.2.1
  have hts := hAt.2.2.2.2.1
  have e1 : (if Int32.ofInt x < Int32.ofInt y then Int32.ofInt y else Int32.ofInt x) = Int32.ofInt (max x y) := by
    by_cases h : x < y
    · rw [if_pos ((mm_lt32 ha hb0).mpr h), Int.max_eq_right (by omega)]
    · rw [if_neg (fun h3 => h ((mm_lt32 ha hb0).mp h3)), Int.max_eq_left (by omega)]
  refine va_mmax hAt.1 hAt.2.1 (by rw [hAt.2.2.1, hL.1]) hAt.2.2.2.1 (hts _ wl) (hts _ wi) (hts _ wn) (hts _ wc) (by omega) (by rw [mm_wd_cat]; omega) (by omega) (by omega) hd ?_
  rw [e1]
  exact kk
theorem mm_mmin {idx : Nat} {x y : Int} (hd : decode mi.2.1 pc = .ok (.invokestatic idx, 3)) (wl : Cond.methodLink mi.1.cls idx yJ9_min_7cf53 ∈ mm_tbl) (wi : Cond.static yJ9_min_7cf53 ∈ mm_tbl) (wn : Cond.initialized RJ9 ∈ mm_tbl) (wc : Cond.code yJ9_min_7cf53 cJ9_min_7cf53 2 (some .int) ∈ mm_tbl) (ha : mm_r32 x) (hb0 : mm_r32 y) (hcat : mm_wd st ≤ 8) (K : mm_G X d mc ms mi Po (pc + 3) L (v_i (min x y) :: st) La M ck cs) : mm_G X d mc ms mi Po pc L (v_i y :: v_i x :: st) La M ck cs := by
  intro p l e R s m args below meth c A ad ty D H locs ls Q hAt hWd hL hK h1 h2
  have kk := K p l e R s m args below meth c A ad ty D H locs ls Q hAt hWd hL hK h1 h2
  obtain ⟨r1, r2, r3, r4⟩ := hAt.2.2.2.2.2.1
  have hts := hAt.2.2.2.2.1
  have e1 : (if Int32.ofInt y < Int32.ofInt x then Int32.ofInt y else Int32.ofInt x) = Int32.ofInt (min x y) := by
    by_cases h : y < x
    · rw [if_pos ((mm_lt32 hb0 ha).mpr h), Int.min_eq_right (by omega)]
    · rw [if_neg (fun h3 => h ((mm_lt32 hb0 ha).mp h3)), Int.min_eq_left (by omega)]
  refine va_mmin hAt.1 hAt.2.1 (by rw [hAt.2.2.1, hL.1]) hAt.2.2.2.1 (hts _ wl) (hts _ wi) (hts _ wn) (hts _ wc) (by omega) (by rw [mm_wd_cat]; omega) (by omega) (by omega) hd ?_
  rw [e1]
  exact kk
theorem mm_mabs {idx : Nat} {x : Int} (hd : decode mi.2.1 pc = .ok (.invokestatic idx, 3)) (wl : Cond.methodLink mi.1.cls idx yJ9_abs_0f7a4 ∈ mm_tbl) (wi : Cond.static yJ9_abs_0f7a4 ∈ mm_tbl) (wn : Cond.initialized RJ9 ∈ mm_tbl) (wc : Cond.code yJ9_abs_0f7a4 cJ9_abs_0f7a4 1 (some .int) ∈ mm_tbl) (ha : mm_r32 x) (hcat : mm_wd st ≤ 8) (K : mm_G X d mc ms mi Po (pc + 3) L (v_i (max x (-x)) :: st) La M ck cs) : mm_G X d mc ms mi Po pc L (v_i x :: st) La M ck cs := by
  intro p l e R s m args below meth c A ad ty D H locs ls Q hAt hWd hL hK h1 h2
  have kk := K p l e R s m args below meth c A ad ty D H locs ls Q hAt hWd hL hK h1 h2
  obtain ⟨r1, r2, r3, r4⟩ := hAt.2.2.2.2.2.1
  have hts := hAt.2.2.2.2.1
  have e1 : (if 0 ≤ Int32.ofInt x then Int32.ofInt x else 0 - Int32.ofInt x) = Int32.ofInt (max x (-x)) := by
    have h0 : (0 : Int32) = Int32.ofInt 0 := rfl
    by_cases h : 0 ≤ x
    · rw [if_pos (by rw [h0]; exact (mm_le32 (by omega) ha).mpr h), Int.max_eq_left (by omega)]
    · rw [if_neg (show ¬ (0 : Int32) ≤ Int32.ofInt x from fun h3 => h ((mm_le32 (by omega) ha).mp h3)), Int.max_eq_right (by omega), h0, ← Int32.ofInt_sub]
      congr 1
      omega
  refine va_mabs hAt.1 hAt.2.1 (by rw [hAt.2.2.1, hL.1]) hAt.2.2.2.1 (hts _ wl) (hts _ wi) (hts _ wn) (hts _ wc) (by omega) (by rw [mm_wd_cat]; omega) (by omega) (by omega) hd ?_
  rw [e1]
  exact kk
theorem mm_mabsL {idx : Nat} {x : Int} (hd : decode mi.2.1 pc = .ok (.invokestatic idx, 3)) (wl : Cond.methodLink mi.1.cls idx yJ9_abs_067f4 ∈ mm_tbl) (wi : Cond.static yJ9_abs_067f4 ∈ mm_tbl) (wn : Cond.initialized RJ9 ∈ mm_tbl) (wc : Cond.code yJ9_abs_067f4 cJ9_abs_067f4 2 (some .long) ∈ mm_tbl) (ha : mm_r64 x) (hcat : mm_wd st ≤ 8) (K : mm_G X d mc ms mi Po (pc + 3) L (v_l (max x (-x)) :: st) La M ck cs) : mm_G X d mc ms mi Po pc L (v_l x :: st) La M ck cs := by
  intro p l e R s m args below meth c A ad ty D H locs ls Q hAt hWd hL hK h1 h2
  have kk := K p l e R s m args below meth c A ad ty D H locs ls Q hAt hWd hL hK h1 h2
  obtain ⟨r1, r2, r3, r4⟩ := hAt.2.2.2.2.2.1
  have hts := hAt.2.2.2.2.1
  have e1 : (if 0 < Int64.ofInt x then Int64.ofInt x else -Int64.ofInt x) = Int64.ofInt (max x (-x)) := by
    have h0 : (0 : Int64) = Int64.ofInt 0 := rfl
    by_cases h : 0 < x
    · rw [if_pos (by rw [h0]; exact (mm_lt64 (by omega) ha).mpr h), Int.max_eq_left (by omega)]
    · rw [if_neg (show ¬ (0 : Int64) < Int64.ofInt x from fun h3 => h ((mm_lt64 (by omega) ha).mp h3)), Int.max_eq_right (by omega), ← Int64.ofInt_neg]
  refine va_mabs_long hAt.1 hAt.2.1 (by rw [hAt.2.2.1, hL.1]) hAt.2.2.2.1 (hts _ wl) (hts _ wi) (hts _ wn) (hts _ wc) (by omega) (by rw [mm_wd_cat]; omega) (by omega) (by omega) hd ?_
  rw [e1]
  exact kk
/-! System.arraycopy over int arrays -/
def mm_cpy (M : mm_M) (a b sp dp n : Nat) : mm_M := fun i k => if i = b ∧ dp ≤ k ∧ k < dp + n then M a (sp + (k - dp)) else M i k
theorem mm_cp {idx a b n0 n1 : Nat} {sp dp n : Int} (hd : decode mi.2.1 pc = .ok (.invokestatic idx, 3)) (wl : Cond.methodLink mi.1.cls idx arraycopyName ∈ mm_tbl) (wi : Cond.native arraycopyName ∈ mm_tbl) (ws : Cond.static arraycopyName ∈ mm_tbl) (wn : Cond.initialized "java/lang/System" ∈ mm_tbl) (hcat : mm_wd st ≤ 8) (ha : La[a]? = some (.inl (.int, n0))) (hb : La[b]? = some (.inl (.int, n1))) (g1 : 0 ≤ sp) (g2 : 0 ≤ dp) (g3 : 0 ≤ n) (g4 : sp + n ≤ n0) (g5 : dp + n ≤ n1) (g6 : n0 < 100000) (g7 : n1 < 100000)
    (K : mm_G X d mc ms mi Po (pc + 3) L st La (mm_cpy M a b sp.toNat dp.toNat n.toNat) ck cs) : mm_G X d mc ms mi Po pc L (v_i n :: v_i dp :: v_r b :: v_i sp :: v_r a :: st) La M ck cs := by
  intro p l e R s m args below meth c A ad ty D H locs ls Q hAt hWd hL hK h1 h2
  obtain ⟨r1, r2, r3, r4⟩ := hAt.2.2.2.2.2.1
  have hts := hAt.2.2.2.2.1
  have q : ∀ z : Int, 0 ≤ z → z < 200000 → ¬ Int32.ofInt z < 0 ∧ (Int32.ofInt z).toNatClampNeg = z.toNat := by
    intro z hz hz2
    have hh : (Int32.ofInt z).toInt = z := mm_o32 (by omega)
    refine ⟨fun h => ?_, ?_⟩
    · have h4 := Int32.lt_iff_toInt_lt.mp h
      rw [hh] at h4
      have h5 : (0 : Int32).toInt = 0 := rfl
      omega
    · show (Int32.ofInt z).toInt.toNat = _
      rw [hh]
  obtain ⟨s1, s2⟩ := q sp g1 (by omega)
  obtain ⟨d1, d2⟩ := q dp g2 (by omega)
  obtain ⟨n2, n3⟩ := q n g3 (by omega)
  refine va_copyi (f := fun j => Int32.ofInt (M a j)) (g := fun j => Int32.ofInt (M b j)) (ty := .int) hAt.1 hAt.2.1 (by rw [hAt.2.2.1, hL.1]) hAt.2.2.2.1 (hts _ wl) (hts _ wi) (hts _ ws) (hts _ wn) hAt.2.2.2.2.2.2.2.1 hWd.1 hWd.2.1 hWd.2.2 a b 0 0 (mm_ws_at ha) (mm_ws_at hb) rfl rfl rfl s1 d1 n2 (by rw [s2, n3]; omega) (by rw [d2, n3]; omega) (fun _ _ => rfl) (by omega) (by rw [mm_wd_cat]; have h9 : nativeFrameWords "java/lang/System" "arraycopy" 5 ≤ 20 := (by decide); omega) hd (fun H1 locs1 hP hD hS => ?_)
  rw [s2, d2, n3] at hP hD
  have ews : (mm_ws ty ad La M).set b (ad b, .inl (ty .int, n1, .inl (va_cpy (fun j => Int32.ofInt (M a j)) (fun j => Int32.ofInt (M b j)) sp.toNat dp.toNat n.toNat))) = mm_ws ty ad La (mm_cpy M a b sp.toNat dp.toNat n.toNat) := by
    have hi : b < La.length := (List.getElem?_eq_some_iff.mp hb).1
    apply List.ext_getElem?
    intro j
    by_cases hj : j = b
    · subst hj
      rw [List.getElem?_set_self (by simpa [mm_ws] using hi), mm_ws_at hb]
      have e1 : va_cpy (fun k => Int32.ofInt (M a k)) (fun k => Int32.ofInt (M j k)) sp.toNat dp.toNat n.toNat = fun k => Int32.ofInt (mm_cpy M a j sp.toNat dp.toNat n.toNat j k) := by
        funext k
        simp only [va_cpy, mm_cpy, true_and]
        split <;> rfl
      rw [e1]
      rfl
    · rw [List.getElem?_set_ne (Ne.symm hj)]
      have e2 : mm_cpy M a b sp.toNat dp.toNat n.toNat j = M j := by
        funext k
        simp [mm_cpy, hj]
      simp only [mm_ws, List.getElem?_mapIdx, e2]
  rw [ews] at hP hD
  exact K p l e R s m args below meth c A ad ty D H1 locs1 ls Q hAt ⟨hP, hD, hS⟩ hL hK h1 h2
/-- a static of which nothing is known but that it holds a reference or null -/
theorem mm_getS3 {idx : Nat} (hd : decode mi.2.1 pc = .ok (.getstatic idx, 3)) (w : Cond.fieldLink mi.1.cls idx RJ3 "SIOOBE_FORMATTER" "Ljava/util/function/BiFunction;" ∈ mm_tbl) (K1 : mm_G X d mc ms mi Po (pc + 3) L (v_n :: st) La M ck cs) (K2 : mm_G X d mc ms mi Po (pc + 3) L (v_r 1013 :: st) La M ck cs) : mm_G X d mc ms mi Po pc L st La M ck cs := by
  intro p l e R s m args below meth c A ad ty D H locs ls Q hAt hWd hL hK h1 h2
  rcases hAt.2.2.2.2.2.2.1.2.2.2.2.2.2.2 with hz | hz
  · have kk := K1 p l e R s m args below meth c A ad ty D H locs ls Q hAt hWd hL hK h1 h2
    exact va_gets hAt.1 hAt.2.1 hz hWd.2.2 hAt.2.2.2.1 (hAt.2.2.2.2.1 _ w) (fun _ h => h) hd kk
  · have kk := K2 p l e R s m args below meth c A ad ty D H locs ls Q hAt hWd hL hK h1 h2
    exact va_gets hAt.1 hAt.2.1 hz hWd.2.2 hAt.2.2.2.1 (hAt.2.2.2.2.1 _ w) (fun _ h => h) hd kk
end MMT
