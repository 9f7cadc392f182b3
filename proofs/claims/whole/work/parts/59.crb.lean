def minX (f p : Nat → Int) (set : Nat) : Nat → Int
  | 0 => f set
  | s + 1 => if set.testBit s = true then min (minX f p set s) (f (set ^^^ 2 ^ s) + p s) else minX f p set s
theorem minX_r {f p : Nat → Int} {set S : Nat} (hs : set < 2 ^ S) (hf : ∀ t, t < 2 ^ S → 0 ≤ f t ∧ f t ≤ 1000) (hp : ∀ s, 0 ≤ p s) : ∀ i, i ≤ S → 0 ≤ minX f p set i ∧ minX f p set i ≤ f set
  | 0, _ => ⟨(hf set hs).1, Int.le_refl _⟩
  | i + 1, hi => by
    have h := minX_r hs hf hp i (by omega)
    have h2 := hf (set ^^^ 2 ^ i) (Nat.xor_lt_two_pow hs (Nat.pow_lt_pow_right (by decide) (by omega)))
    have h3 := hp i
    simp only [minX]
    split
    · omega
    · exact h
theorem cr_xor {j i S : Nat} (hj : j < 2 ^ S) (hi : i < S) (hS : S ≤ 8) : fx_xor (j : Int) (fx_shl 1 (i : Int)) = ((j ^^^ 2 ^ i : Nat) : Int) ∧ j ^^^ 2 ^ i < 2 ^ S ∧ 2 ^ S ≤ 256 := by
  have h1 : 2 ^ S ≤ 2 ^ 8 := Nat.pow_le_pow_right (by decide) hS
  have h2 : 2 ^ i < 2 ^ S := Nat.pow_lt_pow_right (by decide) hi
  refine ⟨?_, Nat.xor_lt_two_pow hj h2, h1⟩
  rw [fx_shl_1 (by omega), fx_xor_n (by omega) (by omega)]
theorem cr_or {j i S : Nat} (hj : j < 2 ^ S) (hi : i < S) (hS : S ≤ 8) : fx_or (j : Int) (fx_shl 1 (i : Int)) = ((j ||| 2 ^ i : Nat) : Int) ∧ j ||| 2 ^ i < 2 ^ S ∧ 2 ^ S ≤ 256 := by
  have h1 : 2 ^ S ≤ 2 ^ 8 := Nat.pow_le_pow_right (by decide) hS
  have h2 : 2 ^ i < 2 ^ S := Nat.pow_lt_pow_right (by decide) hi
  refine ⟨?_, Nat.or_lt_two_pow hj h2, h1⟩
  rw [fx_shl_1 (by omega), fx_or_n (by omega) (by omega)]
theorem cr_256 {S : Nat} (hS : S ≤ 8) : 2 ^ S ≤ 256 := Nat.pow_le_pow_right (n := 2) (j := 8) (by decide) hS
/-- the row of an oar -/
def rowQ (B N : mm_M) (b hour : Int) (o S : Nat) : Prop := (freeX B b hour o ∧ ∀ set, set < 2 ^ S → N 18 (256 * o + set) = minX (fun t => N 18 (256 * (o + 1) + t)) (fun s => priX B b o s) set S) ∨ (¬ freeX B b hour o ∧ ∀ set, set < 2 ^ S → N 18 (256 * o + set) = N 18 (256 * (o + 1) + set))
def frow (B : mm_M) (o : Nat) (t : Nat) : Int := B 18 (256 * (o + 1) + t)
theorem L_fr2 {X : Nat × (Nat → Int)} {d : Nat} {Po : mm_Po} {M : mm_M} {B : mm_M} (b hour : Int) (o S : Nat) (hbB : 0 ≤ b ∧ b < B 1 5) (hh : mm_r32 hour) (hoB : (o : Int) < B 1 0) (ho16 : o < 16) (hS : mm_seats (B 6 b.toNat).toNat = S) (hS8 : 1 ≤ S ∧ S ≤ 8) (hJoB : JO B) (hJbB : JB B) (hrow : ∀ t, t < 2 ^ S → 0 ≤ B 18 (256 * (o + 1) + t) ∧ B 18 (256 * (o + 1) + t) ≤ 1000) (hf : fr3 B M) (hout : ∀ i, (i < 256 * o ∨ 256 * o + 256 ≤ i) → M 18 i = B 18 i) (hpr : ∀ s : Nat, s < S → M 19 s = priX B b o s) (j : Nat) (hj : j < 2 ^ S) (K : mm_G X (d + 2) 0 0 mi_X1_fillRow Po 142 [(0, v_r 17), (1, v_r 1), (2, v_i b), (3, v_i hour), (4, v_i (o : Int)), (5, v_i (S : Int)), (6, v_i ((o : Int) * 256)), (7, v_i ((o : Int) * 256 + 256)), (8, v_i (j : Int)), (9, v_i (minX (frow B o) (fun s => priX B b o s) j S))] [] Lam M 0 0) (i : Nat) (hi : i ≤ S) : mm_G X (d + 2) 0 0 mi_X1_fillRow Po 89 [(0, v_r 17), (1, v_r 1), (2, v_i b), (3, v_i hour), (4, v_i (o : Int)), (5, v_i (S : Int)), (6, v_i ((o : Int) * 256)), (7, v_i ((o : Int) * 256 + 256)), (8, v_i (j : Int)), (9, v_i (minX (frow B o) (fun s => priX B b o s) j i)), (10, v_i (i : Int))] [] Lam M 0 0 := by
  have hr := hf.1
  have hJo := (fr3_J hf).1 hJoB
  have hJb := (fr3_J hf).2 hJbB
  have h1 := hf.2 1 (by omega)
  have hb : 0 ≤ b ∧ b < M 1 5 := (by rw [h1]; exact hbB)
  have ho : 0 ≤ (o : Int) ∧ (o : Int) < M 1 0 := (by rw [h1]; omega)
  have h256 := cr_256 hS8.2
  have hx : i < S → fx_xor (j : Int) (fx_shl 1 (i : Int)) = ((j ^^^ 2 ^ i : Nat) : Int) ∧ j ^^^ 2 ^ i < 2 ^ S ∧ 2 ^ S ≤ 256 := fun q => cr_xor hj q hS8.2
  have hmr := minX_r (p := (fun s => priX B b o s)) hj hrow (fun s => (priX_r B b o s).1) i hi
  have hmr2 := hrow j hj
  have hmr3 : minX (frow B o) (fun s => priX B b o s) j i ≤ 1000 ∧ 0 ≤ minX (frow B o) (fun s => priX B b o s) j i := ⟨Int.le_trans hmr.2 hmr2.2, hmr.1⟩
  refine mm_iload (mm_dc od_X1_fillRow_0 50 rfl) rfl ?_
  refine mm_iload (mm_dc od_X1_fillRow_0 51 rfl) rfl ?_
  refine mm_icmp_ge 142 (mm_dc od_X1_fillRow_0 52 rfl) (by omega) (by first | assumption | omega | exact hr _ _ rfl | (have hh9 := hrow (j ^^^ 2 ^ i) (hx (by omega)).2.1; have hh8 := priX_r B b o i; rw [hpr i (by omega), (hx (by omega)).1, show Int.toNat ((o : Int) * 256 + 256 + ((j ^^^ 2 ^ i : Nat) : Int)) = 256 * (o + 1) + (j ^^^ 2 ^ i) by omega, hout _ (by omega)]; omega)) (by first | assumption | omega | exact hr _ _ rfl | (have hh9 := hrow (j ^^^ 2 ^ i) (hx (by omega)).2.1; have hh8 := priX_r B b o i; rw [hpr i (by omega), (hx (by omega)).1, show Int.toNat ((o : Int) * 256 + 256 + ((j ^^^ 2 ^ i : Nat) : Int)) = 256 * (o + 1) + (j ^^^ 2 ^ i) by omega, hout _ (by omega)]; omega)) (fun c1 => ?_) (fun c1 => ?_)
  · have e : i = S := by omega
    subst e
    exact mm_less [0, 1, 2, 3, 4, 5, 6, 7, 8, 9] rfl K
  · refine mm_iload (mm_dc od_X1_fillRow_0 53 rfl) rfl ?_
    refine mm_iload (mm_dc od_X1_fillRow_0 54 rfl) rfl ?_
    refine mm_callN (mi' := mi_X9_has) [v_i (j : Int), v_i (i : Int)] [] (mm_dc od_X1_fillRow_0 55 rfl) rfl (List.mem_of_getElem? (i := 10) rfl) wd_2_171 wd_1_1 wd_2_172 yk_X9_has (Nat.le_of_ble_eq_true rfl) rfl (by decide) (c_X9_has (j : Int) (i : Int) (by first | assumption | omega | exact hr _ _ rfl | (have hh9 := hrow (j ^^^ 2 ^ i) (hx (by omega)).2.1; have hh8 := priX_r B b o i; rw [hpr i (by omega), (hx (by omega)).1, show Int.toNat ((o : Int) * 256 + 256 + ((j ^^^ 2 ^ i : Nat) : Int)) = 256 * (o + 1) + (j ^^^ 2 ^ i) by omega, hout _ (by omega)]; omega)) (by first | assumption | omega | exact hr _ _ rfl | (have hh9 := hrow (j ^^^ 2 ^ i) (hx (by omega)).2.1; have hh8 := priX_r B b o i; rw [hpr i (by omega), (hx (by omega)).1, show Int.toNat ((o : Int) * 256 + 256 + ((j ^^^ 2 ^ i : Nat) : Int)) = 256 * (o + 1) + (j ^^^ 2 ^ i) by omega, hout _ (by omega)]; omega)) (fun c2 => ⟨Nat.le_refl _, ?_⟩) (fun c2 => ⟨Nat.le_refl _, ?_⟩))
    · simp only [Int.toNat_natCast] at c2
      refine mm_if_eq 136 (mm_dc od_X1_fillRow_0 56 rfl) (by omega) (by first | assumption | omega | exact hr _ _ rfl | (have hh9 := hrow (j ^^^ 2 ^ i) (hx (by omega)).2.1; have hh8 := priX_r B b o i; rw [hpr i (by omega), (hx (by omega)).1, show Int.toNat ((o : Int) * 256 + 256 + ((j ^^^ 2 ^ i : Nat) : Int)) = 256 * (o + 1) + (j ^^^ 2 ^ i) by omega, hout _ (by omega)]; omega)) (fun h => absurd h (by decide)) (fun _ => ?_)
      refine mm_iload (mm_dc od_X1_fillRow_0 57 rfl) rfl ?_
      refine mm_aload_n (mm_dc od_X1_fillRow_0 58 rfl) rfl ?_
      refine mm_getR (ci := 1) (k := 0) (mm_dc od_X1_fillRow_0 59 rfl) rfl in_X1 (by decide) wd_1_119 rfl rfl ?_
      refine mm_iload (mm_dc od_X1_fillRow_1 0 rfl) rfl ?_
      refine mm_iload (mm_dc od_X1_fillRow_1 1 rfl) rfl ?_
      refine mm_iconst (mm_dc od_X1_fillRow_1 2 rfl) ?_
      refine mm_iload (mm_dc od_X1_fillRow_1 3 rfl) rfl ?_
      refine mm_ishl (mm_dc od_X1_fillRow_1 4 rfl) ?_
      refine mm_ixor (mm_dc od_X1_fillRow_1 5 rfl) ?_
      refine mm_iadd (mm_dc od_X1_fillRow_1 6 rfl) ?_
      refine mm_iald (mm_dc od_X1_fillRow_1 7 rfl) rfl (by first | assumption | omega | exact hr _ _ rfl | (have hh9 := hrow (j ^^^ 2 ^ i) (hx (by omega)).2.1; have hh8 := priX_r B b o i; rw [hpr i (by omega), (hx (by omega)).1, show Int.toNat ((o : Int) * 256 + 256 + ((j ^^^ 2 ^ i : Nat) : Int)) = 256 * (o + 1) + (j ^^^ 2 ^ i) by omega, hout _ (by omega)]; omega)) (by first | assumption | omega | exact hr _ _ rfl | (have hh9 := hrow (j ^^^ 2 ^ i) (hx (by omega)).2.1; have hh8 := priX_r B b o i; rw [hpr i (by omega), (hx (by omega)).1, show Int.toNat ((o : Int) * 256 + 256 + ((j ^^^ 2 ^ i : Nat) : Int)) = 256 * (o + 1) + (j ^^^ 2 ^ i) by omega, hout _ (by omega)]; omega)) (by decide) ?_
      refine mm_aload_n (mm_dc od_X1_fillRow_1 8 rfl) rfl ?_
      refine mm_getR (ci := 1) (k := 1) (mm_dc od_X1_fillRow_1 9 rfl) rfl in_X1 (by decide) wd_1_120 rfl rfl ?_
      refine mm_iload (mm_dc od_X1_fillRow_1 10 rfl) rfl ?_
      refine mm_iald (mm_dc od_X1_fillRow_1 11 rfl) rfl (by first | assumption | omega | exact hr _ _ rfl | (have hh9 := hrow (j ^^^ 2 ^ i) (hx (by omega)).2.1; have hh8 := priX_r B b o i; rw [hpr i (by omega), (hx (by omega)).1, show Int.toNat ((o : Int) * 256 + 256 + ((j ^^^ 2 ^ i : Nat) : Int)) = 256 * (o + 1) + (j ^^^ 2 ^ i) by omega, hout _ (by omega)]; omega)) (by first | assumption | omega | exact hr _ _ rfl | (have hh9 := hrow (j ^^^ 2 ^ i) (hx (by omega)).2.1; have hh8 := priX_r B b o i; rw [hpr i (by omega), (hx (by omega)).1, show Int.toNat ((o : Int) * 256 + 256 + ((j ^^^ 2 ^ i : Nat) : Int)) = 256 * (o + 1) + (j ^^^ 2 ^ i) by omega, hout _ (by omega)]; omega)) (by decide) ?_
      refine mm_cst (st' := [v_i (M 19 i), v_i (M 18 (Int.toNat (((o : Int) * 256 + 256) + (fx_xor (j : Int) (fx_shl 1 (i : Int)))))), v_i (minX (frow B o) (fun s => priX B b o s) j i)]) rfl ?_
      refine mm_iadd (mm_dc od_X1_fillRow_1 12 rfl) ?_
      refine mm_mmin (mm_dc od_X1_fillRow_1 13 rfl) wd_3_52 wd_3_53 wd_1_14 wd_3_54 (by first | assumption | omega | exact hr _ _ rfl | (have hh9 := hrow (j ^^^ 2 ^ i) (hx (by omega)).2.1; have hh8 := priX_r B b o i; rw [hpr i (by omega), (hx (by omega)).1, show Int.toNat ((o : Int) * 256 + 256 + ((j ^^^ 2 ^ i : Nat) : Int)) = 256 * (o + 1) + (j ^^^ 2 ^ i) by omega, hout _ (by omega)]; omega)) (by first | assumption | omega | exact hr _ _ rfl | (have hh9 := hrow (j ^^^ 2 ^ i) (hx (by omega)).2.1; have hh8 := priX_r B b o i; rw [hpr i (by omega), (hx (by omega)).1, show Int.toNat ((o : Int) * 256 + 256 + ((j ^^^ 2 ^ i : Nat) : Int)) = 256 * (o + 1) + (j ^^^ 2 ^ i) by omega, hout _ (by omega)]; omega)) (Nat.le_of_ble_eq_true rfl) ?_
      refine mm_istore (L' := [(0, v_r 17), (1, v_r 1), (2, v_i b), (3, v_i hour), (4, v_i (o : Int)), (5, v_i (S : Int)), (6, v_i ((o : Int) * 256)), (7, v_i ((o : Int) * 256 + 256)), (8, v_i (j : Int)), (9, v_i (min (minX (frow B o) (fun s => priX B b o s) j i) ((M 18 (Int.toNat (((o : Int) * 256 + 256) + (fx_xor (j : Int) (fx_shl 1 (i : Int)))))) + (M 19 i)))), (10, v_i (i : Int))]) (mm_dc od_X1_fillRow_1 14 rfl) (by decide) rfl ?_
      refine mm_iinc (L' := [(0, v_r 17), (1, v_r 1), (2, v_i b), (3, v_i hour), (4, v_i (o : Int)), (5, v_i (S : Int)), (6, v_i ((o : Int) * 256)), (7, v_i ((o : Int) * 256 + 256)), (8, v_i (j : Int)), (9, v_i (min (minX (frow B o) (fun s => priX B b o s) j i) ((M 18 (Int.toNat (((o : Int) * 256 + 256) + (fx_xor (j : Int) (fx_shl 1 (i : Int)))))) + (M 19 i)))), (10, v_i ((i : Int) + 1))]) (mm_dc od_X1_fillRow_1 15 rfl) rfl (by decide) rfl ?_
      refine mm_goto 89 (mm_dc od_X1_fillRow_1 16 rfl) (by omega) ?_
      have hrd : M 18 (Int.toNat ((o : Int) * 256 + 256 + fx_xor (j : Int) (fx_shl 1 (i : Int)))) = frow B o (j ^^^ 2 ^ i) := by rw [(hx (by omega)).1, show Int.toNat ((o : Int) * 256 + 256 + ((j ^^^ 2 ^ i : Nat) : Int)) = 256 * (o + 1) + (j ^^^ 2 ^ i) by omega, hout _ (by omega)]; rfl
      refine mm_cL (L' := [(0, v_r 17), (1, v_r 1), (2, v_i b), (3, v_i hour), (4, v_i (o : Int)), (5, v_i (S : Int)), (6, v_i ((o : Int) * 256)), (7, v_i ((o : Int) * 256 + 256)), (8, v_i (j : Int)), (9, v_i (minX (frow B o) (fun s => priX B b o s) j (i + 1))), (10, v_i ((i : Int) + 1))]) (by rw [show minX (frow B o) (fun s => priX B b o s) j (i + 1) = min (minX (frow B o) (fun s => priX B b o s) j i) (frow B o (j ^^^ 2 ^ i) + priX B b o i) by simp only [minX]; rw [if_pos (by assumption)]]; rw [hrd, hpr i (by omega)]) ?_
      exact L_fr2 b hour o S hbB hh hoB ho16 hS hS8 hJoB hJbB hrow hf hout hpr j hj K (i + 1) (by omega)
    · simp only [Int.toNat_natCast] at c2
      refine mm_if_eq 136 (mm_dc od_X1_fillRow_0 56 rfl) (by omega) (by first | assumption | omega | exact hr _ _ rfl | (have hh9 := hrow (j ^^^ 2 ^ i) (hx (by omega)).2.1; have hh8 := priX_r B b o i; rw [hpr i (by omega), (hx (by omega)).1, show Int.toNat ((o : Int) * 256 + 256 + ((j ^^^ 2 ^ i : Nat) : Int)) = 256 * (o + 1) + (j ^^^ 2 ^ i) by omega, hout _ (by omega)]; omega)) (fun _ => ?_) (fun h => absurd h (by decide))
      refine mm_iinc (L' := [(0, v_r 17), (1, v_r 1), (2, v_i b), (3, v_i hour), (4, v_i (o : Int)), (5, v_i (S : Int)), (6, v_i ((o : Int) * 256)), (7, v_i ((o : Int) * 256 + 256)), (8, v_i (j : Int)), (9, v_i (minX (frow B o) (fun s => priX B b o s) j i)), (10, v_i ((i : Int) + 1))]) (mm_dc od_X1_fillRow_1 15 rfl) rfl (by decide) rfl ?_
      refine mm_goto 89 (mm_dc od_X1_fillRow_1 16 rfl) (by omega) ?_
      refine mm_cL (L' := [(0, v_r 17), (1, v_r 1), (2, v_i b), (3, v_i hour), (4, v_i (o : Int)), (5, v_i (S : Int)), (6, v_i ((o : Int) * 256)), (7, v_i ((o : Int) * 256 + 256)), (8, v_i (j : Int)), (9, v_i (minX (frow B o) (fun s => priX B b o s) j (i + 1))), (10, v_i ((i : Int) + 1))]) (by rw [show minX (frow B o) (fun s => priX B b o s) j (i + 1) = minX (frow B o) (fun s => priX B b o s) j i by simp only [minX]; rw [if_neg (by assumption)]]) ?_
      exact L_fr2 b hour o S hbB hh hoB ho16 hS hS8 hJoB hJbB hrow hf hout hpr j hj K (i + 1) (by omega)
termination_by S - i
decreasing_by all_goals (first | omega | (simp_wf; omega))
theorem L_frT {X : Nat × (Nat → Int)} {d : Nat} {Po : mm_Po} {M : mm_M} {B : mm_M} (b hour : Int) (o S : Nat) (hbB : 0 ≤ b ∧ b < B 1 5) (hh : mm_r32 hour) (hoB : (o : Int) < B 1 0) (ho16 : o < 16) (hS : mm_seats (B 6 b.toNat).toNat = S) (hS8 : 1 ≤ S ∧ S ≤ 8) (hJoB : JO B) (hJbB : JB B) (hrow : ∀ t, t < 2 ^ S → 0 ≤ B 18 (256 * (o + 1) + t) ∧ B 18 (256 * (o + 1) + t) ≤ 1000) (hf : fr3 B M) (hout : ∀ i, (i < 256 * o ∨ 256 * o + 256 ≤ i) → M 18 i = B 18 i) (hpr : ∀ s : Nat, s < S → M 19 s = priX B b o s) (j : Nat) (hj : j < 2 ^ S) (v : Int) (hv : mm_r32 v) (K : mm_G X (d + 2) 0 0 mi_X1_fillRow Po 65 [(0, v_r 17), (1, v_r 1), (2, v_i b), (3, v_i hour), (4, v_i (o : Int)), (5, v_i (S : Int)), (6, v_i ((o : Int) * 256)), (7, v_i ((o : Int) * 256 + 256)), (8, v_i ((j : Int) + 1))] [] Lam (mm_up M 18 (256 * o + j) v) 0 0) : mm_G X (d + 2) 0 0 mi_X1_fillRow Po 142 [(0, v_r 17), (1, v_r 1), (2, v_i b), (3, v_i hour), (4, v_i (o : Int)), (5, v_i (S : Int)), (6, v_i ((o : Int) * 256)), (7, v_i ((o : Int) * 256 + 256)), (8, v_i (j : Int)), (9, v_i v)] [] Lam M 0 0 := by
  have hr := hf.1
  have hJo := (fr3_J hf).1 hJoB
  have hJb := (fr3_J hf).2 hJbB
  have h1 := hf.2 1 (by omega)
  have hb : 0 ≤ b ∧ b < M 1 5 := (by rw [h1]; exact hbB)
  have ho : 0 ≤ (o : Int) ∧ (o : Int) < M 1 0 := (by rw [h1]; omega)
  have h256 := cr_256 hS8.2
  have hix : 0 ≤ (o : Int) * 256 + (j : Int) ∧ (o : Int) * 256 + (j : Int) < 4352 := (by omega)
  refine mm_aload_n (mm_dc od_X1_fillRow_1 17 rfl) rfl ?_
  refine mm_getR (ci := 1) (k := 0) (mm_dc od_X1_fillRow_1 18 rfl) rfl in_X1 (by decide) wd_1_119 rfl rfl ?_
  refine mm_iload (mm_dc od_X1_fillRow_1 19 rfl) rfl ?_
  refine mm_iload (mm_dc od_X1_fillRow_1 20 rfl) rfl ?_
  refine mm_iadd (mm_dc od_X1_fillRow_1 21 rfl) ?_
  refine mm_iload (mm_dc od_X1_fillRow_1 22 rfl) rfl ?_
  refine mm_iast (mm_dc od_X1_fillRow_1 23 rfl) rfl (by first | omega | assumption) (by first | omega | assumption) (by decide) ?_
  refine mm_iinc (L' := [(0, v_r 17), (1, v_r 1), (2, v_i b), (3, v_i hour), (4, v_i (o : Int)), (5, v_i (S : Int)), (6, v_i ((o : Int) * 256)), (7, v_i ((o : Int) * 256 + 256)), (8, v_i ((j : Int) + 1)), (9, v_i v)]) (mm_dc od_X1_fillRow_1 24 rfl) rfl (by decide) rfl ?_
  refine mm_goto 65 (mm_dc od_X1_fillRow_1 25 rfl) (by omega) ?_
  refine mm_eqM (M' := mm_up M 18 (256 * o + j) v) (by rw [show Int.toNat ((o : Int) * 256 + (j : Int)) = 256 * o + j by omega]) ?_
  exact mm_less [0, 1, 2, 3, 4, 5, 6, 7, 8] rfl K
theorem L_fr1 {X : Nat × (Nat → Int)} {d : Nat} {Po : mm_Po} {M : mm_M} {B : mm_M} (b hour : Int) (o S : Nat) (hbB : 0 ≤ b ∧ b < B 1 5) (hh : mm_r32 hour) (hoB : (o : Int) < B 1 0) (ho16 : o < 16) (hS : mm_seats (B 6 b.toNat).toNat = S) (hS8 : 1 ≤ S ∧ S ≤ 8) (hJoB : JO B) (hJbB : JB B) (hrow : ∀ t, t < 2 ^ S → 0 ≤ B 18 (256 * (o + 1) + t) ∧ B 18 (256 * (o + 1) + t) ≤ 1000) (k : ∀ N : mm_M, fr3 B N ∧ (∀ i, (i < 256 * o ∨ 256 * o + 256 ≤ i) → N 18 i = B 18 i) ∧ rowQ B N b hour o S → Po none Lam N) (hfree : freeX B b hour o) (j : Nat) (hj : j ≤ 2 ^ S) (hj1 : 1 ≤ j) (hf : fr3 B M) (hout : ∀ i, (i < 256 * o ∨ 256 * o + 256 ≤ i) → M 18 i = B 18 i) (hpr : ∀ s : Nat, s < S → M 19 s = priX B b o s) (hd : (∀ set, set < 2 ^ S → (set < j → M 18 (256 * o + set) = minX (frow B o) (fun s => priX B b o s) set S))) : mm_G X (d + 2) 0 0 mi_X1_fillRow Po 65 [(0, v_r 17), (1, v_r 1), (2, v_i b), (3, v_i hour), (4, v_i (o : Int)), (5, v_i (S : Int)), (6, v_i ((o : Int) * 256)), (7, v_i ((o : Int) * 256 + 256)), (8, v_i (j : Int))] [] Lam M 0 0 := by
  have hr := hf.1
  have hJo := (fr3_J hf).1 hJoB
  have hJb := (fr3_J hf).2 hJbB
  have h1 := hf.2 1 (by omega)
  have hb : 0 ≤ b ∧ b < M 1 5 := (by rw [h1]; exact hbB)
  have ho : 0 ≤ (o : Int) ∧ (o : Int) < M 1 0 := (by rw [h1]; omega)
  have h256 := cr_256 hS8.2
  have hsh : fx_shl 1 (S : Int) = ((2 ^ S : Nat) : Int) := fx_shl_1 (by omega)
  refine mm_iload (mm_dc od_X1_fillRow_0 36 rfl) rfl ?_
  refine mm_iconst (mm_dc od_X1_fillRow_0 37 rfl) ?_
  refine mm_iload (mm_dc od_X1_fillRow_0 38 rfl) rfl ?_
  refine mm_ishl (mm_dc od_X1_fillRow_0 39 rfl) ?_
  refine mm_icmp_ge 160 (mm_dc od_X1_fillRow_0 40 rfl) (by omega) (by first | omega | assumption | exact hr _ _ rfl) (by first | omega | assumption | exact hr _ _ rfl) (fun c1 => ?_) (fun c1 => ?_)
  · refine mm_ret (mm_dc od_X1_fillRow_1 26 rfl) rfl ?_
    exact k _ ⟨hf, hout, Or.inl ⟨hfree, fun set hs => by rw [hd set hs (by omega)]; congr 1; funext t; exact (hout _ (by omega)).symm⟩⟩
  · refine mm_aload_n (mm_dc od_X1_fillRow_0 41 rfl) rfl ?_
    refine mm_getR (ci := 1) (k := 0) (mm_dc od_X1_fillRow_0 42 rfl) rfl in_X1 (by decide) wd_1_119 rfl rfl ?_
    refine mm_iload (mm_dc od_X1_fillRow_0 43 rfl) rfl ?_
    refine mm_iload (mm_dc od_X1_fillRow_0 44 rfl) rfl ?_
    refine mm_iadd (mm_dc od_X1_fillRow_0 45 rfl) ?_
    refine mm_iald (mm_dc od_X1_fillRow_0 46 rfl) rfl (by first | omega | assumption | exact hr _ _ rfl) (by first | omega | assumption | exact hr _ _ rfl) (by decide) ?_
    refine mm_istore (L' := [(0, v_r 17), (1, v_r 1), (2, v_i b), (3, v_i hour), (4, v_i (o : Int)), (5, v_i (S : Int)), (6, v_i ((o : Int) * 256)), (7, v_i ((o : Int) * 256 + 256)), (8, v_i (j : Int)), (9, v_i (M 18 (Int.toNat (((o : Int) * 256 + 256) + (j : Int)))))]) (mm_dc od_X1_fillRow_0 47 rfl) (by decide) rfl ?_
    refine mm_iconst (mm_dc od_X1_fillRow_0 48 rfl) ?_
    refine mm_istore (L' := [(0, v_r 17), (1, v_r 1), (2, v_i b), (3, v_i hour), (4, v_i (o : Int)), (5, v_i (S : Int)), (6, v_i ((o : Int) * 256)), (7, v_i ((o : Int) * 256 + 256)), (8, v_i (j : Int)), (9, v_i (M 18 (Int.toNat (((o : Int) * 256 + 256) + (j : Int))))), (10, v_i 0)]) (mm_dc od_X1_fillRow_0 49 rfl) (by decide) rfl ?_
    have hjl : j < 2 ^ S := by omega
    have hmr := minX_r (p := (fun s => priX B b o s)) hjl hrow (fun s => (priX_r B b o s).1) S (Nat.le_refl _)
    have hmr2 := hrow j hjl
    have hfj : M 18 (Int.toNat ((o : Int) * 256 + 256 + (j : Int))) = minX (frow B o) (fun s => priX B b o s) j 0 := by rw [show Int.toNat ((o : Int) * 256 + 256 + (j : Int)) = 256 * (o + 1) + j by omega, hout _ (by omega)]; rfl
    rw [hfj]
    have hvr : mm_r32 (minX (frow B o) (fun s => priX B b o s) j S) := by
      have : minX (frow B o) (fun s => priX B b o s) j S ≤ 1000 := Int.le_trans hmr.2 hmr2.2
      have : 0 ≤ minX (frow B o) (fun s => priX B b o s) j S := hmr.1
      omega
    refine L_fr2 b hour o S hbB hh hoB ho16 hS hS8 hJoB hJbB hrow hf hout hpr j hjl (L_frT b hour o S hbB hh hoB ho16 hS hS8 hJoB hJbB hrow hf hout hpr j hjl _ hvr ?_) 0 (by omega)
    refine L_fr1 b hour o S hbB hh hoB ho16 hS hS8 hJoB hJbB hrow k hfree (j + 1) (by omega) (by omega) (fr3_up hf (by decide) hvr) (fun i hi => ?_) (fun s hs => ?_) (fun set hs1 hs2 => ?_)
    · rw [mm_upa, if_neg (by omega)]; exact hout i hi
    · exact hpr s hs
    · rw [mm_upa]
      by_cases e : set = j
      · rw [if_pos (by omega), e]
      · rw [if_neg (by omega)]; exact hd set hs1 (by omega)
termination_by 2 ^ S - j
decreasing_by all_goals (first | omega | (simp_wf; omega))
theorem minX_zero {f p : Nat → Int} : ∀ S : Nat, minX f p 0 S = f 0
  | 0 => rfl
  | S + 1 => by simp only [minX, Nat.zero_testBit]; exact minX_zero S
theorem A_fillRow {X : Nat × (Nat → Int)} {d : Nat} {Po : mm_Po} {M : mm_M} (b hour : Int) (o S : Nat) (hb0 : 0 ≤ b ∧ b < M 1 5) (hh : mm_r32 hour) (ho1 : (o : Int) < M 1 0) (ho16 : o < 16) (hS : mm_seats (M 6 b.toNat).toNat = S) (hS8 : 1 ≤ S ∧ S ≤ 8) (hJo : JO M) (hJb : JB M) (hrow : ∀ t, t < 2 ^ S → 0 ≤ M 18 (256 * (o + 1) + t) ∧ M 18 (256 * (o + 1) + t) ≤ 1000) (hr : R32 M) (k : ∀ N : mm_M, fr3 M N ∧ (∀ i, (i < 256 * o ∨ 256 * o + 256 ≤ i) → N 18 i = M 18 i) ∧ rowQ M N b hour o S → Po none Lam N) : mm_G X (d + 2) 0 0 mi_X1_fillRow Po 0 [(0, v_r 17), (1, v_r 1), (2, v_i b), (3, v_i hour), (4, v_i (o : Int))] [] Lam M 0 0 := by
  have hb := hb0
  have ho : 0 ≤ (o : Int) ∧ (o : Int) < M 1 0 := (by omega)
  have ho0 := ho
  have h256 := cr_256 hS8.2
  have hpow := Nat.one_le_two_pow (n := S)
  have hsh : fx_shl 1 (mm_seats (M 6 b.toNat).toNat) = ((2 ^ S : Nat) : Int) := (by rw [hS]; exact fx_shl_1 (by omega))
  refine mm_aload_n (mm_dc od_X1_fillRow_0 0 rfl) rfl ?_
  refine mm_iload_n (mm_dc od_X1_fillRow_0 1 rfl) rfl ?_
  refine mm_callV (b := 1) (mi' := mi_X0_seats) [v_i b] [] (mm_dc od_X1_fillRow_0 2 rfl) rfl wd_3_18 wd_2_120 wd_2_121 wd_1_2 wd_2_122 yk_X0_seats rfl rfl rfl (Nat.le_of_ble_eq_true rfl) rfl (by decide) (c_X0_seats b (by first | omega | assumption | exact hr _ _ rfl) hJb (by first | omega | assumption | exact hr _ _ rfl) ⟨Nat.le_refl _, ?_⟩)
  refine mm_istore (L' := [(0, v_r 17), (1, v_r 1), (2, v_i b), (3, v_i hour), (4, v_i (o : Int)), (5, v_i (mm_seats (M 6 b.toNat).toNat))]) (mm_dc od_X1_fillRow_0 3 rfl) (by decide) rfl ?_
  refine mm_iload (mm_dc od_X1_fillRow_0 4 rfl) rfl ?_
  refine mm_sipush (mm_dc od_X1_fillRow_0 5 rfl) (by decide) ?_
  refine mm_imul (mm_dc od_X1_fillRow_0 6 rfl) ?_
  refine mm_istore (L' := [(0, v_r 17), (1, v_r 1), (2, v_i b), (3, v_i hour), (4, v_i (o : Int)), (5, v_i (mm_seats (M 6 b.toNat).toNat)), (6, v_i ((o : Int) * 256))]) (mm_dc od_X1_fillRow_0 7 rfl) (by decide) rfl ?_
  refine mm_iload (mm_dc od_X1_fillRow_0 8 rfl) rfl ?_
  refine mm_sipush (mm_dc od_X1_fillRow_0 9 rfl) (by decide) ?_
  refine mm_iadd (mm_dc od_X1_fillRow_0 10 rfl) ?_
  refine mm_istore (L' := [(0, v_r 17), (1, v_r 1), (2, v_i b), (3, v_i hour), (4, v_i (o : Int)), (5, v_i (mm_seats (M 6 b.toNat).toNat)), (6, v_i ((o : Int) * 256)), (7, v_i (((o : Int) * 256) + 256))]) (mm_dc od_X1_fillRow_0 11 rfl) (by decide) rfl ?_
  refine mm_aload_n (mm_dc od_X1_fillRow_0 12 rfl) rfl ?_
  refine mm_getR (ci := 1) (k := 0) (mm_dc od_X1_fillRow_0 13 rfl) rfl in_X1 (by decide) wd_1_119 rfl rfl ?_
  refine mm_iload (mm_dc od_X1_fillRow_0 14 rfl) rfl ?_
  refine mm_aload_n (mm_dc od_X1_fillRow_0 15 rfl) rfl ?_
  refine mm_getR (ci := 1) (k := 0) (mm_dc od_X1_fillRow_0 16 rfl) rfl in_X1 (by decide) wd_1_119 rfl rfl ?_
  refine mm_iload (mm_dc od_X1_fillRow_0 17 rfl) rfl ?_
  refine mm_iconst (mm_dc od_X1_fillRow_0 18 rfl) ?_
  refine mm_iload (mm_dc od_X1_fillRow_0 19 rfl) rfl ?_
  refine mm_ishl (mm_dc od_X1_fillRow_0 20 rfl) ?_
  refine mm_cp (mm_dc od_X1_fillRow_0 21 rfl) wd_3_23 wd_3_25 wd_3_24 wd_1_15 (Nat.le_of_ble_eq_true rfl) rfl rfl (by first | omega | assumption | exact hr _ _ rfl) (by first | omega | assumption | exact hr _ _ rfl) (by first | omega | assumption | exact hr _ _ rfl) (by first | omega | assumption | exact hr _ _ rfl) (by first | omega | assumption | exact hr _ _ rfl) (by decide) (by decide) ?_
  obtain ⟨N1, hN1⟩ : ∃ N1 : mm_M, N1 = mm_cpy M 18 18 (Int.toNat (((o : Int) * 256) + 256)) (Int.toNat ((o : Int) * 256)) (Int.toNat (fx_shl 1 (mm_seats (M 6 b.toNat).toNat))) := ⟨_, rfl⟩
  rw [← hN1]
  rw [hsh, Int.toNat_natCast, show Int.toNat ((o : Int) * 256 + 256) = 256 * (o + 1) by omega, show Int.toNat ((o : Int) * 256) = 256 * o by omega] at hN1
  have hc18 : ∀ i, (i < 256 * o ∨ 256 * o + 256 ≤ i) → N1 18 i = M 18 i := fun i hi => by rw [hN1]; unfold mm_cpy; rw [if_neg (by omega)]
  have hc18b : ∀ set, set < 2 ^ S → N1 18 (256 * o + set) = M 18 (256 * (o + 1) + set) := fun set hs => by rw [hN1]; unfold mm_cpy; rw [if_pos (by omega), show 256 * (o + 1) + (256 * o + set - 256 * o) = 256 * (o + 1) + set by omega]
  have hf1 : fr3 M N1 := ⟨fun i q hq => by rw [hN1]; unfold mm_cpy; split; exact hr _ _ (by simp [mm_isL]); exact hr i q hq, fun i hi => by funext q; rw [hN1]; unfold mm_cpy; rw [if_neg (by omega)]⟩
  have hJo0 := hJo
  have hJb0 := hJb
  have hr0 := hr
  have hJo := (fr3_J hf1).1 hJo
  have hJb := (fr3_J hf1).2 hJb
  have hr := hf1.1
  have h1 := hf1.2 1 (by omega)
  have hb : 0 ≤ b ∧ b < N1 1 5 := (by rw [h1]; exact hb)
  have ho : 0 ≤ (o : Int) ∧ (o : Int) < N1 1 0 := (by rw [h1]; omega)
  refine mm_aload_n (mm_dc od_X1_fillRow_0 22 rfl) rfl ?_
  refine mm_iload_n (mm_dc od_X1_fillRow_0 23 rfl) rfl ?_
  refine mm_iload_n (mm_dc od_X1_fillRow_0 24 rfl) rfl ?_
  refine mm_iload (mm_dc od_X1_fillRow_0 25 rfl) rfl ?_
  refine mm_callS (mi' := mi_X1_isFree) [v_r 1, v_i b, v_i hour, v_i (o : Int)] [] (mm_dc od_X1_fillRow_0 26 rfl) rfl wd_3_26 wd_3_27 wd_1_4 wd_3_28 yk_X1_isFree (Nat.le_of_ble_eq_true rfl) rfl (by decide) (c_X1_isFree b hour (o : Int) (by first | omega | assumption | exact hr _ _ rfl) (by first | omega | assumption | exact hr _ _ rfl) (by first | omega | assumption | exact hr _ _ rfl) hJo hJb (by first | omega | assumption | exact hr _ _ rfl) (fun c1 => ⟨Nat.le_refl _, ?_⟩) (fun c1 => ⟨Nat.le_refl _, ?_⟩))
  · refine mm_if_ne 54 (mm_dc od_X1_fillRow_0 27 rfl) (by omega) (by first | omega | assumption | exact hr _ _ rfl) (fun _ => ?_) (fun h => absurd h (by decide))
    refine mm_aload_n (mm_dc od_X1_fillRow_0 29 rfl) rfl ?_
    refine mm_aload_n (mm_dc od_X1_fillRow_0 30 rfl) rfl ?_
    refine mm_iload_n (mm_dc od_X1_fillRow_0 31 rfl) rfl ?_
    refine mm_iload (mm_dc od_X1_fillRow_0 32 rfl) rfl ?_
    refine mm_callV (b := 17) (mi' := mi_X1_setPrices) [v_r 1, v_i b, v_i (o : Int)] [] (mm_dc od_X1_fillRow_0 33 rfl) rfl wd_3_41 wd_3_43 wd_p_7 wd_1_4 wd_3_44 yk_X1_setPrices rfl rfl rfl (Nat.le_of_ble_eq_true rfl) rfl (by decide) (c_X1_setPrices b (o : Int) (by first | omega | assumption | exact hr _ _ rfl) (by first | omega | assumption | exact hr _ _ rfl) hJo hJb (by first | omega | assumption | exact hr _ _ rfl) (fun N3 hq4 => ⟨Nat.le_refl _, ?_⟩))
    refine mm_iconst (mm_dc od_X1_fillRow_0 34 rfl) ?_
    refine mm_istore (L' := [(0, v_r 17), (1, v_r 1), (2, v_i b), (3, v_i hour), (4, v_i (o : Int)), (5, v_i (mm_seats (M 6 b.toNat).toNat)), (6, v_i ((o : Int) * 256)), (7, v_i (((o : Int) * 256) + 256)), (8, v_i 1)]) (mm_dc od_X1_fillRow_0 35 rfl) (by decide) rfl ?_
    obtain ⟨hs1, hs2⟩ := hq4
    have hf2 : fr3 N1 N3 := ⟨hs1.1, fun i hi => hs1.2 i (by omega)⟩
    refine mm_cL (L' := [(0, v_r 17), (1, v_r 1), (2, v_i b), (3, v_i hour), (4, v_i (o : Int)), (5, v_i (S : Int)), (6, v_i ((o : Int) * 256)), (7, v_i ((o : Int) * 256 + 256)), (8, v_i 1)]) (by rw [hS]) ?_
    refine L_fr1 (B := M) b hour o S hb0 hh ho0.2 (by omega) hS hS8 hJo0 hJb0 hrow k (by rw [← (fr3_p hf1).1]; assumption) 1 (Nat.one_le_two_pow) (Nat.le_refl _) (fr3_t hf1 hf2) (fun i hi => by rw [hs1.2 18 (by decide)]; exact hc18 i hi) (fun s hs => by rw [hs2 s (by rw [hf1.2 6 (by omega), hS]; omega), (fr3_p hf1).2]) (fun set hs3 hs4 => ?_)
    have e : set = 0 := by omega
    subst e
    rw [hs1.2 18 (by decide), hc18b 0 hs3, minX_zero]
    rfl
  · refine mm_if_ne 54 (mm_dc od_X1_fillRow_0 27 rfl) (by omega) (by first | omega | assumption | exact hr _ _ rfl) (fun h => absurd h (by decide)) (fun _ => ?_)
    refine mm_ret (mm_dc od_X1_fillRow_0 28 rfl) rfl ?_
    exact k _ ⟨hf1, hc18, Or.inr ⟨by rw [← (fr3_p hf1).1]; assumption, fun set hs => by rw [hc18b set hs, hc18 _ (by omega)]⟩⟩
