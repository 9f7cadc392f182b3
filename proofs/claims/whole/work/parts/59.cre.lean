/-! who gets which seat -/
def opF (f : Nat → Int) (S : Nat) : Nat → Nat
  | 0 => 2 ^ S - 1
  | j + 1 => if f j = -1 then opF f S j else opF f S j ^^^ 2 ^ (f j).toNat
theorem opF_cong {f g : Nat → Int} {S : Nat} : ∀ j : Nat, (∀ i, i < j → f i = g i) → opF f S j = opF g S j
  | 0, _ => rfl
  | j + 1, h => by
    simp only [opF]
    rw [opF_cong j (fun i hi => h i (by omega)), h j (by omega)]
theorem opF_lt {f : Nat → Int} {S : Nat} : ∀ j : Nat, (∀ i, i < j → -1 ≤ f i ∧ f i < S) → opF f S j < 2 ^ S
  | 0, _ => by
    have := Nat.one_le_two_pow (n := S)
    simp only [opF]; omega
  | j + 1, h => by
    have ih := opF_lt j (fun i hi => h i (by omega))
    have h1 := h j (by omega)
    simp only [opF]
    split
    · exact ih
    · exact Nat.xor_lt_two_pow ih (Nat.pow_lt_pow_right (by decide) (by omega))
def chX (B : mm_M) (b hour : Int) (S o op : Nat) (r : Int) : Prop := (freeX B b hour o ∧ firstP (fun s => op.testBit s = true ∧ B 18 (256 * (o + 1) + (op ^^^ 2 ^ s)) + priX B b o s = B 18 (256 * o + op)) r S) ∨ (¬ freeX B b hour o ∧ r = -1)
theorem chX_r {B : mm_M} {b hour : Int} {S o op : Nat} {r : Int} (h : chX B b hour S o op r) : -1 ≤ r ∧ r < S := by
  rcases h with ⟨_, h⟩ | ⟨_, h⟩
  · have := firstP_rng h; omega
  · omega
theorem chX_s {B M N : mm_M} {b hour : Int} {S j : Nat} (h : ∀ o, o < j → chX B b hour S o (opF (M 20) S o) (M 20 o)) (he : ∀ i, i < j → N 20 i = M 20 i) (hj : chX B b hour S j (opF (M 20) S j) (N 20 j)) : ∀ o, o < j + 1 → chX B b hour S o (opF (N 20) S o) (N 20 o) := by
  intro o ho
  by_cases e : o = j
  · subst e
    rw [opF_cong (f := N 20) (g := M 20) o he]; exact hj
  · rw [opF_cong (f := N 20) (g := M 20) o (fun i hi => he i (by omega)), he o (by omega)]; exact h o (by omega)
def plcX (B : mm_M) (b : Int) (i : Nat) : Int := if B 20 i ≠ -1 then 10 * b + B 20 i else if (B 5 i ≠ -1 ∧ B 5 i / 10 = b) ∧ ¬ (B 5 i ≠ -1 ∧ B 5 i % 10 = 8) then -1 else B 5 i
def seatQ (M N : mm_M) (b hour : Int) : Prop := ∃ N1 : mm_M, fr3 M N1 ∧ N1 18 = M 18 ∧ (∀ o, o < (M 1 0).toNat → chX M b hour (seX M b) o (opF (N1 20) (seX M b) o) (N1 20 o)) ∧ frm 5 N1 N ∧ ∀ o : Nat, N 5 o = if (o : Int) < M 1 0 then plcX N1 b o else N1 5 o
theorem L_st70 {X : Nat × (Nat → Int)} {d : Nat} {Po : mm_Po} {M : mm_M} (b hour : Int) (S j : Nat) (hj16 : j < 16) (hS8 : S ≤ 8) (h20 : -1 ≤ M 20 j ∧ M 20 j < S) (hop : opF (M 20) S j < 2 ^ S) (K : mm_G X d 0 0 mi_X1_seatThem Po 14 [(0, v_r 17), (1, v_r 1), (2, v_i b), (3, v_i hour), (4, v_i ((opF (M 20) S (j + 1) : Nat) : Int)), (5, v_i ((j : Int) + 1))] [] Lam M 0 0) : mm_G X d 0 0 mi_X1_seatThem Po 70 [(0, v_r 17), (1, v_r 1), (2, v_i b), (3, v_i hour), (4, v_i ((opF (M 20) S j : Nat) : Int)), (5, v_i (j : Int))] [] Lam M 0 0 := by
  have hx : M 20 j ≠ -1 → fx_xor ((opF (M 20) S j : Nat) : Int) (fx_shl 1 (M 20 j)) = ((opF (M 20) S j ^^^ 2 ^ (M 20 j).toNat : Nat) : Int) := (by
    intro q
    have h := (cr_xor (i := (M 20 j).toNat) hop (by omega) hS8).1
    rw [Int.toNat_of_nonneg (by omega)] at h
    exact h)
  refine mm_aload_n (mm_dc od_X1_seatThem_0 41 rfl) rfl ?_
  refine mm_getR (ci := 1) (k := 2) (mm_dc od_X1_seatThem_0 42 rfl) rfl in_X1 (by decide) wd_1_121 rfl rfl ?_
  refine mm_iload (mm_dc od_X1_seatThem_0 43 rfl) rfl ?_
  refine mm_iald (mm_dc od_X1_seatThem_0 44 rfl) rfl (by first | omega | assumption) (by first | omega | assumption) (by decide) ?_
  refine mm_cst (st' := [v_i (M 20 j)]) rfl ?_
  refine mm_iconst (mm_dc od_X1_seatThem_0 45 rfl) ?_
  refine mm_icmp_eq 95 (mm_dc od_X1_seatThem_0 46 rfl) (by omega) (by first | omega | assumption) (by first | omega | assumption) (fun c1 => ?_) (fun c1 => ?_)
  · refine mm_iinc (L' := [(0, v_r 17), (1, v_r 1), (2, v_i b), (3, v_i hour), (4, v_i ((opF (M 20) S j : Nat) : Int)), (5, v_i ((j : Int) + 1))]) (mm_dc od_X1_seatThem_0 56 rfl) rfl (by decide) rfl ?_
    refine mm_goto 14 (mm_dc od_X1_seatThem_0 57 rfl) (by omega) ?_
    refine mm_cL (L' := [(0, v_r 17), (1, v_r 1), (2, v_i b), (3, v_i hour), (4, v_i ((opF (M 20) S (j + 1) : Nat) : Int)), (5, v_i ((j : Int) + 1))]) ?_ K
    simp only [opF]
    rw [if_pos (by assumption)]
  · refine mm_iload (mm_dc od_X1_seatThem_0 47 rfl) rfl ?_
    refine mm_iconst (mm_dc od_X1_seatThem_0 48 rfl) ?_
    refine mm_aload_n (mm_dc od_X1_seatThem_0 49 rfl) rfl ?_
    refine mm_getR (ci := 1) (k := 2) (mm_dc od_X1_seatThem_0 50 rfl) rfl in_X1 (by decide) wd_1_121 rfl rfl ?_
    refine mm_iload (mm_dc od_X1_seatThem_0 51 rfl) rfl ?_
    refine mm_iald (mm_dc od_X1_seatThem_0 52 rfl) rfl (by first | omega | assumption) (by first | omega | assumption) (by decide) ?_
    refine mm_cst (st' := [v_i (M 20 j), v_i 1, v_i ((opF (M 20) S j : Nat) : Int)]) rfl ?_
    refine mm_ishl (mm_dc od_X1_seatThem_0 53 rfl) ?_
    refine mm_ixor (mm_dc od_X1_seatThem_0 54 rfl) ?_
    refine mm_istore (L' := [(0, v_r 17), (1, v_r 1), (2, v_i b), (3, v_i hour), (4, v_i (fx_xor ((opF (M 20) S j : Nat) : Int) (fx_shl 1 (M 20 j)))), (5, v_i (j : Int))]) (mm_dc od_X1_seatThem_0 55 rfl) (by decide) rfl ?_
    refine mm_iinc (L' := [(0, v_r 17), (1, v_r 1), (2, v_i b), (3, v_i hour), (4, v_i (fx_xor ((opF (M 20) S j : Nat) : Int) (fx_shl 1 (M 20 j)))), (5, v_i ((j : Int) + 1))]) (mm_dc od_X1_seatThem_0 56 rfl) rfl (by decide) rfl ?_
    refine mm_goto 14 (mm_dc od_X1_seatThem_0 57 rfl) (by omega) ?_
    refine mm_cL (L' := [(0, v_r 17), (1, v_r 1), (2, v_i b), (3, v_i hour), (4, v_i ((opF (M 20) S (j + 1) : Nat) : Int)), (5, v_i ((j : Int) + 1))]) ?_ K
    simp only [opF]
    rw [if_neg (by assumption), hx (by omega)]
theorem L_st1 {X : Nat × (Nat → Int)} {d : Nat} {Po : mm_Po} {M : mm_M} {B : mm_M} (b hour : Int) (n S : Nat) (hbB : 0 ≤ b ∧ b < B 1 5) (hh : mm_r32 hour) (hn : B 1 0 = n) (hS : seX B b = S) (hS8 : 1 ≤ S ∧ S ≤ 8) (hJoB : JO B) (hJbB : JB B) (hcs : ∀ o, o ≤ n → ∀ t, t < 2 ^ S → 0 ≤ B 18 (256 * o + t) ∧ B 18 (256 * o + t) ≤ 1000) (K : ∀ N : mm_M, (fr3 B N ∧ N 18 = B 18 ∧ ∀ o, o < n → chX B b hour S o (opF (N 20) S o) (N 20 o)) → ∀ x y : Int, mm_G X (d + 2) 0 0 mi_X1_seatThem Po 101 [(0, v_r 17), (1, v_r 1), (2, v_i b), (3, v_i hour), (4, v_i x), (5, v_i y)] [] Lam N 0 0) (j : Nat) (hf : fr3 B M) (h18 : M 18 = B 18) (hch : ∀ o, o < j → chX B b hour S o (opF (M 20) S o) (M 20 o)) (hj : j ≤ n) : mm_G X (d + 2) 0 0 mi_X1_seatThem Po 14 [(0, v_r 17), (1, v_r 1), (2, v_i b), (3, v_i hour), (4, v_i ((opF (M 20) S j : Nat) : Int)), (5, v_i (j : Int))] [] Lam M 0 0 := by
  have hr := hf.1
  have hJo := (fr3_J hf).1 hJoB
  have hJb := (fr3_J hf).2 hJbB
  have h1 := hf.2 1 (by omega)
  have hn2 : M 1 0 = n := (by rw [h1]; exact hn)
  have hn16 := hJo.2.1
  have hSS : mm_seats (B 6 b.toNat).toNat = S := (by rw [(seX_is hbB hJbB).1, hS])
  have hoplt : opF (M 20) S j < 2 ^ S := opF_lt j (fun i hi => chX_r (hch i hi))
  have h256 := cr_256 hS8.2
  refine mm_iload (mm_dc od_X1_seatThem_0 10 rfl) rfl ?_
  refine mm_aload_n (mm_dc od_X1_seatThem_0 11 rfl) rfl ?_
  refine mm_getI (ci := 0) (k := 0) (mm_dc od_X1_seatThem_0 12 rfl) rfl in_X0 (by decide) wd_1_35 rfl rfl ?_
  refine mm_icmp_ge 101 (mm_dc od_X1_seatThem_0 13 rfl) (by omega) (by first | omega | assumption | exact hr _ _ rfl) (by first | omega | assumption | exact hr _ _ rfl) (fun c1 => ?_) (fun c1 => ?_)
  · have e : j = n := by omega
    exact K M ⟨hf, h18, fun o ho => hch o (by omega)⟩ _ _
  · refine mm_aload_n (mm_dc od_X1_seatThem_0 14 rfl) rfl ?_
    refine mm_getR (ci := 1) (k := 2) (mm_dc od_X1_seatThem_0 15 rfl) rfl in_X1 (by decide) wd_1_121 rfl rfl ?_
    refine mm_iload (mm_dc od_X1_seatThem_0 16 rfl) rfl ?_
    refine mm_iconst (mm_dc od_X1_seatThem_0 17 rfl) ?_
    refine mm_iast (mm_dc od_X1_seatThem_0 18 rfl) rfl (by first | omega | assumption | exact hr _ _ rfl) (by first | omega | assumption | exact hr _ _ rfl) (by decide) ?_
    refine mm_eqM (M' := mm_up M 20 j (-1)) rfl ?_
    obtain ⟨N1, hN1⟩ : ∃ N1 : mm_M, N1 = mm_up M 20 j (-1) := ⟨_, rfl⟩
    rw [← hN1]
    have hf1 : fr3 B N1 := hN1 ▸ fr3_up hf (by decide) (by decide)
    have h18a : N1 18 = B 18 := by rw [hN1, mm_up_ne (by decide)]; exact h18
    have h20a : ∀ i, i < j → N1 20 i = M 20 i := fun i hi => by rw [hN1]; exact mm_up_k (by omega)
    have h20b : N1 20 j = -1 := by rw [hN1]; exact mm_up_eq
    have hr := hf1.1
    have hJo := (fr3_J hf1).1 hJoB
    have hJb := (fr3_J hf1).2 hJbB
    have hb : 0 ≤ b ∧ b < N1 1 5 := (by rw [hf1.2 1 (by omega)]; exact hbB)
    have ho : 0 ≤ (j : Int) ∧ (j : Int) < N1 1 0 := (by rw [hf1.2 1 (by omega)]; omega)
    refine mm_aload_n (mm_dc od_X1_seatThem_0 19 rfl) rfl ?_
    refine mm_iload_n (mm_dc od_X1_seatThem_0 20 rfl) rfl ?_
    refine mm_iload_n (mm_dc od_X1_seatThem_0 21 rfl) rfl ?_
    refine mm_iload (mm_dc od_X1_seatThem_0 22 rfl) rfl ?_
    refine mm_callS (mi' := mi_X1_isFree) [v_r 1, v_i b, v_i hour, v_i (j : Int)] [] (mm_dc od_X1_seatThem_0 23 rfl) rfl wd_3_26 wd_3_27 wd_1_4 wd_3_28 yk_X1_isFree (Nat.le_of_ble_eq_true rfl) rfl (by decide) (c_X1_isFree b hour (j : Int) (by first | omega | assumption | exact hr _ _ rfl) (by first | omega | assumption | exact hr _ _ rfl) (by first | omega | assumption | exact hr _ _ rfl) hJo hJb (by first | omega | assumption | exact hr _ _ rfl) (fun c2 => ⟨Nat.le_refl _, ?_⟩) (fun c2 => ⟨Nat.le_refl _, ?_⟩))
    · refine mm_if_eq 70 (mm_dc od_X1_seatThem_0 24 rfl) (by omega) (by first | omega | assumption | exact hr _ _ rfl) (fun h => absurd h (by decide)) (fun _ => ?_)
      refine mm_aload_n (mm_dc od_X1_seatThem_0 25 rfl) rfl ?_
      refine mm_aload_n (mm_dc od_X1_seatThem_0 26 rfl) rfl ?_
      refine mm_iload_n (mm_dc od_X1_seatThem_0 27 rfl) rfl ?_
      refine mm_iload (mm_dc od_X1_seatThem_0 28 rfl) rfl ?_
      refine mm_callV (b := 17) (mi' := mi_X1_setPrices) [v_r 1, v_i b, v_i (j : Int)] [] (mm_dc od_X1_seatThem_0 29 rfl) rfl wd_3_41 wd_3_43 wd_p_7 wd_1_4 wd_3_44 yk_X1_setPrices rfl rfl rfl (Nat.le_of_ble_eq_true rfl) rfl (by decide) (c_X1_setPrices b (j : Int) (by first | omega | assumption | exact hr _ _ rfl) (by first | omega | assumption | exact hr _ _ rfl) hJo hJb (by first | omega | assumption | exact hr _ _ rfl) (fun N4 hq5 => ⟨Nat.le_refl _, ?_⟩))
      have hf2 : fr3 B N4 := fr3_t hf1 ⟨hq5.1.1, fun i hi => hq5.1.2 i (by omega)⟩
      have h18b : N4 18 = B 18 := by rw [hq5.1.2 18 (by decide)]; exact h18a
      have hs5 : mm_seats (N4 6 b.toNat).toNat = S := by rw [hf2.2 6 (by omega)]; exact hSS
      have hr := hf2.1
      have hJo := (fr3_J hf2).1 hJoB
      have hJb := (fr3_J hf2).2 hJbB
      have hb : 0 ≤ b ∧ b < N4 1 5 := (by rw [hf2.2 1 (by omega)]; exact hbB)
      have ho : 0 ≤ (j : Int) ∧ (j : Int) < N4 1 0 := (by rw [hf2.2 1 (by omega)]; omega)
      have hop5 : 0 ≤ ((opF (M 20) S j : Nat) : Int) ∧ ((opF (M 20) S j : Nat) : Int).toNat < 2 ^ (mm_seats (N4 6 b.toNat).toNat).toNat := by rw [hs5]; exact ⟨by omega, hoplt⟩
      have hse5 : 1 ≤ mm_seats (N4 6 b.toNat).toNat ∧ mm_seats (N4 6 b.toNat).toNat ≤ 8 := by rw [hs5]; omega
      have hc5 : ∀ t, t < 2 ^ (mm_seats (N4 6 b.toNat).toNat).toNat → 0 ≤ N4 18 (256 * ((j : Int).toNat + 1) + t) ∧ N4 18 (256 * ((j : Int).toNat + 1) + t) ≤ 1000 := by rw [hs5, h18b]; exact fun t ht => hcs (j + 1) (by omega) t ht
      have hp5 : ∀ s : Nat, (s : Int) < mm_seats (N4 6 b.toNat).toNat → 0 ≤ N4 19 s ∧ N4 19 s ≤ 8 := fun s hs => by rw [hq5.2 s (by rw [← hq5.1.2 6 (by decide)]; exact hs)]; exact priX_r _ _ _ _
      have ho5 : 0 ≤ (j : Int) ∧ (j : Int) < 16 := by omega
      refine mm_aload_n (mm_dc od_X1_seatThem_0 30 rfl) rfl ?_
      refine mm_getR (ci := 1) (k := 2) (mm_dc od_X1_seatThem_0 31 rfl) rfl in_X1 (by decide) wd_1_121 rfl rfl ?_
      refine mm_iload (mm_dc od_X1_seatThem_0 32 rfl) rfl ?_
      refine mm_aload_n (mm_dc od_X1_seatThem_0 33 rfl) rfl ?_
      refine mm_iload (mm_dc od_X1_seatThem_0 34 rfl) rfl ?_
      refine mm_iload (mm_dc od_X1_seatThem_0 35 rfl) rfl ?_
      refine mm_aload_n (mm_dc od_X1_seatThem_0 36 rfl) rfl ?_
      refine mm_iload_n (mm_dc od_X1_seatThem_0 37 rfl) rfl ?_
      refine mm_callV (b := 1) (mi' := mi_X0_seats) [v_i b] [v_i ((opF (M 20) S j : Nat) : Int), v_i (j : Int), v_r 17, v_i (j : Int), v_r 20] (mm_dc od_X1_seatThem_0 38 rfl) rfl wd_3_18 wd_2_120 wd_2_121 wd_1_2 wd_2_122 yk_X0_seats rfl rfl rfl (Nat.le_of_ble_eq_true rfl) rfl (by decide) (c_X0_seats b (by first | omega | assumption | exact hr _ _ rfl) hJb (by first | omega | assumption | exact hr _ _ rfl) ⟨Nat.le_refl _, ?_⟩)
      refine mm_callV (b := 17) (mi' := mi_X1_choose) [v_i (j : Int), v_i ((opF (M 20) S j : Nat) : Int), v_i (mm_seats (N4 6 b.toNat).toNat)] [v_i (j : Int), v_r 20] (mm_dc od_X1_seatThem_0 39 rfl) rfl wd_3_59 wd_3_61 wd_p_8 wd_1_4 wd_3_62 yk_X1_choose rfl rfl rfl (Nat.le_of_ble_eq_true rfl) rfl (by decide) (c_X1_choose (j : Int) ((opF (M 20) S j : Nat) : Int) (mm_seats (N4 6 b.toNat).toNat) (by first | omega | assumption | exact hr _ _ rfl) (by first | omega | assumption | exact hr _ _ rfl) (by first | omega | assumption | exact hr _ _ rfl) (by first | omega | assumption | exact hr _ _ rfl) (by first | omega | assumption | exact hr _ _ rfl) (by first | omega | assumption | exact hr _ _ rfl) (fun r6 hq7 => ⟨Nat.le_refl _, ?_⟩))
      have hq7_r := firstP_rng hq7
      refine mm_iast (mm_dc od_X1_seatThem_0 40 rfl) rfl (by first | omega | assumption | exact hr _ _ rfl) (by first | omega | assumption | exact hr _ _ rfl) (by decide) ?_
      refine mm_eqM (M' := mm_up N4 20 j r6) rfl ?_
      obtain ⟨N3, hN3⟩ : ∃ N3 : mm_M, N3 = mm_up N4 20 j r6 := ⟨_, rfl⟩
      rw [← hN3]
      have hf3 : fr3 B N3 := hN3 ▸ fr3_up hf2 (by decide) (by omega)
      have h18c : N3 18 = B 18 := by rw [hN3, mm_up_ne (by decide)]; exact h18b
      have h20c : ∀ i, i < j → N3 20 i = M 20 i := fun i hi => by rw [hN3, mm_up_k (by omega), hq5.1.2 20 (by decide)]; exact h20a i hi
      have h20d : N3 20 j = r6 := by rw [hN3]; exact mm_up_eq
      have hr := hf3.1
      have hchj : chX B b hour S j (opF (M 20) S j) (N3 20 j) := by
        refine Or.inl ⟨by rw [← (fr3_p hf1).1]; exact c2, ?_⟩
        rw [h20d]
        have h := hq7
        rw [hs5] at h
        refine firstP_cong h (fun s hs => ?_)
        have e := hq5.2 s (by rw [← hq5.1.2 6 (by decide), hs5]; omega)
        rw [e, (fr3_p hf1).2, h18b]
        exact Iff.rfl
      have hnx := chX_s hch h20c hchj
      have hrr := chX_r hchj
      have hoc : opF (M 20) S j = opF (N3 20) S j := opF_cong j (fun i hi => (h20c i hi).symm)
      rw [hoc]
      refine L_st70 b hour S j (by omega) hS8.2 hrr (by rw [← hoc]; exact hoplt) ?_
      exact L_st1 b hour n S hbB hh hn hS hS8 hJoB hJbB hcs K (j + 1) hf3 h18c hnx (by omega)
    · refine mm_if_eq 70 (mm_dc od_X1_seatThem_0 24 rfl) (by omega) (by first | omega | assumption | exact hr _ _ rfl) (fun _ => ?_) (fun h => absurd h (by decide))
      have hchj : chX B b hour S j (opF (M 20) S j) (N1 20 j) := Or.inr ⟨by rw [← (fr3_p hf1).1]; exact c2, h20b⟩
      have hnx := chX_s hch h20a hchj
      have hrr := chX_r hchj
      have hoc : opF (M 20) S j = opF (N1 20) S j := opF_cong j (fun i hi => (h20a i hi).symm)
      rw [hoc]
      refine L_st70 b hour S j (by omega) hS8.2 hrr (by rw [← hoc]; exact hoplt) ?_
      exact L_st1 b hour n S hbB hh hn hS hS8 hJoB hJbB hcs K (j + 1) hf1 h18a hnx (by omega)
termination_by n - j
decreasing_by all_goals (first | omega | (simp_wf; omega))
theorem L_st2 {X : Nat × (Nat → Int)} {d : Nat} {Po : mm_Po} {M : mm_M} {B : mm_M} (b hour : Int) (n S : Nat) (hbB : 0 ≤ b ∧ b < B 1 5) (hn : B 1 0 = n) (hS8 : 1 ≤ S ∧ S ≤ 8) (hJoB : JO B) (hJbB : JB B) (hchr : ∀ o, o < n → -1 ≤ B 20 o ∧ B 20 o < S) (k : ∀ N : mm_M, frm 5 B N ∧ (∀ o : Nat, N 5 o = if (o : Int) < B 1 0 then plcX B b o else B 5 o) → Po none Lam N) (x : Int) (j : Nat) (hf : frm 5 B M) (hlt : ∀ i, i < j → M 5 i = plcX B b i) (hge : ∀ i, j ≤ i → M 5 i = B 5 i) (hj : j ≤ n) : mm_G X (d + 1) 0 0 mi_X1_seatThem Po 104 [(0, v_r 17), (1, v_r 1), (2, v_i b), (3, v_i hour), (4, v_i x), (5, v_i (j : Int))] [] Lam M 0 0 := by
  have hr := hf.1
  have h1 := hf.2 1 (by decide)
  have hn2 : M 1 0 = n := (by rw [h1]; exact hn)
  have hn16 := hJoB.2.1
  have hbb := hJbB.2.1
  have h20j : B 20 j = M 20 j := (by rw [hf.2 20 (by decide)])
  have h5j : B 5 j = M 5 j := (hge j (Nat.le_refl _)).symm
  have h20r := hchr j
  have hJo : JO M := (by
    unfold JO at *
    rw [h1, hf.2 2 (by decide), hf.2 3 (by decide), hf.2 4 (by decide)]
    refine ⟨hJoB.1, hJoB.2.1, fun o ho => ?_⟩
    have h := hJoB.2.2 o ho
    refine ⟨h.1, h.2.1, h.2.2.1, ?_⟩
    by_cases e : o < j
    · rw [hlt o e]
      have q := hchr o (by omega)
      unfold plcX
      split
      · omega
      · split <;> omega
    · rw [hge o (by omega)]; exact h.2.2.2)
  refine mm_iload (mm_dc od_X1_seatThem_1 0 rfl) rfl ?_
  refine mm_aload_n (mm_dc od_X1_seatThem_1 1 rfl) rfl ?_
  refine mm_getI (ci := 0) (k := 0) (mm_dc od_X1_seatThem_1 2 rfl) rfl in_X0 (by decide) wd_1_35 rfl rfl ?_
  refine mm_icmp_ge 179 (mm_dc od_X1_seatThem_1 3 rfl) (by omega) (by first | omega | assumption | exact hr _ _ rfl) (by first | omega | assumption | exact hr _ _ rfl) (fun c1 => ?_) (fun c1 => ?_)
  · refine mm_ret (mm_dc od_X1_seatThem_1 39 rfl) rfl ?_
    refine k _ ⟨hf, fun o => ?_⟩
    by_cases e : o < n
    · rw [if_pos (by omega)]; exact hlt o (by omega)
    · rw [if_neg (by omega)]; exact hge o (by omega)
  · refine mm_aload_n (mm_dc od_X1_seatThem_1 4 rfl) rfl ?_
    refine mm_getR (ci := 1) (k := 2) (mm_dc od_X1_seatThem_1 5 rfl) rfl in_X1 (by decide) wd_1_121 rfl rfl ?_
    refine mm_iload (mm_dc od_X1_seatThem_1 6 rfl) rfl ?_
    refine mm_iald (mm_dc od_X1_seatThem_1 7 rfl) rfl (by first | omega | assumption | exact hr _ _ rfl) (by first | omega | assumption | exact hr _ _ rfl) (by decide) ?_
    refine mm_cst (st' := [v_i (M 20 j)]) rfl ?_
    refine mm_iconst (mm_dc od_X1_seatThem_1 8 rfl) ?_
    refine mm_icmp_eq 146 (mm_dc od_X1_seatThem_1 9 rfl) (by omega) (by first | omega | assumption | exact hr _ _ rfl) (by first | omega | assumption | exact hr _ _ rfl) (fun c2 => ?_) (fun c2 => ?_)
    · refine mm_aload_n (mm_dc od_X1_seatThem_1 23 rfl) rfl ?_
      refine mm_iload (mm_dc od_X1_seatThem_1 24 rfl) rfl ?_
      refine mm_iload_n (mm_dc od_X1_seatThem_1 25 rfl) rfl ?_
      refine mm_callV (b := 1) (mi' := mi_X0_sitsIn) [v_i (j : Int), v_i b] [] (mm_dc od_X1_seatThem_1 26 rfl) rfl wd_3_37 wd_3_38 wd_3_39 wd_1_2 wd_3_40 yk_X0_sitsIn rfl rfl rfl (Nat.le_of_ble_eq_true rfl) rfl (by decide) (c_X0_sitsIn (j : Int) b (by first | omega | assumption | exact hr _ _ rfl) (by first | omega | assumption | exact hr _ _ rfl) hJo (by first | omega | assumption | exact hr _ _ rfl) (fun c3 => ⟨Nat.le_refl _, ?_⟩) (fun c3 => ⟨Nat.le_refl _, ?_⟩))
      · simp only [Int.toNat_natCast] at c3
        refine mm_if_eq 173 (mm_dc od_X1_seatThem_1 27 rfl) (by omega) (by first | omega | assumption | exact hr _ _ rfl) (fun h => absurd h (by decide)) (fun _ => ?_)
        refine mm_aload_n (mm_dc od_X1_seatThem_1 28 rfl) rfl ?_
        refine mm_iload (mm_dc od_X1_seatThem_1 29 rfl) rfl ?_
        refine mm_callV (b := 1) (mi' := mi_X0_isCox) [v_i (j : Int)] [] (mm_dc od_X1_seatThem_1 30 rfl) rfl wd_3_33 wd_3_34 wd_3_35 wd_1_2 wd_3_36 yk_X0_isCox rfl rfl rfl (Nat.le_of_ble_eq_true rfl) rfl (by decide) (c_X0_isCox (j : Int) (by first | omega | assumption | exact hr _ _ rfl) hJo (by first | omega | assumption | exact hr _ _ rfl) (fun c4 => ⟨Nat.le_refl _, ?_⟩) (fun c4 => ⟨Nat.le_refl _, ?_⟩))
        · simp only [Int.toNat_natCast] at c4
          refine mm_if_ne 173 (mm_dc od_X1_seatThem_1 31 rfl) (by omega) (by first | omega | assumption | exact hr _ _ rfl) (fun _ => ?_) (fun h => absurd h (by decide))
          refine mm_iinc (L' := [(0, v_r 17), (1, v_r 1), (2, v_i b), (3, v_i hour), (4, v_i x), (5, v_i ((j : Int) + 1))]) (mm_dc od_X1_seatThem_1 37 rfl) rfl (by decide) rfl ?_
          refine mm_goto 104 (mm_dc od_X1_seatThem_1 38 rfl) (by omega) ?_
          have plc2 : plcX B b j = B 5 j := by unfold plcX; rw [h20j, h5j, if_neg (by omega), if_neg (by omega)]
          exact L_st2 b hour n S hbB hn hS8 hJoB hJbB hchr k x (j + 1) hf (fun i hi => by by_cases e : i = j; rw [e, hge j (Nat.le_refl _)]; (first | (rw [plc2]; done) | exact plc2.symm); exact hlt i (by omega)) (fun i hi => hge i (by omega)) (by omega)
        · simp only [Int.toNat_natCast] at c4
          refine mm_if_ne 173 (mm_dc od_X1_seatThem_1 31 rfl) (by omega) (by first | omega | assumption | exact hr _ _ rfl) (fun h => absurd h (by decide)) (fun _ => ?_)
          refine mm_aload_n (mm_dc od_X1_seatThem_1 32 rfl) rfl ?_
          refine mm_getR (ci := 0) (k := 4) (mm_dc od_X1_seatThem_1 33 rfl) rfl in_X0 (by decide) wd_1_44 rfl rfl ?_
          refine mm_iload (mm_dc od_X1_seatThem_1 34 rfl) rfl ?_
          refine mm_iconst (mm_dc od_X1_seatThem_1 35 rfl) ?_
          refine mm_iast (mm_dc od_X1_seatThem_1 36 rfl) rfl (by first | omega | assumption | exact hr _ _ rfl) (by first | omega | assumption | exact hr _ _ rfl) (by decide) ?_
          refine mm_eqM (M' := mm_up M 5 j (-1)) rfl ?_
          refine mm_iinc (L' := [(0, v_r 17), (1, v_r 1), (2, v_i b), (3, v_i hour), (4, v_i x), (5, v_i ((j : Int) + 1))]) (mm_dc od_X1_seatThem_1 37 rfl) rfl (by decide) rfl ?_
          refine mm_goto 104 (mm_dc od_X1_seatThem_1 38 rfl) (by omega) ?_
          have plc2 : plcX B b j = -1 := by unfold plcX; rw [h20j, h5j, if_neg (by omega), if_pos (by omega)]
          exact L_st2 b hour n S hbB hn hS8 hJoB hJbB hchr k x (j + 1) (frm_up hf (by omega)) (fun i hi => by rw [mm_upa]; split; (next e => rw [e, plc2]); exact hlt i (by omega)) (fun i hi => by rw [mm_upa, if_neg (by omega)]; exact hge i (by omega)) (by omega)
      · simp only [Int.toNat_natCast] at c3
        refine mm_if_eq 173 (mm_dc od_X1_seatThem_1 27 rfl) (by omega) (by first | omega | assumption | exact hr _ _ rfl) (fun _ => ?_) (fun h => absurd h (by decide))
        refine mm_iinc (L' := [(0, v_r 17), (1, v_r 1), (2, v_i b), (3, v_i hour), (4, v_i x), (5, v_i ((j : Int) + 1))]) (mm_dc od_X1_seatThem_1 37 rfl) rfl (by decide) rfl ?_
        refine mm_goto 104 (mm_dc od_X1_seatThem_1 38 rfl) (by omega) ?_
        have plc2 : plcX B b j = B 5 j := by unfold plcX; rw [h20j, h5j, if_neg (by omega), if_neg (by omega)]
        exact L_st2 b hour n S hbB hn hS8 hJoB hJbB hchr k x (j + 1) hf (fun i hi => by by_cases e : i = j; rw [e, hge j (Nat.le_refl _)]; (first | (rw [plc2]; done) | exact plc2.symm); exact hlt i (by omega)) (fun i hi => hge i (by omega)) (by omega)
    · refine mm_aload_n (mm_dc od_X1_seatThem_1 10 rfl) rfl ?_
      refine mm_getR (ci := 0) (k := 4) (mm_dc od_X1_seatThem_1 11 rfl) rfl in_X0 (by decide) wd_1_44 rfl rfl ?_
      refine mm_iload (mm_dc od_X1_seatThem_1 12 rfl) rfl ?_
      refine mm_bipush (mm_dc od_X1_seatThem_1 13 rfl) (by decide) ?_
      refine mm_iload_n (mm_dc od_X1_seatThem_1 14 rfl) rfl ?_
      refine mm_imul (mm_dc od_X1_seatThem_1 15 rfl) ?_
      refine mm_aload_n (mm_dc od_X1_seatThem_1 16 rfl) rfl ?_
      refine mm_getR (ci := 1) (k := 2) (mm_dc od_X1_seatThem_1 17 rfl) rfl in_X1 (by decide) wd_1_121 rfl rfl ?_
      refine mm_iload (mm_dc od_X1_seatThem_1 18 rfl) rfl ?_
      refine mm_iald (mm_dc od_X1_seatThem_1 19 rfl) rfl (by first | omega | assumption | exact hr _ _ rfl) (by first | omega | assumption | exact hr _ _ rfl) (by decide) ?_
      refine mm_cst (st' := [v_i (M 20 j), v_i (10 * b), v_i (j : Int), v_r 5]) rfl ?_
      refine mm_iadd (mm_dc od_X1_seatThem_1 20 rfl) ?_
      refine mm_iast (mm_dc od_X1_seatThem_1 21 rfl) rfl (by first | omega | assumption | exact hr _ _ rfl) (by first | omega | assumption | exact hr _ _ rfl) (by decide) ?_
      refine mm_eqM (M' := mm_up M 5 j ((10 * b) + (M 20 j))) rfl ?_
      refine mm_goto 173 (mm_dc od_X1_seatThem_1 22 rfl) (by omega) ?_
      refine mm_iinc (L' := [(0, v_r 17), (1, v_r 1), (2, v_i b), (3, v_i hour), (4, v_i x), (5, v_i ((j : Int) + 1))]) (mm_dc od_X1_seatThem_1 37 rfl) rfl (by decide) rfl ?_
      refine mm_goto 104 (mm_dc od_X1_seatThem_1 38 rfl) (by omega) ?_
      have plc2 : plcX B b j = 10 * b + M 20 j := by unfold plcX; rw [h20j, if_pos (by omega)]
      exact L_st2 b hour n S hbB hn hS8 hJoB hJbB hchr k x (j + 1) (frm_up hf (by omega)) (fun i hi => by rw [mm_upa]; split; (next e => rw [e, plc2]); exact hlt i (by omega)) (fun i hi => by rw [mm_upa, if_neg (by omega)]; exact hge i (by omega)) (by omega)
termination_by n - j
decreasing_by all_goals (first | omega | (simp_wf; omega))
theorem c_X1_seatThem {X : Nat × (Nat → Int)} {d : Nat} {Po : mm_Po} {M : mm_M} (b : Int) (hour : Int) (hb : 0 ≤ b ∧ b < M 1 5) (hh : mm_r32 hour) (hJo : JO M) (hJb : JB M) (hcs : ∀ o, o ≤ (M 1 0).toNat → ∀ t, t < 2 ^ seX M b → 0 ≤ M 18 (256 * o + t) ∧ M 18 (256 * o + t) ≤ 1000) (hr : R32 M) (k : ∀ N : mm_M, (seatQ M N b hour) → Po none Lam N) : mm_E X (d + 2) 0 0 mi_X1_seatThem [v_r 17, v_r 1, v_i b, v_i hour] Po Lam M := by
  show mm_G X (d + 2) 0 0 mi_X1_seatThem Po 0 [(0, v_r 17), (1, v_r 1), (2, v_i b), (3, v_i hour)] [] Lam M 0 0
  have hs := seX_is hb hJb
  have hn0 := hJo.1
  refine mm_iconst (mm_dc od_X1_seatThem_0 0 rfl) ?_
  refine mm_aload_n (mm_dc od_X1_seatThem_0 1 rfl) rfl ?_
  refine mm_iload_n (mm_dc od_X1_seatThem_0 2 rfl) rfl ?_
  refine mm_callV (b := 1) (mi' := mi_X0_seats) [v_i b] [v_i 1] (mm_dc od_X1_seatThem_0 3 rfl) rfl wd_3_18 wd_2_120 wd_2_121 wd_1_2 wd_2_122 yk_X0_seats rfl rfl rfl (Nat.le_of_ble_eq_true rfl) rfl (by decide) (c_X0_seats b (by first | omega | assumption | exact hr _ _ rfl) hJb (by first | omega | assumption | exact hr _ _ rfl) ⟨Nat.le_refl _, ?_⟩)
  refine mm_ishl (mm_dc od_X1_seatThem_0 4 rfl) ?_
  refine mm_iconst (mm_dc od_X1_seatThem_0 5 rfl) ?_
  refine mm_isub (mm_dc od_X1_seatThem_0 6 rfl) ?_
  refine mm_istore (L' := [(0, v_r 17), (1, v_r 1), (2, v_i b), (3, v_i hour), (4, v_i ((fx_shl 1 (mm_seats (M 6 b.toNat).toNat)) - 1))]) (mm_dc od_X1_seatThem_0 7 rfl) (by decide) rfl ?_
  refine mm_iconst (mm_dc od_X1_seatThem_0 8 rfl) ?_
  refine mm_istore (L' := [(0, v_r 17), (1, v_r 1), (2, v_i b), (3, v_i hour), (4, v_i ((fx_shl 1 (mm_seats (M 6 b.toNat).toNat)) - 1)), (5, v_i 0)]) (mm_dc od_X1_seatThem_0 9 rfl) (by decide) rfl ?_
  have hsh : fx_shl 1 (mm_seats (M 6 b.toNat).toNat) = ((2 ^ seX M b : Nat) : Int) := by rw [hs.1]; exact fx_shl_1 (by omega)
  have hpow := Nat.one_le_two_pow (n := seX M b)
  refine mm_cL (L' := [(0, v_r 17), (1, v_r 1), (2, v_i b), (3, v_i hour), (4, v_i ((opF (M 20) (seX M b) 0 : Nat) : Int)), (5, v_i ((0 : Nat) : Int))]) (by rw [hsh]; simp only [opF]; rw [Int.natCast_sub hpow]; rfl) ?_
  refine L_st1 (B := M) b hour (M 1 0).toNat (seX M b) hb hh (by omega) rfl hs.2 hJo hJb hcs (fun N hN x y => ?_) 0 (fr3_0 hr) rfl (fun o ho => by omega) (by omega)
  obtain ⟨q1, q2, q3⟩ := hN
  have h1 := q1.2 1 (by omega)
  refine mm_iconst (mm_dc od_X1_seatThem_0 58 rfl) ?_
  refine mm_istore (L' := [(0, v_r 17), (1, v_r 1), (2, v_i b), (3, v_i hour), (4, v_i x), (5, v_i 0)]) (mm_dc od_X1_seatThem_0 59 rfl) (by decide) rfl ?_
  exact L_st2 (B := N) b hour (M 1 0).toNat (seX M b) (by rw [h1]; exact hb) (by rw [h1]; omega) hs.2 ((fr3_J q1).1 hJo) ((fr3_J q1).2 hJb) (fun o ho => chX_r (q3 o ho)) (fun N2 hN2 => k N2 ⟨N, q1, q2, q3, hN2.1, fun o => by rw [← h1]; exact hN2.2 o⟩) x 0 (frm_0 q1.1) (fun i hi => by omega) (fun i hi => rfl) (by omega)
