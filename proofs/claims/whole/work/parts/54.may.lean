theorem bcA_le (x : Nat) : (x / 2 &&& 1431655765) ≤ x := Nat.le_trans Nat.and_le_left (Nat.div_le_self _ _)
theorem bcSA {x : Nat} (hx : x < 65536) : (x : Int) - fx_and (fx_ushr (x : Int) 1) 1431655765 = (bcA x : Int) := by
  have h1 := fx_ushr_n (a := x) (j := 1) (by decide) (by omega)
  have h2 := fx_and_n (a := x / 2) (b := 1431655765) (by omega)
  have h3 := bcA_le x
  rw [show ((1 : Nat) : Int) = 1 from rfl, show 2 ^ 1 = 2 from rfl] at h1
  rw [show ((1431655765 : Nat) : Int) = 1431655765 from rfl] at h2
  rw [h1, h2]
  unfold bcA
  omega
theorem bcSB {a : Nat} (ha : a < 65536) : fx_and (a : Int) 858993459 + fx_and (fx_ushr (a : Int) 2) 858993459 = (bcB a : Int) := by
  have h1 := fx_ushr_n (a := a) (j := 2) (by decide) (by omega)
  have h2 := fx_and_n (a := a) (b := 858993459) (by omega)
  have h3 := fx_and_n (a := a / 4) (b := 858993459) (by omega)
  rw [show ((2 : Nat) : Int) = 2 from rfl, show 2 ^ 2 = 4 from rfl] at h1
  rw [show ((858993459 : Nat) : Int) = 858993459 from rfl] at h2 h3
  rw [h1, h2, h3]
  unfold bcB
  omega
theorem bcSC {b : Nat} (hb : b < 200000) : fx_and ((b : Int) + fx_ushr (b : Int) 4) 252645135 = (bcC b : Int) := by
  have h1 := fx_ushr_n (a := b) (j := 4) (by decide) (by omega)
  have h2 := fx_and_n (a := b + b / 16) (b := 252645135) (by omega)
  rw [show ((4 : Nat) : Int) = 4 from rfl, show 2 ^ 4 = 16 from rfl] at h1
  rw [show ((252645135 : Nat) : Int) = 252645135 from rfl] at h2
  rw [h1, ← Int.natCast_add, h2]
  rfl
theorem bcSD {c : Nat} (hc : c < 1000000) : (c : Int) + fx_ushr (c : Int) 8 = (bcD c : Int) := by
  have h1 := fx_ushr_n (a := c) (j := 8) (by decide) (by omega)
  rw [show ((8 : Nat) : Int) = 8 from rfl, show 2 ^ 8 = 256 from rfl] at h1
  rw [h1, ← Int.natCast_add]
  rfl
theorem bcSE {c : Nat} (hc : c < 10000000) : (c : Int) + fx_ushr (c : Int) 16 = (bcE c : Int) := by
  have h1 := fx_ushr_n (a := c) (j := 16) (by decide) (by omega)
  rw [show ((16 : Nat) : Int) = 16 from rfl, show 2 ^ 16 = 65536 from rfl] at h1
  rw [h1, ← Int.natCast_add]
  rfl
theorem bcSF {c : Nat} (hc : c < 100000000) : fx_and (c : Int) 63 = ((c &&& 63 : Nat) : Int) := by
  have h2 := fx_and_n (a := c) (b := 63) (by omega)
  exact h2
theorem bc_b {x : Nat} (hx : x < 65536) : bcA x < 65536 ∧ bcB (bcA x) < 200000 ∧ bcC (bcB (bcA x)) < 1000000 ∧ bcD (bcC (bcB (bcA x))) < 10000000 ∧ bcE (bcD (bcC (bcB (bcA x)))) < 100000000 := by
  have lA : bcA x ≤ x := Nat.sub_le _ _
  have lB : bcB (bcA x) < 200000 := by
    have h1 : (bcA x &&& 858993459) ≤ bcA x := Nat.and_le_left
    have h2 : (bcA x / 4 &&& 858993459) ≤ bcA x / 4 := Nat.and_le_left
    unfold bcB
    omega
  have lC : bcC (bcB (bcA x)) < 1000000 := by
    have h1 : ((bcB (bcA x) + bcB (bcA x) / 16) &&& 252645135) ≤ bcB (bcA x) + bcB (bcA x) / 16 := Nat.and_le_left
    unfold bcC
    omega
  have lD : bcD (bcC (bcB (bcA x))) < 10000000 := by
    unfold bcD
    omega
  refine ⟨by omega, lB, lC, lD, ?_⟩
  unfold bcE
  omega
theorem c_J6_bitCount_0f7a4 {X : Nat × (Nat → Int)} {d : Nat} {Po : mm_Po} {M : mm_M} (x : Int) (hx : 0 ≤ x ∧ x < 65536) (k : Po (some (v_i (cntb x.toNat))) Lam M) : mm_E X d 0 0 mi_J6_bitCount_0f7a4 [v_i x] Po Lam M := by
  show mm_G X d 0 0 mi_J6_bitCount_0f7a4 Po 0 [(0, v_i x)] [] Lam M 0 0
  refine mm_iload_n (mm_dc od_J6_bitCount_0f7a4_0 0 rfl) rfl ?_
  refine mm_iload_n (mm_dc od_J6_bitCount_0f7a4_0 1 rfl) rfl ?_
  refine mm_iconst (mm_dc od_J6_bitCount_0f7a4_0 2 rfl) ?_
  refine mm_iushr (mm_dc od_J6_bitCount_0f7a4_0 3 rfl) ?_
  refine mm_ldcw (z := 1431655765) (mm_dc od_J6_bitCount_0f7a4_0 4 rfl) wd_2_184 ?_
  refine mm_iand (mm_dc od_J6_bitCount_0f7a4_0 5 rfl) ?_
  refine mm_isub (mm_dc od_J6_bitCount_0f7a4_0 6 rfl) ?_
  refine mm_istore_n (L' := [(0, v_i (x - (fx_and (fx_ushr x 1) 1431655765)))]) (mm_dc od_J6_bitCount_0f7a4_0 7 rfl) (by decide) rfl ?_
  refine mm_iload_n (mm_dc od_J6_bitCount_0f7a4_0 8 rfl) rfl ?_
  refine mm_ldcw (z := 858993459) (mm_dc od_J6_bitCount_0f7a4_0 9 rfl) wd_2_185 ?_
  refine mm_iand (mm_dc od_J6_bitCount_0f7a4_0 10 rfl) ?_
  refine mm_iload_n (mm_dc od_J6_bitCount_0f7a4_0 11 rfl) rfl ?_
  refine mm_iconst (mm_dc od_J6_bitCount_0f7a4_0 12 rfl) ?_
  refine mm_iushr (mm_dc od_J6_bitCount_0f7a4_0 13 rfl) ?_
  refine mm_ldcw (z := 858993459) (mm_dc od_J6_bitCount_0f7a4_0 14 rfl) wd_2_185 ?_
  refine mm_iand (mm_dc od_J6_bitCount_0f7a4_0 15 rfl) ?_
  refine mm_iadd (mm_dc od_J6_bitCount_0f7a4_0 16 rfl) ?_
  refine mm_istore_n (L' := [(0, v_i ((fx_and (x - (fx_and (fx_ushr x 1) 1431655765)) 858993459) + (fx_and (fx_ushr (x - (fx_and (fx_ushr x 1) 1431655765)) 2) 858993459)))]) (mm_dc od_J6_bitCount_0f7a4_0 17 rfl) (by decide) rfl ?_
  refine mm_iload_n (mm_dc od_J6_bitCount_0f7a4_0 18 rfl) rfl ?_
  refine mm_iload_n (mm_dc od_J6_bitCount_0f7a4_0 19 rfl) rfl ?_
  refine mm_iconst (mm_dc od_J6_bitCount_0f7a4_0 20 rfl) ?_
  refine mm_iushr (mm_dc od_J6_bitCount_0f7a4_0 21 rfl) ?_
  refine mm_iadd (mm_dc od_J6_bitCount_0f7a4_0 22 rfl) ?_
  refine mm_ldcw (z := 252645135) (mm_dc od_J6_bitCount_0f7a4_0 23 rfl) wd_2_186 ?_
  refine mm_iand (mm_dc od_J6_bitCount_0f7a4_0 24 rfl) ?_
  refine mm_istore_n (L' := [(0, v_i (fx_and (((fx_and (x - (fx_and (fx_ushr x 1) 1431655765)) 858993459) + (fx_and (fx_ushr (x - (fx_and (fx_ushr x 1) 1431655765)) 2) 858993459)) + (fx_ushr ((fx_and (x - (fx_and (fx_ushr x 1) 1431655765)) 858993459) + (fx_and (fx_ushr (x - (fx_and (fx_ushr x 1) 1431655765)) 2) 858993459)) 4)) 252645135))]) (mm_dc od_J6_bitCount_0f7a4_0 25 rfl) (by decide) rfl ?_
  refine mm_iload_n (mm_dc od_J6_bitCount_0f7a4_0 26 rfl) rfl ?_
  refine mm_iload_n (mm_dc od_J6_bitCount_0f7a4_0 27 rfl) rfl ?_
  refine mm_bipush (mm_dc od_J6_bitCount_0f7a4_0 28 rfl) (by decide) ?_
  refine mm_iushr (mm_dc od_J6_bitCount_0f7a4_0 29 rfl) ?_
  refine mm_iadd (mm_dc od_J6_bitCount_0f7a4_0 30 rfl) ?_
  refine mm_istore_n (L' := [(0, v_i ((fx_and (((fx_and (x - (fx_and (fx_ushr x 1) 1431655765)) 858993459) + (fx_and (fx_ushr (x - (fx_and (fx_ushr x 1) 1431655765)) 2) 858993459)) + (fx_ushr ((fx_and (x - (fx_and (fx_ushr x 1) 1431655765)) 858993459) + (fx_and (fx_ushr (x - (fx_and (fx_ushr x 1) 1431655765)) 2) 858993459)) 4)) 252645135) + (fx_ushr (fx_and (((fx_and (x - (fx_and (fx_ushr x 1) 1431655765)) 858993459) + (fx_and (fx_ushr (x - (fx_and (fx_ushr x 1) 1431655765)) 2) 858993459)) + (fx_ushr ((fx_and (x - (fx_and (fx_ushr x 1) 1431655765)) 858993459) + (fx_and (fx_ushr (x - (fx_and (fx_ushr x 1) 1431655765)) 2) 858993459)) 4)) 252645135) 8)))]) (mm_dc od_J6_bitCount_0f7a4_0 31 rfl) (by decide) rfl ?_
  refine mm_iload_n (mm_dc od_J6_bitCount_0f7a4_0 32 rfl) rfl ?_
  refine mm_iload_n (mm_dc od_J6_bitCount_0f7a4_0 33 rfl) rfl ?_
  refine mm_bipush (mm_dc od_J6_bitCount_0f7a4_0 34 rfl) (by decide) ?_
  refine mm_iushr (mm_dc od_J6_bitCount_0f7a4_0 35 rfl) ?_
  refine mm_iadd (mm_dc od_J6_bitCount_0f7a4_0 36 rfl) ?_
  refine mm_istore_n (L' := [(0, v_i (((fx_and (((fx_and (x - (fx_and (fx_ushr x 1) 1431655765)) 858993459) + (fx_and (fx_ushr (x - (fx_and (fx_ushr x 1) 1431655765)) 2) 858993459)) + (fx_ushr ((fx_and (x - (fx_and (fx_ushr x 1) 1431655765)) 858993459) + (fx_and (fx_ushr (x - (fx_and (fx_ushr x 1) 1431655765)) 2) 858993459)) 4)) 252645135) + (fx_ushr (fx_and (((fx_and (x - (fx_and (fx_ushr x 1) 1431655765)) 858993459) + (fx_and (fx_ushr (x - (fx_and (fx_ushr x 1) 1431655765)) 2) 858993459)) + (fx_ushr ((fx_and (x - (fx_and (fx_ushr x 1) 1431655765)) 858993459) + (fx_and (fx_ushr (x - (fx_and (fx_ushr x 1) 1431655765)) 2) 858993459)) 4)) 252645135) 8)) + (fx_ushr ((fx_and (((fx_and (x - (fx_and (fx_ushr x 1) 1431655765)) 858993459) + (fx_and (fx_ushr (x - (fx_and (fx_ushr x 1) 1431655765)) 2) 858993459)) + (fx_ushr ((fx_and (x - (fx_and (fx_ushr x 1) 1431655765)) 858993459) + (fx_and (fx_ushr (x - (fx_and (fx_ushr x 1) 1431655765)) 2) 858993459)) 4)) 252645135) + (fx_ushr (fx_and (((fx_and (x - (fx_and (fx_ushr x 1) 1431655765)) 858993459) + (fx_and (fx_ushr (x - (fx_and (fx_ushr x 1) 1431655765)) 2) 858993459)) + (fx_ushr ((fx_and (x - (fx_and (fx_ushr x 1) 1431655765)) 858993459) + (fx_and (fx_ushr (x - (fx_and (fx_ushr x 1) 1431655765)) 2) 858993459)) 4)) 252645135) 8)) 16)))]) (mm_dc od_J6_bitCount_0f7a4_0 37 rfl) (by decide) rfl ?_
  refine mm_iload_n (mm_dc od_J6_bitCount_0f7a4_0 38 rfl) rfl ?_
  refine mm_bipush (mm_dc od_J6_bitCount_0f7a4_0 39 rfl) (by decide) ?_
  refine mm_iand (mm_dc od_J6_bitCount_0f7a4_0 40 rfl) ?_
  refine mm_iret (mm_dc od_J6_bitCount_0f7a4_0 41 rfl) rfl ?_
  obtain ⟨n, rfl⟩ : ∃ n : Nat, x = n := ⟨x.toNat, by omega⟩
  obtain ⟨q1, q2, q3, q4, q5⟩ := bc_b (x := n) (by omega)
  rw [bcSA (by omega), bcSB q1, bcSC q2, bcSD q3, bcSE q4, bcSF q5]
  exact mm_pi (by rw [Int.toNat_natCast, pcE_cntb, ← bcN_eq (by omega)]; rfl) k
def inX (M : mm_M) (b : Int) (o : Nat) : Bool := decide (M 5 o ≠ -1 ∧ M 5 o / 10 = b)
def inM (M : mm_M) (b : Int) (o : Nat) : Bool := decide (M 53 o = b)
theorem rowc_more {C : Nat → Bool} {n : Nat} (h : ∀ i, n ≤ i → C i = false) : ∀ k : Nat, rowc C (n + k) = rowc C n
  | 0 => rfl
  | k + 1 => by
    rw [show n + (k + 1) = (n + k) + 1 by omega]
    simp only [rowc]
    rw [rowc_more h k, h (n + k) (by omega)]
    simp
theorem bitsP_cnt {m n : Nat} {C : Nat → Bool} (hn : n ≤ 16) (h : bitsP m (fun i => C i = true) n) : cntb m = rowc C n := by
  unfold cntb
  have h1 := rowc_more (C := fun i => m.testBit i) (n := n) (fun i hi => by
    rw [← Bool.not_eq_true]
    intro q
    have := (h.2 i).mp q
    omega) (16 - n)
  rw [show n + (16 - n) = 16 by omega] at h1
  rw [h1]
  refine rowc_cong (fun i hi => ?_)
  rw [Bool.eq_iff_iff, h.2 i]
  simp [hi]
theorem L_aboard {X : Nat × (Nat → Int)} {d : Nat} {Po : mm_Po} {M : mm_M} (b : Int) (hb : mm_r32 b) (hJo : JO M) (hr : R32 M) (k : ∀ r : Int, (∃ m : Nat, r = m ∧ bitsP m (fun i => inX M b i = true) (M 1 0).toNat) → Po (some (v_i r)) Lam M) (m j : Nat) (hm : bitsP m (fun i => inX M b i = true) j) (hj : (j : Int) ≤ M 1 0) : mm_G X (d + 1) 0 0 mi_X0_aboard Po 4 [(0, v_r 1), (1, v_i b), (2, v_i (m : Int)), (3, v_i (j : Int))] [] Lam M 0 0 := by
  have hJo2 := hJo
  obtain ⟨ho0, ho16, hO⟩ := hJo2
  have hO1 := hO j
  refine mm_iload_n (mm_dc od_X0_aboard_0 4 rfl) rfl ?_
  refine mm_aload_n (mm_dc od_X0_aboard_0 5 rfl) rfl ?_
  refine mm_getI (ci := 0) (k := 0) (mm_dc od_X0_aboard_0 6 rfl) rfl in_X0 (by decide) wd_1_34 rfl rfl ?_
  refine mm_icmp_ge 33 (mm_dc od_X0_aboard_0 7 rfl) (by omega) (by first | assumption | omega | exact hr _ _ rfl | exact mm_ti _ | exact mm_r3264 (hr _ _ rfl)) (by first | assumption | omega | exact hr _ _ rfl | exact mm_ti _ | exact mm_r3264 (hr _ _ rfl)) (fun c1 => ?_) (fun c1 => ?_)
  · refine mm_iload_n (mm_dc od_X0_aboard_0 21 rfl) rfl ?_
    refine mm_iret (mm_dc od_X0_aboard_0 22 rfl) rfl ?_
    have e : j = (M 1 0).toNat := by omega
    exact k _ ⟨m, rfl, e ▸ hm⟩
  · refine mm_aload_n (mm_dc od_X0_aboard_0 8 rfl) rfl ?_
    refine mm_iload_n (mm_dc od_X0_aboard_0 9 rfl) rfl ?_
    refine mm_iload_n (mm_dc od_X0_aboard_0 10 rfl) rfl ?_
    refine mm_callV (b := 1) (mi' := mi_X0_sitsIn) [v_i (j : Int), v_i b] [] (mm_dc od_X0_aboard_0 11 rfl) rfl wd_3_188 wd_3_38 wd_3_39 wd_1_2 wd_3_40 yk_X0_sitsIn rfl rfl rfl (Nat.le_of_ble_eq_true rfl) rfl (by decide) (c_X0_sitsIn (j : Int) b (by first | assumption | omega | exact hr _ _ rfl | exact mm_ti _ | exact mm_r3264 (hr _ _ rfl)) (by first | assumption | omega | exact hr _ _ rfl | exact mm_ti _ | exact mm_r3264 (hr _ _ rfl)) hJo (by first | assumption | omega | exact hr _ _ rfl | exact mm_ti _ | exact mm_r3264 (hr _ _ rfl)) (fun c2 => ⟨Nat.le_refl _, ?_⟩) (fun c2 => ⟨Nat.le_refl _, ?_⟩))
    · simp only [Int.toNat_natCast] at c2
      refine mm_if_eq 27 (mm_dc od_X0_aboard_0 12 rfl) (by omega) (by first | assumption | omega | exact hr _ _ rfl | exact mm_ti _ | exact mm_r3264 (hr _ _ rfl)) (fun h => absurd h (by decide)) (fun _ => ?_)
      refine mm_iload_n (mm_dc od_X0_aboard_0 13 rfl) rfl ?_
      refine mm_iconst (mm_dc od_X0_aboard_0 14 rfl) ?_
      refine mm_iload_n (mm_dc od_X0_aboard_0 15 rfl) rfl ?_
      refine mm_ishl (mm_dc od_X0_aboard_0 16 rfl) ?_
      refine mm_ior (mm_dc od_X0_aboard_0 17 rfl) ?_
      refine mm_istore_n (L' := [(0, v_r 1), (1, v_i b), (2, v_i (fx_or (m : Int) (fx_shl 1 (j : Int)))), (3, v_i (j : Int))]) (mm_dc od_X0_aboard_0 18 rfl) (by decide) rfl ?_
      refine mm_iinc (L' := [(0, v_r 1), (1, v_i b), (2, v_i (fx_or (m : Int) (fx_shl 1 (j : Int)))), (3, v_i ((j : Int) + 1))]) (mm_dc od_X0_aboard_0 19 rfl) rfl (by decide) rfl ?_
      refine mm_goto 4 (mm_dc od_X0_aboard_0 20 rfl) (by omega) ?_
      rw [fx_shl_1 (by omega), fx_or_n (Nat.lt_of_lt_of_le (bitsP_16 hm (by omega)) (by decide)) (Nat.lt_of_lt_of_le (Nat.pow_lt_pow_right (by decide) (show j < 16 by omega)) (by decide))]
      exact L_aboard b hb hJo hr k (m ||| 2 ^ j) (j + 1) (bitsP_new hm (by unfold inX; rw [decide_eq_true_eq]; assumption)) (by omega)
    · simp only [Int.toNat_natCast] at c2
      refine mm_if_eq 27 (mm_dc od_X0_aboard_0 12 rfl) (by omega) (by first | assumption | omega | exact hr _ _ rfl | exact mm_ti _ | exact mm_r3264 (hr _ _ rfl)) (fun _ => ?_) (fun h => absurd h (by decide))
      refine mm_iinc (L' := [(0, v_r 1), (1, v_i b), (2, v_i (m : Int)), (3, v_i ((j : Int) + 1))]) (mm_dc od_X0_aboard_0 19 rfl) rfl (by decide) rfl ?_
      refine mm_goto 4 (mm_dc od_X0_aboard_0 20 rfl) (by omega) ?_
      exact L_aboard b hb hJo hr k m (j + 1) (bitsP_old hm (by unfold inX; rw [decide_eq_true_eq]; assumption)) (by omega)
termination_by (M 1 0).toNat - j
decreasing_by all_goals (first | omega | (simp_wf; omega))
theorem abq_r {n : Nat} {P : Nat → Prop} {r : Int} (hn : n ≤ 16) (h : ∃ m : Nat, r = m ∧ bitsP m P n) : 0 ≤ r ∧ r < 65536 := by
  obtain ⟨m, rfl, h⟩ := h
  have := bitsP_16 h hn
  omega
theorem c_X0_aboard {X : Nat × (Nat → Int)} {d : Nat} {Po : mm_Po} {M : mm_M} (b : Int) (hb : mm_r32 b) (hJo : JO M) (hr : R32 M) (k : ∀ r : Int, (∃ m : Nat, r = m ∧ bitsP m (fun i => inX M b i = true) (M 1 0).toNat) → Po (some (v_i r)) Lam M) : mm_E X (d + 1) 0 0 mi_X0_aboard [v_r 1, v_i b] Po Lam M := by
  show mm_G X (d + 1) 0 0 mi_X0_aboard Po 0 [(0, v_r 1), (1, v_i b)] [] Lam M 0 0
  refine mm_iconst (mm_dc od_X0_aboard_0 0 rfl) ?_
  refine mm_istore_n (L' := [(0, v_r 1), (1, v_i b), (2, v_i 0)]) (mm_dc od_X0_aboard_0 1 rfl) (by decide) rfl ?_
  refine mm_iconst (mm_dc od_X0_aboard_0 2 rfl) ?_
  refine mm_istore_n (L' := [(0, v_r 1), (1, v_i b), (2, v_i 0), (3, v_i 0)]) (mm_dc od_X0_aboard_0 3 rfl) (by decide) rfl ?_
  exact L_aboard b hb hJo hr k 0 0 bitsP_0 (by have := hJo.1; omega)
def manX (M : mm_M) (b : Int) : Prop := rowc (inX M b) (M 1 0).toNat = mm_seats (M 6 b.toNat).toNat + (if M 6 b.toNat = 1 ∨ M 6 b.toNat = 2 then 1 else 0)
def wgX (M : mm_M) (b : Int) (o : Nat) : Int := if (M 5 o ≠ -1 ∧ M 5 o / 10 = b) ∧ ¬ (M 5 o ≠ -1 ∧ M 5 o % 10 = 8) then M 3 o else 0
theorem sumI_r {f : Nat → Int} {c : Int} : ∀ n : Nat, (∀ i, i < n → 0 ≤ f i ∧ f i ≤ c) → 0 ≤ sumI f n ∧ sumI f n ≤ n * c
  | 0, _ => by simp [sumI]
  | n + 1, h => by
    have h1 := sumI_r n (fun i hi => h i (by omega))
    have h2 := h n (by omega)
    simp only [sumI]
    rw [show ((n + 1 : Nat) : Int) * c = n * c + c by rw [Int.natCast_add, Int.add_mul]; simp]
    omega
theorem c_X0_isManned {X : Nat × (Nat → Int)} {d : Nat} {Po : mm_Po} {M : mm_M} (b : Int) (hb : 0 ≤ b ∧ b < M 1 5) (hJo : JO M) (hJb : JB M) (hr : R32 M) (kt : manX M b → Po (some (v_i 1)) Lam M) (kf : ¬ (manX M b) → Po (some (v_i 0)) Lam M) : mm_E X (d + 2) 0 0 mi_X0_isManned [v_r 1, v_i b] Po Lam M := by
  show mm_G X (d + 2) 0 0 mi_X0_isManned Po 0 [(0, v_r 1), (1, v_i b)] [] Lam M 0 0
  have hJb2 := hJb
  obtain ⟨hb0, hb8, hB⟩ := hJb2
  have hB1 := hB b.toNat
  have hse := mm_seats_le (M 6 b.toNat).toNat (by omega)
  have ho16 := hJo.2.1
  refine mm_aload_n (mm_dc od_X0_isManned_0 0 rfl) rfl ?_
  refine mm_iload_n (mm_dc od_X0_isManned_0 1 rfl) rfl ?_
  refine mm_callV (b := 1) (mi' := mi_X0_aboard) [v_i b] [] (mm_dc od_X0_isManned_0 2 rfl) rfl wd_3_221 wd_3_222 wd_3_223 wd_1_2 wd_3_224 yk_X0_aboard rfl rfl rfl (Nat.le_of_ble_eq_true rfl) rfl (by decide) (c_X0_aboard b (by first | assumption | omega | exact hr _ _ rfl | (have := cntb_r (Int.toNat r1); omega) | (have := cntb_r (Int.toNat r2); omega)) hJo (by first | assumption | omega | exact hr _ _ rfl | (have := cntb_r (Int.toNat r1); omega) | (have := cntb_r (Int.toNat r2); omega)) (fun r1 hq2 => ⟨Nat.le_refl _, ?_⟩))
  have hq2_r := abq_r (by have := hJo.2.1; omega) hq2
  refine mm_callS (mi' := mi_J6_bitCount_0f7a4) [v_i r1] [] (mm_dc od_X0_isManned_0 3 rfl) rfl wd_3_225 wd_2_182 wd_1_13 wd_2_183 yk_J6_bitCount_0f7a4 (Nat.le_of_ble_eq_true rfl) rfl (by decide) (c_J6_bitCount_0f7a4 r1 (by first | assumption | omega | exact hr _ _ rfl | (have := cntb_r (Int.toNat r1); omega) | (have := cntb_r (Int.toNat r2); omega)) ⟨Nat.le_refl _, ?_⟩)
  refine mm_aload_n (mm_dc od_X0_isManned_0 4 rfl) rfl ?_
  refine mm_iload_n (mm_dc od_X0_isManned_0 5 rfl) rfl ?_
  refine mm_callV (b := 1) (mi' := mi_X0_seats) [v_i b] [v_i (cntb r1.toNat)] (mm_dc od_X0_isManned_0 6 rfl) rfl wd_2_119 wd_2_120 wd_2_121 wd_1_2 wd_2_122 yk_X0_seats rfl rfl rfl (Nat.le_of_ble_eq_true rfl) rfl (by decide) (c_X0_seats b (by first | assumption | omega | exact hr _ _ rfl | (have := cntb_r (Int.toNat r1); omega) | (have := cntb_r (Int.toNat r2); omega)) hJb (by first | assumption | omega | exact hr _ _ rfl | (have := cntb_r (Int.toNat r1); omega) | (have := cntb_r (Int.toNat r2); omega)) ⟨Nat.le_refl _, ?_⟩)
  refine mm_aload_n (mm_dc od_X0_isManned_0 7 rfl) rfl ?_
  refine mm_iload_n (mm_dc od_X0_isManned_0 8 rfl) rfl ?_
  refine mm_callV (b := 1) (mi' := mi_X0_hasCox) [v_i b] [v_i (mm_seats (M 6 b.toNat).toNat), v_i (cntb r1.toNat)] (mm_dc od_X0_isManned_0 9 rfl) rfl wd_2_115 wd_2_116 wd_2_117 wd_1_2 wd_2_118 yk_X0_hasCox rfl rfl rfl (Nat.le_of_ble_eq_true rfl) rfl (by decide) (c_X0_hasCox b (by first | assumption | omega | exact hr _ _ rfl | (have := cntb_r (Int.toNat r1); omega) | (have := cntb_r (Int.toNat r2); omega)) hJb (by first | assumption | omega | exact hr _ _ rfl | (have := cntb_r (Int.toNat r1); omega) | (have := cntb_r (Int.toNat r2); omega)) (fun c3 => ⟨Nat.le_refl _, ?_⟩) (fun c3 => ⟨Nat.le_refl _, ?_⟩))
  · refine mm_if_eq 25 (mm_dc od_X0_isManned_0 10 rfl) (by omega) (by first | assumption | omega | exact hr _ _ rfl | (have := cntb_r (Int.toNat r1); omega) | (have := cntb_r (Int.toNat r2); omega)) (fun h => absurd h (by decide)) (fun _ => ?_)
    refine mm_iconst (mm_dc od_X0_isManned_0 11 rfl) ?_
    refine mm_goto 26 (mm_dc od_X0_isManned_0 12 rfl) (by omega) ?_
    refine mm_iadd (mm_dc od_X0_isManned_0 14 rfl) ?_
    refine mm_icmp_ne 34 (mm_dc od_X0_isManned_0 15 rfl) (by omega) (by first | assumption | omega | exact hr _ _ rfl | (have := cntb_r (Int.toNat r1); omega) | (have := cntb_r (Int.toNat r2); omega)) (by first | assumption | omega | exact hr _ _ rfl | (have := cntb_r (Int.toNat r1); omega) | (have := cntb_r (Int.toNat r2); omega)) (fun c4 => ?_) (fun c4 => ?_)
    · refine mm_iconst (mm_dc od_X0_isManned_0 18 rfl) ?_
      refine mm_zret .boolean (mm_dc od_X0_isManned_0 19 rfl) rfl rfl ?_
      obtain ⟨m, e, hm⟩ := hq2
      subst e
      have hc := bitsP_cnt (C := inX M b) (by omega) hm
      rw [Int.toNat_natCast] at *
      exact kf (by unfold manX; (first | rw [if_pos (by assumption)] | rw [if_neg (by assumption)]); omega)
    · refine mm_iconst (mm_dc od_X0_isManned_0 16 rfl) ?_
      refine mm_goto 35 (mm_dc od_X0_isManned_0 17 rfl) (by omega) ?_
      refine mm_zret .boolean (mm_dc od_X0_isManned_0 19 rfl) rfl rfl ?_
      obtain ⟨m, e, hm⟩ := hq2
      subst e
      have hc := bitsP_cnt (C := inX M b) (by omega) hm
      rw [Int.toNat_natCast] at *
      exact kt (by unfold manX; (first | rw [if_pos (by assumption)] | rw [if_neg (by assumption)]); omega)
  · refine mm_if_eq 25 (mm_dc od_X0_isManned_0 10 rfl) (by omega) (by first | assumption | omega | exact hr _ _ rfl | (have := cntb_r (Int.toNat r1); omega) | (have := cntb_r (Int.toNat r2); omega)) (fun _ => ?_) (fun h => absurd h (by decide))
    refine mm_iconst (mm_dc od_X0_isManned_0 13 rfl) ?_
    refine mm_iadd (mm_dc od_X0_isManned_0 14 rfl) ?_
    refine mm_icmp_ne 34 (mm_dc od_X0_isManned_0 15 rfl) (by omega) (by first | assumption | omega | exact hr _ _ rfl | (have := cntb_r (Int.toNat r1); omega) | (have := cntb_r (Int.toNat r2); omega)) (by first | assumption | omega | exact hr _ _ rfl | (have := cntb_r (Int.toNat r1); omega) | (have := cntb_r (Int.toNat r2); omega)) (fun c5 => ?_) (fun c5 => ?_)
    · refine mm_iconst (mm_dc od_X0_isManned_0 18 rfl) ?_
      refine mm_zret .boolean (mm_dc od_X0_isManned_0 19 rfl) rfl rfl ?_
      obtain ⟨m, e, hm⟩ := hq2
      subst e
      have hc := bitsP_cnt (C := inX M b) (by omega) hm
      rw [Int.toNat_natCast] at *
      exact kf (by unfold manX; (first | rw [if_pos (by assumption)] | rw [if_neg (by assumption)]); omega)
    · refine mm_iconst (mm_dc od_X0_isManned_0 16 rfl) ?_
      refine mm_goto 35 (mm_dc od_X0_isManned_0 17 rfl) (by omega) ?_
      refine mm_zret .boolean (mm_dc od_X0_isManned_0 19 rfl) rfl rfl ?_
      obtain ⟨m, e, hm⟩ := hq2
      subst e
      have hc := bitsP_cnt (C := inX M b) (by omega) hm
      rw [Int.toNat_natCast] at *
      exact kt (by unfold manX; (first | rw [if_pos (by assumption)] | rw [if_neg (by assumption)]); omega)
theorem L_mean {X : Nat × (Nat → Int)} {d : Nat} {Po : mm_Po} {M : mm_M} (b : Int) (hb : 0 ≤ b ∧ b < M 1 5) (hJo : JO M) (hJb : JB M) (hr : R32 M) (k : Po (some (v_i (Int.tdiv (sumI (wgX M b) (M 1 0).toNat) (mm_seats (M 6 b.toNat).toNat)))) Lam M) (j : Nat) (hj : (j : Int) ≤ M 1 0) : mm_G X (d + 1) 0 0 mi_X0_meanWeight Po 4 [(0, v_r 1), (1, v_i b), (2, v_i (sumI (wgX M b) j)), (3, v_i (j : Int))] [] Lam M 0 0 := by
  have hJo2 := hJo
  obtain ⟨ho0, ho16, hO⟩ := hJo2
  have hJb2 := hJb
  obtain ⟨hb0, hb8, hB⟩ := hJb2
  have hB1 := hB b.toNat
  have hse := mm_seats_le (M 6 b.toNat).toNat (by omega)
  have hO1 := hO j
  have hsum := sumI_r (f := wgX M b) (c := 150) j (fun i hi => by have h := hO i (by omega); unfold wgX; split <;> omega)
  refine mm_iload_n (mm_dc od_X0_meanWeight_0 4 rfl) rfl ?_
  refine mm_aload_n (mm_dc od_X0_meanWeight_0 5 rfl) rfl ?_
  refine mm_getI (ci := 0) (k := 0) (mm_dc od_X0_meanWeight_0 6 rfl) rfl in_X0 (by decide) wd_1_34 rfl rfl ?_
  refine mm_icmp_ge 44 (mm_dc od_X0_meanWeight_0 7 rfl) (by omega) (by first | assumption | omega | exact hr _ _ rfl | exact mm_ti _ | exact mm_r3264 (hr _ _ rfl)) (by first | assumption | omega | exact hr _ _ rfl | exact mm_ti _ | exact mm_r3264 (hr _ _ rfl)) (fun c1 => ?_) (fun c1 => ?_)
  · refine mm_aload_n (mm_dc od_X0_meanWeight_0 26 rfl) rfl ?_
    refine mm_iload_n (mm_dc od_X0_meanWeight_0 27 rfl) rfl ?_
    refine mm_callV (b := 1) (mi' := mi_X0_seats) [v_i b] [] (mm_dc od_X0_meanWeight_0 28 rfl) rfl wd_2_119 wd_2_120 wd_2_121 wd_1_2 wd_2_122 yk_X0_seats rfl rfl rfl (Nat.le_of_ble_eq_true rfl) rfl (by decide) (c_X0_seats b (by first | assumption | omega | exact hr _ _ rfl | exact mm_ti _ | exact mm_r3264 (hr _ _ rfl)) hJb (by first | assumption | omega | exact hr _ _ rfl | exact mm_ti _ | exact mm_r3264 (hr _ _ rfl)) ⟨Nat.le_refl _, ?_⟩)
    refine mm_istore_n (L' := [(0, v_r 1), (1, v_i b), (2, v_i (sumI (wgX M b) j)), (3, v_i (mm_seats (M 6 b.toNat).toNat))]) (mm_dc od_X0_meanWeight_0 29 rfl) (by decide) rfl ?_
    refine mm_iload_n (mm_dc od_X0_meanWeight_0 30 rfl) rfl ?_
    refine mm_if_le 60 (mm_dc od_X0_meanWeight_0 31 rfl) (by omega) (by first | assumption | omega | exact hr _ _ rfl | exact mm_ti _ | exact mm_r3264 (hr _ _ rfl)) (fun c2 => ?_) (fun c2 => ?_)
    · refine mm_iconst (mm_dc od_X0_meanWeight_0 36 rfl) ?_
      refine mm_iret (mm_dc od_X0_meanWeight_0 37 rfl) rfl ?_
      first | (exfalso; omega) | (have e : j = (M 1 0).toNat := (by omega); subst e; exact k)
    · refine mm_iload_n (mm_dc od_X0_meanWeight_0 32 rfl) rfl ?_
      refine mm_iload_n (mm_dc od_X0_meanWeight_0 33 rfl) rfl ?_
      refine mm_idiv (mm_dc od_X0_meanWeight_0 34 rfl) (by first | assumption | omega | exact hr _ _ rfl | exact mm_ti _ | exact mm_r3264 (hr _ _ rfl)) (by first | assumption | omega | exact hr _ _ rfl | exact mm_ti _ | exact mm_r3264 (hr _ _ rfl)) (by first | assumption | omega | exact hr _ _ rfl | exact mm_ti _ | exact mm_r3264 (hr _ _ rfl)) ?_
      refine mm_goto 61 (mm_dc od_X0_meanWeight_0 35 rfl) (by omega) ?_
      refine mm_iret (mm_dc od_X0_meanWeight_0 37 rfl) rfl ?_
      first | (exfalso; omega) | (have e : j = (M 1 0).toNat := (by omega); subst e; exact k)
  · refine mm_aload_n (mm_dc od_X0_meanWeight_0 8 rfl) rfl ?_
    refine mm_iload_n (mm_dc od_X0_meanWeight_0 9 rfl) rfl ?_
    refine mm_iload_n (mm_dc od_X0_meanWeight_0 10 rfl) rfl ?_
    refine mm_callV (b := 1) (mi' := mi_X0_sitsIn) [v_i (j : Int), v_i b] [] (mm_dc od_X0_meanWeight_0 11 rfl) rfl wd_3_188 wd_3_38 wd_3_39 wd_1_2 wd_3_40 yk_X0_sitsIn rfl rfl rfl (Nat.le_of_ble_eq_true rfl) rfl (by decide) (c_X0_sitsIn (j : Int) b (by first | assumption | omega | exact hr _ _ rfl | exact mm_ti _ | exact mm_r3264 (hr _ _ rfl)) (by first | assumption | omega | exact hr _ _ rfl | exact mm_ti _ | exact mm_r3264 (hr _ _ rfl)) hJo (by first | assumption | omega | exact hr _ _ rfl | exact mm_ti _ | exact mm_r3264 (hr _ _ rfl)) (fun c3 => ⟨Nat.le_refl _, ?_⟩) (fun c3 => ⟨Nat.le_refl _, ?_⟩))
    · simp only [Int.toNat_natCast] at c3
      refine mm_if_eq 38 (mm_dc od_X0_meanWeight_0 12 rfl) (by omega) (by first | assumption | omega | exact hr _ _ rfl | exact mm_ti _ | exact mm_r3264 (hr _ _ rfl)) (fun h => absurd h (by decide)) (fun _ => ?_)
      refine mm_aload_n (mm_dc od_X0_meanWeight_0 13 rfl) rfl ?_
      refine mm_iload_n (mm_dc od_X0_meanWeight_0 14 rfl) rfl ?_
      refine mm_callV (b := 1) (mi' := mi_X0_isCox) [v_i (j : Int)] [] (mm_dc od_X0_meanWeight_0 15 rfl) rfl wd_3_230 wd_3_34 wd_3_35 wd_1_2 wd_3_36 yk_X0_isCox rfl rfl rfl (Nat.le_of_ble_eq_true rfl) rfl (by decide) (c_X0_isCox (j : Int) (by first | assumption | omega | exact hr _ _ rfl | exact mm_ti _ | exact mm_r3264 (hr _ _ rfl)) hJo (by first | assumption | omega | exact hr _ _ rfl | exact mm_ti _ | exact mm_r3264 (hr _ _ rfl)) (fun c4 => ⟨Nat.le_refl _, ?_⟩) (fun c4 => ⟨Nat.le_refl _, ?_⟩))
      · simp only [Int.toNat_natCast] at c4
        refine mm_if_ne 38 (mm_dc od_X0_meanWeight_0 16 rfl) (by omega) (by first | assumption | omega | exact hr _ _ rfl | exact mm_ti _ | exact mm_r3264 (hr _ _ rfl)) (fun _ => ?_) (fun h => absurd h (by decide))
        refine mm_iinc (L' := [(0, v_r 1), (1, v_i b), (2, v_i (sumI (wgX M b) j)), (3, v_i ((j : Int) + 1))]) (mm_dc od_X0_meanWeight_0 24 rfl) rfl (by decide) rfl ?_
        refine mm_goto 4 (mm_dc od_X0_meanWeight_0 25 rfl) (by omega) ?_
        refine mm_cL (L' := [(0, v_r 1), (1, v_i b), (2, v_i (sumI (wgX M b) (j + 1))), (3, v_i ((j : Int) + 1))]) (by rw [show sumI (wgX M b) (j + 1) = sumI (wgX M b) j by simp only [sumI]; rw [show wgX M b j = 0 by unfold wgX; rw [if_neg (by omega)]]; omega]) ?_
        exact L_mean b hb hJo hJb hr k (j + 1) (by omega)
      · simp only [Int.toNat_natCast] at c4
        refine mm_if_ne 38 (mm_dc od_X0_meanWeight_0 16 rfl) (by omega) (by first | assumption | omega | exact hr _ _ rfl | exact mm_ti _ | exact mm_r3264 (hr _ _ rfl)) (fun h => absurd h (by decide)) (fun _ => ?_)
        refine mm_iload_n (mm_dc od_X0_meanWeight_0 17 rfl) rfl ?_
        refine mm_aload_n (mm_dc od_X0_meanWeight_0 18 rfl) rfl ?_
        refine mm_getR (ci := 0) (k := 2) (mm_dc od_X0_meanWeight_0 19 rfl) rfl in_X0 (by decide) wd_1_39 rfl rfl ?_
        refine mm_iload_n (mm_dc od_X0_meanWeight_0 20 rfl) rfl ?_
        refine mm_iald (mm_dc od_X0_meanWeight_0 21 rfl) rfl (by first | assumption | omega | exact hr _ _ rfl | exact mm_ti _ | exact mm_r3264 (hr _ _ rfl)) (by first | assumption | omega | exact hr _ _ rfl | exact mm_ti _ | exact mm_r3264 (hr _ _ rfl)) (by decide) ?_
        refine mm_cst (st' := [v_i (M 3 j), v_i (sumI (wgX M b) j)]) rfl ?_
        refine mm_iadd (mm_dc od_X0_meanWeight_0 22 rfl) ?_
        refine mm_istore_n (L' := [(0, v_r 1), (1, v_i b), (2, v_i ((sumI (wgX M b) j) + (M 3 j))), (3, v_i (j : Int))]) (mm_dc od_X0_meanWeight_0 23 rfl) (by decide) rfl ?_
        refine mm_iinc (L' := [(0, v_r 1), (1, v_i b), (2, v_i ((sumI (wgX M b) j) + (M 3 j))), (3, v_i ((j : Int) + 1))]) (mm_dc od_X0_meanWeight_0 24 rfl) rfl (by decide) rfl ?_
        refine mm_goto 4 (mm_dc od_X0_meanWeight_0 25 rfl) (by omega) ?_
        refine mm_cL (L' := [(0, v_r 1), (1, v_i b), (2, v_i (sumI (wgX M b) (j + 1))), (3, v_i ((j : Int) + 1))]) (by rw [show sumI (wgX M b) (j + 1) = sumI (wgX M b) j + M 3 j by simp only [sumI]; rw [show wgX M b j = M 3 j by unfold wgX; rw [if_pos (by omega)]]]) ?_
        exact L_mean b hb hJo hJb hr k (j + 1) (by omega)
    · simp only [Int.toNat_natCast] at c3
      refine mm_if_eq 38 (mm_dc od_X0_meanWeight_0 12 rfl) (by omega) (by first | assumption | omega | exact hr _ _ rfl | exact mm_ti _ | exact mm_r3264 (hr _ _ rfl)) (fun _ => ?_) (fun h => absurd h (by decide))
      refine mm_iinc (L' := [(0, v_r 1), (1, v_i b), (2, v_i (sumI (wgX M b) j)), (3, v_i ((j : Int) + 1))]) (mm_dc od_X0_meanWeight_0 24 rfl) rfl (by decide) rfl ?_
      refine mm_goto 4 (mm_dc od_X0_meanWeight_0 25 rfl) (by omega) ?_
      refine mm_cL (L' := [(0, v_r 1), (1, v_i b), (2, v_i (sumI (wgX M b) (j + 1))), (3, v_i ((j : Int) + 1))]) (by rw [show sumI (wgX M b) (j + 1) = sumI (wgX M b) j by simp only [sumI]; rw [show wgX M b j = 0 by unfold wgX; rw [if_neg (by omega)]]; omega]) ?_
      exact L_mean b hb hJo hJb hr k (j + 1) (by omega)
termination_by (M 1 0).toNat - j
decreasing_by all_goals (first | omega | (simp_wf; omega))
theorem c_X0_meanWeight {X : Nat × (Nat → Int)} {d : Nat} {Po : mm_Po} {M : mm_M} (b : Int) (hb : 0 ≤ b ∧ b < M 1 5) (hJo : JO M) (hJb : JB M) (hr : R32 M) (k : Po (some (v_i (Int.tdiv (sumI (wgX M b) (M 1 0).toNat) (mm_seats (M 6 b.toNat).toNat)))) Lam M) : mm_E X (d + 1) 0 0 mi_X0_meanWeight [v_r 1, v_i b] Po Lam M := by
  show mm_G X (d + 1) 0 0 mi_X0_meanWeight Po 0 [(0, v_r 1), (1, v_i b)] [] Lam M 0 0
  refine mm_iconst (mm_dc od_X0_meanWeight_0 0 rfl) ?_
  refine mm_istore_n (L' := [(0, v_r 1), (1, v_i b), (2, v_i 0)]) (mm_dc od_X0_meanWeight_0 1 rfl) (by decide) rfl ?_
  refine mm_iconst (mm_dc od_X0_meanWeight_0 2 rfl) ?_
  refine mm_istore_n (L' := [(0, v_r 1), (1, v_i b), (2, v_i 0), (3, v_i 0)]) (mm_dc od_X0_meanWeight_0 3 rfl) (by decide) rfl ?_
  exact L_mean b hb hJo hJb hr k 0 (by have := hJo.1; omega)
def okX (M : mm_M) (b hour : Int) : Prop := (∀ o : Nat, (o : Int) < M 1 0 → inX M b o = true → M 4 o = 0 ∧ (M 2 o ≠ 4 ∨ 7 ≤ hour))
theorem L_okX {X : Nat × (Nat → Int)} {d : Nat} {Po : mm_Po} {M : mm_M} (b hour : Int) (hb : mm_r32 b) (hh : mm_r32 hour) (hJo : JO M) (hr : R32 M) (kt : okX M b hour → Po (some (v_i 1)) Lam M) (kf : ¬ okX M b hour → Po (some (v_i 0)) Lam M) (j : Nat) (hj : ∀ o : Nat, o < j → inX M b o = true → M 4 o = 0 ∧ (M 2 o ≠ 4 ∨ 7 ≤ hour)) (hj2 : (j : Int) ≤ M 1 0) : mm_G X (d + 1) 0 0 mi_X0_allMayBeOut Po 2 [(0, v_r 1), (1, v_i b), (2, v_i hour), (3, v_i (j : Int))] [] Lam M 0 0 := by
  have hJo2 := hJo
  obtain ⟨ho0, ho16, hO⟩ := hJo2
  have hO1 := hO j
  refine mm_iload_n (mm_dc od_X0_allMayBeOut_0 2 rfl) rfl ?_
  refine mm_aload_n (mm_dc od_X0_allMayBeOut_0 3 rfl) rfl ?_
  refine mm_getI (ci := 0) (k := 0) (mm_dc od_X0_allMayBeOut_0 4 rfl) rfl in_X0 (by decide) wd_1_34 rfl rfl ?_
  refine mm_icmp_ge 36 (mm_dc od_X0_allMayBeOut_0 5 rfl) (by omega) (by first | assumption | omega | exact hr _ _ rfl | exact mm_ti _ | exact mm_r3264 (hr _ _ rfl)) (by first | assumption | omega | exact hr _ _ rfl | exact mm_ti _ | exact mm_r3264 (hr _ _ rfl)) (fun c1 => ?_) (fun c1 => ?_)
  · refine mm_iconst (mm_dc od_X0_allMayBeOut_0 20 rfl) ?_
    refine mm_zret .boolean (mm_dc od_X0_allMayBeOut_0 21 rfl) rfl rfl ?_
    exact kt (fun o ho => hj o (by omega))
  · refine mm_aload_n (mm_dc od_X0_allMayBeOut_0 6 rfl) rfl ?_
    refine mm_iload_n (mm_dc od_X0_allMayBeOut_0 7 rfl) rfl ?_
    refine mm_iload_n (mm_dc od_X0_allMayBeOut_0 8 rfl) rfl ?_
    refine mm_callV (b := 1) (mi' := mi_X0_sitsIn) [v_i (j : Int), v_i b] [] (mm_dc od_X0_allMayBeOut_0 9 rfl) rfl wd_3_188 wd_3_38 wd_3_39 wd_1_2 wd_3_40 yk_X0_sitsIn rfl rfl rfl (Nat.le_of_ble_eq_true rfl) rfl (by decide) (c_X0_sitsIn (j : Int) b (by first | assumption | omega | exact hr _ _ rfl | exact mm_ti _ | exact mm_r3264 (hr _ _ rfl)) (by first | assumption | omega | exact hr _ _ rfl | exact mm_ti _ | exact mm_r3264 (hr _ _ rfl)) hJo (by first | assumption | omega | exact hr _ _ rfl | exact mm_ti _ | exact mm_r3264 (hr _ _ rfl)) (fun c2 => ⟨Nat.le_refl _, ?_⟩) (fun c2 => ⟨Nat.le_refl _, ?_⟩))
    · simp only [Int.toNat_natCast] at c2
      refine mm_if_eq 30 (mm_dc od_X0_allMayBeOut_0 10 rfl) (by omega) (by first | assumption | omega | exact hr _ _ rfl | exact mm_ti _ | exact mm_r3264 (hr _ _ rfl)) (fun h => absurd h (by decide)) (fun _ => ?_)
      refine mm_aload_n (mm_dc od_X0_allMayBeOut_0 11 rfl) rfl ?_
      refine mm_iload_n (mm_dc od_X0_allMayBeOut_0 12 rfl) rfl ?_
      refine mm_iload_n (mm_dc od_X0_allMayBeOut_0 13 rfl) rfl ?_
      refine mm_callV (b := 1) (mi' := mi_X0_mayBeOut) [v_i (j : Int), v_i hour] [] (mm_dc od_X0_allMayBeOut_0 14 rfl) rfl wd_3_235 wd_3_30 wd_3_31 wd_1_2 wd_3_32 yk_X0_mayBeOut rfl rfl rfl (Nat.le_of_ble_eq_true rfl) rfl (by decide) (c_X0_mayBeOut (j : Int) hour (by first | assumption | omega | exact hr _ _ rfl | exact mm_ti _ | exact mm_r3264 (hr _ _ rfl)) (by first | assumption | omega | exact hr _ _ rfl | exact mm_ti _ | exact mm_r3264 (hr _ _ rfl)) hJo (by first | assumption | omega | exact hr _ _ rfl | exact mm_ti _ | exact mm_r3264 (hr _ _ rfl)) (fun c3 => ⟨Nat.le_refl _, ?_⟩) (fun c3 => ⟨Nat.le_refl _, ?_⟩))
      · simp only [Int.toNat_natCast] at c3
        refine mm_if_ne 30 (mm_dc od_X0_allMayBeOut_0 15 rfl) (by omega) (by first | assumption | omega | exact hr _ _ rfl | exact mm_ti _ | exact mm_r3264 (hr _ _ rfl)) (fun _ => ?_) (fun h => absurd h (by decide))
        refine mm_iinc (L' := [(0, v_r 1), (1, v_i b), (2, v_i hour), (3, v_i ((j : Int) + 1))]) (mm_dc od_X0_allMayBeOut_0 18 rfl) rfl (by decide) rfl ?_
        refine mm_goto 2 (mm_dc od_X0_allMayBeOut_0 19 rfl) (by omega) ?_
        exact L_okX b hour hb hh hJo hr kt kf (j + 1) (lt_s hj (fun q => by unfold inX at q; rw [decide_eq_true_eq] at q; first | assumption | contradiction)) (by omega)
      · simp only [Int.toNat_natCast] at c3
        refine mm_if_ne 30 (mm_dc od_X0_allMayBeOut_0 15 rfl) (by omega) (by first | assumption | omega | exact hr _ _ rfl | exact mm_ti _ | exact mm_r3264 (hr _ _ rfl)) (fun h => absurd h (by decide)) (fun _ => ?_)
        refine mm_iconst (mm_dc od_X0_allMayBeOut_0 16 rfl) ?_
        refine mm_zret .boolean (mm_dc od_X0_allMayBeOut_0 17 rfl) rfl rfl ?_
        exact kf (fun q => absurd (q j (by omega) (by unfold inX; rw [decide_eq_true_eq]; assumption)) (by assumption))
    · simp only [Int.toNat_natCast] at c2
      refine mm_if_eq 30 (mm_dc od_X0_allMayBeOut_0 10 rfl) (by omega) (by first | assumption | omega | exact hr _ _ rfl | exact mm_ti _ | exact mm_r3264 (hr _ _ rfl)) (fun _ => ?_) (fun h => absurd h (by decide))
      refine mm_iinc (L' := [(0, v_r 1), (1, v_i b), (2, v_i hour), (3, v_i ((j : Int) + 1))]) (mm_dc od_X0_allMayBeOut_0 18 rfl) rfl (by decide) rfl ?_
      refine mm_goto 2 (mm_dc od_X0_allMayBeOut_0 19 rfl) (by omega) ?_
      exact L_okX b hour hb hh hJo hr kt kf (j + 1) (lt_s hj (fun q => by unfold inX at q; rw [decide_eq_true_eq] at q; first | assumption | contradiction)) (by omega)
termination_by (M 1 0).toNat - j
decreasing_by all_goals (first | omega | (simp_wf; omega))
theorem c_X0_allMayBeOut {X : Nat × (Nat → Int)} {d : Nat} {Po : mm_Po} {M : mm_M} (b : Int) (hour : Int) (hb : mm_r32 b) (hh : mm_r32 hour) (hJo : JO M) (hr : R32 M) (kt : okX M b hour → Po (some (v_i 1)) Lam M) (kf : ¬ (okX M b hour) → Po (some (v_i 0)) Lam M) : mm_E X (d + 1) 0 0 mi_X0_allMayBeOut [v_r 1, v_i b, v_i hour] Po Lam M := by
  show mm_G X (d + 1) 0 0 mi_X0_allMayBeOut Po 0 [(0, v_r 1), (1, v_i b), (2, v_i hour)] [] Lam M 0 0
  refine mm_iconst (mm_dc od_X0_allMayBeOut_0 0 rfl) ?_
  refine mm_istore_n (L' := [(0, v_r 1), (1, v_i b), (2, v_i hour), (3, v_i 0)]) (mm_dc od_X0_allMayBeOut_0 1 rfl) (by decide) rfl ?_
  exact L_okX b hour hb hh hJo hr kt kf 0 (fun o ho => by omega) (by have := hJo.1; omega)
def meanX (M : mm_M) (b : Int) : Int := Int.tdiv (sumI (wgX M b) (M 1 0).toNat) (mm_seats (M 6 b.toNat).toNat)
def WhyQ (br mn me ok : Prop) (rl : Int → Prop) (ba : Nat → Int) (r : Int) : Prop := (br ∧ r = 1) ∨ (¬ br ∧ ¬ mn ∧ r = 2) ∨ (¬ br ∧ mn ∧ ¬ me ∧ r = 3) ∨ (¬ br ∧ mn ∧ me ∧ ¬ ok ∧ r = 4) ∨ (¬ br ∧ mn ∧ me ∧ ok ∧ ∃ q, rl q ∧ ((q ≠ -1 ∧ ba q.toNat = 1 ∧ r = 5) ∨ (¬ (q ≠ -1 ∧ ba q.toNat = 1) ∧ r = 0)))
theorem WhyQ_r {br mn me ok : Prop} {rl : Int → Prop} {ba : Nat → Int} {r : Int} (h : WhyQ br mn me ok rl ba r) : 0 ≤ r ∧ r ≤ 5 := by
  rcases h with h | h | h | h | ⟨_, _, _, _, q, _, h⟩ <;> omega
theorem WhyQ_one {br mn me ok br2 mn2 me2 ok2 : Prop} {rl rl2 : Int → Prop} {ba ba2 : Nat → Int} {r s : Int} (h : WhyQ br mn me ok rl ba r) (h2 : WhyQ br2 mn2 me2 ok2 rl2 ba2 s) (e1 : br ↔ br2) (e2 : mn ↔ mn2) (e3 : mn → (me ↔ me2)) (e4 : ok ↔ ok2) (e5 : ∀ q, rl q → ∀ t, rl2 t → q = t ∧ (q ≠ -1 → ba q.toNat = ba2 q.toNat)) : r = s := by
  unfold WhyQ at *
  by_cases c1 : br
  · have d1 := e1.mp c1
    simp only [c1, d1, true_and, not_true, false_and, or_false] at *
    omega
  · have d1 : ¬ br2 := fun q => c1 (e1.mpr q)
    by_cases c2 : mn
    · have d2 := e2.mp c2
      by_cases c3 : me
      · have d3 := (e3 c2).mp c3
        by_cases c4 : ok
        · have d4 := e4.mp c4
          simp only [c1, d1, c2, d2, c3, d3, c4, d4, true_and, not_true, false_and, not_false_eq_true, false_or] at *
          obtain ⟨q, p1, p2⟩ := h
          obtain ⟨t, p3, p4⟩ := h2
          obtain ⟨rfl, p5⟩ := e5 q p1 t p3
          by_cases c5 : q = -1
          · omega
          · have := p5 c5
            omega
        · have d4 : ¬ ok2 := fun q => c4 (e4.mpr q)
          simp only [c1, d1, c2, d2, c3, d3, c4, d4, true_and, not_true, false_and, not_false_eq_true, false_or, or_false] at *
          omega
      · have d3 : ¬ me2 := fun q => c3 ((e3 c2).mpr q)
        simp only [c1, d1, c2, d2, c3, d3, true_and, not_true, false_and, not_false_eq_true, false_or, or_false] at *
        omega
    · have d2 : ¬ mn2 := fun q => c2 (e2.mpr q)
      simp only [c1, d1, c2, d2, true_and, not_true, false_and, not_false_eq_true, false_or, or_false] at *
      omega
theorem meanX_r {M : mm_M} {b : Int} (hb : 0 ≤ b ∧ b < M 1 5) (hJo : JO M) (hJb : JB M) : 0 ≤ meanX M b ∧ meanX M b ≤ 2400 := by
  have hse := mm_seats_le (M 6 b.toNat).toNat (by have := (hJb.2.2 b.toNat (by omega)).1; omega)
  obtain ⟨ho0, ho16, hO⟩ := hJo
  have hsum := sumI_r (f := wgX M b) (c := 150) (M 1 0).toNat (fun i hi => by have h := hO i (by omega); unfold wgX; split <;> omega)
  unfold meanX
  rw [Int.tdiv_eq_ediv_of_nonneg hsum.1]
  have h1 : sumI (wgX M b) (M 1 0).toNat ≤ 2400 := by omega
  exact ⟨Int.ediv_nonneg hsum.1 (by omega), Int.le_trans (Int.ediv_le_self _ hsum.1) h1⟩
theorem c_X9_whyAshore {X : Nat × (Nat → Int)} {d : Nat} {Po : mm_Po} {M : mm_M} (b : Int) (hour : Int) (hb : 0 ≤ b ∧ b < M 1 5) (hh : 0 ≤ hour ∧ hour ≤ 23) (hJo : JO M) (hJb : JB M) (hJl : JL M) (hJru : JRu M) (hJw : JW M) (hr : R32 M) (k : ∀ (N : mm_M) (r : Int), (frm 34 M N ∧ WhyQ (brokenQ M b) (manX M b) (M 7 b.toNat ≤ meanX M b ∧ meanX M b ≤ M 8 b.toNat) (okX M b hour) (fun q => lastP (rulX M (nowX M b hour) (M 6 b.toNat)) q (M 26 0).toNat) (M 27) r) → Po (some (v_i r)) Lam N) : mm_E X (d + 4) 0 0 mi_X9_whyAshore [v_r 0, v_i b, v_i hour] Po Lam M := by
  show mm_G X (d + 4) 0 0 mi_X9_whyAshore Po 0 [(0, v_r 0), (1, v_i b), (2, v_i hour)] [] Lam M 0 0
  have hJb2 := hJb
  obtain ⟨hb0, hb8, hB⟩ := hJb2
  have hB1 := hB b.toNat
  have hu10 := hJru.2.1
  have hme := meanX_r hb hJo hJb
  unfold meanX at hme
  refine mm_aload_n (mm_dc od_X9_whyAshore_0 0 rfl) rfl ?_
  refine mm_getR (ci := 9) (k := 6) (mm_dc od_X9_whyAshore_0 1 rfl) rfl in_X9 (by decide) wd_2_51 rfl rfl ?_
  refine mm_iload_n (mm_dc od_X9_whyAshore_0 2 rfl) rfl ?_
  refine mm_callV (b := 35) (mi' := mi_X3_isBroken) [v_i b] [] (mm_dc od_X9_whyAshore_0 3 rfl) rfl wd_3_209 wd_3_210 wd_3_211 wd_1_8 wd_3_212 yk_X3_isBroken rfl rfl rfl (Nat.le_of_ble_eq_true rfl) rfl (by decide) (c_X3_isBroken b (by first | assumption | omega | exact hr _ _ rfl | exact mm_r3264 (hr _ _ rfl)) hJl (by first | assumption | omega | exact hr _ _ rfl | exact mm_r3264 (hr _ _ rfl)) (fun c1 => ⟨Nat.le_refl _, ?_⟩) (fun c1 => ⟨Nat.le_refl _, ?_⟩))
  · refine mm_if_eq 13 (mm_dc od_X9_whyAshore_0 4 rfl) (by omega) (by first | assumption | omega | exact hr _ _ rfl | exact mm_r3264 (hr _ _ rfl)) (fun h => absurd h (by decide)) (fun _ => ?_)
    refine mm_iconst (mm_dc od_X9_whyAshore_0 5 rfl) ?_
    refine mm_iret (mm_dc od_X9_whyAshore_0 6 rfl) rfl ?_
    exact k _ _ ⟨frm_0 hr, Or.inl ⟨by assumption, rfl⟩⟩
  · refine mm_if_eq 13 (mm_dc od_X9_whyAshore_0 4 rfl) (by omega) (by first | assumption | omega | exact hr _ _ rfl | exact mm_r3264 (hr _ _ rfl)) (fun _ => ?_) (fun h => absurd h (by decide))
    refine mm_aload_n (mm_dc od_X9_whyAshore_0 7 rfl) rfl ?_
    refine mm_getR (ci := 9) (k := 0) (mm_dc od_X9_whyAshore_0 8 rfl) rfl in_X9 (by decide) wd_2_45 rfl rfl ?_
    refine mm_iload_n (mm_dc od_X9_whyAshore_0 9 rfl) rfl ?_
    refine mm_callV (b := 1) (mi' := mi_X0_isManned) [v_i b] [] (mm_dc od_X9_whyAshore_0 10 rfl) rfl wd_3_217 wd_3_218 wd_3_219 wd_1_2 wd_3_220 yk_X0_isManned rfl rfl rfl (Nat.le_of_ble_eq_true rfl) rfl (by decide) (c_X0_isManned b (by first | assumption | omega | exact hr _ _ rfl | exact mm_r3264 (hr _ _ rfl)) hJo hJb (by first | assumption | omega | exact hr _ _ rfl | exact mm_r3264 (hr _ _ rfl)) (fun c2 => ⟨Nat.le_refl _, ?_⟩) (fun c2 => ⟨Nat.le_refl _, ?_⟩))
    · refine mm_if_ne 26 (mm_dc od_X9_whyAshore_0 11 rfl) (by omega) (by first | assumption | omega | exact hr _ _ rfl | exact mm_r3264 (hr _ _ rfl)) (fun _ => ?_) (fun h => absurd h (by decide))
      refine mm_aload_n (mm_dc od_X9_whyAshore_0 14 rfl) rfl ?_
      refine mm_getR (ci := 9) (k := 0) (mm_dc od_X9_whyAshore_0 15 rfl) rfl in_X9 (by decide) wd_2_45 rfl rfl ?_
      refine mm_iload_n (mm_dc od_X9_whyAshore_0 16 rfl) rfl ?_
      refine mm_callV (b := 1) (mi' := mi_X0_meanWeight) [v_i b] [] (mm_dc od_X9_whyAshore_0 17 rfl) rfl wd_3_226 wd_3_227 wd_3_228 wd_1_2 wd_3_229 yk_X0_meanWeight rfl rfl rfl (Nat.le_of_ble_eq_true rfl) rfl (by decide) (c_X0_meanWeight b (by first | assumption | omega | exact hr _ _ rfl | exact mm_r3264 (hr _ _ rfl)) hJo hJb (by first | assumption | omega | exact hr _ _ rfl | exact mm_r3264 (hr _ _ rfl)) ⟨Nat.le_refl _, ?_⟩)
      refine mm_aload_n (mm_dc od_X9_whyAshore_0 18 rfl) rfl ?_
      refine mm_getR (ci := 9) (k := 0) (mm_dc od_X9_whyAshore_0 19 rfl) rfl in_X9 (by decide) wd_2_45 rfl rfl ?_
      refine mm_getR (ci := 0) (k := 7) (mm_dc od_X9_whyAshore_0 20 rfl) rfl in_X0 (by decide) wd_1_51 rfl rfl ?_
      refine mm_iload_n (mm_dc od_X9_whyAshore_0 21 rfl) rfl ?_
      refine mm_iald (mm_dc od_X9_whyAshore_0 22 rfl) rfl (by first | assumption | omega | exact hr _ _ rfl | exact mm_r3264 (hr _ _ rfl)) (by first | assumption | omega | exact hr _ _ rfl | exact mm_r3264 (hr _ _ rfl)) (by decide) ?_
      refine mm_aload_n (mm_dc od_X9_whyAshore_0 23 rfl) rfl ?_
      refine mm_getR (ci := 9) (k := 0) (mm_dc od_X9_whyAshore_0 24 rfl) rfl in_X9 (by decide) wd_2_45 rfl rfl ?_
      refine mm_getR (ci := 0) (k := 8) (mm_dc od_X9_whyAshore_0 25 rfl) rfl in_X0 (by decide) wd_1_53 rfl rfl ?_
      refine mm_iload_n (mm_dc od_X9_whyAshore_0 26 rfl) rfl ?_
      refine mm_iald (mm_dc od_X9_whyAshore_0 27 rfl) rfl (by first | assumption | omega | exact hr _ _ rfl | exact mm_r3264 (hr _ _ rfl)) (by first | assumption | omega | exact hr _ _ rfl | exact mm_r3264 (hr _ _ rfl)) (by decide) ?_
      refine mm_callS (mi' := mi_X9_within) [v_i (Int.tdiv (sumI (wgX M b) (M 1 0).toNat) (mm_seats (M 6 b.toNat).toNat)), v_i (M 7 (Int.toNat b)), v_i (M 8 (Int.toNat b))] [] (mm_dc od_X9_whyAshore_0 28 rfl) rfl wd_2_80 wd_2_81 wd_1_1 wd_2_82 yk_X9_within (Nat.le_of_ble_eq_true rfl) rfl (by decide) (c_X9_within (Int.tdiv (sumI (wgX M b) (M 1 0).toNat) (mm_seats (M 6 b.toNat).toNat)) (M 7 (Int.toNat b)) (M 8 (Int.toNat b)) (by first | assumption | omega | exact hr _ _ rfl | exact mm_r3264 (hr _ _ rfl)) (by first | assumption | omega | exact hr _ _ rfl | exact mm_r3264 (hr _ _ rfl)) (by first | assumption | omega | exact hr _ _ rfl | exact mm_r3264 (hr _ _ rfl)) (fun c3 => ⟨Nat.le_refl _, ?_⟩) (fun c3 => ⟨Nat.le_refl _, ?_⟩))
      · refine mm_if_ne 60 (mm_dc od_X9_whyAshore_0 29 rfl) (by omega) (by first | assumption | omega | exact hr _ _ rfl | exact mm_r3264 (hr _ _ rfl)) (fun _ => ?_) (fun h => absurd h (by decide))
        refine mm_aload_n (mm_dc od_X9_whyAshore_0 32 rfl) rfl ?_
        refine mm_getR (ci := 9) (k := 0) (mm_dc od_X9_whyAshore_0 33 rfl) rfl in_X9 (by decide) wd_2_45 rfl rfl ?_
        refine mm_iload_n (mm_dc od_X9_whyAshore_0 34 rfl) rfl ?_
        refine mm_iload_n (mm_dc od_X9_whyAshore_0 35 rfl) rfl ?_
        refine mm_callV (b := 1) (mi' := mi_X0_allMayBeOut) [v_i b, v_i hour] [] (mm_dc od_X9_whyAshore_0 36 rfl) rfl wd_3_231 wd_3_232 wd_3_233 wd_1_2 wd_3_234 yk_X0_allMayBeOut rfl rfl rfl (Nat.le_of_ble_eq_true rfl) rfl (by decide) (c_X0_allMayBeOut b hour (by first | assumption | omega | exact hr _ _ rfl | exact mm_r3264 (hr _ _ rfl)) (by first | assumption | omega | exact hr _ _ rfl | exact mm_r3264 (hr _ _ rfl)) hJo (by first | assumption | omega | exact hr _ _ rfl | exact mm_r3264 (hr _ _ rfl)) (fun c4 => ⟨Nat.le_refl _, ?_⟩) (fun c4 => ⟨Nat.le_refl _, ?_⟩))
        · refine mm_if_ne 74 (mm_dc od_X9_whyAshore_0 37 rfl) (by omega) (by first | assumption | omega | exact hr _ _ rfl | exact mm_r3264 (hr _ _ rfl)) (fun _ => ?_) (fun h => absurd h (by decide))
          refine mm_aload_n (mm_dc od_X9_whyAshore_0 40 rfl) rfl ?_
          refine mm_iload_n (mm_dc od_X9_whyAshore_0 41 rfl) rfl ?_
          refine mm_iload_n (mm_dc od_X9_whyAshore_0 42 rfl) rfl ?_
          refine mm_callV (b := 0) (mi' := mi_X9_askedRule) [v_i b, v_i hour] [] (mm_dc od_X9_whyAshore_0 43 rfl) rfl wd_3_179 wd_3_181 wd_p_12 wd_1_1 wd_3_182 yk_X9_askedRule rfl rfl rfl (Nat.le_of_ble_eq_true rfl) rfl (by decide) (c_X9_askedRule b hour (by first | assumption | omega | exact hr _ _ rfl | exact mm_r3264 (hr _ _ rfl)) (by first | assumption | omega | exact hr _ _ rfl | exact mm_r3264 (hr _ _ rfl)) hJo hJb hJru hJw (by first | assumption | omega | exact hr _ _ rfl | exact mm_r3264 (hr _ _ rfl)) (fun N6 r5 hq7 => ⟨Nat.le_refl _, ?_⟩))
          have hro := hr
          have hr := hq7.1.1
          have hba := hq7.1.2 27 (by decide)
          have hqr := lastP_rng hq7.2
          refine mm_istore_n (L' := [(0, v_r 0), (1, v_i b), (2, v_i hour), (3, v_i r5)]) (mm_dc od_X9_whyAshore_0 44 rfl) (by decide) rfl ?_
          refine mm_iload_n (mm_dc od_X9_whyAshore_0 45 rfl) rfl ?_
          refine mm_iconst (mm_dc od_X9_whyAshore_0 46 rfl) ?_
          refine mm_icmp_eq 103 (mm_dc od_X9_whyAshore_0 47 rfl) (by omega) (by first | assumption | omega | exact hr _ _ rfl | exact mm_r3264 (hr _ _ rfl)) (by first | assumption | omega | exact hr _ _ rfl | exact mm_r3264 (hr _ _ rfl)) (fun c8 => ?_) (fun c8 => ?_)
          · refine mm_iconst (mm_dc od_X9_whyAshore_0 57 rfl) ?_
            refine mm_iret (mm_dc od_X9_whyAshore_0 58 rfl) rfl ?_
            exact k _ _ ⟨hq7.1, Or.inr (Or.inr (Or.inr (Or.inr ⟨by assumption, by assumption, by assumption, by assumption, _, hq7.2, Or.inr ⟨(by rw [← hba]; omega), rfl⟩⟩)))⟩
          · refine mm_aload_n (mm_dc od_X9_whyAshore_0 48 rfl) rfl ?_
            refine mm_getR (ci := 9) (k := 5) (mm_dc od_X9_whyAshore_0 49 rfl) rfl in_X9 (by decide) wd_2_50 rfl rfl ?_
            refine mm_getR (ci := 7) (k := 1) (mm_dc od_X9_whyAshore_0 50 rfl) rfl in_X7 (by decide) wd_1_172 rfl rfl ?_
            refine mm_iload_n (mm_dc od_X9_whyAshore_0 51 rfl) rfl ?_
            refine mm_iald (mm_dc od_X9_whyAshore_0 52 rfl) rfl (by first | assumption | omega | exact hr _ _ rfl | exact mm_r3264 (hr _ _ rfl)) (by first | assumption | omega | exact hr _ _ rfl | exact mm_r3264 (hr _ _ rfl)) (by decide) ?_
            refine mm_iconst (mm_dc od_X9_whyAshore_0 53 rfl) ?_
            refine mm_icmp_ne 103 (mm_dc od_X9_whyAshore_0 54 rfl) (by omega) (by first | assumption | omega | exact hr _ _ rfl | exact mm_r3264 (hr _ _ rfl)) (by first | assumption | omega | exact hr _ _ rfl | exact mm_r3264 (hr _ _ rfl)) (fun c9 => ?_) (fun c9 => ?_)
            · refine mm_iconst (mm_dc od_X9_whyAshore_0 57 rfl) ?_
              refine mm_iret (mm_dc od_X9_whyAshore_0 58 rfl) rfl ?_
              exact k _ _ ⟨hq7.1, Or.inr (Or.inr (Or.inr (Or.inr ⟨by assumption, by assumption, by assumption, by assumption, _, hq7.2, Or.inr ⟨(by rw [← hba]; omega), rfl⟩⟩)))⟩
            · refine mm_iconst (mm_dc od_X9_whyAshore_0 55 rfl) ?_
              refine mm_goto 104 (mm_dc od_X9_whyAshore_0 56 rfl) (by omega) ?_
              refine mm_iret (mm_dc od_X9_whyAshore_0 58 rfl) rfl ?_
              exact k _ _ ⟨hq7.1, Or.inr (Or.inr (Or.inr (Or.inr ⟨by assumption, by assumption, by assumption, by assumption, _, hq7.2, Or.inl ⟨by omega, (by rw [← hba]; omega), rfl⟩⟩)))⟩
        · refine mm_if_ne 74 (mm_dc od_X9_whyAshore_0 37 rfl) (by omega) (by first | assumption | omega | exact hr _ _ rfl | exact mm_r3264 (hr _ _ rfl)) (fun h => absurd h (by decide)) (fun _ => ?_)
          refine mm_iconst (mm_dc od_X9_whyAshore_0 38 rfl) ?_
          refine mm_iret (mm_dc od_X9_whyAshore_0 39 rfl) rfl ?_
          exact k _ _ ⟨frm_0 hr, Or.inr (Or.inr (Or.inr (Or.inl ⟨by assumption, by assumption, by assumption, by assumption, rfl⟩)))⟩
      · refine mm_if_ne 60 (mm_dc od_X9_whyAshore_0 29 rfl) (by omega) (by first | assumption | omega | exact hr _ _ rfl | exact mm_r3264 (hr _ _ rfl)) (fun h => absurd h (by decide)) (fun _ => ?_)
        refine mm_iconst (mm_dc od_X9_whyAshore_0 30 rfl) ?_
        refine mm_iret (mm_dc od_X9_whyAshore_0 31 rfl) rfl ?_
        exact k _ _ ⟨frm_0 hr, Or.inr (Or.inr (Or.inl ⟨by assumption, by assumption, by assumption, rfl⟩))⟩
    · refine mm_if_ne 26 (mm_dc od_X9_whyAshore_0 11 rfl) (by omega) (by first | assumption | omega | exact hr _ _ rfl | exact mm_r3264 (hr _ _ rfl)) (fun h => absurd h (by decide)) (fun _ => ?_)
      refine mm_iconst (mm_dc od_X9_whyAshore_0 12 rfl) ?_
      refine mm_iret (mm_dc od_X9_whyAshore_0 13 rfl) rfl ?_
      exact k _ _ ⟨frm_0 hr, Or.inr (Or.inl ⟨by assumption, by assumption, rfl⟩)⟩
