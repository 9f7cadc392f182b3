/-! the reference's determinants -/
def ex (B : Nat → Nat → Int) (i q j T : Nat) : Int := sumI (fun c => if T.testBit c = true ∧ (q ≤ T - 2 ^ c ∨ (T - 2 ^ c + 1 = q ∧ c < j)) then sgT T c * (B c i * dm B i (T - 2 ^ c)) else 0) 7
def UQ (n : Nat) (B : Nat → Nat → Int) (i q j : Nat) (U : Nat → Int) : Prop := (∀ T, T < 128 → cnN T 7 = i → U T = if T < 2 ^ n then dm B i T else 0) ∧ (∀ T, T < 128 → i + 1 < cnN T 7 → U T = 0) ∧ ∀ T, T < 128 → cnN T 7 = i + 1 → U T = if T < 2 ^ n then ex B i q j T else 0
def chk4 (T : Nat) : Bool := allB (fun c => !T.testBit c || (Nat.ble (2 ^ c) T && Nat.beq (cnN (T - 2 ^ c) 7 + 1) (cnN T 7))) 7
def chk5 (s : Nat) : Bool := allB (fun j => s.testBit j || ((s + 2 ^ j).testBit j && Nat.beq (cnN (s + 2 ^ j) 7) (cnN s 7 + 1) && Nat.beq (s ||| 2 ^ j) (s + 2 ^ j) && Nat.beq ((s + 2 ^ j) / 2 ^ (j + 1)) (s / 2 ^ (j + 1)) && Nat.blt (s + 2 ^ j) 128)) 7
def chk6 (T : Nat) : Bool := (Nat.beq T 0 || Nat.blt 0 (cnN T 7)) && decide (cntb T = (cnN T 7 : Int))
theorem chk_4 : allB chk4 128 = true := by decide +kernel
theorem chk_5 : allB chk5 128 = true := by decide +kernel
theorem chk_6 : allB chk6 128 = true := by decide +kernel
theorem ck4 {T c : Nat} (hT : T < 128) (hc : c < 7) (h : T.testBit c = true) : 2 ^ c ≤ T ∧ cnN (T - 2 ^ c) 7 + 1 = cnN T 7 := by
  have h1 := allB_all 7 (allB_all 128 chk_4 T hT) c hc
  rw [h] at h1
  simp only [Bool.not_true, Bool.false_or, Bool.and_eq_true] at h1
  exact ⟨Nat.le_of_ble_eq_true h1.1, Nat.eq_of_beq_eq_true h1.2⟩
theorem ck5 {s j : Nat} (hs : s < 128) (hj : j < 7) (h : ¬ s.testBit j = true) : (s + 2 ^ j).testBit j = true ∧ cnN (s + 2 ^ j) 7 = cnN s 7 + 1 ∧ s ||| 2 ^ j = s + 2 ^ j ∧ (s + 2 ^ j) / 2 ^ (j + 1) = s / 2 ^ (j + 1) ∧ s + 2 ^ j < 128 := by
  have h1 := allB_all 7 (allB_all 128 chk_5 s hs) j hj
  rw [show s.testBit j = false by simpa using h] at h1
  simp only [Bool.false_or, Bool.and_eq_true] at h1
  obtain ⟨⟨⟨⟨a, b⟩, c⟩, d⟩, e⟩ := h1
  exact ⟨a, Nat.eq_of_beq_eq_true b, Nat.eq_of_beq_eq_true c, Nat.eq_of_beq_eq_true d, by rw [Nat.blt_eq] at e; exact e⟩
theorem ck6 {T : Nat} (hT : T < 128) : (T = 0 ∨ 0 < cnN T 7) ∧ cntb T = (cnN T 7 : Int) := by
  have h1 := allB_all 128 chk_6 T hT
  simp only [chk6, Bool.and_eq_true, Bool.or_eq_true, decide_eq_true_eq] at h1
  refine ⟨h1.1.imp Nat.eq_of_beq_eq_true (fun q => by rw [Nat.blt_eq] at q; exact q), h1.2⟩
theorem ck3 {T c : Nat} (hT : T < 128) (hc : c < 7) (h : T.testBit c = true) : (T - 2 ^ c).testBit c = false := by
  have c4 := allB_all 7 (allB_all 128 chk_3 T hT) c hc
  rw [Bool.and_eq_true] at c4
  have h2 := c4.2
  rw [h] at h2
  simpa using h2
theorem ex_z {B : Nat → Nat → Int} {i T : Nat} (hT : T < 128) : ex B i 128 0 T = 0 := by
  unfold ex
  refine sz_zero 7 (fun c _ => if_neg (fun q => ?_))
  have hp := Nat.two_pow_pos c
  omega
theorem ex_a {B : Nat → Nat → Int} {i T : Nat} : ex B i 0 0 T = dm B (i + 1) T := by
  unfold ex
  rw [dm]
  refine sz_cong 7 (fun c _ => ?_)
  by_cases e : T.testBit c = true
  · rw [if_pos ⟨e, Or.inl (Nat.zero_le _)⟩, if_pos e]
  · rw [if_neg (fun q => e q.1), if_neg e]
theorem UQ_0 {n : Nat} {B : Nat → Nat → Int} {U : Nat → Int} (h : ∀ T, T < 128 → U T = if T = 0 then 1 else 0) : UQ n B 0 128 0 U := by
  have hp := Nat.two_pow_pos n
  refine ⟨fun T hT hc => ?_, fun T hT hc => ?_, fun T hT hc => ?_⟩
  · have e : T = 0 := by
      rcases (ck6 hT).1 with q | q
      · exact q
      · omega
    subst e
    rw [h 0 hT, if_pos rfl, if_pos hp]; rfl
  · rw [h T hT, if_neg (fun e => by subst e; revert hc; decide)]
  · rw [h T hT, if_neg (fun e => by subst e; revert hc; decide), ex_z hT]
    split <;> rfl
theorem UQ_next {n i : Nat} {B : Nat → Nat → Int} {U : Nat → Int} (h : UQ n B i 0 0 U) : UQ n B (i + 1) 128 0 U := by
  obtain ⟨h1, h2, h3⟩ := h
  refine ⟨fun T hT hc => ?_, fun T hT hc => h2 T hT (by omega), fun T hT hc => ?_⟩
  · rw [h3 T hT hc, ex_a]
  · rw [h2 T hT (by omega), ex_z hT]
    split <;> rfl
theorem UQ_ex {n i q j q2 j2 : Nat} {B : Nat → Nat → Int} {U : Nat → Int} (h : UQ n B i q j U) (he : ∀ T, T < 128 → cnN T 7 = i + 1 → T < 2 ^ n → ex B i q j T = ex B i q2 j2 T) : UQ n B i q2 j2 U := by
  obtain ⟨h1, h2, h3⟩ := h
  refine ⟨h1, h2, fun T hT hc => ?_⟩
  rw [h3 T hT hc]
  by_cases e : T < 2 ^ n
  · rw [if_pos e, if_pos e, he T hT hc e]
  · rw [if_neg e, if_neg e]
theorem UQ_skip {n i s : Nat} {B : Nat → Nat → Int} {U : Nat → Int} (hs : s < 128) (h : UQ n B i (s + 1) 0 U) (hz : cnN s 7 ≠ i ∨ U s = 0) : UQ n B i s 0 U := by
  refine UQ_ex h (fun T hT hc hn => ?_)
  unfold ex
  refine sz_cong 7 (fun c hc7 => ?_)
  by_cases e : T.testBit c = true
  · have k4 := ck4 hT hc7 e
    have hp := Nat.two_pow_pos c
    by_cases es : T - 2 ^ c = s
    · rw [if_neg (by rw [es]; intro q; omega), if_pos ⟨e, Or.inl (by omega)⟩, es]
      have hcs : cnN s 7 = i := by rw [es] at k4; omega
      have hU : U s = 0 := hz.resolve_left (fun q => q hcs)
      have h5 := h.1 s hs hcs
      rw [hU, if_pos (by omega)] at h5
      rw [← h5, Int.mul_zero, Int.mul_zero]
    · by_cases q : s + 1 ≤ T - 2 ^ c
      · rw [if_pos ⟨e, Or.inl q⟩, if_pos ⟨e, Or.inl (by omega)⟩]
      · rw [if_neg (fun x => by omega), if_neg (fun x => by omega)]
  · rw [if_neg (fun q => e q.1), if_neg (fun q => e q.1)]
theorem UQ_bit {n i s j : Nat} {B : Nat → Nat → Int} {U : Nat → Int} (h : UQ n B i (s + 1) j U) (hb : s.testBit j = true) : UQ n B i (s + 1) (j + 1) U := by
  refine UQ_ex h (fun T hT hc hn => ?_)
  unfold ex
  refine sz_cong 7 (fun c hc7 => ?_)
  by_cases e : T.testBit c = true
  · have k3 := ck3 hT hc7 e
    by_cases es : T - 2 ^ c = s
    · have hcj : c ≠ j := fun q => by rw [es, q, hb] at k3; cases k3
      by_cases q : c < j
      · rw [if_pos ⟨e, Or.inr ⟨by omega, q⟩⟩, if_pos ⟨e, Or.inr ⟨by omega, by omega⟩⟩]
      · rw [if_neg (fun x => by omega), if_neg (fun x => by omega)]
    · by_cases q : s + 1 ≤ T - 2 ^ c
      · rw [if_pos ⟨e, Or.inl q⟩, if_pos ⟨e, Or.inl q⟩]
      · rw [if_neg (fun x => by omega), if_neg (fun x => by omega)]
  · rw [if_neg (fun q => e q.1), if_neg (fun q => e q.1)]
theorem UQ_end {n i s : Nat} {B : Nat → Nat → Int} {U : Nat → Int} (h : UQ n B i (s + 1) n U) : UQ n B i s 0 U := by
  refine UQ_ex h (fun T hT hc hn => ?_)
  unfold ex
  refine sz_cong 7 (fun c hc7 => ?_)
  by_cases e : T.testBit c = true
  · have hcn : c < n := by
      apply Classical.byContradiction
      intro q
      have h2 : T < 2 ^ c := Nat.lt_of_lt_of_le hn (Nat.pow_le_pow_right (n := 2) (by decide) (by omega))
      rw [Nat.testBit_lt_two_pow h2] at e
      cases e
    by_cases es : s ≤ T - 2 ^ c
    · rw [if_pos ⟨e, by omega⟩, if_pos ⟨e, Or.inl es⟩]
    · rw [if_neg (fun x => by omega), if_neg (fun x => by omega)]
  · rw [if_neg (fun q => e q.1), if_neg (fun q => e q.1)]
theorem UQ_push {n i s j : Nat} {B : Nat → Nat → Int} {U U2 : Nat → Int} {v : Int} (hn6 : n ≤ 6) (h : UQ n B i (s + 1) j U) (hs : s < 128) (hsn : s < 2 ^ n) (hj : j < n) (hc : cnN s 7 = i) (hb : ¬ s.testBit j = true) (hv : v = sgT (s + 2 ^ j) j * (B j i * U s)) (hU : ∀ T, U2 T = if T = s + 2 ^ j then U (s + 2 ^ j) + v else U T) : UQ n B i (s + 1) (j + 1) U2 := by
  obtain ⟨b1, b2, b3, b4, b5⟩ := ck5 hs (show j < 7 by omega) hb
  obtain ⟨h1, h2, h3⟩ := h
  have hUs := h1 s hs hc
  rw [if_pos hsn] at hUs
  have hlt : s + 2 ^ j < 2 ^ n := by
    have := Nat.or_lt_two_pow (n := n) hsn (show 2 ^ j < 2 ^ n from Nat.pow_lt_pow_right (by decide) hj)
    rw [b3] at this; exact this
  refine ⟨fun T hT q => ?_, fun T hT q => ?_, fun T hT q => ?_⟩
  · rw [hU, if_neg (fun e => by rw [e] at q; omega)]; exact h1 T hT q
  · rw [hU, if_neg (fun e => by rw [e] at q; omega)]; exact h2 T hT q
  · rw [hU]
    by_cases e : T = s + 2 ^ j
    · subst e
      rw [if_pos rfl, h3 _ hT q, if_pos hlt, if_pos hlt, hv, hUs]
      have hs2 : s + 2 ^ j - 2 ^ j = s := by omega
      have d : ex B i (s + 1) (j + 1) (s + 2 ^ j) - ex B i (s + 1) j (s + 2 ^ j) = sgT (s + 2 ^ j) j * (B j i * dm B i s) := by
        unfold ex
        rw [← sz_sub, sz_one (p := j) 7 (by omega)]
        · rw [hs2, if_pos ⟨b1, Or.inr ⟨rfl, by omega⟩⟩, if_neg (fun x => by omega)]; omega
        · intro c hc7 hcj
          by_cases q1 : (s + 2 ^ j).testBit c = true ∧ (s + 1 ≤ s + 2 ^ j - 2 ^ c ∨ (s + 2 ^ j - 2 ^ c + 1 = s + 1 ∧ c < j))
          · rw [if_pos q1, if_pos ⟨q1.1, q1.2.imp id (fun x => ⟨x.1, by omega⟩)⟩]; omega
          · rw [if_neg q1, if_neg (fun x => q1 ⟨x.1, x.2.imp id (fun y => ⟨y.1, by omega⟩)⟩)]; omega
      omega
    · rw [if_neg e, h3 T hT q]
      by_cases en : T < 2 ^ n
      · rw [if_pos en, if_pos en]
        unfold ex
        refine sz_cong 7 (fun c hc7 => ?_)
        by_cases et : T.testBit c = true
        · have k4 := (ck4 hT hc7 et).1
          by_cases q1 : s + 1 ≤ T - 2 ^ c ∨ (T - 2 ^ c + 1 = s + 1 ∧ c < j)
          · rw [if_pos ⟨et, q1⟩, if_pos ⟨et, q1.imp id (fun y => ⟨y.1, by omega⟩)⟩]
          · rw [if_neg (fun x => q1 x.2), if_neg (fun x => q1 (x.2.imp id (fun y => ⟨y.1, by
              have hcj : c ≠ j := fun z => by subst z; omega
              omega⟩)))]
        · rw [if_neg (fun x => et x.1), if_neg (fun x => et x.1)]
      · rw [if_neg en, if_neg en]
theorem sg_odd {a : Nat} (h : a % 2 = 1) : sg a = -1 := by rw [sg_mod, h]; rfl
theorem sg_even {a : Nat} (h : ¬ a % 2 = 1) : sg a = 1 := by rw [sg_mod, show a % 2 = 0 by omega]; rfl
theorem L_d72 {X : Nat × (Nat → Int)} {d : Nat} {Po : mm_Po} {M : mm_M} {B : mm_M} {Bm : Nat → Nat → Int} (n : Nat) (ch : Int) (hn6 : n ≤ 6) (hch : mm_r32 ch) (hn : B 50 22 = (n : Int)) (hB : ∀ c r, c < n → r < n → Bm c r = if (c : Int) = ch then B 67 r else B 66 (7 * r + c)) (hd : ∀ i T, i ≤ n → T < 128 → mm_r64 (dm Bm i T)) (i s : Nat) (hi : i < n) (hs : s < 128) (hsn : s < 2 ^ n) (hcs : cnN s 7 = i) (K : ∀ N : mm_M, frm 68 B N → UQ n Bm i (s + 1) n (N 68) → mm_G X (d + 1) 0 0 mi_X10_determinant Po 173 [(0, v_r 50), (1, v_i ch), (2, v_i (i : Int)), (3, v_i (s : Int)), (4, v_i (n : Int))] [] Lam N 0 0) (j : Nat) (hj : j ≤ n) (hf : frm 68 B M) (hU : UQ n Bm i (s + 1) j (M 68)) : mm_G X (d + 1) 0 0 mi_X10_determinant Po 72 [(0, v_r 50), (1, v_i ch), (2, v_i (i : Int)), (3, v_i (s : Int)), (4, v_i (j : Int))] [] Lam M 0 0 := by
  have hr := hf.1
  have e50 : M 50 22 = (n : Int) := (by rw [hf.2 50 (by decide)]; exact hn)
  have hbi := fx_bit (a := s) (j := j) (show j < 32 by omega) (by omega)
  have hbr : mm_r32 (fx_and (fx_shr (s : Int) (j : Int)) 1) := (by rw [hbi]; split <;> omega)
  obtain ⟨u, hu⟩ : ∃ u : Nat, u = s / 2 ^ (j + 1) := ⟨_, rfl⟩
  have hsh : fx_shr (s : Int) ((j : Int) + 1) = (u : Int) := (by rw [hu]; exact fx_shr_n (j := j + 1) (by omega) (by omega))
  have hdl : u ≤ s := (by rw [hu]; exact Nat.div_le_self _ _)
  have hct := (ck6 (T := u) (by omega)).2
  have hc7 := cn_le u 7
  have hcx : cntb (fx_shr (s : Int) ((j : Int) + 1)).toNat = (cnN u 7 : Int) := (by rw [hsh, Int.toNat_natCast]; exact hct)
  have htm : Int.tmod (cntb (fx_shr (s : Int) ((j : Int) + 1)).toNat) 2 = ((cnN u 7 % 2 : Nat) : Int) := (by rw [hcx]; rfl)
  have hp7 : 2 ^ j ≤ 2 ^ 6 := Nat.pow_le_pow_right (by decide) (by omega)
  have hor7 : s ||| 2 ^ j < 128 := Nat.or_lt_two_pow (n := 7) hs (by omega)
  have hix : fx_or (s : Int) (fx_shl 1 (j : Int)) = ((s ||| 2 ^ j : Nat) : Int) := (by rw [fx_shl_1 (by omega), fx_or_n (by omega) (by omega)])
  refine mm_iload (mm_dc od_X10_determinant_0 40 rfl) rfl ?_
  refine mm_aload_n (mm_dc od_X10_determinant_0 41 rfl) rfl ?_
  refine mm_getI (ci := 10) (k := 22) (mm_dc od_X10_determinant_0 42 rfl) rfl in_X10 (by decide) wd_4_134 rfl rfl ?_
  refine mm_icmp_ge 173 (mm_dc od_X10_determinant_0 43 rfl) (by omega) (by first | omega | assumption | exact hr _ _ rfl | (rw [hcx]; omega)) (by first | omega | assumption | exact hr _ _ rfl | (rw [hcx]; omega)) (fun c1 => ?_) (fun c1 => ?_)
  · have e : j = n := by omega
    subst e
    exact K _ hf hU
  · refine mm_iload_n (mm_dc od_X10_determinant_0 44 rfl) rfl ?_
    refine mm_iload (mm_dc od_X10_determinant_0 45 rfl) rfl ?_
    refine mm_ishr (mm_dc od_X10_determinant_0 46 rfl) ?_
    refine mm_iconst (mm_dc od_X10_determinant_0 47 rfl) ?_
    refine mm_iand (mm_dc od_X10_determinant_0 48 rfl) ?_
    refine mm_iconst (mm_dc od_X10_determinant_0 49 rfl) ?_
    refine mm_icmp_ne 94 (mm_dc od_X10_determinant_0 50 rfl) (by omega) (by first | omega | assumption | exact hr _ _ rfl | (rw [hcx]; omega)) (by first | omega | assumption | exact hr _ _ rfl | (rw [hcx]; omega)) (fun c2 => ?_) (fun c2 => ?_)
    · refine mm_aload_n (mm_dc od_X10_determinant_0 52 rfl) rfl ?_
      refine mm_getR (ci := 10) (k := 20) (mm_dc od_X10_determinant_0 53 rfl) rfl in_X10 (by decide) wd_4_132 rfl rfl ?_
      refine mm_iload_n (mm_dc od_X10_determinant_0 54 rfl) rfl ?_
      refine mm_lald (mm_dc od_X10_determinant_0 55 rfl) rfl (by first | omega | assumption | exact hr _ _ rfl | (rw [hcx]; omega)) (by first | omega | assumption | exact hr _ _ rfl | (rw [hcx]; omega)) (by decide) ?_
      refine mm_cst (st' := [v_l (M 68 s)]) rfl ?_
      refine mm_iload (mm_dc od_X10_determinant_0 56 rfl) rfl ?_
      refine mm_iload_n (mm_dc od_X10_determinant_0 57 rfl) rfl ?_
      refine mm_icmp_ne 115 (mm_dc od_X10_determinant_0 58 rfl) (by omega) (by first | omega | assumption | exact hr _ _ rfl | (rw [hcx]; omega)) (by first | omega | assumption | exact hr _ _ rfl | (rw [hcx]; omega)) (fun c3 => ?_) (fun c3 => ?_)
      · refine mm_aload_n (mm_dc od_X10_determinant_1 4 rfl) rfl ?_
        refine mm_getR (ci := 10) (k := 18) (mm_dc od_X10_determinant_1 5 rfl) rfl in_X10 (by decide) wd_4_130 rfl rfl ?_
        refine mm_bipush (mm_dc od_X10_determinant_1 6 rfl) (by decide) ?_
        refine mm_iload_n (mm_dc od_X10_determinant_1 7 rfl) rfl ?_
        refine mm_imul (mm_dc od_X10_determinant_1 8 rfl) ?_
        refine mm_iload (mm_dc od_X10_determinant_1 9 rfl) rfl ?_
        refine mm_iadd (mm_dc od_X10_determinant_1 10 rfl) ?_
        refine mm_lald (mm_dc od_X10_determinant_1 11 rfl) rfl (by first | omega | assumption | exact hr _ _ rfl | (rw [hcx]; omega)) (by first | omega | assumption | exact hr _ _ rfl | (rw [hcx]; omega)) (by decide) ?_
        refine mm_lmul (mm_dc od_X10_determinant_1 12 rfl) ?_
        refine mm_lstore (L' := [(0, v_r 50), (1, v_i ch), (2, v_i (i : Int)), (3, v_i (s : Int)), (4, v_i (j : Int)), (5, v_l ((M 68 s) * (M 66 (Int.toNat ((7 * (i : Int)) + (j : Int))))))]) (mm_dc od_X10_determinant_1 13 rfl) (by decide) rfl ?_
        refine mm_aload_n (mm_dc od_X10_determinant_1 14 rfl) rfl ?_
        refine mm_getR (ci := 10) (k := 20) (mm_dc od_X10_determinant_1 15 rfl) rfl in_X10 (by decide) wd_4_132 rfl rfl ?_
        refine mm_iload_n (mm_dc od_X10_determinant_1 16 rfl) rfl ?_
        refine mm_iconst (mm_dc od_X10_determinant_1 17 rfl) ?_
        refine mm_iload (mm_dc od_X10_determinant_1 18 rfl) rfl ?_
        refine mm_ishl (mm_dc od_X10_determinant_1 19 rfl) ?_
        refine mm_ior (mm_dc od_X10_determinant_1 20 rfl) ?_
        refine mm_dup2_ir (mm_dc od_X10_determinant_1 21 rfl) ?_
        refine mm_lald (mm_dc od_X10_determinant_1 22 rfl) rfl (by first | omega | assumption | exact hr _ _ rfl | (rw [hcx]; omega)) (by first | omega | assumption | exact hr _ _ rfl | (rw [hcx]; omega)) (by decide) ?_
        refine mm_iload_n (mm_dc od_X10_determinant_1 23 rfl) rfl ?_
        refine mm_iload (mm_dc od_X10_determinant_1 24 rfl) rfl ?_
        refine mm_iconst (mm_dc od_X10_determinant_1 25 rfl) ?_
        refine mm_iadd (mm_dc od_X10_determinant_1 26 rfl) ?_
        refine mm_ishr (mm_dc od_X10_determinant_1 27 rfl) ?_
        refine mm_callS (mi' := mi_X10_bits) [v_i (fx_shr (s : Int) ((j : Int) + 1))] [v_l (M 68 (Int.toNat (fx_or (s : Int) (fx_shl 1 (j : Int))))), v_i (fx_or (s : Int) (fx_shl 1 (j : Int))), v_r 68] (mm_dc od_X10_determinant_1 28 rfl) rfl wd_5_121 wd_5_122 wd_1_12 wd_5_123 yk_X10_bits (Nat.le_of_ble_eq_true rfl) rfl (by decide) (c_X10_bits (fx_shr (s : Int) ((j : Int) + 1)) (by first | omega | assumption | exact hr _ _ rfl | (rw [hcx]; omega)) ⟨Nat.le_refl _, ?_⟩)
        refine mm_iconst (mm_dc od_X10_determinant_1 29 rfl) ?_
        refine mm_irem (mm_dc od_X10_determinant_1 30 rfl) (by first | omega | assumption | exact hr _ _ rfl | (rw [hcx]; omega)) (by first | omega | assumption | exact hr _ _ rfl | (rw [hcx]; omega)) (by first | omega | assumption | exact hr _ _ rfl | (rw [hcx]; omega)) ?_
        refine mm_iconst (mm_dc od_X10_determinant_1 31 rfl) ?_
        refine mm_icmp_ne 163 (mm_dc od_X10_determinant_1 32 rfl) (by omega) (by first | omega | assumption | exact hr _ _ rfl | (rw [hcx]; omega)) (by first | omega | assumption | exact hr _ _ rfl | (rw [hcx]; omega)) (fun c4 => ?_) (fun c4 => ?_)
        · refine mm_lload (mm_dc od_X10_determinant_1 36 rfl) rfl ?_
          refine mm_ladd (mm_dc od_X10_determinant_1 37 rfl) ?_
          refine mm_last (mm_dc od_X10_determinant_1 38 rfl) rfl (by first | omega | assumption | exact hr _ _ rfl | (rw [hcx]; omega)) (by first | omega | assumption | exact hr _ _ rfl | (rw [hcx]; omega)) (by decide) ?_
          refine mm_iinc (L' := [(0, v_r 50), (1, v_i ch), (2, v_i (i : Int)), (3, v_i (s : Int)), (4, v_i ((j : Int) + 1)), (5, v_l ((M 68 s) * (M 66 (Int.toNat ((7 * (i : Int)) + (j : Int))))))]) (mm_dc od_X10_determinant_1 39 rfl) rfl (by decide) rfl ?_
          refine mm_goto 72 (mm_dc od_X10_determinant_1 40 rfl) (by omega) ?_
          have hbt : ¬ s.testBit j = true := by rw [hbi] at c2; intro q; rw [if_pos q] at c2; exact c2 rfl
          obtain ⟨b1, b2, b3, b4, b5⟩ := ck5 hs (show j < 7 by omega) hbt
          have hBj := hB j i (by omega) (by omega)
          rw [if_neg (by omega), ← hf.2 66 (by decide)] at hBj
          have hsg : sgT (s + 2 ^ j) j = 1 := by unfold sgT; rw [b4, ← hu]; exact sg_even (by rw [htm] at c4; omega)
          refine mm_eqM (M' := mm_up M 68 (s + 2 ^ j) (M 68 (s + 2 ^ j) + (M 68 s) * (M 66 (Int.toNat (7 * (i : Int) + (j : Int)))))) (by rw [hix, Int.toNat_natCast, b3]) ?_
          exact mm_less [0, 1, 2, 3, 4] rfl (L_d72 n ch hn6 hch hn hB hd i s hi hs hsn hcs K (j + 1) (by omega) (frm_upL hf rfl) (UQ_push hn6 hU hs hsn (by omega) hcs hbt (by rw [hsg, hBj]; grind) (fun T => mm_upa)))
        · refine mm_lload (mm_dc od_X10_determinant_1 33 rfl) rfl ?_
          refine mm_lneg (mm_dc od_X10_determinant_1 34 rfl) ?_
          refine mm_goto 165 (mm_dc od_X10_determinant_1 35 rfl) (by omega) ?_
          refine mm_ladd (mm_dc od_X10_determinant_1 37 rfl) ?_
          refine mm_last (mm_dc od_X10_determinant_1 38 rfl) rfl (by first | omega | assumption | exact hr _ _ rfl | (rw [hcx]; omega)) (by first | omega | assumption | exact hr _ _ rfl | (rw [hcx]; omega)) (by decide) ?_
          refine mm_iinc (L' := [(0, v_r 50), (1, v_i ch), (2, v_i (i : Int)), (3, v_i (s : Int)), (4, v_i ((j : Int) + 1)), (5, v_l ((M 68 s) * (M 66 (Int.toNat ((7 * (i : Int)) + (j : Int))))))]) (mm_dc od_X10_determinant_1 39 rfl) rfl (by decide) rfl ?_
          refine mm_goto 72 (mm_dc od_X10_determinant_1 40 rfl) (by omega) ?_
          have hbt : ¬ s.testBit j = true := by rw [hbi] at c2; intro q; rw [if_pos q] at c2; exact c2 rfl
          obtain ⟨b1, b2, b3, b4, b5⟩ := ck5 hs (show j < 7 by omega) hbt
          have hBj := hB j i (by omega) (by omega)
          rw [if_neg (by omega), ← hf.2 66 (by decide)] at hBj
          have hsg : sgT (s + 2 ^ j) j = -1 := by unfold sgT; rw [b4, ← hu]; exact sg_odd (by rw [htm] at c4; omega)
          refine mm_eqM (M' := mm_up M 68 (s + 2 ^ j) (M 68 (s + 2 ^ j) + -((M 68 s) * (M 66 (Int.toNat (7 * (i : Int) + (j : Int))))))) (by rw [hix, Int.toNat_natCast, b3]) ?_
          exact mm_less [0, 1, 2, 3, 4] rfl (L_d72 n ch hn6 hch hn hB hd i s hi hs hsn hcs K (j + 1) (by omega) (frm_upL hf rfl) (UQ_push hn6 hU hs hsn (by omega) hcs hbt (by rw [hsg, hBj]; grind) (fun T => mm_upa)))
      · refine mm_aload_n (mm_dc od_X10_determinant_0 59 rfl) rfl ?_
        refine mm_getR (ci := 10) (k := 19) (mm_dc od_X10_determinant_1 0 rfl) rfl in_X10 (by decide) wd_4_131 rfl rfl ?_
        refine mm_iload_n (mm_dc od_X10_determinant_1 1 rfl) rfl ?_
        refine mm_lald (mm_dc od_X10_determinant_1 2 rfl) rfl (by first | omega | assumption | exact hr _ _ rfl | (rw [hcx]; omega)) (by first | omega | assumption | exact hr _ _ rfl | (rw [hcx]; omega)) (by decide) ?_
        refine mm_cst (st' := [v_l (M 67 i), v_l (M 68 s)]) rfl ?_
        refine mm_goto 127 (mm_dc od_X10_determinant_1 3 rfl) (by omega) ?_
        refine mm_lmul (mm_dc od_X10_determinant_1 12 rfl) ?_
        refine mm_lstore (L' := [(0, v_r 50), (1, v_i ch), (2, v_i (i : Int)), (3, v_i (s : Int)), (4, v_i (j : Int)), (5, v_l ((M 68 s) * (M 67 i)))]) (mm_dc od_X10_determinant_1 13 rfl) (by decide) rfl ?_
        refine mm_aload_n (mm_dc od_X10_determinant_1 14 rfl) rfl ?_
        refine mm_getR (ci := 10) (k := 20) (mm_dc od_X10_determinant_1 15 rfl) rfl in_X10 (by decide) wd_4_132 rfl rfl ?_
        refine mm_iload_n (mm_dc od_X10_determinant_1 16 rfl) rfl ?_
        refine mm_iconst (mm_dc od_X10_determinant_1 17 rfl) ?_
        refine mm_iload (mm_dc od_X10_determinant_1 18 rfl) rfl ?_
        refine mm_ishl (mm_dc od_X10_determinant_1 19 rfl) ?_
        refine mm_ior (mm_dc od_X10_determinant_1 20 rfl) ?_
        refine mm_dup2_ir (mm_dc od_X10_determinant_1 21 rfl) ?_
        refine mm_lald (mm_dc od_X10_determinant_1 22 rfl) rfl (by first | omega | assumption | exact hr _ _ rfl | (rw [hcx]; omega)) (by first | omega | assumption | exact hr _ _ rfl | (rw [hcx]; omega)) (by decide) ?_
        refine mm_iload_n (mm_dc od_X10_determinant_1 23 rfl) rfl ?_
        refine mm_iload (mm_dc od_X10_determinant_1 24 rfl) rfl ?_
        refine mm_iconst (mm_dc od_X10_determinant_1 25 rfl) ?_
        refine mm_iadd (mm_dc od_X10_determinant_1 26 rfl) ?_
        refine mm_ishr (mm_dc od_X10_determinant_1 27 rfl) ?_
        refine mm_callS (mi' := mi_X10_bits) [v_i (fx_shr (s : Int) ((j : Int) + 1))] [v_l (M 68 (Int.toNat (fx_or (s : Int) (fx_shl 1 (j : Int))))), v_i (fx_or (s : Int) (fx_shl 1 (j : Int))), v_r 68] (mm_dc od_X10_determinant_1 28 rfl) rfl wd_5_121 wd_5_122 wd_1_12 wd_5_123 yk_X10_bits (Nat.le_of_ble_eq_true rfl) rfl (by decide) (c_X10_bits (fx_shr (s : Int) ((j : Int) + 1)) (by first | omega | assumption | exact hr _ _ rfl | (rw [hcx]; omega)) ⟨Nat.le_refl _, ?_⟩)
        refine mm_iconst (mm_dc od_X10_determinant_1 29 rfl) ?_
        refine mm_irem (mm_dc od_X10_determinant_1 30 rfl) (by first | omega | assumption | exact hr _ _ rfl | (rw [hcx]; omega)) (by first | omega | assumption | exact hr _ _ rfl | (rw [hcx]; omega)) (by first | omega | assumption | exact hr _ _ rfl | (rw [hcx]; omega)) ?_
        refine mm_iconst (mm_dc od_X10_determinant_1 31 rfl) ?_
        refine mm_icmp_ne 163 (mm_dc od_X10_determinant_1 32 rfl) (by omega) (by first | omega | assumption | exact hr _ _ rfl | (rw [hcx]; omega)) (by first | omega | assumption | exact hr _ _ rfl | (rw [hcx]; omega)) (fun c5 => ?_) (fun c5 => ?_)
        · refine mm_lload (mm_dc od_X10_determinant_1 36 rfl) rfl ?_
          refine mm_ladd (mm_dc od_X10_determinant_1 37 rfl) ?_
          refine mm_last (mm_dc od_X10_determinant_1 38 rfl) rfl (by first | omega | assumption | exact hr _ _ rfl | (rw [hcx]; omega)) (by first | omega | assumption | exact hr _ _ rfl | (rw [hcx]; omega)) (by decide) ?_
          refine mm_iinc (L' := [(0, v_r 50), (1, v_i ch), (2, v_i (i : Int)), (3, v_i (s : Int)), (4, v_i ((j : Int) + 1)), (5, v_l ((M 68 s) * (M 67 i)))]) (mm_dc od_X10_determinant_1 39 rfl) rfl (by decide) rfl ?_
          refine mm_goto 72 (mm_dc od_X10_determinant_1 40 rfl) (by omega) ?_
          have hbt : ¬ s.testBit j = true := by rw [hbi] at c2; intro q; rw [if_pos q] at c2; exact c2 rfl
          obtain ⟨b1, b2, b3, b4, b5⟩ := ck5 hs (show j < 7 by omega) hbt
          have hBj := hB j i (by omega) (by omega)
          rw [if_pos (by omega), ← hf.2 67 (by decide)] at hBj
          have hsg : sgT (s + 2 ^ j) j = 1 := by unfold sgT; rw [b4, ← hu]; exact sg_even (by rw [htm] at c5; omega)
          refine mm_eqM (M' := mm_up M 68 (s + 2 ^ j) (M 68 (s + 2 ^ j) + (M 68 s) * (M 67 i))) (by rw [hix, Int.toNat_natCast, b3]) ?_
          exact mm_less [0, 1, 2, 3, 4] rfl (L_d72 n ch hn6 hch hn hB hd i s hi hs hsn hcs K (j + 1) (by omega) (frm_upL hf rfl) (UQ_push hn6 hU hs hsn (by omega) hcs hbt (by rw [hsg, hBj]; grind) (fun T => mm_upa)))
        · refine mm_lload (mm_dc od_X10_determinant_1 33 rfl) rfl ?_
          refine mm_lneg (mm_dc od_X10_determinant_1 34 rfl) ?_
          refine mm_goto 165 (mm_dc od_X10_determinant_1 35 rfl) (by omega) ?_
          refine mm_ladd (mm_dc od_X10_determinant_1 37 rfl) ?_
          refine mm_last (mm_dc od_X10_determinant_1 38 rfl) rfl (by first | omega | assumption | exact hr _ _ rfl | (rw [hcx]; omega)) (by first | omega | assumption | exact hr _ _ rfl | (rw [hcx]; omega)) (by decide) ?_
          refine mm_iinc (L' := [(0, v_r 50), (1, v_i ch), (2, v_i (i : Int)), (3, v_i (s : Int)), (4, v_i ((j : Int) + 1)), (5, v_l ((M 68 s) * (M 67 i)))]) (mm_dc od_X10_determinant_1 39 rfl) rfl (by decide) rfl ?_
          refine mm_goto 72 (mm_dc od_X10_determinant_1 40 rfl) (by omega) ?_
          have hbt : ¬ s.testBit j = true := by rw [hbi] at c2; intro q; rw [if_pos q] at c2; exact c2 rfl
          obtain ⟨b1, b2, b3, b4, b5⟩ := ck5 hs (show j < 7 by omega) hbt
          have hBj := hB j i (by omega) (by omega)
          rw [if_pos (by omega), ← hf.2 67 (by decide)] at hBj
          have hsg : sgT (s + 2 ^ j) j = -1 := by unfold sgT; rw [b4, ← hu]; exact sg_odd (by rw [htm] at c5; omega)
          refine mm_eqM (M' := mm_up M 68 (s + 2 ^ j) (M 68 (s + 2 ^ j) + -((M 68 s) * (M 67 i)))) (by rw [hix, Int.toNat_natCast, b3]) ?_
          exact mm_less [0, 1, 2, 3, 4] rfl (L_d72 n ch hn6 hch hn hB hd i s hi hs hsn hcs K (j + 1) (by omega) (frm_upL hf rfl) (UQ_push hn6 hU hs hsn (by omega) hcs hbt (by rw [hsg, hBj]; grind) (fun T => mm_upa)))
    · refine mm_goto 167 (mm_dc od_X10_determinant_0 51 rfl) (by omega) ?_
      refine mm_iinc (L' := [(0, v_r 50), (1, v_i ch), (2, v_i (i : Int)), (3, v_i (s : Int)), (4, v_i ((j : Int) + 1))]) (mm_dc od_X10_determinant_1 39 rfl) rfl (by decide) rfl ?_
      refine mm_goto 72 (mm_dc od_X10_determinant_1 40 rfl) (by omega) ?_
      have hbt : s.testBit j = true := by rw [hbi] at c2; by_cases q : s.testBit j = true; exact q; rw [if_neg q] at c2; cases c2
      exact L_d72 n ch hn6 hch hn hB hd i s hi hs hsn hcs K (j + 1) (by omega) hf (UQ_bit hU hbt)
termination_by n - j
decreasing_by all_goals (first | omega | (simp_wf; omega))
theorem L_d47 {X : Nat × (Nat → Int)} {d : Nat} {Po : mm_Po} {M : mm_M} {B : mm_M} {Bm : Nat → Nat → Int} (n : Nat) (ch : Int) (hn6 : n ≤ 6) (hch : mm_r32 ch) (hn : B 50 22 = (n : Int)) (hB : ∀ c r, c < n → r < n → Bm c r = if (c : Int) = ch then B 67 r else B 66 (7 * r + c)) (hd : ∀ i T, i ≤ n → T < 128 → mm_r64 (dm Bm i T)) (i s : Nat) (hi : i < n) (hs : s < 128) (K : ∀ (N : mm_M) (y : Int), frm 68 B N → UQ n Bm i s 0 (N 68) → mm_G X (d + 1) 0 0 mi_X10_determinant Po 173 [(0, v_r 50), (1, v_i ch), (2, v_i (i : Int)), (3, v_i (s : Int)), (4, v_i y)] [] Lam N 0 0) (K2 : ∀ (N : mm_M), frm 68 B N → UQ n Bm i s 0 (N 68) → mm_G X (d + 1) 0 0 mi_X10_determinant Po 173 [(0, v_r 50), (1, v_i ch), (2, v_i (i : Int)), (3, v_i (s : Int))] [] Lam N 0 0) (hf : frm 68 B M) (hU : UQ n Bm i (s + 1) 0 (M 68)) : mm_G X (d + 1) 0 0 mi_X10_determinant Po 47 [(0, v_r 50), (1, v_i ch), (2, v_i (i : Int)), (3, v_i (s : Int))] [] Lam M 0 0 := by
  have hr := hf.1
  have e50 : M 50 22 = (n : Int) := (by rw [hf.2 50 (by decide)]; exact hn)
  have hct := (ck6 hs).2
  have hc7 := cn_le s 7
  have hcx : cntb ((s : Int)).toNat = (cnN s 7 : Int) := (by rw [Int.toNat_natCast]; exact hct)
  have hUr : cnN s 7 = i → mm_r64 (M 68 s) := (fun q => by
    rw [hU.1 s hs q]
    split
    · exact hd i s (by omega) hs
    · decide)
  have qz := mm_cmp_is (M 68 s) 0
  refine mm_iload_n (mm_dc od_X10_determinant_0 26 rfl) rfl ?_
  refine mm_callS (mi' := mi_X10_bits) [v_i (s : Int)] [] (mm_dc od_X10_determinant_0 27 rfl) rfl wd_5_121 wd_5_122 wd_1_12 wd_5_123 yk_X10_bits (Nat.le_of_ble_eq_true rfl) rfl (by decide) (c_X10_bits (s : Int) (by first | omega | assumption | exact hr _ _ rfl | exact hUr (by omega) | (rw [hcx]; omega)) ⟨Nat.le_refl _, ?_⟩)
  refine mm_cst (st' := [v_i (cntb s)]) rfl ?_
  refine mm_iload_n (mm_dc od_X10_determinant_0 28 rfl) rfl ?_
  refine mm_icmp_ne 173 (mm_dc od_X10_determinant_0 29 rfl) (by omega) (by first | omega | assumption | exact hr _ _ rfl | exact hUr (by omega) | (rw [hcx]; omega)) (by first | omega | assumption | exact hr _ _ rfl | exact hUr (by omega) | (rw [hcx]; omega)) (fun c1 => ?_) (fun c1 => ?_)
  · exact K2 _ hf (UQ_skip hs hU (by omega))
  · refine mm_aload_n (mm_dc od_X10_determinant_0 30 rfl) rfl ?_
    refine mm_getR (ci := 10) (k := 20) (mm_dc od_X10_determinant_0 31 rfl) rfl in_X10 (by decide) wd_4_132 rfl rfl ?_
    refine mm_iload_n (mm_dc od_X10_determinant_0 32 rfl) rfl ?_
    refine mm_lald (mm_dc od_X10_determinant_0 33 rfl) rfl (by first | omega | assumption | exact hr _ _ rfl | exact hUr (by omega) | (rw [hcx]; omega)) (by first | omega | assumption | exact hr _ _ rfl | exact hUr (by omega) | (rw [hcx]; omega)) (by decide) ?_
    refine mm_cst (st' := [v_l (M 68 s)]) rfl ?_
    refine mm_lconst (mm_dc od_X10_determinant_0 34 rfl) ?_
    refine mm_cst (st' := [v_l 0, v_l (M 68 s)]) rfl ?_
    refine mm_lcmp (mm_dc od_X10_determinant_0 35 rfl) (by first | omega | assumption | exact hr _ _ rfl | exact hUr (by omega) | (rw [hcx]; omega)) (by first | omega | assumption | exact hr _ _ rfl | exact hUr (by omega) | (rw [hcx]; omega)) ?_
    refine mm_if_ne 69 (mm_dc od_X10_determinant_0 36 rfl) (by omega) (by first | omega | assumption | exact hr _ _ rfl | exact hUr (by omega) | (rw [hcx]; omega)) (fun c2 => ?_) (fun c2 => ?_)
    · refine mm_iconst (mm_dc od_X10_determinant_0 38 rfl) ?_
      refine mm_istore (L' := [(0, v_r 50), (1, v_i ch), (2, v_i (i : Int)), (3, v_i (s : Int)), (4, v_i 0)]) (mm_dc od_X10_determinant_0 39 rfl) (by decide) rfl ?_
      have hsn : s < 2 ^ n := by
        apply Classical.byContradiction
        intro q
        have h := hU.1 s hs (by omega)
        rw [if_neg q] at h
        omega
      exact L_d72 n ch hn6 hch hn hB hd i s hi hs hsn (by omega) (fun N h1 h2 => K N _ h1 (UQ_end h2)) 0 (by omega) hf hU
    · refine mm_goto 173 (mm_dc od_X10_determinant_0 37 rfl) (by omega) ?_
      exact K2 _ hf (UQ_skip hs hU (by omega))
theorem L_d173 {X : Nat × (Nat → Int)} {d : Nat} {Po : mm_Po} {M : mm_M} (ch : Int) (i s : Nat) (K : mm_G X (d + 1) 0 0 mi_X10_determinant Po 43 [(0, v_r 50), (1, v_i ch), (2, v_i (i : Int)), (3, v_i ((s : Int) - 1))] [] Lam M 0 0) : mm_G X (d + 1) 0 0 mi_X10_determinant Po 173 [(0, v_r 50), (1, v_i ch), (2, v_i (i : Int)), (3, v_i (s : Int))] [] Lam M 0 0 := by
  refine mm_iinc (L' := [(0, v_r 50), (1, v_i ch), (2, v_i (i : Int)), (3, v_i ((s : Int) + (-1)))]) (mm_dc od_X10_determinant_1 41 rfl) rfl (by decide) rfl ?_
  refine mm_goto 43 (mm_dc od_X10_determinant_1 42 rfl) (by omega) ?_
  refine mm_cL (L' := [(0, v_r 50), (1, v_i ch), (2, v_i (i : Int)), (3, v_i ((s : Int) - 1))]) (by rw [show (s : Int) + (-1) = (s : Int) - 1 by omega]) ?_
  exact K
theorem L_d43 {X : Nat × (Nat → Int)} {d : Nat} {Po : mm_Po} {M : mm_M} {B : mm_M} {Bm : Nat → Nat → Int} (n : Nat) (ch : Int) (hn6 : n ≤ 6) (hch : mm_r32 ch) (hn : B 50 22 = (n : Int)) (hB : ∀ c r, c < n → r < n → Bm c r = if (c : Int) = ch then B 67 r else B 66 (7 * r + c)) (hd : ∀ i T, i ≤ n → T < 128 → mm_r64 (dm Bm i T)) (i : Nat) (hi : i < n) (K : ∀ N : mm_M, frm 68 B N → UQ n Bm i 0 0 (N 68) → mm_G X (d + 1) 0 0 mi_X10_determinant Po 179 [(0, v_r 50), (1, v_i ch), (2, v_i (i : Int)), (3, v_i (-1))] [] Lam N 0 0) (q : Nat) (hq : q ≤ 128) (hf : frm 68 B M) (hU : UQ n Bm i q 0 (M 68)) : mm_G X (d + 1) 0 0 mi_X10_determinant Po 43 [(0, v_r 50), (1, v_i ch), (2, v_i (i : Int)), (3, v_i ((q : Int) - 1))] [] Lam M 0 0 := by
  have hr := hf.1
  have e50 : M 50 22 = (n : Int) := (by rw [hf.2 50 (by decide)]; exact hn)
  refine mm_iload_n (mm_dc od_X10_determinant_0 24 rfl) rfl ?_
  refine mm_if_lt 179 (mm_dc od_X10_determinant_0 25 rfl) (by omega) (by first | omega | assumption | exact hr _ _ rfl) (fun c1 => ?_) (fun c1 => ?_)
  · have e : q = 0 := by omega
    subst e
    refine mm_cL (L' := [(0, v_r 50), (1, v_i ch), (2, v_i (i : Int)), (3, v_i (-1))]) rfl ?_
    exact K _ hf hU
  · obtain ⟨t, rfl⟩ : ∃ t : Nat, q = t + 1 := ⟨q - 1, by omega⟩
    refine mm_cL (L' := [(0, v_r 50), (1, v_i ch), (2, v_i (i : Int)), (3, v_i (t : Int))]) (by rw [show ((t + 1 : Nat) : Int) - 1 = (t : Int) by omega]) ?_
    exact L_d47 n ch hn6 hch hn hB hd i t hi (by omega) (fun N y h1 h2 => mm_less [0, 1, 2, 3] rfl (L_d173 ch i t (L_d43 n ch hn6 hch hn hB hd i hi K t (by omega) h1 h2))) (fun N h1 h2 => L_d173 ch i t (L_d43 n ch hn6 hch hn hB hd i hi K t (by omega) h1 h2)) hf hU
termination_by q
decreasing_by all_goals (first | omega | (simp_wf; omega))
theorem L_d179 {X : Nat × (Nat → Int)} {d : Nat} {Po : mm_Po} {M : mm_M} (ch x : Int) (i : Nat) (K : mm_G X (d + 1) 0 0 mi_X10_determinant Po 32 [(0, v_r 50), (1, v_i ch), (2, v_i ((i + 1 : Nat) : Int))] [] Lam M 0 0) : mm_G X (d + 1) 0 0 mi_X10_determinant Po 179 [(0, v_r 50), (1, v_i ch), (2, v_i (i : Int)), (3, v_i x)] [] Lam M 0 0 := by
  refine mm_iinc (L' := [(0, v_r 50), (1, v_i ch), (2, v_i ((i : Int) + 1)), (3, v_i x)]) (mm_dc od_X10_determinant_1 43 rfl) rfl (by decide) rfl ?_
  refine mm_goto 32 (mm_dc od_X10_determinant_1 44 rfl) (by omega) ?_
  exact mm_less [0, 1, 2] rfl K
theorem L_d32 {X : Nat × (Nat → Int)} {d : Nat} {Po : mm_Po} {M : mm_M} {B : mm_M} {Bm : Nat → Nat → Int} (n : Nat) (ch : Int) (hn6 : n ≤ 6) (hch : mm_r32 ch) (hn : B 50 22 = (n : Int)) (hB : ∀ c r, c < n → r < n → Bm c r = if (c : Int) = ch then B 67 r else B 66 (7 * r + c)) (hd : ∀ i T, i ≤ n → T < 128 → mm_r64 (dm Bm i T)) (k : ∀ N : mm_M, frm 68 B N → Po (some (v_l (dm Bm n (2 ^ n - 1)))) Lam N) (i : Nat) (hi : i ≤ n) (hf : frm 68 B M) (hU : UQ n Bm i 128 0 (M 68)) : mm_G X (d + 1) 0 0 mi_X10_determinant Po 32 [(0, v_r 50), (1, v_i ch), (2, v_i (i : Int))] [] Lam M 0 0 := by
  have hr := hf.1
  have e50 : M 50 22 = (n : Int) := (by rw [hf.2 50 (by decide)]; exact hn)
  have hp1 := Nat.one_le_two_pow (n := n)
  have hp7 : 2 ^ n ≤ 2 ^ 6 := Nat.pow_le_pow_right (by decide) (by omega)
  have hsx : fx_shl 1 (M 50 22) = ((2 ^ n : Nat) : Int) := (by rw [e50]; exact fx_shl_1 (by omega))
  refine mm_iload_n (mm_dc od_X10_determinant_0 18 rfl) rfl ?_
  refine mm_aload_n (mm_dc od_X10_determinant_0 19 rfl) rfl ?_
  refine mm_getI (ci := 10) (k := 22) (mm_dc od_X10_determinant_0 20 rfl) rfl in_X10 (by decide) wd_4_134 rfl rfl ?_
  refine mm_icmp_ge 185 (mm_dc od_X10_determinant_0 21 rfl) (by omega) (by first | omega | assumption | exact hr _ _ rfl) (by first | omega | assumption | exact hr _ _ rfl) (fun c1 => ?_) (fun c1 => ?_)
  · refine mm_aload_n (mm_dc od_X10_determinant_1 45 rfl) rfl ?_
    refine mm_getR (ci := 10) (k := 20) (mm_dc od_X10_determinant_1 46 rfl) rfl in_X10 (by decide) wd_4_132 rfl rfl ?_
    refine mm_iconst (mm_dc od_X10_determinant_1 47 rfl) ?_
    refine mm_aload_n (mm_dc od_X10_determinant_1 48 rfl) rfl ?_
    refine mm_getI (ci := 10) (k := 22) (mm_dc od_X10_determinant_1 49 rfl) rfl in_X10 (by decide) wd_4_134 rfl rfl ?_
    refine mm_ishl (mm_dc od_X10_determinant_1 50 rfl) ?_
    refine mm_iconst (mm_dc od_X10_determinant_1 51 rfl) ?_
    refine mm_isub (mm_dc od_X10_determinant_1 52 rfl) ?_
    refine mm_lald (mm_dc od_X10_determinant_1 53 rfl) rfl (by first | omega | assumption | exact hr _ _ rfl) (by first | omega | assumption | exact hr _ _ rfl) (by decide) ?_
    refine mm_lret (mm_dc od_X10_determinant_1 54 rfl) rfl ?_
    have e : i = n := by omega
    subst e
    have hff := allB_all 7 full_q i (by omega)
    simp only [fullQ, Bool.and_eq_true] at hff
    have hv := hU.1 (2 ^ i - 1) (by omega) (Nat.eq_of_beq_eq_true hff.1)
    rw [if_pos (by omega)] at hv
    exact mm_pl (by rw [hsx, ← hv]; congr 1; omega) (k _ hf)
  · refine mm_bipush (mm_dc od_X10_determinant_0 22 rfl) (by decide) ?_
    refine mm_istore_n (L' := [(0, v_r 50), (1, v_i ch), (2, v_i (i : Int)), (3, v_i 127)]) (mm_dc od_X10_determinant_0 23 rfl) (by decide) rfl ?_
    refine mm_cL (L' := [(0, v_r 50), (1, v_i ch), (2, v_i (i : Int)), (3, v_i (((128 : Nat) : Int) - 1))]) rfl ?_
    exact L_d43 n ch hn6 hch hn hB hd i (by omega) (fun N h1 h2 => L_d179 ch _ i (L_d32 n ch hn6 hch hn hB hd k (i + 1) (by omega) h1 (UQ_next h2))) 128 (by omega) hf hU
termination_by n - i
decreasing_by all_goals (first | omega | (simp_wf; omega))
theorem L_d2 {X : Nat × (Nat → Int)} {d : Nat} {Po : mm_Po} {M : mm_M} {B : mm_M} {Bm : Nat → Nat → Int} (n : Nat) (ch : Int) (hn6 : n ≤ 6) (hch : mm_r32 ch) (hn : B 50 22 = (n : Int)) (hB : ∀ c r, c < n → r < n → Bm c r = if (c : Int) = ch then B 67 r else B 66 (7 * r + c)) (hd : ∀ i T, i ≤ n → T < 128 → mm_r64 (dm Bm i T)) (k : ∀ N : mm_M, frm 68 B N → Po (some (v_l (dm Bm n (2 ^ n - 1)))) Lam N) (j : Nat) (hj : j ≤ 128) (hf : frm 68 B M) (h0 : ∀ T, T < j → M 68 T = if T = 0 then 1 else 0) : mm_G X (d + 1) 0 0 mi_X10_determinant Po 2 [(0, v_r 50), (1, v_i ch), (2, v_i (j : Int))] [] Lam M 0 0 := by
  have hr := hf.1
  have e50 : M 50 22 = (n : Int) := (by rw [hf.2 50 (by decide)]; exact hn)
  refine mm_iload_n (mm_dc od_X10_determinant_0 2 rfl) rfl ?_
  refine mm_sipush (mm_dc od_X10_determinant_0 3 rfl) (by decide) ?_
  refine mm_icmp_ge 30 (mm_dc od_X10_determinant_0 4 rfl) (by omega) (by first | omega | assumption | exact hr _ _ rfl) (by first | omega | assumption | exact hr _ _ rfl) (fun c1 => ?_) (fun c1 => ?_)
  · refine mm_iconst (mm_dc od_X10_determinant_0 16 rfl) ?_
    refine mm_istore_n (L' := [(0, v_r 50), (1, v_i ch), (2, v_i 0)]) (mm_dc od_X10_determinant_0 17 rfl) (by decide) rfl ?_
    exact L_d32 n ch hn6 hch hn hB hd k 0 (by omega) hf (UQ_0 (fun T hT => h0 T (by omega)))
  · refine mm_aload_n (mm_dc od_X10_determinant_0 5 rfl) rfl ?_
    refine mm_getR (ci := 10) (k := 20) (mm_dc od_X10_determinant_0 6 rfl) rfl in_X10 (by decide) wd_4_132 rfl rfl ?_
    refine mm_iload_n (mm_dc od_X10_determinant_0 7 rfl) rfl ?_
    refine mm_iload_n (mm_dc od_X10_determinant_0 8 rfl) rfl ?_
    refine mm_if_ne 22 (mm_dc od_X10_determinant_0 9 rfl) (by omega) (by first | omega | assumption | exact hr _ _ rfl) (fun c2 => ?_) (fun c2 => ?_)
    · refine mm_lconst (mm_dc od_X10_determinant_0 12 rfl) ?_
      refine mm_cst (st' := [v_l 0, v_i (j : Int), v_r 68]) rfl ?_
      refine mm_last (mm_dc od_X10_determinant_0 13 rfl) rfl (by first | omega | assumption | exact hr _ _ rfl) (by first | omega | assumption | exact hr _ _ rfl) (by decide) ?_
      refine mm_eqM (M' := mm_up M 68 j 0) rfl ?_
      refine mm_iinc (L' := [(0, v_r 50), (1, v_i ch), (2, v_i ((j : Int) + 1))]) (mm_dc od_X10_determinant_0 14 rfl) rfl (by decide) rfl ?_
      refine mm_goto 2 (mm_dc od_X10_determinant_0 15 rfl) (by omega) ?_
      exact L_d2 n ch hn6 hch hn hB hd k (j + 1) (by omega) (frm_upL hf rfl) (fun T hT => by rw [mm_upa]; split; (next e => rw [e, if_neg (by omega)]); exact h0 T (by omega))
    · refine mm_lconst (mm_dc od_X10_determinant_0 10 rfl) ?_
      refine mm_cst (st' := [v_l 1, v_i (j : Int), v_r 68]) rfl ?_
      refine mm_goto 23 (mm_dc od_X10_determinant_0 11 rfl) (by omega) ?_
      refine mm_last (mm_dc od_X10_determinant_0 13 rfl) rfl (by first | omega | assumption | exact hr _ _ rfl) (by first | omega | assumption | exact hr _ _ rfl) (by decide) ?_
      refine mm_eqM (M' := mm_up M 68 j 1) rfl ?_
      refine mm_iinc (L' := [(0, v_r 50), (1, v_i ch), (2, v_i ((j : Int) + 1))]) (mm_dc od_X10_determinant_0 14 rfl) rfl (by decide) rfl ?_
      refine mm_goto 2 (mm_dc od_X10_determinant_0 15 rfl) (by omega) ?_
      exact L_d2 n ch hn6 hch hn hB hd k (j + 1) (by omega) (frm_upL hf rfl) (fun T hT => by rw [mm_upa]; split; (next e => rw [e, if_pos (by omega)]); exact h0 T (by omega))
termination_by 128 - j
decreasing_by all_goals (first | omega | (simp_wf; omega))
theorem L_det {X : Nat × (Nat → Int)} {d : Nat} {Po : mm_Po} {M : mm_M} {Bm : Nat → Nat → Int} (n : Nat) (ch : Int) (hn6 : n ≤ 6) (hch : mm_r32 ch) (hn : M 50 22 = (n : Int)) (hB : ∀ c r, c < n → r < n → Bm c r = if (c : Int) = ch then M 67 r else M 66 (7 * r + c)) (hd : ∀ i T, i ≤ n → T < 128 → mm_r64 (dm Bm i T)) (hr : R32 M) (k : ∀ N : mm_M, frm 68 M N → Po (some (v_l (dm Bm n (2 ^ n - 1)))) Lam N) : mm_G X (d + 1) 0 0 mi_X10_determinant Po 0 [(0, v_r 50), (1, v_i ch)] [] Lam M 0 0 := by
  refine mm_iconst (mm_dc od_X10_determinant_0 0 rfl) ?_
  refine mm_istore_n (L' := [(0, v_r 50), (1, v_i ch), (2, v_i 0)]) (mm_dc od_X10_determinant_0 1 rfl) (by decide) rfl ?_
  exact L_d2 n ch hn6 hch hn hB hd k 0 (by omega) (frm_0 hr) (fun T hT => by omega)
