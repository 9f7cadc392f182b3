/-! the tape -/
theorem lm_255 : ∀ k : Nat, k < 64 → (255#64).getLsbD k = decide (k < 8) := by decide
theorem lb_eq (x : BitVec 64) (s : Nat) (hs : s ≤ 56) : (x >>> s) &&& 255#64 = (x.sshiftRight s) &&& 255#64 := by
  apply BitVec.eq_of_getLsbD_eq
  intro k hk
  rw [BitVec.getLsbD_and, BitVec.getLsbD_and, lm_255 k hk]
  by_cases h8 : k < 8
  · rw [BitVec.getLsbD_ushiftRight, BitVec.getLsbD_sshiftRight, if_pos (by omega)]
    have h : decide (64 ≤ k) = false := by simp; omega
    simp [h]
  · simp [h8]
theorem lb_amt (r : Nat) (hr : 1 ≤ r ∧ r ≤ 8) : ((Int32.ofInt (8 * ((r : Int) - 1))).toInt64.toUInt64 &&& Int64.toUInt64 63).toBitVec % 64 = BitVec.ofNat 64 (8 * (r - 1)) ∧ ((Int32.ofInt (8 * ((r : Int) - 1))).toInt64 &&& 63).toBitVec.smod 64 = BitVec.ofNat 64 (8 * (r - 1)) := by
  rcases (show r = 1 ∨ r = 2 ∨ r = 3 ∨ r = 4 ∨ r = 5 ∨ r = 6 ∨ r = 7 ∨ r = 8 by omega) with rfl | rfl | rfl | rfl | rfl | rfl | rfl | rfl <;> decide
theorem lb_same (w : Int) (r : Nat) (hr : 1 ≤ r ∧ r ≤ 8) : fx_land (fx_lushr w (8 * ((r : Int) - 1))) 255 = fx_land (fx_lshr w (8 * ((r : Int) - 1))) 255 := by
  unfold fx_land fx_lushr fx_lshr
  rw [Int64.ofInt_toInt, Int64.ofInt_toInt]
  congr 1
  apply Int64.toBitVec_inj.1
  obtain ⟨h1, h2⟩ := lb_amt r hr
  show ((Int64.ofInt w).toBitVec >>> (((Int32.ofInt (8 * ((r : Int) - 1))).toInt64.toUInt64 &&& Int64.toUInt64 63).toBitVec % 64)) &&& 255#64 = ((Int64.ofInt w).toBitVec.sshiftRight' (((Int32.ofInt (8 * ((r : Int) - 1))).toInt64 &&& 63).toBitVec.smod 64)) &&& 255#64
  rw [h1, h2, BitVec.sshiftRight_eq', BitVec.ushiftRight_eq']
  have e : (BitVec.ofNat 64 (8 * (r - 1))).toNat = 8 * (r - 1) := by rw [BitVec.toNat_ofNat]; omega
  rw [e]
  exact lb_eq _ _ (by omega)
theorem lb_rng (x : Int) : 0 ≤ fx_land x 255 ∧ fx_land x 255 ≤ 255 := by
  unfold fx_land
  show 0 ≤ ((Int64.ofInt x).toBitVec &&& 255#64).toInt ∧ ((Int64.ofInt x).toBitVec &&& 255#64).toInt ≤ 255
  have h : ((Int64.ofInt x).toBitVec &&& 255#64).toNat ≤ 255 := by
    rw [BitVec.toNat_and]
    exact Nat.and_le_right
  rw [BitVec.toInt_eq_toNat_of_lt (by omega)]
  omega
/-- bytes put behind others, and the number of bytes -/
def pmF (M : mm_M) (a c f len cnt : Nat) (v : Nat → Int) : mm_M := fun i k => if i = c ∧ k = f then ((len + cnt : Nat) : Int) else if i = a ∧ len ≤ k ∧ k < len + cnt then v (k - len) else M i k
theorem pmF_0 {M : mm_M} {a c f len : Nat} {v : Nat → Int} (h : M c f = len) : pmF M a c f len 0 v = M := by
  funext i k
  unfold pmF
  by_cases e : i = c ∧ k = f
  · rw [if_pos e, e.1, e.2, h]; rfl
  · rw [if_neg e, if_neg (by omega)]
theorem pmF_s {M : mm_M} {a c f len cnt : Nat} {v : Nat → Int} (h : a ≠ c) : mm_up (mm_up (pmF M a c f len cnt v) a (len + cnt) (v cnt)) c f ((len + cnt : Nat) + 1 : Int) = pmF M a c f len (cnt + 1) v := by
  funext i k
  unfold pmF mm_up
  dsimp only
  by_cases e : i = c ∧ k = f
  · rw [if_pos e, if_pos e]; omega
  · rw [if_neg e, if_neg e, if_neg e]
    by_cases e2 : i = a ∧ k = len + cnt
    · rw [if_pos e2, if_pos (by omega), e2.2, show len + cnt - len = cnt by omega]
    · rw [if_neg e2]
      by_cases e3 : i = a ∧ len ≤ k ∧ k < len + cnt
      · rw [if_pos e3, if_pos (by omega)]
      · rw [if_neg e3, if_neg (by omega)]
theorem pmF_f {M : mm_M} {a c f len cnt : Nat} {v : Nat → Int} : pmF M a c f len cnt v c f = ((len + cnt : Nat) : Int) := by simp [pmF]
theorem pmF_R {M : mm_M} {a c f len cnt : Nat} {v : Nat → Int} (h : R32 M) (hv : ∀ k, 0 ≤ v k ∧ v k ≤ 255) (hl : len + cnt ≤ 1000) : R32 (pmF M a c f len cnt v) := by
  intro i k hik
  unfold pmF
  split
  · omega
  · split
    · have := hv (k - len); omega
    · exact h i k hik
theorem L_append {X : Nat × (Nat → Int)} {d : Nat} {Po : mm_Po} {M : mm_M} (w : Int) (n len : Nat) (hn : 1 ≤ n ∧ n ≤ 8 ∧ len + n ≤ 120) (hM : M 24 0 = len) (hR : R32 M) (k : Po (some (v_i ((len + n : Nat) : Int))) Lam (pmF M 25 24 0 len n (fun q => fx_land (fx_lushr w (8 * (((n - q : Nat) : Int) - 1))) 255))) (N : mm_M) (r : Nat) (hr1 : r ≤ n) (hN : N = pmF M 25 24 0 len (n - r) (fun q => fx_land (fx_lushr w (8 * (((n - q : Nat) : Int) - 1))) 255)) : mm_G X d 0 0 mi_X8_append Po 5 [(0, v_r 24), (1, v_l w), (3, v_i (n : Int)), (4, v_i ((r : Int) - 1))] [] Lam N 0 0 := by
  have hN1 : N 24 0 = ((len + (n - r) : Nat) : Int) := (by rw [hN]; exact pmF_f)
  have hr : R32 N := (by rw [hN]; exact pmF_R hR (fun _ => lb_rng _) (by omega))
  refine mm_iload (mm_dc od_X8_append_0 4 rfl) rfl ?_
  refine mm_if_lt 47 (mm_dc od_X8_append_0 5 rfl) (by omega) (by first | assumption | omega | exact hr _ _ rfl | exact mm_ti _ | (constructor <;> omega)) (fun c1 => ?_) (fun c1 => ?_)
  · refine mm_aload_n (mm_dc od_X8_append_0 27 rfl) rfl ?_
    refine mm_getI (ci := 8) (k := 0) (mm_dc od_X8_append_0 28 rfl) rfl in_X8 (by decide) wd_1_150 rfl rfl ?_
    refine mm_iret (mm_dc od_X8_append_0 29 rfl) rfl ?_
    have e : r = 0 := by omega
    subst e
    exact mm_pm (by rw [hN1]; rfl) (by rw [hN]; rfl) k
  · refine mm_aload_n (mm_dc od_X8_append_0 6 rfl) rfl ?_
    refine mm_getR (ci := 8) (k := 2) (mm_dc od_X8_append_0 7 rfl) rfl in_X8 (by decide) wd_1_155 rfl rfl ?_
    refine mm_aload_n (mm_dc od_X8_append_0 8 rfl) rfl ?_
    refine mm_getI (ci := 8) (k := 0) (mm_dc od_X8_append_0 9 rfl) rfl in_X8 (by decide) wd_1_150 rfl rfl ?_
    refine mm_lload_n (mm_dc od_X8_append_0 10 rfl) rfl ?_
    refine mm_bipush (mm_dc od_X8_append_0 11 rfl) (by decide) ?_
    refine mm_iload (mm_dc od_X8_append_0 12 rfl) rfl ?_
    refine mm_imul (mm_dc od_X8_append_0 13 rfl) ?_
    refine mm_lushr (mm_dc od_X8_append_0 14 rfl) ?_
    refine mm_ldc2 (z := 255) (mm_dc od_X8_append_0 15 rfl) wd_3_75 ?_
    refine mm_land (mm_dc od_X8_append_0 16 rfl) ?_
    refine mm_l2i (mm_dc od_X8_append_0 17 rfl) ?_
    refine mm_iast (mm_dc od_X8_append_0 18 rfl) rfl (by first | assumption | omega | exact hr _ _ rfl | exact mm_ti _ | (constructor <;> omega)) (by first | assumption | omega | exact hr _ _ rfl | exact mm_ti _ | (constructor <;> omega)) (by decide) ?_
    refine mm_aload_n (mm_dc od_X8_append_0 19 rfl) rfl ?_
    refine mm_dup_r (mm_dc od_X8_append_0 20 rfl) ?_
    refine mm_getI (ci := 8) (k := 0) (mm_dc od_X8_append_0 21 rfl) rfl in_X8 (by decide) wd_1_150 rfl rfl ?_
    refine mm_cst (st' := [v_i (N 24 0), v_r 24]) rfl ?_
    refine mm_iconst (mm_dc od_X8_append_0 22 rfl) ?_
    refine mm_iadd (mm_dc od_X8_append_0 23 rfl) ?_
    refine mm_putI (ci := 8) (k := 0) (mm_dc od_X8_append_0 24 rfl) rfl in_X8 tyX8_ok nmX8 (by decide) wd_1_150 rfl rfl rfl rfl ?_
    refine mm_iinc (L' := [(0, v_r 24), (1, v_l w), (3, v_i (n : Int)), (4, v_i (((r : Int) - 1) + (-1)))]) (mm_dc od_X8_append_0 25 rfl) rfl (by decide) rfl ?_
    refine mm_goto 5 (mm_dc od_X8_append_0 26 rfl) (by omega) ?_
    have hv1 : fx_land (fx_lushr w (8 * ((r : Int) - 1))) 255 = (fun q => fx_land (fx_lushr w (8 * (((n - q : Nat) : Int) - 1))) 255) (n - r) := by show _ = fx_land (fx_lushr w (8 * (((n - (n - r) : Nat) : Int) - 1))) 255; rw [show n - (n - r) = r by omega]
    have hlb := lb_rng (fx_lushr w (8 * ((r : Int) - 1)))
    refine mm_eqM (M' := pmF M 25 24 0 len (n - r + 1) (fun q => fx_land (fx_lushr w (8 * (((n - q : Nat) : Int) - 1))) 255)) (by rw [hN1, hv1, Int.toNat_natCast]; subst hN; exact pmF_s (by decide)) ?_
    refine mm_cL (L' := [(0, v_r 24), (1, v_l w), (3, v_i (n : Int)), (4, v_i (((r - 1 : Nat) : Int) - 1))]) (by rw [show (r : Int) - 1 + (-1) = ((r - 1 : Nat) : Int) - 1 by omega]) ?_
    rw [show n - r + 1 = n - (r - 1) by omega]
    exact L_append w n len hn hM hR k _ (r - 1) (by omega) rfl
termination_by r
decreasing_by all_goals (first | omega | (simp_wf; omega))
theorem L_feedM {X : Nat × (Nat → Int)} {d : Nat} {Po : mm_Po} {M : mm_M} (w : Int) (n len : Nat) (hn : 1 ≤ n ∧ n ≤ 8 ∧ len + n ≤ 120) (hM : M 50 29 = len) (hR : R32 M) (k : Po (some (v_i ((len + n : Nat) : Int))) Lam (pmF M 74 50 29 len n (fun q => fx_land (fx_lshr w (8 * (((n - q : Nat) : Int) - 1))) 255))) (N : mm_M) (r : Nat) (hr1 : r ≤ n) (hN : N = pmF M 74 50 29 len (n - r) (fun q => fx_land (fx_lshr w (8 * (((n - q : Nat) : Int) - 1))) 255)) : mm_G X (d + 1) 0 0 mi_X10_feed Po 34 [(0, v_r 50), (1, v_l w), (3, v_i (n : Int)), (4, v_i ((r : Int) - 1))] [] Lam N 0 0 := by
  have hN1 : N 50 29 = ((len + (n - r) : Nat) : Int) := (by rw [hN]; exact pmF_f)
  have hr : R32 N := (by rw [hN]; exact pmF_R hR (fun _ => lb_rng _) (by omega))
  refine mm_iload (mm_dc od_X10_feed_0 20 rfl) rfl ?_
  refine mm_if_lt 76 (mm_dc od_X10_feed_0 21 rfl) (by omega) (by first | assumption | omega | exact hr _ _ rfl | exact mm_ti _ | (constructor <;> omega)) (fun c1 => ?_) (fun c1 => ?_)
  · refine mm_aload_n (mm_dc od_X10_feed_0 43 rfl) rfl ?_
    refine mm_getI (ci := 10) (k := 29) (mm_dc od_X10_feed_0 44 rfl) rfl in_X10 (by decide) wd_4_141 rfl rfl ?_
    refine mm_iret (mm_dc od_X10_feed_0 45 rfl) rfl ?_
    have e : r = 0 := by omega
    subst e
    exact mm_pm (by rw [hN1]; rfl) (by rw [hN]; rfl) k
  · refine mm_aload_n (mm_dc od_X10_feed_0 22 rfl) rfl ?_
    refine mm_getR (ci := 10) (k := 28) (mm_dc od_X10_feed_0 23 rfl) rfl in_X10 (by decide) wd_4_140 rfl rfl ?_
    refine mm_aload_n (mm_dc od_X10_feed_0 24 rfl) rfl ?_
    refine mm_getI (ci := 10) (k := 29) (mm_dc od_X10_feed_0 25 rfl) rfl in_X10 (by decide) wd_4_141 rfl rfl ?_
    refine mm_lload_n (mm_dc od_X10_feed_0 26 rfl) rfl ?_
    refine mm_bipush (mm_dc od_X10_feed_0 27 rfl) (by decide) ?_
    refine mm_iload (mm_dc od_X10_feed_0 28 rfl) rfl ?_
    refine mm_imul (mm_dc od_X10_feed_0 29 rfl) ?_
    refine mm_lshr (mm_dc od_X10_feed_0 30 rfl) ?_
    refine mm_ldc2 (z := 255) (mm_dc od_X10_feed_0 31 rfl) wd_5_181 ?_
    refine mm_land (mm_dc od_X10_feed_0 32 rfl) ?_
    refine mm_l2i (mm_dc od_X10_feed_0 33 rfl) ?_
    refine mm_iast (mm_dc od_X10_feed_0 34 rfl) rfl (by first | assumption | omega | exact hr _ _ rfl | exact mm_ti _ | (constructor <;> omega)) (by first | assumption | omega | exact hr _ _ rfl | exact mm_ti _ | (constructor <;> omega)) (by decide) ?_
    refine mm_aload_n (mm_dc od_X10_feed_0 35 rfl) rfl ?_
    refine mm_dup_r (mm_dc od_X10_feed_0 36 rfl) ?_
    refine mm_getI (ci := 10) (k := 29) (mm_dc od_X10_feed_0 37 rfl) rfl in_X10 (by decide) wd_4_141 rfl rfl ?_
    refine mm_cst (st' := [v_i (N 50 29), v_r 50]) rfl ?_
    refine mm_iconst (mm_dc od_X10_feed_0 38 rfl) ?_
    refine mm_iadd (mm_dc od_X10_feed_0 39 rfl) ?_
    refine mm_putI (ci := 10) (k := 29) (mm_dc od_X10_feed_0 40 rfl) rfl in_X10 tyX10_ok nmX10 (by decide) wd_4_141 rfl rfl rfl rfl ?_
    refine mm_iinc (L' := [(0, v_r 50), (1, v_l w), (3, v_i (n : Int)), (4, v_i (((r : Int) - 1) + (-1)))]) (mm_dc od_X10_feed_0 41 rfl) rfl (by decide) rfl ?_
    refine mm_goto 34 (mm_dc od_X10_feed_0 42 rfl) (by omega) ?_
    have hv1 : fx_land (fx_lshr w (8 * ((r : Int) - 1))) 255 = (fun q => fx_land (fx_lshr w (8 * (((n - q : Nat) : Int) - 1))) 255) (n - r) := by show _ = fx_land (fx_lshr w (8 * (((n - (n - r) : Nat) : Int) - 1))) 255; rw [show n - (n - r) = r by omega]
    have hlb := lb_rng (fx_lshr w (8 * ((r : Int) - 1)))
    refine mm_eqM (M' := pmF M 74 50 29 len (n - r + 1) (fun q => fx_land (fx_lshr w (8 * (((n - q : Nat) : Int) - 1))) 255)) (by rw [hN1, hv1, Int.toNat_natCast]; subst hN; exact pmF_s (by decide)) ?_
    refine mm_cL (L' := [(0, v_r 50), (1, v_l w), (3, v_i (n : Int)), (4, v_i (((r - 1 : Nat) : Int) - 1))]) (by rw [show (r : Int) - 1 + (-1) = ((r - 1 : Nat) : Int) - 1 by omega]) ?_
    rw [show n - r + 1 = n - (r - 1) by omega]
    exact L_feedM w n len hn hM hR k _ (r - 1) (by omega) rfl
termination_by r
decreasing_by all_goals (first | omega | (simp_wf; omega))
theorem A_append {X : Nat × (Nat → Int)} {d : Nat} {Po : mm_Po} {M : mm_M} (w : Int) (n len : Nat) (hn : 1 ≤ n ∧ n ≤ 8 ∧ len + n ≤ 120) (hM : M 24 0 = len) (hR : R32 M) (k : Po (some (v_i ((len + n : Nat) : Int))) Lam (pmF M 25 24 0 len n (fun q => fx_land (fx_lushr w (8 * (((n - q : Nat) : Int) - 1))) 255))) : mm_G X d 0 0 mi_X8_append Po 0 [(0, v_r 24), (1, v_l w), (3, v_i (n : Int))] [] Lam M 0 0 := by
  refine mm_iload_n (mm_dc od_X8_append_0 0 rfl) rfl ?_
  refine mm_iconst (mm_dc od_X8_append_0 1 rfl) ?_
  refine mm_isub (mm_dc od_X8_append_0 2 rfl) ?_
  refine mm_istore (L' := [(0, v_r 24), (1, v_l w), (3, v_i (n : Int)), (4, v_i ((n : Int) - 1))]) (mm_dc od_X8_append_0 3 rfl) (by decide) rfl ?_
  exact L_append w n len hn hM hR k M n (Nat.le_refl _) (by rw [Nat.sub_self]; exact (pmF_0 hM).symm)
theorem c_X8_append {X : Nat × (Nat → Int)} {d : Nat} {Po : mm_Po} {M : mm_M} (w : Int) (n : Int) (h0 : 1 ≤ n ∧ n ≤ 8) (h1 : 0 ≤ M 24 0 ∧ M 24 0 + n ≤ 120) (hr : R32 M) (k : Po (some (v_i (M 24 0 + n))) Lam (pmF M 25 24 0 (M 24 0).toNat n.toNat (fun q => fx_land (fx_lushr w (8 * (((n.toNat - q : Nat) : Int) - 1))) 255))) : mm_E X d 0 0 mi_X8_append [v_r 24, v_l w, v_i n] Po Lam M := by
  show mm_G X d 0 0 mi_X8_append Po 0 [(0, v_r 24), (1, v_l w), (3, v_i n)] [] Lam M 0 0
  obtain ⟨q, rfl⟩ : ∃ q : Nat, n = q := ⟨n.toNat, by omega⟩
  exact A_append w q (M 24 0).toNat (by omega) (by omega) hr (mm_pi (by omega) k)
theorem c_X9_feed {X : Nat × (Nat → Int)} {d : Nat} {Po : mm_Po} {M : mm_M} (w : Int) (n : Int) (hw : mm_r64 w) (hn : mm_r32 n) (h0 : 0 ≤ M 24 0 ∧ M 24 0 ≤ 120) (hr : R32 M) (k1 : (¬ (1 ≤ n ∧ n ≤ 8)) → Po (some (v_i (-2))) Lam M) (k2 : (1 ≤ n ∧ n ≤ 8) → 120 < M 24 0 + n → Po (some (v_i (-4))) Lam M) (k3 : (1 ≤ n ∧ n ≤ 8) → M 24 0 + n ≤ 120 → Po (some (v_i (M 24 0 + n))) Lam (pmF M 25 24 0 (M 24 0).toNat n.toNat (fun q => fx_land (fx_lushr w (8 * (((n.toNat - q : Nat) : Int) - 1))) 255))) : mm_E X (d + 1) 0 0 mi_X9_feed [v_r 0, v_l w, v_i n] Po Lam M := by
  show mm_G X (d + 1) 0 0 mi_X9_feed Po 0 [(0, v_r 0), (1, v_l w), (3, v_i n)] [] Lam M 0 0
  refine mm_iload_n (mm_dc od_X9_feed_0 0 rfl) rfl ?_
  refine mm_iconst (mm_dc od_X9_feed_0 1 rfl) ?_
  refine mm_bipush (mm_dc od_X9_feed_0 2 rfl) (by decide) ?_
  refine mm_callS (mi' := mi_X9_within) [v_i n, v_i 1, v_i 8] [] (mm_dc od_X9_feed_0 3 rfl) rfl wd_2_80 wd_2_81 wd_1_1 wd_2_82 yk_X9_within (Nat.le_of_ble_eq_true rfl) rfl (by decide) (c_X9_within n 1 8 (by first | assumption | omega | exact hr _ _ rfl | exact mm_ti _ | exact mm_r3264 (hr _ _ rfl)) (by first | assumption | omega | exact hr _ _ rfl | exact mm_ti _ | exact mm_r3264 (hr _ _ rfl)) (by first | assumption | omega | exact hr _ _ rfl | exact mm_ti _ | exact mm_r3264 (hr _ _ rfl)) (fun c1 => ⟨Nat.le_refl _, ?_⟩) (fun c1 => ⟨Nat.le_refl _, ?_⟩))
  · refine mm_if_ne 13 (mm_dc od_X9_feed_0 4 rfl) (by omega) (by first | assumption | omega | exact hr _ _ rfl | exact mm_ti _ | exact mm_r3264 (hr _ _ rfl)) (fun _ => ?_) (fun h => absurd h (by decide))
    refine mm_aload_n (mm_dc od_X9_feed_0 7 rfl) rfl ?_
    refine mm_getR (ci := 9) (k := 4) (mm_dc od_X9_feed_0 8 rfl) rfl in_X9 (by decide) wd_2_49 rfl rfl ?_
    refine mm_getI (ci := 8) (k := 0) (mm_dc od_X9_feed_0 9 rfl) rfl in_X8 (by decide) wd_1_151 rfl rfl ?_
    refine mm_iload_n (mm_dc od_X9_feed_0 10 rfl) rfl ?_
    refine mm_iadd (mm_dc od_X9_feed_0 11 rfl) ?_
    refine mm_bipush (mm_dc od_X9_feed_0 12 rfl) (by decide) ?_
    refine mm_icmp_gt 39 (mm_dc od_X9_feed_0 13 rfl) (by omega) (by first | assumption | omega | exact hr _ _ rfl | exact mm_ti _ | exact mm_r3264 (hr _ _ rfl)) (by first | assumption | omega | exact hr _ _ rfl | exact mm_ti _ | exact mm_r3264 (hr _ _ rfl)) (fun c2 => ?_) (fun c2 => ?_)
    · refine mm_bipush (mm_dc od_X9_feed_0 20 rfl) (by decide) ?_
      refine mm_iret (mm_dc od_X9_feed_0 21 rfl) rfl ?_
      first | exact k2 (by first | assumption | omega) (by first | assumption | omega) | (exfalso; omega)
    · refine mm_aload_n (mm_dc od_X9_feed_0 14 rfl) rfl ?_
      refine mm_getR (ci := 9) (k := 4) (mm_dc od_X9_feed_0 15 rfl) rfl in_X9 (by decide) wd_2_49 rfl rfl ?_
      refine mm_lload_n (mm_dc od_X9_feed_0 16 rfl) rfl ?_
      refine mm_iload_n (mm_dc od_X9_feed_0 17 rfl) rfl ?_
      refine mm_callV (b := 24) (mi' := mi_X8_append) [v_l w, v_i n] [] (mm_dc od_X9_feed_0 18 rfl) rfl wd_3_71 wd_3_72 wd_3_73 wd_1_6 wd_3_74 yk_X8_append rfl rfl rfl (Nat.le_of_ble_eq_true rfl) rfl (by decide) (c_X8_append w n (by first | assumption | omega | exact hr _ _ rfl | exact mm_ti _ | exact mm_r3264 (hr _ _ rfl)) (by first | assumption | omega | exact hr _ _ rfl | exact mm_ti _ | exact mm_r3264 (hr _ _ rfl)) (by first | assumption | omega | exact hr _ _ rfl | exact mm_ti _ | exact mm_r3264 (hr _ _ rfl)) ⟨Nat.le_refl _, ?_⟩)
      refine mm_goto 41 (mm_dc od_X9_feed_0 19 rfl) (by omega) ?_
      refine mm_iret (mm_dc od_X9_feed_0 21 rfl) rfl ?_
      first | exact k3 (by first | assumption | omega) (by first | assumption | omega) | exact mm_pm (by omega) rfl (k3 (by first | assumption | omega) (by first | assumption | omega)) | (exfalso; omega)
  · refine mm_if_ne 13 (mm_dc od_X9_feed_0 4 rfl) (by omega) (by first | assumption | omega | exact hr _ _ rfl | exact mm_ti _ | exact mm_r3264 (hr _ _ rfl)) (fun h => absurd h (by decide)) (fun _ => ?_)
    refine mm_bipush (mm_dc od_X9_feed_0 5 rfl) (by decide) ?_
    refine mm_iret (mm_dc od_X9_feed_0 6 rfl) rfl ?_
    first | exact k1 (by first | assumption | omega) | (exfalso; omega)
theorem A_feedM {X : Nat × (Nat → Int)} {d : Nat} {Po : mm_Po} {M : mm_M} (w : Int) (n len : Nat) (hn : 1 ≤ n ∧ n ≤ 8 ∧ len + n ≤ 120) (hM : M 50 29 = len) (hR : R32 M) (k : Po (some (v_i ((len + n : Nat) : Int))) Lam (pmF M 74 50 29 len n (fun q => fx_land (fx_lshr w (8 * (((n - q : Nat) : Int) - 1))) 255))) : mm_G X (d + 1) 0 0 mi_X10_feed Po 29 [(0, v_r 50), (1, v_l w), (3, v_i (n : Int))] [] Lam M 0 0 := by
  refine mm_iload_n (mm_dc od_X10_feed_0 16 rfl) rfl ?_
  refine mm_iconst (mm_dc od_X10_feed_0 17 rfl) ?_
  refine mm_isub (mm_dc od_X10_feed_0 18 rfl) ?_
  refine mm_istore (L' := [(0, v_r 50), (1, v_l w), (3, v_i (n : Int)), (4, v_i ((n : Int) - 1))]) (mm_dc od_X10_feed_0 19 rfl) (by decide) rfl ?_
  exact L_feedM w n len hn hM hR k M n (Nat.le_refl _) (by rw [Nat.sub_self]; exact (pmF_0 hM).symm)
theorem c_X10_feed {X : Nat × (Nat → Int)} {d : Nat} {Po : mm_Po} {M : mm_M} (w : Int) (n : Int) (hw : mm_r64 w) (hn : mm_r32 n) (h0 : 0 ≤ M 50 29 ∧ M 50 29 ≤ 120) (hr : R32 M) (k1 : (¬ (1 ≤ n ∧ n ≤ 8)) → Po (some (v_i (-2))) Lam M) (k2 : (1 ≤ n ∧ n ≤ 8) → 120 < M 50 29 + n → Po (some (v_i (-4))) Lam M) (k3 : (1 ≤ n ∧ n ≤ 8) → M 50 29 + n ≤ 120 → Po (some (v_i (M 50 29 + n))) Lam (pmF M 74 50 29 (M 50 29).toNat n.toNat (fun q => fx_land (fx_lshr w (8 * (((n.toNat - q : Nat) : Int) - 1))) 255))) : mm_E X (d + 1) 0 0 mi_X10_feed [v_r 50, v_l w, v_i n] Po Lam M := by
  show mm_G X (d + 1) 0 0 mi_X10_feed Po 0 [(0, v_r 50), (1, v_l w), (3, v_i n)] [] Lam M 0 0
  refine mm_iload_n (mm_dc od_X10_feed_0 0 rfl) rfl ?_
  refine mm_i2l (mm_dc od_X10_feed_0 1 rfl) (by first | assumption | omega | exact hr _ _ rfl | exact mm_ti _ | exact mm_r3264 (hr _ _ rfl)) ?_
  refine mm_lconst (mm_dc od_X10_feed_0 2 rfl) ?_
  refine mm_ldc2 (z := 8) (mm_dc od_X10_feed_0 3 rfl) wd_5_180 ?_
  refine mm_callS (mi' := mi_X10_isIn) [v_l n, v_l 1, v_l 8] [] (mm_dc od_X10_feed_0 4 rfl) rfl wd_5_37 wd_5_38 wd_1_12 wd_5_39 yk_X10_isIn (Nat.le_of_ble_eq_true rfl) rfl (by decide) (c_X10_isIn n 1 8 (by first | assumption | omega | exact hr _ _ rfl | exact mm_ti _ | exact mm_r3264 (hr _ _ rfl)) (by first | assumption | omega | exact hr _ _ rfl | exact mm_ti _ | exact mm_r3264 (hr _ _ rfl)) (by first | assumption | omega | exact hr _ _ rfl | exact mm_ti _ | exact mm_r3264 (hr _ _ rfl)) (fun c1 => ⟨Nat.le_refl _, ?_⟩) (fun c1 => ⟨Nat.le_refl _, ?_⟩))
  · refine mm_if_ne 15 (mm_dc od_X10_feed_0 5 rfl) (by omega) (by first | assumption | omega | exact hr _ _ rfl | exact mm_ti _ | exact mm_r3264 (hr _ _ rfl)) (fun _ => ?_) (fun h => absurd h (by decide))
    refine mm_aload_n (mm_dc od_X10_feed_0 8 rfl) rfl ?_
    refine mm_getI (ci := 10) (k := 29) (mm_dc od_X10_feed_0 9 rfl) rfl in_X10 (by decide) wd_4_141 rfl rfl ?_
    refine mm_iload_n (mm_dc od_X10_feed_0 10 rfl) rfl ?_
    refine mm_iadd (mm_dc od_X10_feed_0 11 rfl) ?_
    refine mm_bipush (mm_dc od_X10_feed_0 12 rfl) (by decide) ?_
    refine mm_icmp_le 29 (mm_dc od_X10_feed_0 13 rfl) (by omega) (by first | assumption | omega | exact hr _ _ rfl | exact mm_ti _ | exact mm_r3264 (hr _ _ rfl)) (by first | assumption | omega | exact hr _ _ rfl | exact mm_ti _ | exact mm_r3264 (hr _ _ rfl)) (fun c2 => ?_) (fun c2 => ?_)
    · obtain ⟨q, rfl⟩ : ∃ q : Nat, n = q := ⟨n.toNat, by omega⟩
      exact A_feedM w q (M 50 29).toNat (by omega) (by omega) hr (mm_pi (by omega) (k3 (by omega) (by omega)))
    · refine mm_bipush (mm_dc od_X10_feed_0 14 rfl) (by decide) ?_
      refine mm_iret (mm_dc od_X10_feed_0 15 rfl) rfl ?_
      first | exact k2 (by first | assumption | omega) (by first | assumption | omega) | (exfalso; omega)
  · refine mm_if_ne 15 (mm_dc od_X10_feed_0 5 rfl) (by omega) (by first | assumption | omega | exact hr _ _ rfl | exact mm_ti _ | exact mm_r3264 (hr _ _ rfl)) (fun h => absurd h (by decide)) (fun _ => ?_)
    refine mm_bipush (mm_dc od_X10_feed_0 6 rfl) (by decide) ?_
    refine mm_iret (mm_dc od_X10_feed_0 7 rfl) rfl ?_
    first | exact k1 (by first | assumption | omega) | (exfalso; omega)
theorem pair_feed {M : mm_M} (hI : inv M) (w n : Int) (hw : mm_r64 w) (hn : mm_r32 n) : Pair mi_X9_feed mi_X10_feed v_i [v_l w, v_i n] M := by
  have hI0 := hI
  obtain ⟨hr, hJo, hJb, hJr, hJom, hJbm, v0, v1, v2, v3, v4, v5, v6, v7, v8, v9⟩ := hI0
  have jo := hJo; have jb := hJb; have jr := hJr; have jom := hJom; have jbm := hJbm
  obtain ⟨ho0, ho16, hO⟩ := jo
  obtain ⟨hb0, hb8, hB⟩ := jb
  obtain ⟨hr0, hr40, hRr⟩ := jr
  obtain ⟨go0, go16, gO⟩ := jom
  obtain ⟨gb0, gb8, gB⟩ := jbm
  have w1 := v1.1; have w2 := v2.1; have w3 := v3.1; have w4 := v4.1; have w5 := v5.1; have w6 := v6.1; have w7 := v7.1.1; have w7b := v7.2.1.1; have w8 := v8.1; have w8b := v8.2.2.2.1
  have y2 := v5.2.1; have y3 := v5.2.2.1
  by_cases hv : 1 ≤ n ∧ n ≤ 8
  · by_cases hf : M 24 0 + n ≤ 120
    · have hrX : R32 (pmF M 25 24 0 (M 24 0).toNat n.toNat (fun q => fx_land (fx_lushr w (8 * (((n.toNat - q : Nat) : Int) - 1))) 255)) := pmF_R hr (fun _ => lb_rng _) (by omega)
      have hx50 : (pmF M 25 24 0 (M 24 0).toNat n.toNat (fun q => fx_land (fx_lushr w (8 * (((n.toNat - q : Nat) : Int) - 1))) 255)) 50 29 = M 50 29 := by unfold pmF; rw [if_neg (by decide), if_neg (by omega)]
      obtain ⟨NX, hNX⟩ : ∃ NX : mm_M, NX = pmF M 25 24 0 (M 24 0).toNat n.toNat (fun q => fx_land (fx_lushr w (8 * (((n.toNat - q : Nat) : Int) - 1))) 255) := ⟨_, rfl⟩
      rw [← hNX] at hrX
      obtain ⟨NM, hNM⟩ : ∃ NM : mm_M, NM = pmF NX 74 50 29 (NX 50 29).toNat n.toNat (fun q => fx_land (fx_lshr w (8 * (((n.toNat - q : Nat) : Int) - 1))) 255) := ⟨_, rfl⟩
      have hx2 : NX 50 29 = M 50 29 := by rw [hNX]; exact hx50
      have hrM : R32 NM := by rw [hNM]; exact pmF_R hrX (fun _ => lb_rng _) (by rw [hx2]; omega)
      have nx : ∀ j, j ≠ 24 → j ≠ 25 → NX j = M j := fun j h1 h2 => by rw [hNX]; funext k; unfold pmF; rw [if_neg (by omega), if_neg (by omega)]
      have nm : ∀ j k, (j ≠ 50 ∨ k ≠ 29) → j ≠ 74 → NM j k = NX j k := fun j k h1 h2 => by rw [hNM]; unfold pmF; rw [if_neg (by omega), if_neg (by omega)]
      refine Pair_i (M 24 0 + n) NX NM (fun X d Po k => c_X9_feed (d := d + 11) w n hw hn (by omega) hr (fun q => absurd hv q) (fun _ q => by exfalso; omega) (fun _ _ => by rw [hNX] at k; exact k)) (fun X d Po k => c_X10_feed (d := d + 11) w n hw hn (by rw [hx2]; omega) hrX (fun q => absurd hv q) (fun _ q => by exfalso; rw [hx2] at q; omega) (fun _ _ => ?_)) (by omega) ?_
      · rw [hNM] at k
        exact mm_pi (show NX 50 29 + n = M 24 0 + n by rw [hx2]; omega) k
      · have n1 : ∀ j, j ≠ 24 → j ≠ 25 → j ≠ 50 → j ≠ 74 → NM j = M j := fun j h1 h2 h3 h4 => by funext k; rw [nm j k (Or.inl h3) h4, nx j h1 h2]
        have n2 : ∀ k, k ≠ 29 → NM 50 k = M 50 k := fun k h => by rw [nm 50 k (Or.inr h) (by decide), nx 50 (by decide) (by decide)]
        have e24 : NM 24 0 = M 24 0 + n := by rw [nm 24 0 (Or.inl (by decide)) (by decide), hNX]; unfold pmF; rw [if_pos ⟨rfl, rfl⟩]; omega
        have e29 : NM 50 29 = M 24 0 + n := by rw [hNM]; unfold pmF; rw [if_pos ⟨rfl, rfl⟩, hx2]; omega
        have e25 : ∀ i, NM 25 i = if (M 24 0).toNat ≤ i ∧ i < (M 24 0).toNat + n.toNat then fx_land (fx_lushr w (8 * (((n.toNat - (i - (M 24 0).toNat) : Nat) : Int) - 1))) 255 else M 25 i := fun i => by rw [nm 25 i (Or.inl (by decide)) (by decide), hNX]; simp only [pmF]; rw [if_neg (by omega)]; simp only [true_and]
        have e74 : ∀ i, NM 74 i = if (M 24 0).toNat ≤ i ∧ i < (M 24 0).toNat + n.toNat then fx_land (fx_lshr w (8 * (((n.toNat - (i - (M 24 0).toNat) : Nat) : Int) - 1))) 255 else M 74 i := fun i => by rw [hNM]; simp only [pmF]; rw [if_neg (by omega), hx2, w5, nx 74 (by decide) (by decide)]; simp only [true_and]
        refine ⟨hrM, ?_, ?_, ?_, ?_, ?_, ?_, ?_, ?_, ?_, ?_, ?_, ?_, ?_, ?_, ?_⟩
        · unfold JO; simp only [n1 1 (by decide) (by decide) (by decide) (by decide), n1 2 (by decide) (by decide) (by decide) (by decide), n1 3 (by decide) (by decide) (by decide) (by decide), n1 4 (by decide) (by decide) (by decide) (by decide), n1 5 (by decide) (by decide) (by decide) (by decide)]; exact hJo
        · unfold JB; simp only [n1 1 (by decide) (by decide) (by decide) (by decide), n1 6 (by decide) (by decide) (by decide) (by decide), n1 7 (by decide) (by decide) (by decide) (by decide), n1 8 (by decide) (by decide) (by decide) (by decide), n1 9 (by decide) (by decide) (by decide) (by decide)]; exact hJb
        · unfold JRc; simp only [n1 10 (by decide) (by decide) (by decide) (by decide), n1 11 (by decide) (by decide) (by decide) (by decide), n1 12 (by decide) (by decide) (by decide) (by decide), n1 13 (by decide) (by decide) (by decide) (by decide), n1 1 (by decide) (by decide) (by decide) (by decide)]; exact hJr
        · unfold JOm; simp only [n1 51 (by decide) (by decide) (by decide) (by decide), n1 52 (by decide) (by decide) (by decide) (by decide), n1 53 (by decide) (by decide) (by decide) (by decide), n1 54 (by decide) (by decide) (by decide) (by decide), n1 55 (by decide) (by decide) (by decide) (by decide), n2 10 (by decide)]; exact hJom
        · unfold JBm; simp only [n1 57 (by decide) (by decide) (by decide) (by decide), n1 58 (by decide) (by decide) (by decide) (by decide), n1 59 (by decide) (by decide) (by decide) (by decide), n1 60 (by decide) (by decide) (by decide) (by decide), n2 11 (by decide)]; exact hJbm
        · unfold V0; simp only [n1 53 (by decide) (by decide) (by decide) (by decide), n1 54 (by decide) (by decide) (by decide) (by decide), n1 57 (by decide) (by decide) (by decide) (by decide), n2 10 (by decide), n2 11 (by decide)]; exact v0
        · unfold V1; simp only [n1 1 (by decide) (by decide) (by decide) (by decide), n1 2 (by decide) (by decide) (by decide) (by decide), n1 3 (by decide) (by decide) (by decide) (by decide), n1 4 (by decide) (by decide) (by decide) (by decide), n1 5 (by decide) (by decide) (by decide) (by decide), n1 51 (by decide) (by decide) (by decide) (by decide), n1 52 (by decide) (by decide) (by decide) (by decide), n1 53 (by decide) (by decide) (by decide) (by decide), n1 54 (by decide) (by decide) (by decide) (by decide), n1 55 (by decide) (by decide) (by decide) (by decide), n2 10 (by decide)]; exact v1
        · unfold V2; simp only [n1 1 (by decide) (by decide) (by decide) (by decide), n1 6 (by decide) (by decide) (by decide) (by decide), n1 7 (by decide) (by decide) (by decide) (by decide), n1 8 (by decide) (by decide) (by decide) (by decide), n1 9 (by decide) (by decide) (by decide) (by decide), n1 57 (by decide) (by decide) (by decide) (by decide), n1 58 (by decide) (by decide) (by decide) (by decide), n1 59 (by decide) (by decide) (by decide) (by decide), n1 60 (by decide) (by decide) (by decide) (by decide), n2 11 (by decide)]; exact v2
        · unfold V3; simp only [n1 10 (by decide) (by decide) (by decide) (by decide), n1 11 (by decide) (by decide) (by decide) (by decide), n1 12 (by decide) (by decide) (by decide) (by decide), n1 13 (by decide) (by decide) (by decide) (by decide), n1 61 (by decide) (by decide) (by decide) (by decide), n1 62 (by decide) (by decide) (by decide) (by decide), n1 63 (by decide) (by decide) (by decide) (by decide), n2 16 (by decide)]; exact v3
        · unfold V4; simp only [n1 0 (by decide) (by decide) (by decide) (by decide), n1 22 (by decide) (by decide) (by decide) (by decide), n1 23 (by decide) (by decide) (by decide) (by decide), n1 72 (by decide) (by decide) (by decide) (by decide), n1 73 (by decide) (by decide) (by decide) (by decide), n2 31 (by decide)]; exact v4
        · refine ⟨by rw [e29, e24], by rw [e24]; omega, by rw [e24]; omega, fun i hi => ?_⟩
          rw [e24] at hi
          rw [e25, e74]
          by_cases e : (M 24 0).toNat ≤ i ∧ i < (M 24 0).toNat + n.toNat
          · rw [if_pos e, if_pos e]
            exact ⟨(lb_same w _ (by omega)).symm, lb_rng _⟩
          · rw [if_neg e, if_neg e]
            exact v5.2.2.2 i (by omega)
        · unfold V6; simp only [n1 26 (by decide) (by decide) (by decide) (by decide), n1 27 (by decide) (by decide) (by decide) (by decide), n1 28 (by decide) (by decide) (by decide) (by decide), n1 29 (by decide) (by decide) (by decide) (by decide), n1 30 (by decide) (by decide) (by decide) (by decide), n1 31 (by decide) (by decide) (by decide) (by decide), n1 32 (by decide) (by decide) (by decide) (by decide), n1 33 (by decide) (by decide) (by decide) (by decide), n1 75 (by decide) (by decide) (by decide) (by decide), n1 76 (by decide) (by decide) (by decide) (by decide), n1 77 (by decide) (by decide) (by decide) (by decide), n1 78 (by decide) (by decide) (by decide) (by decide), n2 30 (by decide)]; exact v6
        · unfold V7; simp only [n1 35 (by decide) (by decide) (by decide) (by decide), n1 36 (by decide) (by decide) (by decide) (by decide), n1 37 (by decide) (by decide) (by decide) (by decide), n1 38 (by decide) (by decide) (by decide) (by decide), n1 39 (by decide) (by decide) (by decide) (by decide), n1 40 (by decide) (by decide) (by decide) (by decide), n1 41 (by decide) (by decide) (by decide) (by decide), n1 42 (by decide) (by decide) (by decide) (by decide), n1 56 (by decide) (by decide) (by decide) (by decide), n1 79 (by decide) (by decide) (by decide) (by decide), n1 80 (by decide) (by decide) (by decide) (by decide), n1 81 (by decide) (by decide) (by decide) (by decide), n1 82 (by decide) (by decide) (by decide) (by decide), n1 83 (by decide) (by decide) (by decide) (by decide), n1 84 (by decide) (by decide) (by decide) (by decide), n1 85 (by decide) (by decide) (by decide) (by decide), n2 44 (by decide), n2 45 (by decide)]; exact v7
        · unfold V8; simp only [n1 1 (by decide) (by decide) (by decide) (by decide), n1 43 (by decide) (by decide) (by decide) (by decide), n1 44 (by decide) (by decide) (by decide) (by decide), n1 45 (by decide) (by decide) (by decide) (by decide), n1 86 (by decide) (by decide) (by decide) (by decide), n1 87 (by decide) (by decide) (by decide) (by decide), n2 48 (by decide), n2 49 (by decide)]; exact v8
        · unfold V9; simp only [n1 47 (by decide) (by decide) (by decide) (by decide), n1 88 (by decide) (by decide) (by decide) (by decide)]; exact v9
    · have hrX : R32 (M) := hr
      refine Pair_i (-4) (M) (M) (fun X d Po k => c_X9_feed (d := d + 11) w n (show mm_r64 w from (by first | assumption | omega)) (show mm_r32 n from (by first | assumption | omega)) (show 0 ≤ M 24 0 ∧ M 24 0 ≤ 120 from (by first | assumption | omega)) hr (fun (q0 : ¬ (1 ≤ n ∧ n ≤ 8)) => by exfalso; omega) (fun (q0 : 1 ≤ n ∧ n ≤ 8) (q1 : 120 < M 24 0 + n) => by first | exact k | exact mm_pi (show (-4) = -4 by omega) k) (fun (q0 : 1 ≤ n ∧ n ≤ 8) (q1 : M 24 0 + n ≤ 120) => by exfalso; omega)) (fun X d Po k => c_X10_feed (d := d + 11) w n (show mm_r64 w from (by first | assumption | omega)) (show mm_r32 n from (by first | assumption | omega)) (show 0 ≤ M 50 29 ∧ M 50 29 ≤ 120 from (by first | assumption | omega)) hrX (fun (q0 : ¬ (1 ≤ n ∧ n ≤ 8)) => by exfalso; omega) (fun (q0 : 1 ≤ n ∧ n ≤ 8) (q1 : 120 < M 50 29 + n) => by first | exact k | exact mm_pi (show (-4) = -4 by omega) k) (fun (q0 : 1 ≤ n ∧ n ≤ 8) (q1 : M 50 29 + n ≤ 120) => by exfalso; omega)) (by first | decide | omega | exact hr _ _ rfl) ?_
      exact hI
  · have hrX : R32 (M) := hr
    refine Pair_i (-2) (M) (M) (fun X d Po k => c_X9_feed (d := d + 11) w n (show mm_r64 w from (by first | assumption | omega)) (show mm_r32 n from (by first | assumption | omega)) (show 0 ≤ M 24 0 ∧ M 24 0 ≤ 120 from (by first | assumption | omega)) hr (fun (q0 : ¬ (1 ≤ n ∧ n ≤ 8)) => by first | exact k | exact mm_pi (show (-2) = -2 by omega) k) (fun (q0 : 1 ≤ n ∧ n ≤ 8) (q1 : 120 < M 24 0 + n) => by exfalso; omega) (fun (q0 : 1 ≤ n ∧ n ≤ 8) (q1 : M 24 0 + n ≤ 120) => by exfalso; omega)) (fun X d Po k => c_X10_feed (d := d + 11) w n (show mm_r64 w from (by first | assumption | omega)) (show mm_r32 n from (by first | assumption | omega)) (show 0 ≤ M 50 29 ∧ M 50 29 ≤ 120 from (by first | assumption | omega)) hrX (fun (q0 : ¬ (1 ≤ n ∧ n ≤ 8)) => by first | exact k | exact mm_pi (show (-2) = -2 by omega) k) (fun (q0 : 1 ≤ n ∧ n ≤ 8) (q1 : 120 < M 50 29 + n) => by exfalso; omega) (fun (q0 : 1 ≤ n ∧ n ≤ 8) (q1 : M 50 29 + n ≤ 120) => by exfalso; omega)) (by first | decide | omega | exact hr _ _ rfl) ?_
    exact hI
