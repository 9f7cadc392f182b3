/-! the reference's methods that need no search -/
theorem mm_cmp_is (x y : Int) : (mm_cmp x y = 1 ∧ y < x) ∨ (mm_cmp x y = 0 ∧ x = y) ∨ (mm_cmp x y = -1 ∧ x < y) := by
  unfold mm_cmp
  split
  · exact Or.inl ⟨rfl, by assumption⟩
  · split
    · exact Or.inr (Or.inl ⟨rfl, by assumption⟩)
    · exact Or.inr (Or.inr ⟨rfl, by omega⟩)
def JOm (M : mm_M) : Prop := 0 ≤ M 50 10 ∧ M 50 10 ≤ 16 ∧ ∀ o : Nat, (o : Int) < M 50 10 → (0 ≤ M 51 o ∧ M 51 o < 5) ∧ (30 ≤ M 52 o ∧ M 52 o ≤ 150) ∧ (M 55 o = 0 ∨ M 55 o = 1) ∧ (-1 ≤ M 53 o ∧ M 53 o < 8) ∧ (0 ≤ M 54 o ∧ M 54 o ≤ 8)
def JBm (M : mm_M) : Prop := 0 ≤ M 50 11 ∧ M 50 11 ≤ 8 ∧ ∀ b : Nat, (b : Int) < M 50 11 → (0 ≤ M 57 b ∧ M 57 b < 5) ∧ (30 ≤ M 58 b ∧ M 58 b ≤ 150) ∧ (30 ≤ M 59 b ∧ M 59 b ≤ 150) ∧ (1 ≤ M 60 b ∧ M 60 b ≤ 99)
theorem c_X10_isIn {X : Nat × (Nat → Int)} {d : Nat} {Po : mm_Po} {M : mm_M} (v : Int) (lo : Int) (hi : Int) (h0 : mm_r64 v) (h1 : mm_r64 lo) (h2 : mm_r64 hi) (kt : lo ≤ v ∧ v ≤ hi → Po (some (v_i 1)) Lam M) (kf : ¬ (lo ≤ v ∧ v ≤ hi) → Po (some (v_i 0)) Lam M) : mm_E X d 0 0 mi_X10_isIn [v_l v, v_l lo, v_l hi] Po Lam M := by
  show mm_G X d 0 0 mi_X10_isIn Po 0 [(0, v_l v), (2, v_l lo), (4, v_l hi)] [] Lam M 0 0
  have q1 := mm_cmp_is v lo
  have q2 := mm_cmp_is v hi
  refine mm_lload_n (mm_dc od_X10_isIn_0 0 rfl) rfl ?_
  refine mm_lload_n (mm_dc od_X10_isIn_0 1 rfl) rfl ?_
  refine mm_lcmp (mm_dc od_X10_isIn_0 2 rfl) (by first | assumption | omega | exact hr _ _ rfl | exact mm_r3264 (hr _ _ rfl)) (by first | assumption | omega | exact hr _ _ rfl | exact mm_r3264 (hr _ _ rfl)) ?_
  refine mm_if_lt 17 (mm_dc od_X10_isIn_0 3 rfl) (by omega) (by first | assumption | omega | exact hr _ _ rfl | exact mm_r3264 (hr _ _ rfl)) (fun c1 => ?_) (fun c1 => ?_)
  · refine mm_iconst (mm_dc od_X10_isIn_0 10 rfl) ?_
    refine mm_zret .boolean (mm_dc od_X10_isIn_0 11 rfl) rfl rfl ?_
    exact kf (by first | assumption | omega)
  · refine mm_lload_n (mm_dc od_X10_isIn_0 4 rfl) rfl ?_
    refine mm_lload (mm_dc od_X10_isIn_0 5 rfl) rfl ?_
    refine mm_lcmp (mm_dc od_X10_isIn_0 6 rfl) (by first | assumption | omega | exact hr _ _ rfl | exact mm_r3264 (hr _ _ rfl)) (by first | assumption | omega | exact hr _ _ rfl | exact mm_r3264 (hr _ _ rfl)) ?_
    refine mm_if_gt 17 (mm_dc od_X10_isIn_0 7 rfl) (by omega) (by first | assumption | omega | exact hr _ _ rfl | exact mm_r3264 (hr _ _ rfl)) (fun c2 => ?_) (fun c2 => ?_)
    · refine mm_iconst (mm_dc od_X10_isIn_0 10 rfl) ?_
      refine mm_zret .boolean (mm_dc od_X10_isIn_0 11 rfl) rfl rfl ?_
      exact kf (by first | assumption | omega)
    · refine mm_iconst (mm_dc od_X10_isIn_0 8 rfl) ?_
      refine mm_goto 18 (mm_dc od_X10_isIn_0 9 rfl) (by omega) ?_
      refine mm_zret .boolean (mm_dc od_X10_isIn_0 11 rfl) rfl rfl ?_
      exact kt (by first | assumption | omega)
theorem c_X10_isOar {X : Nat × (Nat → Int)} {d : Nat} {Po : mm_Po} {M : mm_M} (o : Int) (ho : mm_r32 o) (hr : R32 M) (kt : 0 ≤ o ∧ o < M 50 10 → Po (some (v_i 1)) Lam M) (kf : ¬ (0 ≤ o ∧ o < M 50 10) → Po (some (v_i 0)) Lam M) : mm_E X d 0 0 mi_X10_isOar [v_r 50, v_i o] Po Lam M := by
  show mm_G X d 0 0 mi_X10_isOar Po 0 [(0, v_r 50), (1, v_i o)] [] Lam M 0 0
  refine mm_iload_n (mm_dc od_X10_isOar_0 0 rfl) rfl ?_
  refine mm_if_lt 16 (mm_dc od_X10_isOar_0 1 rfl) (by omega) (by first | assumption | omega | exact hr _ _ rfl | exact mm_r3264 (hr _ _ rfl)) (fun c1 => ?_) (fun c1 => ?_)
  · refine mm_iconst (mm_dc od_X10_isOar_0 8 rfl) ?_
    refine mm_zret .boolean (mm_dc od_X10_isOar_0 9 rfl) rfl rfl ?_
    exact kf (by first | assumption | omega)
  · refine mm_iload_n (mm_dc od_X10_isOar_0 2 rfl) rfl ?_
    refine mm_aload_n (mm_dc od_X10_isOar_0 3 rfl) rfl ?_
    refine mm_getI (ci := 10) (k := 10) (mm_dc od_X10_isOar_0 4 rfl) rfl in_X10 (by decide) wd_4_122 rfl rfl ?_
    refine mm_icmp_ge 16 (mm_dc od_X10_isOar_0 5 rfl) (by omega) (by first | assumption | omega | exact hr _ _ rfl | exact mm_r3264 (hr _ _ rfl)) (by first | assumption | omega | exact hr _ _ rfl | exact mm_r3264 (hr _ _ rfl)) (fun c2 => ?_) (fun c2 => ?_)
    · refine mm_iconst (mm_dc od_X10_isOar_0 8 rfl) ?_
      refine mm_zret .boolean (mm_dc od_X10_isOar_0 9 rfl) rfl rfl ?_
      exact kf (by first | assumption | omega)
    · refine mm_iconst (mm_dc od_X10_isOar_0 6 rfl) ?_
      refine mm_goto 17 (mm_dc od_X10_isOar_0 7 rfl) (by omega) ?_
      refine mm_zret .boolean (mm_dc od_X10_isOar_0 9 rfl) rfl rfl ?_
      exact kt (by first | assumption | omega)
theorem c_X10_isBoat {X : Nat × (Nat → Int)} {d : Nat} {Po : mm_Po} {M : mm_M} (b : Int) (hb : mm_r32 b) (hr : R32 M) (kt : 0 ≤ b ∧ b < M 50 11 → Po (some (v_i 1)) Lam M) (kf : ¬ (0 ≤ b ∧ b < M 50 11) → Po (some (v_i 0)) Lam M) : mm_E X d 0 0 mi_X10_isBoat [v_r 50, v_i b] Po Lam M := by
  show mm_G X d 0 0 mi_X10_isBoat Po 0 [(0, v_r 50), (1, v_i b)] [] Lam M 0 0
  refine mm_iload_n (mm_dc od_X10_isBoat_0 0 rfl) rfl ?_
  refine mm_if_lt 16 (mm_dc od_X10_isBoat_0 1 rfl) (by omega) (by first | assumption | omega | exact hr _ _ rfl | exact mm_r3264 (hr _ _ rfl)) (fun c1 => ?_) (fun c1 => ?_)
  · refine mm_iconst (mm_dc od_X10_isBoat_0 8 rfl) ?_
    refine mm_zret .boolean (mm_dc od_X10_isBoat_0 9 rfl) rfl rfl ?_
    exact kf (by first | assumption | omega)
  · refine mm_iload_n (mm_dc od_X10_isBoat_0 2 rfl) rfl ?_
    refine mm_aload_n (mm_dc od_X10_isBoat_0 3 rfl) rfl ?_
    refine mm_getI (ci := 10) (k := 11) (mm_dc od_X10_isBoat_0 4 rfl) rfl in_X10 (by decide) wd_4_123 rfl rfl ?_
    refine mm_icmp_ge 16 (mm_dc od_X10_isBoat_0 5 rfl) (by omega) (by first | assumption | omega | exact hr _ _ rfl | exact mm_r3264 (hr _ _ rfl)) (by first | assumption | omega | exact hr _ _ rfl | exact mm_r3264 (hr _ _ rfl)) (fun c2 => ?_) (fun c2 => ?_)
    · refine mm_iconst (mm_dc od_X10_isBoat_0 8 rfl) ?_
      refine mm_zret .boolean (mm_dc od_X10_isBoat_0 9 rfl) rfl rfl ?_
      exact kf (by first | assumption | omega)
    · refine mm_iconst (mm_dc od_X10_isBoat_0 6 rfl) ?_
      refine mm_goto 17 (mm_dc od_X10_isBoat_0 7 rfl) (by omega) ?_
      refine mm_zret .boolean (mm_dc od_X10_isBoat_0 9 rfl) rfl rfl ?_
      exact kt (by first | assumption | omega)
theorem c_X10_seatsOf {X : Nat × (Nat → Int)} {d : Nat} {Po : mm_Po} {M : mm_M} (b : Int) (h0 : 0 ≤ b ∧ b < M 50 11) (hJbm : JBm M) (hr : R32 M) (k : Po (some (v_i (mm_seats (M 57 b.toNat).toNat))) Lam M) : mm_E X d 0 0 mi_X10_seatsOf [v_r 50, v_i b] Po Lam M := by
  show mm_G X d 0 0 mi_X10_seatsOf Po 0 [(0, v_r 50), (1, v_i b)] [] Lam M 0 0
  have hJbm2 := hJbm
  obtain ⟨hb0, hb8, hB⟩ := hJbm2
  have hB1 := hB b.toNat
  refine mm_aload_n (mm_dc od_X10_seatsOf_0 0 rfl) rfl ?_
  refine mm_getR (ci := 10) (k := 6) (mm_dc od_X10_seatsOf_0 1 rfl) rfl in_X10 (by decide) wd_4_118 rfl rfl ?_
  refine mm_iload_n (mm_dc od_X10_seatsOf_0 2 rfl) rfl ?_
  refine mm_iald (mm_dc od_X10_seatsOf_0 3 rfl) rfl (by first | assumption | omega | exact hr _ _ rfl | exact mm_r3264 (hr _ _ rfl)) (by first | assumption | omega | exact hr _ _ rfl | exact mm_r3264 (hr _ _ rfl)) (by decide) ?_
  refine mm_istore_n (L' := [(0, v_r 50), (1, v_i b), (2, v_i (M 57 (Int.toNat b)))]) (mm_dc od_X10_seatsOf_0 4 rfl) (by decide) rfl ?_
  refine mm_iload_n (mm_dc od_X10_seatsOf_0 5 rfl) rfl ?_
  refine mm_if_ne 15 (mm_dc od_X10_seatsOf_0 6 rfl) (by omega) (by first | assumption | omega | exact hr _ _ rfl | exact mm_r3264 (hr _ _ rfl)) (fun c1 => ?_) (fun c1 => ?_)
  · refine mm_iload_n (mm_dc od_X10_seatsOf_0 9 rfl) rfl ?_
    refine mm_iconst (mm_dc od_X10_seatsOf_0 10 rfl) ?_
    refine mm_icmp_ne 25 (mm_dc od_X10_seatsOf_0 11 rfl) (by omega) (by first | assumption | omega | exact hr _ _ rfl | exact mm_r3264 (hr _ _ rfl)) (by first | assumption | omega | exact hr _ _ rfl | exact mm_r3264 (hr _ _ rfl)) (fun c2 => ?_) (fun c2 => ?_)
    · refine mm_iload_n (mm_dc od_X10_seatsOf_0 14 rfl) rfl ?_
      refine mm_iconst (mm_dc od_X10_seatsOf_0 15 rfl) ?_
      refine mm_icmp_ne 34 (mm_dc od_X10_seatsOf_0 16 rfl) (by omega) (by first | assumption | omega | exact hr _ _ rfl | exact mm_r3264 (hr _ _ rfl)) (by first | assumption | omega | exact hr _ _ rfl | exact mm_r3264 (hr _ _ rfl)) (fun c3 => ?_) (fun c3 => ?_)
      · refine mm_iconst (mm_dc od_X10_seatsOf_0 19 rfl) ?_
        refine mm_iret (mm_dc od_X10_seatsOf_0 20 rfl) rfl ?_
        exact mm_pi (by rcases (show M 57 b.toNat = 0 ∨ M 57 b.toNat = 1 ∨ M 57 b.toNat = 2 ∨ M 57 b.toNat = 3 ∨ M 57 b.toNat = 4 by omega) with e | e | e | e | e <;> first | (rw [e]; rfl) | omega) k
      · refine mm_iconst (mm_dc od_X10_seatsOf_0 17 rfl) ?_
        refine mm_goto 35 (mm_dc od_X10_seatsOf_0 18 rfl) (by omega) ?_
        refine mm_iret (mm_dc od_X10_seatsOf_0 20 rfl) rfl ?_
        exact mm_pi (by rcases (show M 57 b.toNat = 0 ∨ M 57 b.toNat = 1 ∨ M 57 b.toNat = 2 ∨ M 57 b.toNat = 3 ∨ M 57 b.toNat = 4 by omega) with e | e | e | e | e <;> first | (rw [e]; rfl) | omega) k
    · refine mm_bipush (mm_dc od_X10_seatsOf_0 12 rfl) (by decide) ?_
      refine mm_goto 35 (mm_dc od_X10_seatsOf_0 13 rfl) (by omega) ?_
      refine mm_iret (mm_dc od_X10_seatsOf_0 20 rfl) rfl ?_
      exact mm_pi (by rcases (show M 57 b.toNat = 0 ∨ M 57 b.toNat = 1 ∨ M 57 b.toNat = 2 ∨ M 57 b.toNat = 3 ∨ M 57 b.toNat = 4 by omega) with e | e | e | e | e <;> first | (rw [e]; rfl) | omega) k
  · refine mm_iconst (mm_dc od_X10_seatsOf_0 7 rfl) ?_
    refine mm_goto 35 (mm_dc od_X10_seatsOf_0 8 rfl) (by omega) ?_
    refine mm_iret (mm_dc od_X10_seatsOf_0 20 rfl) rfl ?_
    exact mm_pi (by rcases (show M 57 b.toNat = 0 ∨ M 57 b.toNat = 1 ∨ M 57 b.toNat = 2 ∨ M 57 b.toNat = 3 ∨ M 57 b.toNat = 4 by omega) with e | e | e | e | e <;> first | (rw [e]; rfl) | omega) k
theorem c_X10_hasCox {X : Nat × (Nat → Int)} {d : Nat} {Po : mm_Po} {M : mm_M} (b : Int) (h0 : 0 ≤ b ∧ b < M 50 11) (hJbm : JBm M) (hr : R32 M) (kt : M 57 b.toNat = 1 ∨ M 57 b.toNat = 2 → Po (some (v_i 1)) Lam M) (kf : ¬ (M 57 b.toNat = 1 ∨ M 57 b.toNat = 2) → Po (some (v_i 0)) Lam M) : mm_E X d 0 0 mi_X10_hasCox [v_r 50, v_i b] Po Lam M := by
  show mm_G X d 0 0 mi_X10_hasCox Po 0 [(0, v_r 50), (1, v_i b)] [] Lam M 0 0
  have hJbm2 := hJbm
  obtain ⟨hb0, hb8, hB⟩ := hJbm2
  have hB1 := hB b.toNat
  refine mm_aload_n (mm_dc od_X10_hasCox_0 0 rfl) rfl ?_
  refine mm_getR (ci := 10) (k := 6) (mm_dc od_X10_hasCox_0 1 rfl) rfl in_X10 (by decide) wd_4_118 rfl rfl ?_
  refine mm_iload_n (mm_dc od_X10_hasCox_0 2 rfl) rfl ?_
  refine mm_iald (mm_dc od_X10_hasCox_0 3 rfl) rfl (by first | assumption | omega | exact hr _ _ rfl | exact mm_r3264 (hr _ _ rfl)) (by first | assumption | omega | exact hr _ _ rfl | exact mm_r3264 (hr _ _ rfl)) (by decide) ?_
  refine mm_iconst (mm_dc od_X10_hasCox_0 4 rfl) ?_
  refine mm_icmp_eq 20 (mm_dc od_X10_hasCox_0 5 rfl) (by omega) (by first | assumption | omega | exact hr _ _ rfl | exact mm_r3264 (hr _ _ rfl)) (by first | assumption | omega | exact hr _ _ rfl | exact mm_r3264 (hr _ _ rfl)) (fun c1 => ?_) (fun c1 => ?_)
  · refine mm_iconst (mm_dc od_X10_hasCox_0 12 rfl) ?_
    refine mm_goto 25 (mm_dc od_X10_hasCox_0 13 rfl) (by omega) ?_
    refine mm_zret .boolean (mm_dc od_X10_hasCox_0 15 rfl) rfl rfl ?_
    exact kt (by first | assumption | omega)
  · refine mm_aload_n (mm_dc od_X10_hasCox_0 6 rfl) rfl ?_
    refine mm_getR (ci := 10) (k := 6) (mm_dc od_X10_hasCox_0 7 rfl) rfl in_X10 (by decide) wd_4_118 rfl rfl ?_
    refine mm_iload_n (mm_dc od_X10_hasCox_0 8 rfl) rfl ?_
    refine mm_iald (mm_dc od_X10_hasCox_0 9 rfl) rfl (by first | assumption | omega | exact hr _ _ rfl | exact mm_r3264 (hr _ _ rfl)) (by first | assumption | omega | exact hr _ _ rfl | exact mm_r3264 (hr _ _ rfl)) (by decide) ?_
    refine mm_iconst (mm_dc od_X10_hasCox_0 10 rfl) ?_
    refine mm_icmp_ne 24 (mm_dc od_X10_hasCox_0 11 rfl) (by omega) (by first | assumption | omega | exact hr _ _ rfl | exact mm_r3264 (hr _ _ rfl)) (by first | assumption | omega | exact hr _ _ rfl | exact mm_r3264 (hr _ _ rfl)) (fun c2 => ?_) (fun c2 => ?_)
    · refine mm_iconst (mm_dc od_X10_hasCox_0 14 rfl) ?_
      refine mm_zret .boolean (mm_dc od_X10_hasCox_0 15 rfl) rfl rfl ?_
      exact kf (by first | assumption | omega)
    · refine mm_iconst (mm_dc od_X10_hasCox_0 12 rfl) ?_
      refine mm_goto 25 (mm_dc od_X10_hasCox_0 13 rfl) (by omega) ?_
      refine mm_zret .boolean (mm_dc od_X10_hasCox_0 15 rfl) rfl rfl ?_
      exact kt (by first | assumption | omega)
theorem c_X10_isSeat {X : Nat × (Nat → Int)} {d : Nat} {Po : mm_Po} {M : mm_M} (b : Int) (s : Int) (hb : mm_r32 b) (hs : mm_r32 s) (hJbm : JBm M) (hr : R32 M) (kt : ((0 ≤ b ∧ b < M 50 11) ∧ ((s = 8 ∧ (M 57 b.toNat = 1 ∨ M 57 b.toNat = 2)) ∨ (s ≠ 8 ∧ 0 ≤ s ∧ s < mm_seats (M 57 b.toNat).toNat))) → Po (some (v_i 1)) Lam M) (kf : ¬ (((0 ≤ b ∧ b < M 50 11) ∧ ((s = 8 ∧ (M 57 b.toNat = 1 ∨ M 57 b.toNat = 2)) ∨ (s ≠ 8 ∧ 0 ≤ s ∧ s < mm_seats (M 57 b.toNat).toNat)))) → Po (some (v_i 0)) Lam M) : mm_E X (d + 1) 0 0 mi_X10_isSeat [v_r 50, v_i b, v_i s] Po Lam M := by
  show mm_G X (d + 1) 0 0 mi_X10_isSeat Po 0 [(0, v_r 50), (1, v_i b), (2, v_i s)] [] Lam M 0 0
  have hJbm2 := hJbm
  obtain ⟨hb0, hb8, hB⟩ := hJbm2
  have hB1 := hB b.toNat
  have hs1 := mm_seats_le (M 57 b.toNat).toNat
  refine mm_aload_n (mm_dc od_X10_isSeat_0 0 rfl) rfl ?_
  refine mm_iload_n (mm_dc od_X10_isSeat_0 1 rfl) rfl ?_
  refine mm_callV (b := 50) (mi' := mi_X10_isBoat) [v_i b] [] (mm_dc od_X10_isSeat_0 2 rfl) rfl wd_5_63 wd_5_65 wd_p_23 wd_1_12 wd_5_66 yk_X10_isBoat rfl rfl rfl (Nat.le_of_ble_eq_true rfl) rfl (by decide) (c_X10_isBoat b (by first | assumption | omega | exact hr _ _ rfl | exact mm_r3264 (hr _ _ rfl)) (by first | assumption | omega | exact hr _ _ rfl | exact mm_r3264 (hr _ _ rfl)) (fun c1 => ⟨Nat.le_refl _, ?_⟩) (fun c1 => ⟨Nat.le_refl _, ?_⟩))
  · refine mm_if_eq 39 (mm_dc od_X10_isSeat_0 3 rfl) (by omega) (by first | assumption | omega | exact hr _ _ rfl | exact mm_r3264 (hr _ _ rfl)) (fun h => absurd h (by decide)) (fun _ => ?_)
    refine mm_iload_n (mm_dc od_X10_isSeat_0 4 rfl) rfl ?_
    refine mm_if_lt 21 (mm_dc od_X10_isSeat_0 5 rfl) (by omega) (by first | assumption | omega | exact hr _ _ rfl | exact mm_r3264 (hr _ _ rfl)) (fun c2 => ?_) (fun c2 => ?_)
    · refine mm_iload_n (mm_dc od_X10_isSeat_0 11 rfl) rfl ?_
      refine mm_bipush (mm_dc od_X10_isSeat_0 12 rfl) (by decide) ?_
      refine mm_icmp_ne 39 (mm_dc od_X10_isSeat_0 13 rfl) (by omega) (by first | assumption | omega | exact hr _ _ rfl | exact mm_r3264 (hr _ _ rfl)) (by first | assumption | omega | exact hr _ _ rfl | exact mm_r3264 (hr _ _ rfl)) (fun c3 => ?_) (fun c3 => ?_)
      · refine mm_iconst (mm_dc od_X10_isSeat_0 20 rfl) ?_
        refine mm_zret .boolean (mm_dc od_X10_isSeat_0 21 rfl) rfl rfl ?_
        exact kf (by first | assumption | omega)
      · refine mm_aload_n (mm_dc od_X10_isSeat_0 14 rfl) rfl ?_
        refine mm_iload_n (mm_dc od_X10_isSeat_0 15 rfl) rfl ?_
        refine mm_callV (b := 50) (mi' := mi_X10_hasCox) [v_i b] [] (mm_dc od_X10_isSeat_0 16 rfl) rfl wd_5_71 wd_5_73 wd_p_25 wd_1_12 wd_5_74 yk_X10_hasCox rfl rfl rfl (Nat.le_of_ble_eq_true rfl) rfl (by decide) (c_X10_hasCox b (by first | assumption | omega | exact hr _ _ rfl | exact mm_r3264 (hr _ _ rfl)) hJbm (by first | assumption | omega | exact hr _ _ rfl | exact mm_r3264 (hr _ _ rfl)) (fun c4 => ⟨Nat.le_refl _, ?_⟩) (fun c4 => ⟨Nat.le_refl _, ?_⟩))
        · refine mm_if_eq 39 (mm_dc od_X10_isSeat_0 17 rfl) (by omega) (by first | assumption | omega | exact hr _ _ rfl | exact mm_r3264 (hr _ _ rfl)) (fun h => absurd h (by decide)) (fun _ => ?_)
          refine mm_iconst (mm_dc od_X10_isSeat_0 18 rfl) ?_
          refine mm_goto 40 (mm_dc od_X10_isSeat_0 19 rfl) (by omega) ?_
          refine mm_zret .boolean (mm_dc od_X10_isSeat_0 21 rfl) rfl rfl ?_
          exact kt (by first | assumption | omega)
        · refine mm_if_eq 39 (mm_dc od_X10_isSeat_0 17 rfl) (by omega) (by first | assumption | omega | exact hr _ _ rfl | exact mm_r3264 (hr _ _ rfl)) (fun _ => ?_) (fun h => absurd h (by decide))
          refine mm_iconst (mm_dc od_X10_isSeat_0 20 rfl) ?_
          refine mm_zret .boolean (mm_dc od_X10_isSeat_0 21 rfl) rfl rfl ?_
          exact kf (by first | assumption | omega)
    · refine mm_iload_n (mm_dc od_X10_isSeat_0 6 rfl) rfl ?_
      refine mm_aload_n (mm_dc od_X10_isSeat_0 7 rfl) rfl ?_
      refine mm_iload_n (mm_dc od_X10_isSeat_0 8 rfl) rfl ?_
      refine mm_callV (b := 50) (mi' := mi_X10_seatsOf) [v_i b] [v_i s] (mm_dc od_X10_isSeat_0 9 rfl) rfl wd_5_67 wd_5_69 wd_p_24 wd_1_12 wd_5_70 yk_X10_seatsOf rfl rfl rfl (Nat.le_of_ble_eq_true rfl) rfl (by decide) (c_X10_seatsOf b (by first | assumption | omega | exact hr _ _ rfl | exact mm_r3264 (hr _ _ rfl)) hJbm (by first | assumption | omega | exact hr _ _ rfl | exact mm_r3264 (hr _ _ rfl)) ⟨Nat.le_refl _, ?_⟩)
      refine mm_icmp_lt 35 (mm_dc od_X10_isSeat_0 10 rfl) (by omega) (by first | assumption | omega | exact hr _ _ rfl | exact mm_r3264 (hr _ _ rfl)) (by first | assumption | omega | exact hr _ _ rfl | exact mm_r3264 (hr _ _ rfl)) (fun c5 => ?_) (fun c5 => ?_)
      · refine mm_iconst (mm_dc od_X10_isSeat_0 18 rfl) ?_
        refine mm_goto 40 (mm_dc od_X10_isSeat_0 19 rfl) (by omega) ?_
        refine mm_zret .boolean (mm_dc od_X10_isSeat_0 21 rfl) rfl rfl ?_
        exact kt (by first | assumption | omega)
      · refine mm_iload_n (mm_dc od_X10_isSeat_0 11 rfl) rfl ?_
        refine mm_bipush (mm_dc od_X10_isSeat_0 12 rfl) (by decide) ?_
        refine mm_icmp_ne 39 (mm_dc od_X10_isSeat_0 13 rfl) (by omega) (by first | assumption | omega | exact hr _ _ rfl | exact mm_r3264 (hr _ _ rfl)) (by first | assumption | omega | exact hr _ _ rfl | exact mm_r3264 (hr _ _ rfl)) (fun c6 => ?_) (fun c6 => ?_)
        · refine mm_iconst (mm_dc od_X10_isSeat_0 20 rfl) ?_
          refine mm_zret .boolean (mm_dc od_X10_isSeat_0 21 rfl) rfl rfl ?_
          exact kf (by first | assumption | omega)
        · refine mm_aload_n (mm_dc od_X10_isSeat_0 14 rfl) rfl ?_
          refine mm_iload_n (mm_dc od_X10_isSeat_0 15 rfl) rfl ?_
          refine mm_callV (b := 50) (mi' := mi_X10_hasCox) [v_i b] [] (mm_dc od_X10_isSeat_0 16 rfl) rfl wd_5_71 wd_5_73 wd_p_25 wd_1_12 wd_5_74 yk_X10_hasCox rfl rfl rfl (Nat.le_of_ble_eq_true rfl) rfl (by decide) (c_X10_hasCox b (by first | assumption | omega | exact hr _ _ rfl | exact mm_r3264 (hr _ _ rfl)) hJbm (by first | assumption | omega | exact hr _ _ rfl | exact mm_r3264 (hr _ _ rfl)) (fun c7 => ⟨Nat.le_refl _, ?_⟩) (fun c7 => ⟨Nat.le_refl _, ?_⟩))
          · refine mm_if_eq 39 (mm_dc od_X10_isSeat_0 17 rfl) (by omega) (by first | assumption | omega | exact hr _ _ rfl | exact mm_r3264 (hr _ _ rfl)) (fun h => absurd h (by decide)) (fun _ => ?_)
            refine mm_iconst (mm_dc od_X10_isSeat_0 18 rfl) ?_
            refine mm_goto 40 (mm_dc od_X10_isSeat_0 19 rfl) (by omega) ?_
            refine mm_zret .boolean (mm_dc od_X10_isSeat_0 21 rfl) rfl rfl ?_
            exact kt (by first | assumption | omega)
          · refine mm_if_eq 39 (mm_dc od_X10_isSeat_0 17 rfl) (by omega) (by first | assumption | omega | exact hr _ _ rfl | exact mm_r3264 (hr _ _ rfl)) (fun _ => ?_) (fun h => absurd h (by decide))
            refine mm_iconst (mm_dc od_X10_isSeat_0 20 rfl) ?_
            refine mm_zret .boolean (mm_dc od_X10_isSeat_0 21 rfl) rfl rfl ?_
            exact kf (by first | assumption | omega)
  · refine mm_if_eq 39 (mm_dc od_X10_isSeat_0 3 rfl) (by omega) (by first | assumption | omega | exact hr _ _ rfl | exact mm_r3264 (hr _ _ rfl)) (fun _ => ?_) (fun h => absurd h (by decide))
    refine mm_iconst (mm_dc od_X10_isSeat_0 20 rfl) ?_
    refine mm_zret .boolean (mm_dc od_X10_isSeat_0 21 rfl) rfl rfl ?_
    exact kf (by first | assumption | omega)
theorem L_sitter {X : Nat × (Nat → Int)} {d : Nat} {Po : mm_Po} {M : mm_M} (b s : Int) (hb1 : 0 ≤ b ∧ b < 8) (hs1 : 0 ≤ s ∧ s < 10) (hJom : JOm M) (hr : R32 M) (k : ∀ r : Int, lastP (fun i => M 53 i = b ∧ M 54 i = s) r (M 50 10).toNat → Po (some (v_i r)) Lam M) (f : Int) (j : Nat) (hf : lastP (fun i => M 53 i = b ∧ M 54 i = s) f j) (hj2 : (j : Int) ≤ M 50 10) : mm_G X d 0 0 mi_X10_sitter Po 5 [(0, v_r 50), (1, v_i b), (2, v_i s), (3, v_i f), (4, v_i (j : Int))] [] Lam M 0 0 := by
  have hJom2 := hJom
  obtain ⟨ho0, ho16, hO⟩ := hJom2
  have hO1 := hO j
  have hf1 := lastP_rng hf
  refine mm_iload (mm_dc od_X10_sitter_0 4 rfl) rfl ?_
  refine mm_aload_n (mm_dc od_X10_sitter_0 5 rfl) rfl ?_
  refine mm_getI (ci := 10) (k := 10) (mm_dc od_X10_sitter_0 6 rfl) rfl in_X10 (by decide) wd_4_122 rfl rfl ?_
  refine mm_icmp_ge 49 (mm_dc od_X10_sitter_0 7 rfl) (by omega) (by first | assumption | omega | exact hr _ _ rfl | exact mm_r3264 (hr _ _ rfl)) (by first | assumption | omega | exact hr _ _ rfl | exact mm_r3264 (hr _ _ rfl)) (fun c1 => ?_) (fun c1 => ?_)
  · refine mm_iload_n (mm_dc od_X10_sitter_0 26 rfl) rfl ?_
    refine mm_iret (mm_dc od_X10_sitter_0 27 rfl) rfl ?_
    exact k _ (by have e : (M 50 10).toNat = j := (by omega); rw [e]; exact hf)
  · refine mm_aload_n (mm_dc od_X10_sitter_0 8 rfl) rfl ?_
    refine mm_getR (ci := 10) (k := 2) (mm_dc od_X10_sitter_0 9 rfl) rfl in_X10 (by decide) wd_4_114 rfl rfl ?_
    refine mm_iload (mm_dc od_X10_sitter_0 10 rfl) rfl ?_
    refine mm_iald (mm_dc od_X10_sitter_0 11 rfl) rfl (by first | assumption | omega | exact hr _ _ rfl | exact mm_r3264 (hr _ _ rfl)) (by first | assumption | omega | exact hr _ _ rfl | exact mm_r3264 (hr _ _ rfl)) (by decide) ?_
    refine mm_cst (st' := [v_i (M 53 j)]) rfl ?_
    refine mm_iload_n (mm_dc od_X10_sitter_0 12 rfl) rfl ?_
    refine mm_icmp_ne 41 (mm_dc od_X10_sitter_0 13 rfl) (by omega) (by first | assumption | omega | exact hr _ _ rfl | exact mm_r3264 (hr _ _ rfl)) (by first | assumption | omega | exact hr _ _ rfl | exact mm_r3264 (hr _ _ rfl)) (fun c2 => ?_) (fun c2 => ?_)
    · refine mm_iload_n (mm_dc od_X10_sitter_0 22 rfl) rfl ?_
      refine mm_istore_n (L' := [(0, v_r 50), (1, v_i b), (2, v_i s), (3, v_i f), (4, v_i (j : Int))]) (mm_dc od_X10_sitter_0 23 rfl) (by decide) rfl ?_
      refine mm_iinc (L' := [(0, v_r 50), (1, v_i b), (2, v_i s), (3, v_i f), (4, v_i ((j : Int) + 1))]) (mm_dc od_X10_sitter_0 24 rfl) rfl (by decide) rfl ?_
      refine mm_goto 5 (mm_dc od_X10_sitter_0 25 rfl) (by omega) ?_
      exact L_sitter b s hb1 hs1 hJom hr k _ (j + 1) (lastP_old hf (by omega)) (by omega)
    · refine mm_aload_n (mm_dc od_X10_sitter_0 14 rfl) rfl ?_
      refine mm_getR (ci := 10) (k := 3) (mm_dc od_X10_sitter_0 15 rfl) rfl in_X10 (by decide) wd_4_115 rfl rfl ?_
      refine mm_iload (mm_dc od_X10_sitter_0 16 rfl) rfl ?_
      refine mm_iald (mm_dc od_X10_sitter_0 17 rfl) rfl (by first | assumption | omega | exact hr _ _ rfl | exact mm_r3264 (hr _ _ rfl)) (by first | assumption | omega | exact hr _ _ rfl | exact mm_r3264 (hr _ _ rfl)) (by decide) ?_
      refine mm_cst (st' := [v_i (M 54 j)]) rfl ?_
      refine mm_iload_n (mm_dc od_X10_sitter_0 18 rfl) rfl ?_
      refine mm_icmp_ne 41 (mm_dc od_X10_sitter_0 19 rfl) (by omega) (by first | assumption | omega | exact hr _ _ rfl | exact mm_r3264 (hr _ _ rfl)) (by first | assumption | omega | exact hr _ _ rfl | exact mm_r3264 (hr _ _ rfl)) (fun c3 => ?_) (fun c3 => ?_)
      · refine mm_iload_n (mm_dc od_X10_sitter_0 22 rfl) rfl ?_
        refine mm_istore_n (L' := [(0, v_r 50), (1, v_i b), (2, v_i s), (3, v_i f), (4, v_i (j : Int))]) (mm_dc od_X10_sitter_0 23 rfl) (by decide) rfl ?_
        refine mm_iinc (L' := [(0, v_r 50), (1, v_i b), (2, v_i s), (3, v_i f), (4, v_i ((j : Int) + 1))]) (mm_dc od_X10_sitter_0 24 rfl) rfl (by decide) rfl ?_
        refine mm_goto 5 (mm_dc od_X10_sitter_0 25 rfl) (by omega) ?_
        exact L_sitter b s hb1 hs1 hJom hr k _ (j + 1) (lastP_old hf (by omega)) (by omega)
      · refine mm_iload (mm_dc od_X10_sitter_0 20 rfl) rfl ?_
        refine mm_goto 42 (mm_dc od_X10_sitter_0 21 rfl) (by omega) ?_
        refine mm_istore_n (L' := [(0, v_r 50), (1, v_i b), (2, v_i s), (3, v_i (j : Int)), (4, v_i (j : Int))]) (mm_dc od_X10_sitter_0 23 rfl) (by decide) rfl ?_
        refine mm_iinc (L' := [(0, v_r 50), (1, v_i b), (2, v_i s), (3, v_i (j : Int)), (4, v_i ((j : Int) + 1))]) (mm_dc od_X10_sitter_0 24 rfl) rfl (by decide) rfl ?_
        refine mm_goto 5 (mm_dc od_X10_sitter_0 25 rfl) (by omega) ?_
        exact L_sitter b s hb1 hs1 hJom hr k _ (j + 1) (lastP_new ⟨by assumption, by assumption⟩) (by omega)
termination_by (M 50 10).toNat - j
decreasing_by all_goals (first | omega | (simp_wf; omega))
theorem c_X10_sitter {X : Nat × (Nat → Int)} {d : Nat} {Po : mm_Po} {M : mm_M} (b : Int) (s : Int) (hb1 : 0 ≤ b ∧ b < 8) (hs1 : 0 ≤ s ∧ s < 10) (hJom : JOm M) (hr : R32 M) (k : ∀ r : Int, (lastP (fun i => M 53 i = b ∧ M 54 i = s) r (M 50 10).toNat) → Po (some (v_i r)) Lam M) : mm_E X d 0 0 mi_X10_sitter [v_r 50, v_i b, v_i s] Po Lam M := by
  show mm_G X d 0 0 mi_X10_sitter Po 0 [(0, v_r 50), (1, v_i b), (2, v_i s)] [] Lam M 0 0
  refine mm_iconst (mm_dc od_X10_sitter_0 0 rfl) ?_
  refine mm_istore_n (L' := [(0, v_r 50), (1, v_i b), (2, v_i s), (3, v_i (-1))]) (mm_dc od_X10_sitter_0 1 rfl) (by decide) rfl ?_
  refine mm_iconst (mm_dc od_X10_sitter_0 2 rfl) ?_
  refine mm_istore (L' := [(0, v_r 50), (1, v_i b), (2, v_i s), (3, v_i (-1)), (4, v_i 0)]) (mm_dc od_X10_sitter_0 3 rfl) (by decide) rfl ?_
  exact L_sitter b s hb1 hs1 hJom hr k (-1) 0 lastP_0 (by have := hJom.1; omega)
theorem c_X10_oar {X : Nat × (Nat → Int)} {d : Nat} {Po : mm_Po} {M : mm_M} (kind : Int) (w : Int) (hkind : mm_r32 kind) (hw : mm_r32 w) (h0 : 0 ≤ M 50 10 ∧ M 50 10 ≤ 16) (hr : R32 M) (k1 : (¬ ((0 ≤ kind ∧ kind ≤ 4) ∧ (30 ≤ w ∧ w ≤ 150))) → Po (some (v_i (-2))) Lam M) (k2 : ((0 ≤ kind ∧ kind ≤ 4) ∧ (30 ≤ w ∧ w ≤ 150)) → 16 ≤ M 50 10 → Po (some (v_i (-4))) Lam M) (k3 : ((0 ≤ kind ∧ kind ≤ 4) ∧ (30 ≤ w ∧ w ≤ 150)) → M 50 10 < 16 → Po (some (v_i (M 50 10))) Lam (mm_up (mm_up (mm_up (mm_up (M) 51 (M 50 10).toNat kind) 52 (M 50 10).toNat w) 53 (M 50 10).toNat (-1)) 50 10 (M 50 10 + 1))) : mm_E X (d + 1) 0 0 mi_X10_oar [v_r 50, v_i kind, v_i w] Po Lam M := by
  show mm_G X (d + 1) 0 0 mi_X10_oar Po 0 [(0, v_r 50), (1, v_i kind), (2, v_i w)] [] Lam M 0 0
  refine mm_iload_n (mm_dc od_X10_oar_0 0 rfl) rfl ?_
  refine mm_i2l (mm_dc od_X10_oar_0 1 rfl) (by first | assumption | omega | exact hr _ _ rfl | exact mm_r3264 (hr _ _ rfl)) ?_
  refine mm_lconst (mm_dc od_X10_oar_0 2 rfl) ?_
  refine mm_ldc2 (z := 4) (mm_dc od_X10_oar_0 3 rfl) wd_5_36 ?_
  refine mm_callS (mi' := mi_X10_isIn) [v_l kind, v_l 0, v_l 4] [] (mm_dc od_X10_oar_0 4 rfl) rfl wd_5_37 wd_5_38 wd_1_12 wd_5_39 yk_X10_isIn (Nat.le_of_ble_eq_true rfl) rfl (by decide) (c_X10_isIn kind 0 4 (by first | assumption | omega | exact hr _ _ rfl | exact mm_r3264 (hr _ _ rfl)) (by first | assumption | omega | exact hr _ _ rfl | exact mm_r3264 (hr _ _ rfl)) (by first | assumption | omega | exact hr _ _ rfl | exact mm_r3264 (hr _ _ rfl)) (fun c1 => ⟨Nat.le_refl _, ?_⟩) (fun c1 => ⟨Nat.le_refl _, ?_⟩))
  · refine mm_if_eq 26 (mm_dc od_X10_oar_0 5 rfl) (by omega) (by first | assumption | omega | exact hr _ _ rfl | exact mm_r3264 (hr _ _ rfl)) (fun h => absurd h (by decide)) (fun _ => ?_)
    refine mm_iload_n (mm_dc od_X10_oar_0 6 rfl) rfl ?_
    refine mm_i2l (mm_dc od_X10_oar_0 7 rfl) (by first | assumption | omega | exact hr _ _ rfl | exact mm_r3264 (hr _ _ rfl)) ?_
    refine mm_ldc2 (z := 30) (mm_dc od_X10_oar_0 8 rfl) wd_5_40 ?_
    refine mm_ldc2 (z := 150) (mm_dc od_X10_oar_0 9 rfl) wd_5_41 ?_
    refine mm_callS (mi' := mi_X10_isIn) [v_l w, v_l 30, v_l 150] [] (mm_dc od_X10_oar_0 10 rfl) rfl wd_5_37 wd_5_38 wd_1_12 wd_5_39 yk_X10_isIn (Nat.le_of_ble_eq_true rfl) rfl (by decide) (c_X10_isIn w 30 150 (by first | assumption | omega | exact hr _ _ rfl | exact mm_r3264 (hr _ _ rfl)) (by first | assumption | omega | exact hr _ _ rfl | exact mm_r3264 (hr _ _ rfl)) (by first | assumption | omega | exact hr _ _ rfl | exact mm_r3264 (hr _ _ rfl)) (fun c2 => ⟨Nat.le_refl _, ?_⟩) (fun c2 => ⟨Nat.le_refl _, ?_⟩))
    · refine mm_if_ne 29 (mm_dc od_X10_oar_0 11 rfl) (by omega) (by first | assumption | omega | exact hr _ _ rfl | exact mm_r3264 (hr _ _ rfl)) (fun _ => ?_) (fun h => absurd h (by decide))
      refine mm_aload_n (mm_dc od_X10_oar_0 14 rfl) rfl ?_
      refine mm_getI (ci := 10) (k := 10) (mm_dc od_X10_oar_0 15 rfl) rfl in_X10 (by decide) wd_4_122 rfl rfl ?_
      refine mm_bipush (mm_dc od_X10_oar_0 16 rfl) (by decide) ?_
      refine mm_icmp_ne 41 (mm_dc od_X10_oar_0 17 rfl) (by omega) (by first | assumption | omega | exact hr _ _ rfl | exact mm_r3264 (hr _ _ rfl)) (by first | assumption | omega | exact hr _ _ rfl | exact mm_r3264 (hr _ _ rfl)) (fun c3 => ?_) (fun c3 => ?_)
      · refine mm_aload_n (mm_dc od_X10_oar_0 20 rfl) rfl ?_
        refine mm_getR (ci := 10) (k := 0) (mm_dc od_X10_oar_0 21 rfl) rfl in_X10 (by decide) wd_4_112 rfl rfl ?_
        refine mm_aload_n (mm_dc od_X10_oar_0 22 rfl) rfl ?_
        refine mm_getI (ci := 10) (k := 10) (mm_dc od_X10_oar_0 23 rfl) rfl in_X10 (by decide) wd_4_122 rfl rfl ?_
        refine mm_iload_n (mm_dc od_X10_oar_0 24 rfl) rfl ?_
        refine mm_iast (mm_dc od_X10_oar_0 25 rfl) rfl (by first | assumption | omega | exact hr _ _ rfl | exact mm_r3264 (hr _ _ rfl)) (by first | assumption | omega | exact hr _ _ rfl | exact mm_r3264 (hr _ _ rfl)) (by decide) ?_
        refine mm_aload_n (mm_dc od_X10_oar_0 26 rfl) rfl ?_
        refine mm_getR (ci := 10) (k := 1) (mm_dc od_X10_oar_0 27 rfl) rfl in_X10 (by decide) wd_4_113 rfl rfl ?_
        refine mm_aload_n (mm_dc od_X10_oar_0 28 rfl) rfl ?_
        refine mm_getI (ci := 10) (k := 10) (mm_dc od_X10_oar_0 29 rfl) rfl in_X10 (by decide) wd_4_122 rfl rfl ?_
        refine mm_cst (st' := [v_i (M 50 10), v_r 52]) rfl ?_
        refine mm_iload_n (mm_dc od_X10_oar_0 30 rfl) rfl ?_
        refine mm_iast (mm_dc od_X10_oar_0 31 rfl) rfl (by first | assumption | omega | exact hr _ _ rfl | exact mm_r3264 (hr _ _ rfl)) (by first | assumption | omega | exact hr _ _ rfl | exact mm_r3264 (hr _ _ rfl)) (by decide) ?_
        refine mm_aload_n (mm_dc od_X10_oar_0 32 rfl) rfl ?_
        refine mm_getR (ci := 10) (k := 2) (mm_dc od_X10_oar_0 33 rfl) rfl in_X10 (by decide) wd_4_114 rfl rfl ?_
        refine mm_aload_n (mm_dc od_X10_oar_0 34 rfl) rfl ?_
        refine mm_getI (ci := 10) (k := 10) (mm_dc od_X10_oar_0 35 rfl) rfl in_X10 (by decide) wd_4_122 rfl rfl ?_
        refine mm_cst (st' := [v_i (M 50 10), v_r 53]) rfl ?_
        refine mm_iconst (mm_dc od_X10_oar_0 36 rfl) ?_
        refine mm_iast (mm_dc od_X10_oar_0 37 rfl) rfl (by first | assumption | omega | exact hr _ _ rfl | exact mm_r3264 (hr _ _ rfl)) (by first | assumption | omega | exact hr _ _ rfl | exact mm_r3264 (hr _ _ rfl)) (by decide) ?_
        refine mm_aload_n (mm_dc od_X10_oar_0 38 rfl) rfl ?_
        refine mm_dup_r (mm_dc od_X10_oar_0 39 rfl) ?_
        refine mm_getI (ci := 10) (k := 10) (mm_dc od_X10_oar_0 40 rfl) rfl in_X10 (by decide) wd_4_122 rfl rfl ?_
        refine mm_cst (st' := [v_i (M 50 10), v_r 50]) rfl ?_
        refine mm_iconst (mm_dc od_X10_oar_0 41 rfl) ?_
        refine mm_iadd (mm_dc od_X10_oar_0 42 rfl) ?_
        refine mm_putI (ci := 10) (k := 10) (mm_dc od_X10_oar_0 43 rfl) rfl in_X10 tyX10_ok nmX10 (by decide) wd_4_122 rfl rfl rfl rfl ?_
        refine mm_aload_n (mm_dc od_X10_oar_0 44 rfl) rfl ?_
        refine mm_getI (ci := 10) (k := 10) (mm_dc od_X10_oar_0 45 rfl) rfl in_X10 (by decide) wd_4_122 rfl rfl ?_
        refine mm_cst (st' := [v_i ((M 50 10) + 1)]) rfl ?_
        refine mm_iconst (mm_dc od_X10_oar_0 46 rfl) ?_
        refine mm_isub (mm_dc od_X10_oar_0 47 rfl) ?_
        refine mm_iret (mm_dc od_X10_oar_0 48 rfl) rfl ?_
        first | exact k3 (by first | assumption | omega) (by first | assumption | omega) | exact mm_pm (by omega) rfl (k3 (by first | assumption | omega) (by first | assumption | omega)) | (exfalso; omega)
      · refine mm_bipush (mm_dc od_X10_oar_0 18 rfl) (by decide) ?_
        refine mm_iret (mm_dc od_X10_oar_0 19 rfl) rfl ?_
        first | exact k2 (by first | assumption | omega) (by first | assumption | omega) | (exfalso; omega)
    · refine mm_if_ne 29 (mm_dc od_X10_oar_0 11 rfl) (by omega) (by first | assumption | omega | exact hr _ _ rfl | exact mm_r3264 (hr _ _ rfl)) (fun h => absurd h (by decide)) (fun _ => ?_)
      refine mm_bipush (mm_dc od_X10_oar_0 12 rfl) (by decide) ?_
      refine mm_iret (mm_dc od_X10_oar_0 13 rfl) rfl ?_
      first | exact k1 (by first | assumption | omega) | (exfalso; omega)
  · refine mm_if_eq 26 (mm_dc od_X10_oar_0 5 rfl) (by omega) (by first | assumption | omega | exact hr _ _ rfl | exact mm_r3264 (hr _ _ rfl)) (fun _ => ?_) (fun h => absurd h (by decide))
    refine mm_bipush (mm_dc od_X10_oar_0 12 rfl) (by decide) ?_
    refine mm_iret (mm_dc od_X10_oar_0 13 rfl) rfl ?_
    first | exact k1 (by first | assumption | omega) | (exfalso; omega)
theorem c_X10_boat {X : Nat × (Nat → Int)} {d : Nat} {Po : mm_Po} {M : mm_M} (kind : Int) (least : Int) (most : Int) (len : Int) (hkind : mm_r32 kind) (hleast : mm_r32 least) (hmost : mm_r32 most) (hlen : mm_r32 len) (h0 : 0 ≤ M 50 11 ∧ M 50 11 ≤ 8) (hr : R32 M) (k1 : (¬ ((0 ≤ kind ∧ kind ≤ 4) ∧ (1 ≤ len ∧ len ≤ 99) ∧ (30 ≤ least ∧ least ≤ 150) ∧ (least ≤ most ∧ most ≤ 150))) → Po (some (v_i (-2))) Lam M) (k2 : ((0 ≤ kind ∧ kind ≤ 4) ∧ (1 ≤ len ∧ len ≤ 99) ∧ (30 ≤ least ∧ least ≤ 150) ∧ (least ≤ most ∧ most ≤ 150)) → 8 ≤ M 50 11 → Po (some (v_i (-4))) Lam M) (k3 : ((0 ≤ kind ∧ kind ≤ 4) ∧ (1 ≤ len ∧ len ≤ 99) ∧ (30 ≤ least ∧ least ≤ 150) ∧ (least ≤ most ∧ most ≤ 150)) → M 50 11 < 8 → Po (some (v_i (M 50 11))) Lam (mm_up (mm_up (mm_up (mm_up (mm_up (M) 57 (M 50 11).toNat kind) 58 (M 50 11).toNat least) 59 (M 50 11).toNat most) 60 (M 50 11).toNat len) 50 11 (M 50 11 + 1))) : mm_E X (d + 1) 0 0 mi_X10_boat [v_r 50, v_i kind, v_i least, v_i most, v_i len] Po Lam M := by
  show mm_G X (d + 1) 0 0 mi_X10_boat Po 0 [(0, v_r 50), (1, v_i kind), (2, v_i least), (3, v_i most), (4, v_i len)] [] Lam M 0 0
  refine mm_iload_n (mm_dc od_X10_boat_0 0 rfl) rfl ?_
  refine mm_i2l (mm_dc od_X10_boat_0 1 rfl) (by first | assumption | omega | exact hr _ _ rfl | exact mm_r3264 (hr _ _ rfl)) ?_
  refine mm_lconst (mm_dc od_X10_boat_0 2 rfl) ?_
  refine mm_ldc2 (z := 4) (mm_dc od_X10_boat_0 3 rfl) wd_5_36 ?_
  refine mm_callS (mi' := mi_X10_isIn) [v_l kind, v_l 0, v_l 4] [] (mm_dc od_X10_boat_0 4 rfl) rfl wd_5_37 wd_5_38 wd_1_12 wd_5_39 yk_X10_isIn (Nat.le_of_ble_eq_true rfl) rfl (by decide) (c_X10_isIn kind 0 4 (by first | assumption | omega | exact hr _ _ rfl | exact mm_r3264 (hr _ _ rfl)) (by first | assumption | omega | exact hr _ _ rfl | exact mm_r3264 (hr _ _ rfl)) (by first | assumption | omega | exact hr _ _ rfl | exact mm_r3264 (hr _ _ rfl)) (fun c1 => ⟨Nat.le_refl _, ?_⟩) (fun c1 => ⟨Nat.le_refl _, ?_⟩))
  · refine mm_if_eq 52 (mm_dc od_X10_boat_0 5 rfl) (by omega) (by first | assumption | omega | exact hr _ _ rfl | exact mm_r3264 (hr _ _ rfl)) (fun h => absurd h (by decide)) (fun _ => ?_)
    refine mm_iload_n (mm_dc od_X10_boat_0 6 rfl) rfl ?_
    refine mm_i2l (mm_dc od_X10_boat_0 7 rfl) (by first | assumption | omega | exact hr _ _ rfl | exact mm_r3264 (hr _ _ rfl)) ?_
    refine mm_ldc2 (z := 30) (mm_dc od_X10_boat_0 8 rfl) wd_5_40 ?_
    refine mm_ldc2 (z := 150) (mm_dc od_X10_boat_0 9 rfl) wd_5_41 ?_
    refine mm_callS (mi' := mi_X10_isIn) [v_l least, v_l 30, v_l 150] [] (mm_dc od_X10_boat_0 10 rfl) rfl wd_5_37 wd_5_38 wd_1_12 wd_5_39 yk_X10_isIn (Nat.le_of_ble_eq_true rfl) rfl (by decide) (c_X10_isIn least 30 150 (by first | assumption | omega | exact hr _ _ rfl | exact mm_r3264 (hr _ _ rfl)) (by first | assumption | omega | exact hr _ _ rfl | exact mm_r3264 (hr _ _ rfl)) (by first | assumption | omega | exact hr _ _ rfl | exact mm_r3264 (hr _ _ rfl)) (fun c2 => ⟨Nat.le_refl _, ?_⟩) (fun c2 => ⟨Nat.le_refl _, ?_⟩))
    · refine mm_if_eq 52 (mm_dc od_X10_boat_0 11 rfl) (by omega) (by first | assumption | omega | exact hr _ _ rfl | exact mm_r3264 (hr _ _ rfl)) (fun h => absurd h (by decide)) (fun _ => ?_)
      refine mm_iload_n (mm_dc od_X10_boat_0 12 rfl) rfl ?_
      refine mm_i2l (mm_dc od_X10_boat_0 13 rfl) (by first | assumption | omega | exact hr _ _ rfl | exact mm_r3264 (hr _ _ rfl)) ?_
      refine mm_iload_n (mm_dc od_X10_boat_0 14 rfl) rfl ?_
      refine mm_i2l (mm_dc od_X10_boat_0 15 rfl) (by first | assumption | omega | exact hr _ _ rfl | exact mm_r3264 (hr _ _ rfl)) ?_
      refine mm_ldc2 (z := 150) (mm_dc od_X10_boat_0 16 rfl) wd_5_41 ?_
      refine mm_callS (mi' := mi_X10_isIn) [v_l most, v_l least, v_l 150] [] (mm_dc od_X10_boat_0 17 rfl) rfl wd_5_37 wd_5_38 wd_1_12 wd_5_39 yk_X10_isIn (Nat.le_of_ble_eq_true rfl) rfl (by decide) (c_X10_isIn most least 150 (by first | assumption | omega | exact hr _ _ rfl | exact mm_r3264 (hr _ _ rfl)) (by first | assumption | omega | exact hr _ _ rfl | exact mm_r3264 (hr _ _ rfl)) (by first | assumption | omega | exact hr _ _ rfl | exact mm_r3264 (hr _ _ rfl)) (fun c3 => ⟨Nat.le_refl _, ?_⟩) (fun c3 => ⟨Nat.le_refl _, ?_⟩))
      · refine mm_if_eq 52 (mm_dc od_X10_boat_0 18 rfl) (by omega) (by first | assumption | omega | exact hr _ _ rfl | exact mm_r3264 (hr _ _ rfl)) (fun h => absurd h (by decide)) (fun _ => ?_)
        refine mm_iload (mm_dc od_X10_boat_0 19 rfl) rfl ?_
        refine mm_i2l (mm_dc od_X10_boat_0 20 rfl) (by first | assumption | omega | exact hr _ _ rfl | exact mm_r3264 (hr _ _ rfl)) ?_
        refine mm_lconst (mm_dc od_X10_boat_0 21 rfl) ?_
        refine mm_ldc2 (z := 99) (mm_dc od_X10_boat_0 22 rfl) wd_5_46 ?_
        refine mm_callS (mi' := mi_X10_isIn) [v_l len, v_l 1, v_l 99] [] (mm_dc od_X10_boat_0 23 rfl) rfl wd_5_37 wd_5_38 wd_1_12 wd_5_39 yk_X10_isIn (Nat.le_of_ble_eq_true rfl) rfl (by decide) (c_X10_isIn len 1 99 (by first | assumption | omega | exact hr _ _ rfl | exact mm_r3264 (hr _ _ rfl)) (by first | assumption | omega | exact hr _ _ rfl | exact mm_r3264 (hr _ _ rfl)) (by first | assumption | omega | exact hr _ _ rfl | exact mm_r3264 (hr _ _ rfl)) (fun c4 => ⟨Nat.le_refl _, ?_⟩) (fun c4 => ⟨Nat.le_refl _, ?_⟩))
        · refine mm_if_ne 55 (mm_dc od_X10_boat_0 24 rfl) (by omega) (by first | assumption | omega | exact hr _ _ rfl | exact mm_r3264 (hr _ _ rfl)) (fun _ => ?_) (fun h => absurd h (by decide))
          refine mm_aload_n (mm_dc od_X10_boat_0 27 rfl) rfl ?_
          refine mm_getI (ci := 10) (k := 11) (mm_dc od_X10_boat_0 28 rfl) rfl in_X10 (by decide) wd_4_123 rfl rfl ?_
          refine mm_bipush (mm_dc od_X10_boat_0 29 rfl) (by decide) ?_
          refine mm_icmp_ne 67 (mm_dc od_X10_boat_0 30 rfl) (by omega) (by first | assumption | omega | exact hr _ _ rfl | exact mm_r3264 (hr _ _ rfl)) (by first | assumption | omega | exact hr _ _ rfl | exact mm_r3264 (hr _ _ rfl)) (fun c5 => ?_) (fun c5 => ?_)
          · refine mm_aload_n (mm_dc od_X10_boat_0 33 rfl) rfl ?_
            refine mm_getR (ci := 10) (k := 6) (mm_dc od_X10_boat_0 34 rfl) rfl in_X10 (by decide) wd_4_118 rfl rfl ?_
            refine mm_aload_n (mm_dc od_X10_boat_0 35 rfl) rfl ?_
            refine mm_getI (ci := 10) (k := 11) (mm_dc od_X10_boat_0 36 rfl) rfl in_X10 (by decide) wd_4_123 rfl rfl ?_
            refine mm_iload_n (mm_dc od_X10_boat_0 37 rfl) rfl ?_
            refine mm_iast (mm_dc od_X10_boat_0 38 rfl) rfl (by first | assumption | omega | exact hr _ _ rfl | exact mm_r3264 (hr _ _ rfl)) (by first | assumption | omega | exact hr _ _ rfl | exact mm_r3264 (hr _ _ rfl)) (by decide) ?_
            refine mm_aload_n (mm_dc od_X10_boat_0 39 rfl) rfl ?_
            refine mm_getR (ci := 10) (k := 7) (mm_dc od_X10_boat_0 40 rfl) rfl in_X10 (by decide) wd_4_119 rfl rfl ?_
            refine mm_aload_n (mm_dc od_X10_boat_0 41 rfl) rfl ?_
            refine mm_getI (ci := 10) (k := 11) (mm_dc od_X10_boat_0 42 rfl) rfl in_X10 (by decide) wd_4_123 rfl rfl ?_
            refine mm_cst (st' := [v_i (M 50 11), v_r 58]) rfl ?_
            refine mm_iload_n (mm_dc od_X10_boat_0 43 rfl) rfl ?_
            refine mm_iast (mm_dc od_X10_boat_0 44 rfl) rfl (by first | assumption | omega | exact hr _ _ rfl | exact mm_r3264 (hr _ _ rfl)) (by first | assumption | omega | exact hr _ _ rfl | exact mm_r3264 (hr _ _ rfl)) (by decide) ?_
            refine mm_aload_n (mm_dc od_X10_boat_0 45 rfl) rfl ?_
            refine mm_getR (ci := 10) (k := 8) (mm_dc od_X10_boat_0 46 rfl) rfl in_X10 (by decide) wd_4_120 rfl rfl ?_
            refine mm_aload_n (mm_dc od_X10_boat_0 47 rfl) rfl ?_
            refine mm_getI (ci := 10) (k := 11) (mm_dc od_X10_boat_0 48 rfl) rfl in_X10 (by decide) wd_4_123 rfl rfl ?_
            refine mm_cst (st' := [v_i (M 50 11), v_r 59]) rfl ?_
            refine mm_iload_n (mm_dc od_X10_boat_0 49 rfl) rfl ?_
            refine mm_iast (mm_dc od_X10_boat_0 50 rfl) rfl (by first | assumption | omega | exact hr _ _ rfl | exact mm_r3264 (hr _ _ rfl)) (by first | assumption | omega | exact hr _ _ rfl | exact mm_r3264 (hr _ _ rfl)) (by decide) ?_
            refine mm_aload_n (mm_dc od_X10_boat_0 51 rfl) rfl ?_
            refine mm_getR (ci := 10) (k := 9) (mm_dc od_X10_boat_0 52 rfl) rfl in_X10 (by decide) wd_4_121 rfl rfl ?_
            refine mm_aload_n (mm_dc od_X10_boat_0 53 rfl) rfl ?_
            refine mm_getI (ci := 10) (k := 11) (mm_dc od_X10_boat_0 54 rfl) rfl in_X10 (by decide) wd_4_123 rfl rfl ?_
            refine mm_cst (st' := [v_i (M 50 11), v_r 60]) rfl ?_
            refine mm_iload (mm_dc od_X10_boat_0 55 rfl) rfl ?_
            refine mm_iast (mm_dc od_X10_boat_0 56 rfl) rfl (by first | assumption | omega | exact hr _ _ rfl | exact mm_r3264 (hr _ _ rfl)) (by first | assumption | omega | exact hr _ _ rfl | exact mm_r3264 (hr _ _ rfl)) (by decide) ?_
            refine mm_aload_n (mm_dc od_X10_boat_0 57 rfl) rfl ?_
            refine mm_dup_r (mm_dc od_X10_boat_0 58 rfl) ?_
            refine mm_getI (ci := 10) (k := 11) (mm_dc od_X10_boat_0 59 rfl) rfl in_X10 (by decide) wd_4_123 rfl rfl ?_
            refine mm_cst (st' := [v_i (M 50 11), v_r 50]) rfl ?_
            refine mm_iconst (mm_dc od_X10_boat_1 0 rfl) ?_
            refine mm_iadd (mm_dc od_X10_boat_1 1 rfl) ?_
            refine mm_putI (ci := 10) (k := 11) (mm_dc od_X10_boat_1 2 rfl) rfl in_X10 tyX10_ok nmX10 (by decide) wd_4_123 rfl rfl rfl rfl ?_
            refine mm_aload_n (mm_dc od_X10_boat_1 3 rfl) rfl ?_
            refine mm_getI (ci := 10) (k := 11) (mm_dc od_X10_boat_1 4 rfl) rfl in_X10 (by decide) wd_4_123 rfl rfl ?_
            refine mm_cst (st' := [v_i ((M 50 11) + 1)]) rfl ?_
            refine mm_iconst (mm_dc od_X10_boat_1 5 rfl) ?_
            refine mm_isub (mm_dc od_X10_boat_1 6 rfl) ?_
            refine mm_iret (mm_dc od_X10_boat_1 7 rfl) rfl ?_
            first | exact k3 (by first | assumption | omega) (by first | assumption | omega) | exact mm_pm (by omega) rfl (k3 (by first | assumption | omega) (by first | assumption | omega)) | (exfalso; omega)
          · refine mm_bipush (mm_dc od_X10_boat_0 31 rfl) (by decide) ?_
            refine mm_iret (mm_dc od_X10_boat_0 32 rfl) rfl ?_
            first | exact k2 (by first | assumption | omega) (by first | assumption | omega) | (exfalso; omega)
        · refine mm_if_ne 55 (mm_dc od_X10_boat_0 24 rfl) (by omega) (by first | assumption | omega | exact hr _ _ rfl | exact mm_r3264 (hr _ _ rfl)) (fun h => absurd h (by decide)) (fun _ => ?_)
          refine mm_bipush (mm_dc od_X10_boat_0 25 rfl) (by decide) ?_
          refine mm_iret (mm_dc od_X10_boat_0 26 rfl) rfl ?_
          first | exact k1 (by first | assumption | omega) | (exfalso; omega)
      · refine mm_if_eq 52 (mm_dc od_X10_boat_0 18 rfl) (by omega) (by first | assumption | omega | exact hr _ _ rfl | exact mm_r3264 (hr _ _ rfl)) (fun _ => ?_) (fun h => absurd h (by decide))
        refine mm_bipush (mm_dc od_X10_boat_0 25 rfl) (by decide) ?_
        refine mm_iret (mm_dc od_X10_boat_0 26 rfl) rfl ?_
        first | exact k1 (by first | assumption | omega) | (exfalso; omega)
    · refine mm_if_eq 52 (mm_dc od_X10_boat_0 11 rfl) (by omega) (by first | assumption | omega | exact hr _ _ rfl | exact mm_r3264 (hr _ _ rfl)) (fun _ => ?_) (fun h => absurd h (by decide))
      refine mm_bipush (mm_dc od_X10_boat_0 25 rfl) (by decide) ?_
      refine mm_iret (mm_dc od_X10_boat_0 26 rfl) rfl ?_
      first | exact k1 (by first | assumption | omega) | (exfalso; omega)
  · refine mm_if_eq 52 (mm_dc od_X10_boat_0 5 rfl) (by omega) (by first | assumption | omega | exact hr _ _ rfl | exact mm_r3264 (hr _ _ rfl)) (fun _ => ?_) (fun h => absurd h (by decide))
    refine mm_bipush (mm_dc od_X10_boat_0 25 rfl) (by decide) ?_
    refine mm_iret (mm_dc od_X10_boat_0 26 rfl) rfl ?_
    first | exact k1 (by first | assumption | omega) | (exfalso; omega)
theorem c_X10_ill {X : Nat × (Nat → Int)} {d : Nat} {Po : mm_Po} {M : mm_M} (o : Int) (is : Int) (ho : mm_r32 o) (his : mm_r32 is) (hJom : JOm M) (hr : R32 M) (k1 : (¬ (0 ≤ o ∧ o < M 50 10)) → Po (some (v_i (-1))) Lam M) (k2 : (0 ≤ o ∧ o < M 50 10) → (¬ (0 ≤ is ∧ is ≤ 1)) → Po (some (v_i (-2))) Lam M) (k3 : (0 ≤ o ∧ o < M 50 10) → (0 ≤ is ∧ is ≤ 1) → Po (some (v_i (M 55 o.toNat))) Lam (mm_up M 55 o.toNat is)) : mm_E X (d + 1) 0 0 mi_X10_ill [v_r 50, v_i o, v_i is] Po Lam M := by
  show mm_G X (d + 1) 0 0 mi_X10_ill Po 0 [(0, v_r 50), (1, v_i o), (2, v_i is)] [] Lam M 0 0
  have hJom2 := hJom
  obtain ⟨ho0, ho16, hO⟩ := hJom2
  have hO1 := hO o.toNat
  refine mm_aload_n (mm_dc od_X10_ill_0 0 rfl) rfl ?_
  refine mm_iload_n (mm_dc od_X10_ill_0 1 rfl) rfl ?_
  refine mm_callV (b := 50) (mi' := mi_X10_isOar) [v_i o] [] (mm_dc od_X10_ill_0 2 rfl) rfl wd_5_51 wd_5_53 wd_p_21 wd_1_12 wd_5_54 yk_X10_isOar rfl rfl rfl (Nat.le_of_ble_eq_true rfl) rfl (by decide) (c_X10_isOar o (by first | assumption | omega | exact hr _ _ rfl | exact mm_r3264 (hr _ _ rfl)) (by first | assumption | omega | exact hr _ _ rfl | exact mm_r3264 (hr _ _ rfl)) (fun c1 => ⟨Nat.le_refl _, ?_⟩) (fun c1 => ⟨Nat.le_refl _, ?_⟩))
  · refine mm_if_ne 10 (mm_dc od_X10_ill_0 3 rfl) (by omega) (by first | assumption | omega | exact hr _ _ rfl | exact mm_r3264 (hr _ _ rfl)) (fun _ => ?_) (fun h => absurd h (by decide))
    refine mm_iload_n (mm_dc od_X10_ill_0 6 rfl) rfl ?_
    refine mm_i2l (mm_dc od_X10_ill_0 7 rfl) (by first | assumption | omega | exact hr _ _ rfl | exact mm_r3264 (hr _ _ rfl)) ?_
    refine mm_lconst (mm_dc od_X10_ill_0 8 rfl) ?_
    refine mm_lconst (mm_dc od_X10_ill_0 9 rfl) ?_
    refine mm_callS (mi' := mi_X10_isIn) [v_l is, v_l 0, v_l 1] [] (mm_dc od_X10_ill_0 10 rfl) rfl wd_5_37 wd_5_38 wd_1_12 wd_5_39 yk_X10_isIn (Nat.le_of_ble_eq_true rfl) rfl (by decide) (c_X10_isIn is 0 1 (by first | assumption | omega | exact hr _ _ rfl | exact mm_r3264 (hr _ _ rfl)) (by first | assumption | omega | exact hr _ _ rfl | exact mm_r3264 (hr _ _ rfl)) (by first | assumption | omega | exact hr _ _ rfl | exact mm_r3264 (hr _ _ rfl)) (fun c2 => ⟨Nat.le_refl _, ?_⟩) (fun c2 => ⟨Nat.le_refl _, ?_⟩))
    · refine mm_if_ne 23 (mm_dc od_X10_ill_0 11 rfl) (by omega) (by first | assumption | omega | exact hr _ _ rfl | exact mm_r3264 (hr _ _ rfl)) (fun _ => ?_) (fun h => absurd h (by decide))
      refine mm_aload_n (mm_dc od_X10_ill_0 14 rfl) rfl ?_
      refine mm_getR (ci := 10) (k := 4) (mm_dc od_X10_ill_0 15 rfl) rfl in_X10 (by decide) wd_4_116 rfl rfl ?_
      refine mm_iload_n (mm_dc od_X10_ill_0 16 rfl) rfl ?_
      refine mm_zald (mm_dc od_X10_ill_0 17 rfl) rfl (by first | assumption | omega | exact hr _ _ rfl | exact mm_r3264 (hr _ _ rfl)) (by first | assumption | omega | exact hr _ _ rfl | exact mm_r3264 (hr _ _ rfl)) (by decide) ?_
      refine mm_if_eq 36 (mm_dc od_X10_ill_0 18 rfl) (by omega) (by first | assumption | omega | exact hr _ _ rfl | exact mm_r3264 (hr _ _ rfl)) (fun c3 => ?_) (fun c3 => ?_)
      · refine mm_iconst (mm_dc od_X10_ill_0 21 rfl) ?_
        refine mm_istore_n (L' := [(0, v_r 50), (1, v_i o), (2, v_i is), (3, v_i 0)]) (mm_dc od_X10_ill_0 22 rfl) (by decide) rfl ?_
        refine mm_aload_n (mm_dc od_X10_ill_0 23 rfl) rfl ?_
        refine mm_getR (ci := 10) (k := 4) (mm_dc od_X10_ill_0 24 rfl) rfl in_X10 (by decide) wd_4_116 rfl rfl ?_
        refine mm_iload_n (mm_dc od_X10_ill_0 25 rfl) rfl ?_
        refine mm_iload_n (mm_dc od_X10_ill_0 26 rfl) rfl ?_
        refine mm_iconst (mm_dc od_X10_ill_0 27 rfl) ?_
        refine mm_icmp_ne 52 (mm_dc od_X10_ill_0 28 rfl) (by omega) (by first | assumption | omega | exact hr _ _ rfl | exact mm_r3264 (hr _ _ rfl)) (by first | assumption | omega | exact hr _ _ rfl | exact mm_r3264 (hr _ _ rfl)) (fun c4 => ?_) (fun c4 => ?_)
        · refine mm_iconst (mm_dc od_X10_ill_0 31 rfl) ?_
          refine mm_zast (mm_dc od_X10_ill_0 32 rfl) rfl (by first | assumption | omega | exact hr _ _ rfl | exact mm_r3264 (hr _ _ rfl)) (by first | assumption | omega | exact hr _ _ rfl | exact mm_r3264 (hr _ _ rfl)) (by decide) (by first | assumption | omega | exact hr _ _ rfl | exact mm_r3264 (hr _ _ rfl)) ?_
          refine mm_iload_n (mm_dc od_X10_ill_0 33 rfl) rfl ?_
          refine mm_iret (mm_dc od_X10_ill_0 34 rfl) rfl ?_
          first | exact k1 (by first | assumption | omega) | exact k2 (by first | assumption | omega) (by first | assumption | omega) | exact mm_pm (by omega) (by first | rfl | (have e : is = 0 := (by omega); rw [e]) | (have e : is = 1 := (by omega); rw [e])) (k3 (by first | assumption | omega) (by first | assumption | omega))
        · refine mm_iconst (mm_dc od_X10_ill_0 29 rfl) ?_
          refine mm_goto 53 (mm_dc od_X10_ill_0 30 rfl) (by omega) ?_
          refine mm_zast (mm_dc od_X10_ill_0 32 rfl) rfl (by first | assumption | omega | exact hr _ _ rfl | exact mm_r3264 (hr _ _ rfl)) (by first | assumption | omega | exact hr _ _ rfl | exact mm_r3264 (hr _ _ rfl)) (by decide) (by first | assumption | omega | exact hr _ _ rfl | exact mm_r3264 (hr _ _ rfl)) ?_
          refine mm_iload_n (mm_dc od_X10_ill_0 33 rfl) rfl ?_
          refine mm_iret (mm_dc od_X10_ill_0 34 rfl) rfl ?_
          first | exact k1 (by first | assumption | omega) | exact k2 (by first | assumption | omega) (by first | assumption | omega) | exact mm_pm (by omega) (by first | rfl | (have e : is = 0 := (by omega); rw [e]) | (have e : is = 1 := (by omega); rw [e])) (k3 (by first | assumption | omega) (by first | assumption | omega))
      · refine mm_iconst (mm_dc od_X10_ill_0 19 rfl) ?_
        refine mm_goto 37 (mm_dc od_X10_ill_0 20 rfl) (by omega) ?_
        refine mm_istore_n (L' := [(0, v_r 50), (1, v_i o), (2, v_i is), (3, v_i 1)]) (mm_dc od_X10_ill_0 22 rfl) (by decide) rfl ?_
        refine mm_aload_n (mm_dc od_X10_ill_0 23 rfl) rfl ?_
        refine mm_getR (ci := 10) (k := 4) (mm_dc od_X10_ill_0 24 rfl) rfl in_X10 (by decide) wd_4_116 rfl rfl ?_
        refine mm_iload_n (mm_dc od_X10_ill_0 25 rfl) rfl ?_
        refine mm_iload_n (mm_dc od_X10_ill_0 26 rfl) rfl ?_
        refine mm_iconst (mm_dc od_X10_ill_0 27 rfl) ?_
        refine mm_icmp_ne 52 (mm_dc od_X10_ill_0 28 rfl) (by omega) (by first | assumption | omega | exact hr _ _ rfl | exact mm_r3264 (hr _ _ rfl)) (by first | assumption | omega | exact hr _ _ rfl | exact mm_r3264 (hr _ _ rfl)) (fun c5 => ?_) (fun c5 => ?_)
        · refine mm_iconst (mm_dc od_X10_ill_0 31 rfl) ?_
          refine mm_zast (mm_dc od_X10_ill_0 32 rfl) rfl (by first | assumption | omega | exact hr _ _ rfl | exact mm_r3264 (hr _ _ rfl)) (by first | assumption | omega | exact hr _ _ rfl | exact mm_r3264 (hr _ _ rfl)) (by decide) (by first | assumption | omega | exact hr _ _ rfl | exact mm_r3264 (hr _ _ rfl)) ?_
          refine mm_iload_n (mm_dc od_X10_ill_0 33 rfl) rfl ?_
          refine mm_iret (mm_dc od_X10_ill_0 34 rfl) rfl ?_
          first | exact k1 (by first | assumption | omega) | exact k2 (by first | assumption | omega) (by first | assumption | omega) | exact mm_pm (by omega) (by first | rfl | (have e : is = 0 := (by omega); rw [e]) | (have e : is = 1 := (by omega); rw [e])) (k3 (by first | assumption | omega) (by first | assumption | omega))
        · refine mm_iconst (mm_dc od_X10_ill_0 29 rfl) ?_
          refine mm_goto 53 (mm_dc od_X10_ill_0 30 rfl) (by omega) ?_
          refine mm_zast (mm_dc od_X10_ill_0 32 rfl) rfl (by first | assumption | omega | exact hr _ _ rfl | exact mm_r3264 (hr _ _ rfl)) (by first | assumption | omega | exact hr _ _ rfl | exact mm_r3264 (hr _ _ rfl)) (by decide) (by first | assumption | omega | exact hr _ _ rfl | exact mm_r3264 (hr _ _ rfl)) ?_
          refine mm_iload_n (mm_dc od_X10_ill_0 33 rfl) rfl ?_
          refine mm_iret (mm_dc od_X10_ill_0 34 rfl) rfl ?_
          first | exact k1 (by first | assumption | omega) | exact k2 (by first | assumption | omega) (by first | assumption | omega) | exact mm_pm (by omega) (by first | rfl | (have e : is = 0 := (by omega); rw [e]) | (have e : is = 1 := (by omega); rw [e])) (k3 (by first | assumption | omega) (by first | assumption | omega))
    · refine mm_if_ne 23 (mm_dc od_X10_ill_0 11 rfl) (by omega) (by first | assumption | omega | exact hr _ _ rfl | exact mm_r3264 (hr _ _ rfl)) (fun h => absurd h (by decide)) (fun _ => ?_)
      refine mm_bipush (mm_dc od_X10_ill_0 12 rfl) (by decide) ?_
      refine mm_iret (mm_dc od_X10_ill_0 13 rfl) rfl ?_
      first | exact k1 (by first | assumption | omega) | exact k2 (by first | assumption | omega) (by first | assumption | omega) | exact mm_pm (by omega) (by first | rfl | (have e : is = 0 := (by omega); rw [e]) | (have e : is = 1 := (by omega); rw [e])) (k3 (by first | assumption | omega) (by first | assumption | omega))
  · refine mm_if_ne 10 (mm_dc od_X10_ill_0 3 rfl) (by omega) (by first | assumption | omega | exact hr _ _ rfl | exact mm_r3264 (hr _ _ rfl)) (fun h => absurd h (by decide)) (fun _ => ?_)
    refine mm_iconst (mm_dc od_X10_ill_0 4 rfl) ?_
    refine mm_iret (mm_dc od_X10_ill_0 5 rfl) rfl ?_
    first | exact k1 (by first | assumption | omega) | exact k2 (by first | assumption | omega) (by first | assumption | omega) | exact mm_pm (by omega) (by first | rfl | (have e : is = 0 := (by omega); rw [e]) | (have e : is = 1 := (by omega); rw [e])) (k3 (by first | assumption | omega) (by first | assumption | omega))
theorem pm_dummy : True := trivial
def pm_sit (M : mm_M) (b s o r : Int) : mm_M := if o = -1 then (if r = -1 then M else mm_up M 53 r.toNat (-1)) else mm_up (mm_up (if r = -1 then M else mm_up M 53 r.toNat (-1)) 53 o.toNat b) 54 o.toNat s
theorem pm_sit1 {M : mm_M} {b s o r : Int} (ho : o = -1) (hr : r = -1) : M = pm_sit M b s o r := by rw [pm_sit, if_pos ho, if_pos hr]
theorem pm_sit2 {M : mm_M} {b s o r : Int} (ho : o = -1) (hr : r ≠ -1) : mm_up M 53 r.toNat (-1) = pm_sit M b s o r := by rw [pm_sit, if_pos ho, if_neg hr]
theorem pm_sit3 {M : mm_M} {b s o r : Int} (ho : o ≠ -1) (hr : r = -1) : mm_up (mm_up M 53 o.toNat b) 54 o.toNat s = pm_sit M b s o r := by rw [pm_sit, if_neg ho, if_pos hr]
theorem pm_sit4 {M : mm_M} {b s o r : Int} (ho : o ≠ -1) (hr : r ≠ -1) : mm_up (mm_up (mm_up M 53 r.toNat (-1)) 53 o.toNat b) 54 o.toNat s = pm_sit M b s o r := by rw [pm_sit, if_neg ho, if_neg hr]
theorem c_X10_sit {X : Nat × (Nat → Int)} {d : Nat} {Po : mm_Po} {M : mm_M} (b : Int) (s : Int) (o : Int) (hb : mm_r32 b) (hs : mm_r32 s) (ho : mm_r32 o) (hJom : JOm M) (hJbm : JBm M) (hr : R32 M) (k1 : (¬ (((0 ≤ b ∧ b < M 50 11) ∧ ((s = 8 ∧ (M 57 b.toNat = 1 ∨ M 57 b.toNat = 2)) ∨ (s ≠ 8 ∧ 0 ≤ s ∧ s < mm_seats (M 57 b.toNat).toNat))) ∧ (o = -1 ∨ (0 ≤ o ∧ o < M 50 10)))) → Po (some (v_i (-5))) Lam M) (k2 : (((0 ≤ b ∧ b < M 50 11) ∧ ((s = 8 ∧ (M 57 b.toNat = 1 ∨ M 57 b.toNat = 2)) ∨ (s ≠ 8 ∧ 0 ≤ s ∧ s < mm_seats (M 57 b.toNat).toNat))) ∧ (o = -1 ∨ (0 ≤ o ∧ o < M 50 10))) → (o ≠ -1 ∧ ¬ (M 55 o.toNat = 0 ∧ (s ≠ 8 ∨ M 52 o.toNat ≤ 70))) → Po (some (v_i (-3))) Lam M) (k3 : ∀ (r : Int), (((0 ≤ b ∧ b < M 50 11) ∧ ((s = 8 ∧ (M 57 b.toNat = 1 ∨ M 57 b.toNat = 2)) ∨ (s ≠ 8 ∧ 0 ≤ s ∧ s < mm_seats (M 57 b.toNat).toNat))) ∧ (o = -1 ∨ (0 ≤ o ∧ o < M 50 10))) → (o = -1 ∨ (M 55 o.toNat = 0 ∧ (s ≠ 8 ∨ M 52 o.toNat ≤ 70))) → (lastP (fun i => M 53 i = b ∧ M 54 i = s) r (M 50 10).toNat) → Po (some (v_i r)) Lam (pm_sit M b s o r)) : mm_E X (d + 2) 0 0 mi_X10_sit [v_r 50, v_i b, v_i s, v_i o] Po Lam M := by
  show mm_G X (d + 2) 0 0 mi_X10_sit Po 0 [(0, v_r 50), (1, v_i b), (2, v_i s), (3, v_i o)] [] Lam M 0 0
  have hJom2 := hJom
  obtain ⟨ho0, ho16, hO⟩ := hJom2
  have hO1 := hO o.toNat
  have hJbm2 := hJbm
  obtain ⟨hb0, hb8, hB⟩ := hJbm2
  have hB1 := hB b.toNat
  have hs1 := mm_seats_le (M 57 b.toNat).toNat
  refine mm_aload_n (mm_dc od_X10_sit_0 0 rfl) rfl ?_
  refine mm_iload_n (mm_dc od_X10_sit_0 1 rfl) rfl ?_
  refine mm_iload_n (mm_dc od_X10_sit_0 2 rfl) rfl ?_
  refine mm_callV (b := 50) (mi' := mi_X10_isSeat) [v_i b, v_i s] [] (mm_dc od_X10_sit_0 3 rfl) rfl wd_5_59 wd_5_61 wd_p_22 wd_1_12 wd_5_62 yk_X10_isSeat rfl rfl rfl (Nat.le_of_ble_eq_true rfl) rfl (by decide) (c_X10_isSeat b s (by first | assumption | omega | exact hr _ _ rfl | exact mm_r3264 (hr _ _ rfl)) (by first | assumption | omega | exact hr _ _ rfl | exact mm_r3264 (hr _ _ rfl)) hJbm (by first | assumption | omega | exact hr _ _ rfl | exact mm_r3264 (hr _ _ rfl)) (fun c1 => ⟨Nat.le_refl _, ?_⟩) (fun c1 => ⟨Nat.le_refl _, ?_⟩))
  · refine mm_if_eq 22 (mm_dc od_X10_sit_0 4 rfl) (by omega) (by first | assumption | omega | exact hr _ _ rfl | exact mm_r3264 (hr _ _ rfl)) (fun h => absurd h (by decide)) (fun _ => ?_)
    refine mm_iload_n (mm_dc od_X10_sit_0 5 rfl) rfl ?_
    refine mm_iconst (mm_dc od_X10_sit_0 6 rfl) ?_
    refine mm_icmp_eq 25 (mm_dc od_X10_sit_0 7 rfl) (by omega) (by first | assumption | omega | exact hr _ _ rfl | exact mm_r3264 (hr _ _ rfl)) (by first | assumption | omega | exact hr _ _ rfl | exact mm_r3264 (hr _ _ rfl)) (fun c2 => ?_) (fun c2 => ?_)
    · refine mm_iload_n (mm_dc od_X10_sit_0 14 rfl) rfl ?_
      refine mm_if_lt 58 (mm_dc od_X10_sit_0 15 rfl) (by omega) (by first | assumption | omega | exact hr _ _ rfl | exact mm_r3264 (hr _ _ rfl)) (fun c3 => ?_) (fun c3 => ?_)
      · refine mm_aload_n (mm_dc od_X10_sit_0 32 rfl) rfl ?_
        refine mm_iload_n (mm_dc od_X10_sit_0 33 rfl) rfl ?_
        refine mm_iload_n (mm_dc od_X10_sit_0 34 rfl) rfl ?_
        refine mm_callV (b := 50) (mi' := mi_X10_sitter) [v_i b, v_i s] [] (mm_dc od_X10_sit_0 35 rfl) rfl wd_5_75 wd_5_77 wd_p_26 wd_1_12 wd_5_78 yk_X10_sitter rfl rfl rfl (Nat.le_of_ble_eq_true rfl) rfl (by decide) (c_X10_sitter b s (by first | assumption | omega | exact hr _ _ rfl | exact mm_r3264 (hr _ _ rfl)) (by first | assumption | omega | exact hr _ _ rfl | exact mm_r3264 (hr _ _ rfl)) hJom (by first | assumption | omega | exact hr _ _ rfl | exact mm_r3264 (hr _ _ rfl)) (fun r4 hq5 => ⟨Nat.le_refl _, ?_⟩))
        have hq5_r := lastP_rng hq5
        refine mm_istore (L' := [(0, v_r 50), (1, v_i b), (2, v_i s), (3, v_i o), (4, v_i r4)]) (mm_dc od_X10_sit_0 36 rfl) (by decide) rfl ?_
        refine mm_iload (mm_dc od_X10_sit_0 37 rfl) rfl ?_
        refine mm_if_lt 79 (mm_dc od_X10_sit_0 38 rfl) (by omega) (by first | assumption | omega | exact hr _ _ rfl | exact mm_r3264 (hr _ _ rfl)) (fun c6 => ?_) (fun c6 => ?_)
        · refine mm_iload_n (mm_dc od_X10_sit_0 44 rfl) rfl ?_
          refine mm_if_lt 97 (mm_dc od_X10_sit_0 45 rfl) (by omega) (by first | assumption | omega | exact hr _ _ rfl | exact mm_r3264 (hr _ _ rfl)) (fun c7 => ?_) (fun c7 => ?_)
          · refine mm_iload (mm_dc od_X10_sit_0 56 rfl) rfl ?_
            refine mm_iret (mm_dc od_X10_sit_0 57 rfl) rfl ?_
            exact mm_pm rfl (pm_sit1 (by omega) (by omega)) (k3 _ (by first | assumption | omega) (by first | assumption | omega) (by assumption))
          · refine mm_aload_n (mm_dc od_X10_sit_0 46 rfl) rfl ?_
            refine mm_getR (ci := 10) (k := 2) (mm_dc od_X10_sit_0 47 rfl) rfl in_X10 (by decide) wd_4_114 rfl rfl ?_
            refine mm_iload_n (mm_dc od_X10_sit_0 48 rfl) rfl ?_
            refine mm_iload_n (mm_dc od_X10_sit_0 49 rfl) rfl ?_
            refine mm_iast (mm_dc od_X10_sit_0 50 rfl) rfl (by first | assumption | omega | exact hr _ _ rfl | exact mm_r3264 (hr _ _ rfl)) (by first | assumption | omega | exact hr _ _ rfl | exact mm_r3264 (hr _ _ rfl)) (by decide) ?_
            refine mm_aload_n (mm_dc od_X10_sit_0 51 rfl) rfl ?_
            refine mm_getR (ci := 10) (k := 3) (mm_dc od_X10_sit_0 52 rfl) rfl in_X10 (by decide) wd_4_115 rfl rfl ?_
            refine mm_iload_n (mm_dc od_X10_sit_0 53 rfl) rfl ?_
            refine mm_iload_n (mm_dc od_X10_sit_0 54 rfl) rfl ?_
            refine mm_iast (mm_dc od_X10_sit_0 55 rfl) rfl (by first | assumption | omega | exact hr _ _ rfl | exact mm_r3264 (hr _ _ rfl)) (by first | assumption | omega | exact hr _ _ rfl | exact mm_r3264 (hr _ _ rfl)) (by decide) ?_
            refine mm_iload (mm_dc od_X10_sit_0 56 rfl) rfl ?_
            refine mm_iret (mm_dc od_X10_sit_0 57 rfl) rfl ?_
            exact mm_pm rfl (pm_sit3 (by omega) (by omega)) (k3 _ (by first | assumption | omega) (by first | assumption | omega) (by assumption))
        · refine mm_aload_n (mm_dc od_X10_sit_0 39 rfl) rfl ?_
          refine mm_getR (ci := 10) (k := 2) (mm_dc od_X10_sit_0 40 rfl) rfl in_X10 (by decide) wd_4_114 rfl rfl ?_
          refine mm_iload (mm_dc od_X10_sit_0 41 rfl) rfl ?_
          refine mm_iconst (mm_dc od_X10_sit_0 42 rfl) ?_
          refine mm_iast (mm_dc od_X10_sit_0 43 rfl) rfl (by first | assumption | omega | exact hr _ _ rfl | exact mm_r3264 (hr _ _ rfl)) (by first | assumption | omega | exact hr _ _ rfl | exact mm_r3264 (hr _ _ rfl)) (by decide) ?_
          refine mm_iload_n (mm_dc od_X10_sit_0 44 rfl) rfl ?_
          refine mm_if_lt 97 (mm_dc od_X10_sit_0 45 rfl) (by omega) (by first | assumption | omega | exact hr _ _ rfl | exact mm_r3264 (hr _ _ rfl)) (fun c8 => ?_) (fun c8 => ?_)
          · refine mm_iload (mm_dc od_X10_sit_0 56 rfl) rfl ?_
            refine mm_iret (mm_dc od_X10_sit_0 57 rfl) rfl ?_
            exact mm_pm rfl (pm_sit2 (by omega) (by omega)) (k3 _ (by first | assumption | omega) (by first | assumption | omega) (by assumption))
          · refine mm_aload_n (mm_dc od_X10_sit_0 46 rfl) rfl ?_
            refine mm_getR (ci := 10) (k := 2) (mm_dc od_X10_sit_0 47 rfl) rfl in_X10 (by decide) wd_4_114 rfl rfl ?_
            refine mm_iload_n (mm_dc od_X10_sit_0 48 rfl) rfl ?_
            refine mm_iload_n (mm_dc od_X10_sit_0 49 rfl) rfl ?_
            refine mm_iast (mm_dc od_X10_sit_0 50 rfl) rfl (by first | assumption | omega | exact hr _ _ rfl | exact mm_r3264 (hr _ _ rfl)) (by first | assumption | omega | exact hr _ _ rfl | exact mm_r3264 (hr _ _ rfl)) (by decide) ?_
            refine mm_aload_n (mm_dc od_X10_sit_0 51 rfl) rfl ?_
            refine mm_getR (ci := 10) (k := 3) (mm_dc od_X10_sit_0 52 rfl) rfl in_X10 (by decide) wd_4_115 rfl rfl ?_
            refine mm_iload_n (mm_dc od_X10_sit_0 53 rfl) rfl ?_
            refine mm_iload_n (mm_dc od_X10_sit_0 54 rfl) rfl ?_
            refine mm_iast (mm_dc od_X10_sit_0 55 rfl) rfl (by first | assumption | omega | exact hr _ _ rfl | exact mm_r3264 (hr _ _ rfl)) (by first | assumption | omega | exact hr _ _ rfl | exact mm_r3264 (hr _ _ rfl)) (by decide) ?_
            refine mm_iload (mm_dc od_X10_sit_0 56 rfl) rfl ?_
            refine mm_iret (mm_dc od_X10_sit_0 57 rfl) rfl ?_
            exact mm_pm rfl (pm_sit4 (by omega) (by omega)) (k3 _ (by first | assumption | omega) (by first | assumption | omega) (by assumption))
      · refine mm_aload_n (mm_dc od_X10_sit_0 16 rfl) rfl ?_
        refine mm_getR (ci := 10) (k := 4) (mm_dc od_X10_sit_0 17 rfl) rfl in_X10 (by decide) wd_4_116 rfl rfl ?_
        refine mm_iload_n (mm_dc od_X10_sit_0 18 rfl) rfl ?_
        refine mm_zald (mm_dc od_X10_sit_0 19 rfl) rfl (by first | assumption | omega | exact hr _ _ rfl | exact mm_r3264 (hr _ _ rfl)) (by first | assumption | omega | exact hr _ _ rfl | exact mm_r3264 (hr _ _ rfl)) (by decide) ?_
        refine mm_if_ne 55 (mm_dc od_X10_sit_0 20 rfl) (by omega) (by first | assumption | omega | exact hr _ _ rfl | exact mm_r3264 (hr _ _ rfl)) (fun c9 => ?_) (fun c9 => ?_)
        · refine mm_bipush (mm_dc od_X10_sit_0 30 rfl) (by decide) ?_
          refine mm_iret (mm_dc od_X10_sit_0 31 rfl) rfl ?_
          exact k2 (by first | assumption | omega) (by first | assumption | omega)
        · refine mm_iload_n (mm_dc od_X10_sit_0 21 rfl) rfl ?_
          refine mm_bipush (mm_dc od_X10_sit_0 22 rfl) (by decide) ?_
          refine mm_icmp_ne 58 (mm_dc od_X10_sit_0 23 rfl) (by omega) (by first | assumption | omega | exact hr _ _ rfl | exact mm_r3264 (hr _ _ rfl)) (by first | assumption | omega | exact hr _ _ rfl | exact mm_r3264 (hr _ _ rfl)) (fun c10 => ?_) (fun c10 => ?_)
          · refine mm_aload_n (mm_dc od_X10_sit_0 32 rfl) rfl ?_
            refine mm_iload_n (mm_dc od_X10_sit_0 33 rfl) rfl ?_
            refine mm_iload_n (mm_dc od_X10_sit_0 34 rfl) rfl ?_
            refine mm_callV (b := 50) (mi' := mi_X10_sitter) [v_i b, v_i s] [] (mm_dc od_X10_sit_0 35 rfl) rfl wd_5_75 wd_5_77 wd_p_26 wd_1_12 wd_5_78 yk_X10_sitter rfl rfl rfl (Nat.le_of_ble_eq_true rfl) rfl (by decide) (c_X10_sitter b s (by first | assumption | omega | exact hr _ _ rfl | exact mm_r3264 (hr _ _ rfl)) (by first | assumption | omega | exact hr _ _ rfl | exact mm_r3264 (hr _ _ rfl)) hJom (by first | assumption | omega | exact hr _ _ rfl | exact mm_r3264 (hr _ _ rfl)) (fun r11 hq12 => ⟨Nat.le_refl _, ?_⟩))
            have hq12_r := lastP_rng hq12
            refine mm_istore (L' := [(0, v_r 50), (1, v_i b), (2, v_i s), (3, v_i o), (4, v_i r11)]) (mm_dc od_X10_sit_0 36 rfl) (by decide) rfl ?_
            refine mm_iload (mm_dc od_X10_sit_0 37 rfl) rfl ?_
            refine mm_if_lt 79 (mm_dc od_X10_sit_0 38 rfl) (by omega) (by first | assumption | omega | exact hr _ _ rfl | exact mm_r3264 (hr _ _ rfl)) (fun c13 => ?_) (fun c13 => ?_)
            · refine mm_iload_n (mm_dc od_X10_sit_0 44 rfl) rfl ?_
              refine mm_if_lt 97 (mm_dc od_X10_sit_0 45 rfl) (by omega) (by first | assumption | omega | exact hr _ _ rfl | exact mm_r3264 (hr _ _ rfl)) (fun c14 => ?_) (fun c14 => ?_)
              · refine mm_iload (mm_dc od_X10_sit_0 56 rfl) rfl ?_
                refine mm_iret (mm_dc od_X10_sit_0 57 rfl) rfl ?_
                exact mm_pm rfl (pm_sit1 (by omega) (by omega)) (k3 _ (by first | assumption | omega) (by first | assumption | omega) (by assumption))
              · refine mm_aload_n (mm_dc od_X10_sit_0 46 rfl) rfl ?_
                refine mm_getR (ci := 10) (k := 2) (mm_dc od_X10_sit_0 47 rfl) rfl in_X10 (by decide) wd_4_114 rfl rfl ?_
                refine mm_iload_n (mm_dc od_X10_sit_0 48 rfl) rfl ?_
                refine mm_iload_n (mm_dc od_X10_sit_0 49 rfl) rfl ?_
                refine mm_iast (mm_dc od_X10_sit_0 50 rfl) rfl (by first | assumption | omega | exact hr _ _ rfl | exact mm_r3264 (hr _ _ rfl)) (by first | assumption | omega | exact hr _ _ rfl | exact mm_r3264 (hr _ _ rfl)) (by decide) ?_
                refine mm_aload_n (mm_dc od_X10_sit_0 51 rfl) rfl ?_
                refine mm_getR (ci := 10) (k := 3) (mm_dc od_X10_sit_0 52 rfl) rfl in_X10 (by decide) wd_4_115 rfl rfl ?_
                refine mm_iload_n (mm_dc od_X10_sit_0 53 rfl) rfl ?_
                refine mm_iload_n (mm_dc od_X10_sit_0 54 rfl) rfl ?_
                refine mm_iast (mm_dc od_X10_sit_0 55 rfl) rfl (by first | assumption | omega | exact hr _ _ rfl | exact mm_r3264 (hr _ _ rfl)) (by first | assumption | omega | exact hr _ _ rfl | exact mm_r3264 (hr _ _ rfl)) (by decide) ?_
                refine mm_iload (mm_dc od_X10_sit_0 56 rfl) rfl ?_
                refine mm_iret (mm_dc od_X10_sit_0 57 rfl) rfl ?_
                exact mm_pm rfl (pm_sit3 (by omega) (by omega)) (k3 _ (by first | assumption | omega) (by first | assumption | omega) (by assumption))
            · refine mm_aload_n (mm_dc od_X10_sit_0 39 rfl) rfl ?_
              refine mm_getR (ci := 10) (k := 2) (mm_dc od_X10_sit_0 40 rfl) rfl in_X10 (by decide) wd_4_114 rfl rfl ?_
              refine mm_iload (mm_dc od_X10_sit_0 41 rfl) rfl ?_
              refine mm_iconst (mm_dc od_X10_sit_0 42 rfl) ?_
              refine mm_iast (mm_dc od_X10_sit_0 43 rfl) rfl (by first | assumption | omega | exact hr _ _ rfl | exact mm_r3264 (hr _ _ rfl)) (by first | assumption | omega | exact hr _ _ rfl | exact mm_r3264 (hr _ _ rfl)) (by decide) ?_
              refine mm_iload_n (mm_dc od_X10_sit_0 44 rfl) rfl ?_
              refine mm_if_lt 97 (mm_dc od_X10_sit_0 45 rfl) (by omega) (by first | assumption | omega | exact hr _ _ rfl | exact mm_r3264 (hr _ _ rfl)) (fun c15 => ?_) (fun c15 => ?_)
              · refine mm_iload (mm_dc od_X10_sit_0 56 rfl) rfl ?_
                refine mm_iret (mm_dc od_X10_sit_0 57 rfl) rfl ?_
                exact mm_pm rfl (pm_sit2 (by omega) (by omega)) (k3 _ (by first | assumption | omega) (by first | assumption | omega) (by assumption))
              · refine mm_aload_n (mm_dc od_X10_sit_0 46 rfl) rfl ?_
                refine mm_getR (ci := 10) (k := 2) (mm_dc od_X10_sit_0 47 rfl) rfl in_X10 (by decide) wd_4_114 rfl rfl ?_
                refine mm_iload_n (mm_dc od_X10_sit_0 48 rfl) rfl ?_
                refine mm_iload_n (mm_dc od_X10_sit_0 49 rfl) rfl ?_
                refine mm_iast (mm_dc od_X10_sit_0 50 rfl) rfl (by first | assumption | omega | exact hr _ _ rfl | exact mm_r3264 (hr _ _ rfl)) (by first | assumption | omega | exact hr _ _ rfl | exact mm_r3264 (hr _ _ rfl)) (by decide) ?_
                refine mm_aload_n (mm_dc od_X10_sit_0 51 rfl) rfl ?_
                refine mm_getR (ci := 10) (k := 3) (mm_dc od_X10_sit_0 52 rfl) rfl in_X10 (by decide) wd_4_115 rfl rfl ?_
                refine mm_iload_n (mm_dc od_X10_sit_0 53 rfl) rfl ?_
                refine mm_iload_n (mm_dc od_X10_sit_0 54 rfl) rfl ?_
                refine mm_iast (mm_dc od_X10_sit_0 55 rfl) rfl (by first | assumption | omega | exact hr _ _ rfl | exact mm_r3264 (hr _ _ rfl)) (by first | assumption | omega | exact hr _ _ rfl | exact mm_r3264 (hr _ _ rfl)) (by decide) ?_
                refine mm_iload (mm_dc od_X10_sit_0 56 rfl) rfl ?_
                refine mm_iret (mm_dc od_X10_sit_0 57 rfl) rfl ?_
                exact mm_pm rfl (pm_sit4 (by omega) (by omega)) (k3 _ (by first | assumption | omega) (by first | assumption | omega) (by assumption))
          · refine mm_aload_n (mm_dc od_X10_sit_0 24 rfl) rfl ?_
            refine mm_getR (ci := 10) (k := 1) (mm_dc od_X10_sit_0 25 rfl) rfl in_X10 (by decide) wd_4_113 rfl rfl ?_
            refine mm_iload_n (mm_dc od_X10_sit_0 26 rfl) rfl ?_
            refine mm_iald (mm_dc od_X10_sit_0 27 rfl) rfl (by first | assumption | omega | exact hr _ _ rfl | exact mm_r3264 (hr _ _ rfl)) (by first | assumption | omega | exact hr _ _ rfl | exact mm_r3264 (hr _ _ rfl)) (by decide) ?_
            refine mm_bipush (mm_dc od_X10_sit_0 28 rfl) (by decide) ?_
            refine mm_icmp_le 58 (mm_dc od_X10_sit_0 29 rfl) (by omega) (by first | assumption | omega | exact hr _ _ rfl | exact mm_r3264 (hr _ _ rfl)) (by first | assumption | omega | exact hr _ _ rfl | exact mm_r3264 (hr _ _ rfl)) (fun c16 => ?_) (fun c16 => ?_)
            · refine mm_aload_n (mm_dc od_X10_sit_0 32 rfl) rfl ?_
              refine mm_iload_n (mm_dc od_X10_sit_0 33 rfl) rfl ?_
              refine mm_iload_n (mm_dc od_X10_sit_0 34 rfl) rfl ?_
              refine mm_callV (b := 50) (mi' := mi_X10_sitter) [v_i b, v_i s] [] (mm_dc od_X10_sit_0 35 rfl) rfl wd_5_75 wd_5_77 wd_p_26 wd_1_12 wd_5_78 yk_X10_sitter rfl rfl rfl (Nat.le_of_ble_eq_true rfl) rfl (by decide) (c_X10_sitter b s (by first | assumption | omega | exact hr _ _ rfl | exact mm_r3264 (hr _ _ rfl)) (by first | assumption | omega | exact hr _ _ rfl | exact mm_r3264 (hr _ _ rfl)) hJom (by first | assumption | omega | exact hr _ _ rfl | exact mm_r3264 (hr _ _ rfl)) (fun r17 hq18 => ⟨Nat.le_refl _, ?_⟩))
              have hq18_r := lastP_rng hq18
              refine mm_istore (L' := [(0, v_r 50), (1, v_i b), (2, v_i s), (3, v_i o), (4, v_i r17)]) (mm_dc od_X10_sit_0 36 rfl) (by decide) rfl ?_
              refine mm_iload (mm_dc od_X10_sit_0 37 rfl) rfl ?_
              refine mm_if_lt 79 (mm_dc od_X10_sit_0 38 rfl) (by omega) (by first | assumption | omega | exact hr _ _ rfl | exact mm_r3264 (hr _ _ rfl)) (fun c19 => ?_) (fun c19 => ?_)
              · refine mm_iload_n (mm_dc od_X10_sit_0 44 rfl) rfl ?_
                refine mm_if_lt 97 (mm_dc od_X10_sit_0 45 rfl) (by omega) (by first | assumption | omega | exact hr _ _ rfl | exact mm_r3264 (hr _ _ rfl)) (fun c20 => ?_) (fun c20 => ?_)
                · refine mm_iload (mm_dc od_X10_sit_0 56 rfl) rfl ?_
                  refine mm_iret (mm_dc od_X10_sit_0 57 rfl) rfl ?_
                  exact mm_pm rfl (pm_sit1 (by omega) (by omega)) (k3 _ (by first | assumption | omega) (by first | assumption | omega) (by assumption))
                · refine mm_aload_n (mm_dc od_X10_sit_0 46 rfl) rfl ?_
                  refine mm_getR (ci := 10) (k := 2) (mm_dc od_X10_sit_0 47 rfl) rfl in_X10 (by decide) wd_4_114 rfl rfl ?_
                  refine mm_iload_n (mm_dc od_X10_sit_0 48 rfl) rfl ?_
                  refine mm_iload_n (mm_dc od_X10_sit_0 49 rfl) rfl ?_
                  refine mm_iast (mm_dc od_X10_sit_0 50 rfl) rfl (by first | assumption | omega | exact hr _ _ rfl | exact mm_r3264 (hr _ _ rfl)) (by first | assumption | omega | exact hr _ _ rfl | exact mm_r3264 (hr _ _ rfl)) (by decide) ?_
                  refine mm_aload_n (mm_dc od_X10_sit_0 51 rfl) rfl ?_
                  refine mm_getR (ci := 10) (k := 3) (mm_dc od_X10_sit_0 52 rfl) rfl in_X10 (by decide) wd_4_115 rfl rfl ?_
                  refine mm_iload_n (mm_dc od_X10_sit_0 53 rfl) rfl ?_
                  refine mm_iload_n (mm_dc od_X10_sit_0 54 rfl) rfl ?_
                  refine mm_iast (mm_dc od_X10_sit_0 55 rfl) rfl (by first | assumption | omega | exact hr _ _ rfl | exact mm_r3264 (hr _ _ rfl)) (by first | assumption | omega | exact hr _ _ rfl | exact mm_r3264 (hr _ _ rfl)) (by decide) ?_
                  refine mm_iload (mm_dc od_X10_sit_0 56 rfl) rfl ?_
                  refine mm_iret (mm_dc od_X10_sit_0 57 rfl) rfl ?_
                  exact mm_pm rfl (pm_sit3 (by omega) (by omega)) (k3 _ (by first | assumption | omega) (by first | assumption | omega) (by assumption))
              · refine mm_aload_n (mm_dc od_X10_sit_0 39 rfl) rfl ?_
                refine mm_getR (ci := 10) (k := 2) (mm_dc od_X10_sit_0 40 rfl) rfl in_X10 (by decide) wd_4_114 rfl rfl ?_
                refine mm_iload (mm_dc od_X10_sit_0 41 rfl) rfl ?_
                refine mm_iconst (mm_dc od_X10_sit_0 42 rfl) ?_
                refine mm_iast (mm_dc od_X10_sit_0 43 rfl) rfl (by first | assumption | omega | exact hr _ _ rfl | exact mm_r3264 (hr _ _ rfl)) (by first | assumption | omega | exact hr _ _ rfl | exact mm_r3264 (hr _ _ rfl)) (by decide) ?_
                refine mm_iload_n (mm_dc od_X10_sit_0 44 rfl) rfl ?_
                refine mm_if_lt 97 (mm_dc od_X10_sit_0 45 rfl) (by omega) (by first | assumption | omega | exact hr _ _ rfl | exact mm_r3264 (hr _ _ rfl)) (fun c21 => ?_) (fun c21 => ?_)
                · refine mm_iload (mm_dc od_X10_sit_0 56 rfl) rfl ?_
                  refine mm_iret (mm_dc od_X10_sit_0 57 rfl) rfl ?_
                  exact mm_pm rfl (pm_sit2 (by omega) (by omega)) (k3 _ (by first | assumption | omega) (by first | assumption | omega) (by assumption))
                · refine mm_aload_n (mm_dc od_X10_sit_0 46 rfl) rfl ?_
                  refine mm_getR (ci := 10) (k := 2) (mm_dc od_X10_sit_0 47 rfl) rfl in_X10 (by decide) wd_4_114 rfl rfl ?_
                  refine mm_iload_n (mm_dc od_X10_sit_0 48 rfl) rfl ?_
                  refine mm_iload_n (mm_dc od_X10_sit_0 49 rfl) rfl ?_
                  refine mm_iast (mm_dc od_X10_sit_0 50 rfl) rfl (by first | assumption | omega | exact hr _ _ rfl | exact mm_r3264 (hr _ _ rfl)) (by first | assumption | omega | exact hr _ _ rfl | exact mm_r3264 (hr _ _ rfl)) (by decide) ?_
                  refine mm_aload_n (mm_dc od_X10_sit_0 51 rfl) rfl ?_
                  refine mm_getR (ci := 10) (k := 3) (mm_dc od_X10_sit_0 52 rfl) rfl in_X10 (by decide) wd_4_115 rfl rfl ?_
                  refine mm_iload_n (mm_dc od_X10_sit_0 53 rfl) rfl ?_
                  refine mm_iload_n (mm_dc od_X10_sit_0 54 rfl) rfl ?_
                  refine mm_iast (mm_dc od_X10_sit_0 55 rfl) rfl (by first | assumption | omega | exact hr _ _ rfl | exact mm_r3264 (hr _ _ rfl)) (by first | assumption | omega | exact hr _ _ rfl | exact mm_r3264 (hr _ _ rfl)) (by decide) ?_
                  refine mm_iload (mm_dc od_X10_sit_0 56 rfl) rfl ?_
                  refine mm_iret (mm_dc od_X10_sit_0 57 rfl) rfl ?_
                  exact mm_pm rfl (pm_sit4 (by omega) (by omega)) (k3 _ (by first | assumption | omega) (by first | assumption | omega) (by assumption))
            · refine mm_bipush (mm_dc od_X10_sit_0 30 rfl) (by decide) ?_
              refine mm_iret (mm_dc od_X10_sit_0 31 rfl) rfl ?_
              exact k2 (by first | assumption | omega) (by first | assumption | omega)
    · refine mm_aload_n (mm_dc od_X10_sit_0 8 rfl) rfl ?_
      refine mm_iload_n (mm_dc od_X10_sit_0 9 rfl) rfl ?_
      refine mm_callV (b := 50) (mi' := mi_X10_isOar) [v_i o] [] (mm_dc od_X10_sit_0 10 rfl) rfl wd_5_51 wd_5_53 wd_p_21 wd_1_12 wd_5_54 yk_X10_isOar rfl rfl rfl (Nat.le_of_ble_eq_true rfl) rfl (by decide) (c_X10_isOar o (by first | assumption | omega | exact hr _ _ rfl | exact mm_r3264 (hr _ _ rfl)) (by first | assumption | omega | exact hr _ _ rfl | exact mm_r3264 (hr _ _ rfl)) (fun c22 => ⟨Nat.le_refl _, ?_⟩) (fun c22 => ⟨Nat.le_refl _, ?_⟩))
      · refine mm_if_ne 25 (mm_dc od_X10_sit_0 11 rfl) (by omega) (by first | assumption | omega | exact hr _ _ rfl | exact mm_r3264 (hr _ _ rfl)) (fun _ => ?_) (fun h => absurd h (by decide))
        refine mm_iload_n (mm_dc od_X10_sit_0 14 rfl) rfl ?_
        refine mm_if_lt 58 (mm_dc od_X10_sit_0 15 rfl) (by omega) (by first | assumption | omega | exact hr _ _ rfl | exact mm_r3264 (hr _ _ rfl)) (fun c23 => ?_) (fun c23 => ?_)
        · refine mm_aload_n (mm_dc od_X10_sit_0 32 rfl) rfl ?_
          refine mm_iload_n (mm_dc od_X10_sit_0 33 rfl) rfl ?_
          refine mm_iload_n (mm_dc od_X10_sit_0 34 rfl) rfl ?_
          refine mm_callV (b := 50) (mi' := mi_X10_sitter) [v_i b, v_i s] [] (mm_dc od_X10_sit_0 35 rfl) rfl wd_5_75 wd_5_77 wd_p_26 wd_1_12 wd_5_78 yk_X10_sitter rfl rfl rfl (Nat.le_of_ble_eq_true rfl) rfl (by decide) (c_X10_sitter b s (by first | assumption | omega | exact hr _ _ rfl | exact mm_r3264 (hr _ _ rfl)) (by first | assumption | omega | exact hr _ _ rfl | exact mm_r3264 (hr _ _ rfl)) hJom (by first | assumption | omega | exact hr _ _ rfl | exact mm_r3264 (hr _ _ rfl)) (fun r24 hq25 => ⟨Nat.le_refl _, ?_⟩))
          have hq25_r := lastP_rng hq25
          refine mm_istore (L' := [(0, v_r 50), (1, v_i b), (2, v_i s), (3, v_i o), (4, v_i r24)]) (mm_dc od_X10_sit_0 36 rfl) (by decide) rfl ?_
          refine mm_iload (mm_dc od_X10_sit_0 37 rfl) rfl ?_
          refine mm_if_lt 79 (mm_dc od_X10_sit_0 38 rfl) (by omega) (by first | assumption | omega | exact hr _ _ rfl | exact mm_r3264 (hr _ _ rfl)) (fun c26 => ?_) (fun c26 => ?_)
          · refine mm_iload_n (mm_dc od_X10_sit_0 44 rfl) rfl ?_
            refine mm_if_lt 97 (mm_dc od_X10_sit_0 45 rfl) (by omega) (by first | assumption | omega | exact hr _ _ rfl | exact mm_r3264 (hr _ _ rfl)) (fun c27 => ?_) (fun c27 => ?_)
            · refine mm_iload (mm_dc od_X10_sit_0 56 rfl) rfl ?_
              refine mm_iret (mm_dc od_X10_sit_0 57 rfl) rfl ?_
              exact mm_pm rfl (pm_sit1 (by omega) (by omega)) (k3 _ (by first | assumption | omega) (by first | assumption | omega) (by assumption))
            · refine mm_aload_n (mm_dc od_X10_sit_0 46 rfl) rfl ?_
              refine mm_getR (ci := 10) (k := 2) (mm_dc od_X10_sit_0 47 rfl) rfl in_X10 (by decide) wd_4_114 rfl rfl ?_
              refine mm_iload_n (mm_dc od_X10_sit_0 48 rfl) rfl ?_
              refine mm_iload_n (mm_dc od_X10_sit_0 49 rfl) rfl ?_
              refine mm_iast (mm_dc od_X10_sit_0 50 rfl) rfl (by first | assumption | omega | exact hr _ _ rfl | exact mm_r3264 (hr _ _ rfl)) (by first | assumption | omega | exact hr _ _ rfl | exact mm_r3264 (hr _ _ rfl)) (by decide) ?_
              refine mm_aload_n (mm_dc od_X10_sit_0 51 rfl) rfl ?_
              refine mm_getR (ci := 10) (k := 3) (mm_dc od_X10_sit_0 52 rfl) rfl in_X10 (by decide) wd_4_115 rfl rfl ?_
              refine mm_iload_n (mm_dc od_X10_sit_0 53 rfl) rfl ?_
              refine mm_iload_n (mm_dc od_X10_sit_0 54 rfl) rfl ?_
              refine mm_iast (mm_dc od_X10_sit_0 55 rfl) rfl (by first | assumption | omega | exact hr _ _ rfl | exact mm_r3264 (hr _ _ rfl)) (by first | assumption | omega | exact hr _ _ rfl | exact mm_r3264 (hr _ _ rfl)) (by decide) ?_
              refine mm_iload (mm_dc od_X10_sit_0 56 rfl) rfl ?_
              refine mm_iret (mm_dc od_X10_sit_0 57 rfl) rfl ?_
              exact mm_pm rfl (pm_sit3 (by omega) (by omega)) (k3 _ (by first | assumption | omega) (by first | assumption | omega) (by assumption))
          · refine mm_aload_n (mm_dc od_X10_sit_0 39 rfl) rfl ?_
            refine mm_getR (ci := 10) (k := 2) (mm_dc od_X10_sit_0 40 rfl) rfl in_X10 (by decide) wd_4_114 rfl rfl ?_
            refine mm_iload (mm_dc od_X10_sit_0 41 rfl) rfl ?_
            refine mm_iconst (mm_dc od_X10_sit_0 42 rfl) ?_
            refine mm_iast (mm_dc od_X10_sit_0 43 rfl) rfl (by first | assumption | omega | exact hr _ _ rfl | exact mm_r3264 (hr _ _ rfl)) (by first | assumption | omega | exact hr _ _ rfl | exact mm_r3264 (hr _ _ rfl)) (by decide) ?_
            refine mm_iload_n (mm_dc od_X10_sit_0 44 rfl) rfl ?_
            refine mm_if_lt 97 (mm_dc od_X10_sit_0 45 rfl) (by omega) (by first | assumption | omega | exact hr _ _ rfl | exact mm_r3264 (hr _ _ rfl)) (fun c28 => ?_) (fun c28 => ?_)
            · refine mm_iload (mm_dc od_X10_sit_0 56 rfl) rfl ?_
              refine mm_iret (mm_dc od_X10_sit_0 57 rfl) rfl ?_
              exact mm_pm rfl (pm_sit2 (by omega) (by omega)) (k3 _ (by first | assumption | omega) (by first | assumption | omega) (by assumption))
            · refine mm_aload_n (mm_dc od_X10_sit_0 46 rfl) rfl ?_
              refine mm_getR (ci := 10) (k := 2) (mm_dc od_X10_sit_0 47 rfl) rfl in_X10 (by decide) wd_4_114 rfl rfl ?_
              refine mm_iload_n (mm_dc od_X10_sit_0 48 rfl) rfl ?_
              refine mm_iload_n (mm_dc od_X10_sit_0 49 rfl) rfl ?_
              refine mm_iast (mm_dc od_X10_sit_0 50 rfl) rfl (by first | assumption | omega | exact hr _ _ rfl | exact mm_r3264 (hr _ _ rfl)) (by first | assumption | omega | exact hr _ _ rfl | exact mm_r3264 (hr _ _ rfl)) (by decide) ?_
              refine mm_aload_n (mm_dc od_X10_sit_0 51 rfl) rfl ?_
              refine mm_getR (ci := 10) (k := 3) (mm_dc od_X10_sit_0 52 rfl) rfl in_X10 (by decide) wd_4_115 rfl rfl ?_
              refine mm_iload_n (mm_dc od_X10_sit_0 53 rfl) rfl ?_
              refine mm_iload_n (mm_dc od_X10_sit_0 54 rfl) rfl ?_
              refine mm_iast (mm_dc od_X10_sit_0 55 rfl) rfl (by first | assumption | omega | exact hr _ _ rfl | exact mm_r3264 (hr _ _ rfl)) (by first | assumption | omega | exact hr _ _ rfl | exact mm_r3264 (hr _ _ rfl)) (by decide) ?_
              refine mm_iload (mm_dc od_X10_sit_0 56 rfl) rfl ?_
              refine mm_iret (mm_dc od_X10_sit_0 57 rfl) rfl ?_
              exact mm_pm rfl (pm_sit4 (by omega) (by omega)) (k3 _ (by first | assumption | omega) (by first | assumption | omega) (by assumption))
        · refine mm_aload_n (mm_dc od_X10_sit_0 16 rfl) rfl ?_
          refine mm_getR (ci := 10) (k := 4) (mm_dc od_X10_sit_0 17 rfl) rfl in_X10 (by decide) wd_4_116 rfl rfl ?_
          refine mm_iload_n (mm_dc od_X10_sit_0 18 rfl) rfl ?_
          refine mm_zald (mm_dc od_X10_sit_0 19 rfl) rfl (by first | assumption | omega | exact hr _ _ rfl | exact mm_r3264 (hr _ _ rfl)) (by first | assumption | omega | exact hr _ _ rfl | exact mm_r3264 (hr _ _ rfl)) (by decide) ?_
          refine mm_if_ne 55 (mm_dc od_X10_sit_0 20 rfl) (by omega) (by first | assumption | omega | exact hr _ _ rfl | exact mm_r3264 (hr _ _ rfl)) (fun c29 => ?_) (fun c29 => ?_)
          · refine mm_bipush (mm_dc od_X10_sit_0 30 rfl) (by decide) ?_
            refine mm_iret (mm_dc od_X10_sit_0 31 rfl) rfl ?_
            exact k2 (by first | assumption | omega) (by first | assumption | omega)
          · refine mm_iload_n (mm_dc od_X10_sit_0 21 rfl) rfl ?_
            refine mm_bipush (mm_dc od_X10_sit_0 22 rfl) (by decide) ?_
            refine mm_icmp_ne 58 (mm_dc od_X10_sit_0 23 rfl) (by omega) (by first | assumption | omega | exact hr _ _ rfl | exact mm_r3264 (hr _ _ rfl)) (by first | assumption | omega | exact hr _ _ rfl | exact mm_r3264 (hr _ _ rfl)) (fun c30 => ?_) (fun c30 => ?_)
            · refine mm_aload_n (mm_dc od_X10_sit_0 32 rfl) rfl ?_
              refine mm_iload_n (mm_dc od_X10_sit_0 33 rfl) rfl ?_
              refine mm_iload_n (mm_dc od_X10_sit_0 34 rfl) rfl ?_
              refine mm_callV (b := 50) (mi' := mi_X10_sitter) [v_i b, v_i s] [] (mm_dc od_X10_sit_0 35 rfl) rfl wd_5_75 wd_5_77 wd_p_26 wd_1_12 wd_5_78 yk_X10_sitter rfl rfl rfl (Nat.le_of_ble_eq_true rfl) rfl (by decide) (c_X10_sitter b s (by first | assumption | omega | exact hr _ _ rfl | exact mm_r3264 (hr _ _ rfl)) (by first | assumption | omega | exact hr _ _ rfl | exact mm_r3264 (hr _ _ rfl)) hJom (by first | assumption | omega | exact hr _ _ rfl | exact mm_r3264 (hr _ _ rfl)) (fun r31 hq32 => ⟨Nat.le_refl _, ?_⟩))
              have hq32_r := lastP_rng hq32
              refine mm_istore (L' := [(0, v_r 50), (1, v_i b), (2, v_i s), (3, v_i o), (4, v_i r31)]) (mm_dc od_X10_sit_0 36 rfl) (by decide) rfl ?_
              refine mm_iload (mm_dc od_X10_sit_0 37 rfl) rfl ?_
              refine mm_if_lt 79 (mm_dc od_X10_sit_0 38 rfl) (by omega) (by first | assumption | omega | exact hr _ _ rfl | exact mm_r3264 (hr _ _ rfl)) (fun c33 => ?_) (fun c33 => ?_)
              · refine mm_iload_n (mm_dc od_X10_sit_0 44 rfl) rfl ?_
                refine mm_if_lt 97 (mm_dc od_X10_sit_0 45 rfl) (by omega) (by first | assumption | omega | exact hr _ _ rfl | exact mm_r3264 (hr _ _ rfl)) (fun c34 => ?_) (fun c34 => ?_)
                · refine mm_iload (mm_dc od_X10_sit_0 56 rfl) rfl ?_
                  refine mm_iret (mm_dc od_X10_sit_0 57 rfl) rfl ?_
                  exact mm_pm rfl (pm_sit1 (by omega) (by omega)) (k3 _ (by first | assumption | omega) (by first | assumption | omega) (by assumption))
                · refine mm_aload_n (mm_dc od_X10_sit_0 46 rfl) rfl ?_
                  refine mm_getR (ci := 10) (k := 2) (mm_dc od_X10_sit_0 47 rfl) rfl in_X10 (by decide) wd_4_114 rfl rfl ?_
                  refine mm_iload_n (mm_dc od_X10_sit_0 48 rfl) rfl ?_
                  refine mm_iload_n (mm_dc od_X10_sit_0 49 rfl) rfl ?_
                  refine mm_iast (mm_dc od_X10_sit_0 50 rfl) rfl (by first | assumption | omega | exact hr _ _ rfl | exact mm_r3264 (hr _ _ rfl)) (by first | assumption | omega | exact hr _ _ rfl | exact mm_r3264 (hr _ _ rfl)) (by decide) ?_
                  refine mm_aload_n (mm_dc od_X10_sit_0 51 rfl) rfl ?_
                  refine mm_getR (ci := 10) (k := 3) (mm_dc od_X10_sit_0 52 rfl) rfl in_X10 (by decide) wd_4_115 rfl rfl ?_
                  refine mm_iload_n (mm_dc od_X10_sit_0 53 rfl) rfl ?_
                  refine mm_iload_n (mm_dc od_X10_sit_0 54 rfl) rfl ?_
                  refine mm_iast (mm_dc od_X10_sit_0 55 rfl) rfl (by first | assumption | omega | exact hr _ _ rfl | exact mm_r3264 (hr _ _ rfl)) (by first | assumption | omega | exact hr _ _ rfl | exact mm_r3264 (hr _ _ rfl)) (by decide) ?_
                  refine mm_iload (mm_dc od_X10_sit_0 56 rfl) rfl ?_
                  refine mm_iret (mm_dc od_X10_sit_0 57 rfl) rfl ?_
                  exact mm_pm rfl (pm_sit3 (by omega) (by omega)) (k3 _ (by first | assumption | omega) (by first | assumption | omega) (by assumption))
              · refine mm_aload_n (mm_dc od_X10_sit_0 39 rfl) rfl ?_
                refine mm_getR (ci := 10) (k := 2) (mm_dc od_X10_sit_0 40 rfl) rfl in_X10 (by decide) wd_4_114 rfl rfl ?_
                refine mm_iload (mm_dc od_X10_sit_0 41 rfl) rfl ?_
                refine mm_iconst (mm_dc od_X10_sit_0 42 rfl) ?_
                refine mm_iast (mm_dc od_X10_sit_0 43 rfl) rfl (by first | assumption | omega | exact hr _ _ rfl | exact mm_r3264 (hr _ _ rfl)) (by first | assumption | omega | exact hr _ _ rfl | exact mm_r3264 (hr _ _ rfl)) (by decide) ?_
                refine mm_iload_n (mm_dc od_X10_sit_0 44 rfl) rfl ?_
                refine mm_if_lt 97 (mm_dc od_X10_sit_0 45 rfl) (by omega) (by first | assumption | omega | exact hr _ _ rfl | exact mm_r3264 (hr _ _ rfl)) (fun c35 => ?_) (fun c35 => ?_)
                · refine mm_iload (mm_dc od_X10_sit_0 56 rfl) rfl ?_
                  refine mm_iret (mm_dc od_X10_sit_0 57 rfl) rfl ?_
                  exact mm_pm rfl (pm_sit2 (by omega) (by omega)) (k3 _ (by first | assumption | omega) (by first | assumption | omega) (by assumption))
                · refine mm_aload_n (mm_dc od_X10_sit_0 46 rfl) rfl ?_
                  refine mm_getR (ci := 10) (k := 2) (mm_dc od_X10_sit_0 47 rfl) rfl in_X10 (by decide) wd_4_114 rfl rfl ?_
                  refine mm_iload_n (mm_dc od_X10_sit_0 48 rfl) rfl ?_
                  refine mm_iload_n (mm_dc od_X10_sit_0 49 rfl) rfl ?_
                  refine mm_iast (mm_dc od_X10_sit_0 50 rfl) rfl (by first | assumption | omega | exact hr _ _ rfl | exact mm_r3264 (hr _ _ rfl)) (by first | assumption | omega | exact hr _ _ rfl | exact mm_r3264 (hr _ _ rfl)) (by decide) ?_
                  refine mm_aload_n (mm_dc od_X10_sit_0 51 rfl) rfl ?_
                  refine mm_getR (ci := 10) (k := 3) (mm_dc od_X10_sit_0 52 rfl) rfl in_X10 (by decide) wd_4_115 rfl rfl ?_
                  refine mm_iload_n (mm_dc od_X10_sit_0 53 rfl) rfl ?_
                  refine mm_iload_n (mm_dc od_X10_sit_0 54 rfl) rfl ?_
                  refine mm_iast (mm_dc od_X10_sit_0 55 rfl) rfl (by first | assumption | omega | exact hr _ _ rfl | exact mm_r3264 (hr _ _ rfl)) (by first | assumption | omega | exact hr _ _ rfl | exact mm_r3264 (hr _ _ rfl)) (by decide) ?_
                  refine mm_iload (mm_dc od_X10_sit_0 56 rfl) rfl ?_
                  refine mm_iret (mm_dc od_X10_sit_0 57 rfl) rfl ?_
                  exact mm_pm rfl (pm_sit4 (by omega) (by omega)) (k3 _ (by first | assumption | omega) (by first | assumption | omega) (by assumption))
            · refine mm_aload_n (mm_dc od_X10_sit_0 24 rfl) rfl ?_
              refine mm_getR (ci := 10) (k := 1) (mm_dc od_X10_sit_0 25 rfl) rfl in_X10 (by decide) wd_4_113 rfl rfl ?_
              refine mm_iload_n (mm_dc od_X10_sit_0 26 rfl) rfl ?_
              refine mm_iald (mm_dc od_X10_sit_0 27 rfl) rfl (by first | assumption | omega | exact hr _ _ rfl | exact mm_r3264 (hr _ _ rfl)) (by first | assumption | omega | exact hr _ _ rfl | exact mm_r3264 (hr _ _ rfl)) (by decide) ?_
              refine mm_bipush (mm_dc od_X10_sit_0 28 rfl) (by decide) ?_
              refine mm_icmp_le 58 (mm_dc od_X10_sit_0 29 rfl) (by omega) (by first | assumption | omega | exact hr _ _ rfl | exact mm_r3264 (hr _ _ rfl)) (by first | assumption | omega | exact hr _ _ rfl | exact mm_r3264 (hr _ _ rfl)) (fun c36 => ?_) (fun c36 => ?_)
              · refine mm_aload_n (mm_dc od_X10_sit_0 32 rfl) rfl ?_
                refine mm_iload_n (mm_dc od_X10_sit_0 33 rfl) rfl ?_
                refine mm_iload_n (mm_dc od_X10_sit_0 34 rfl) rfl ?_
                refine mm_callV (b := 50) (mi' := mi_X10_sitter) [v_i b, v_i s] [] (mm_dc od_X10_sit_0 35 rfl) rfl wd_5_75 wd_5_77 wd_p_26 wd_1_12 wd_5_78 yk_X10_sitter rfl rfl rfl (Nat.le_of_ble_eq_true rfl) rfl (by decide) (c_X10_sitter b s (by first | assumption | omega | exact hr _ _ rfl | exact mm_r3264 (hr _ _ rfl)) (by first | assumption | omega | exact hr _ _ rfl | exact mm_r3264 (hr _ _ rfl)) hJom (by first | assumption | omega | exact hr _ _ rfl | exact mm_r3264 (hr _ _ rfl)) (fun r37 hq38 => ⟨Nat.le_refl _, ?_⟩))
                have hq38_r := lastP_rng hq38
                refine mm_istore (L' := [(0, v_r 50), (1, v_i b), (2, v_i s), (3, v_i o), (4, v_i r37)]) (mm_dc od_X10_sit_0 36 rfl) (by decide) rfl ?_
                refine mm_iload (mm_dc od_X10_sit_0 37 rfl) rfl ?_
                refine mm_if_lt 79 (mm_dc od_X10_sit_0 38 rfl) (by omega) (by first | assumption | omega | exact hr _ _ rfl | exact mm_r3264 (hr _ _ rfl)) (fun c39 => ?_) (fun c39 => ?_)
                · refine mm_iload_n (mm_dc od_X10_sit_0 44 rfl) rfl ?_
                  refine mm_if_lt 97 (mm_dc od_X10_sit_0 45 rfl) (by omega) (by first | assumption | omega | exact hr _ _ rfl | exact mm_r3264 (hr _ _ rfl)) (fun c40 => ?_) (fun c40 => ?_)
                  · refine mm_iload (mm_dc od_X10_sit_0 56 rfl) rfl ?_
                    refine mm_iret (mm_dc od_X10_sit_0 57 rfl) rfl ?_
                    exact mm_pm rfl (pm_sit1 (by omega) (by omega)) (k3 _ (by first | assumption | omega) (by first | assumption | omega) (by assumption))
                  · refine mm_aload_n (mm_dc od_X10_sit_0 46 rfl) rfl ?_
                    refine mm_getR (ci := 10) (k := 2) (mm_dc od_X10_sit_0 47 rfl) rfl in_X10 (by decide) wd_4_114 rfl rfl ?_
                    refine mm_iload_n (mm_dc od_X10_sit_0 48 rfl) rfl ?_
                    refine mm_iload_n (mm_dc od_X10_sit_0 49 rfl) rfl ?_
                    refine mm_iast (mm_dc od_X10_sit_0 50 rfl) rfl (by first | assumption | omega | exact hr _ _ rfl | exact mm_r3264 (hr _ _ rfl)) (by first | assumption | omega | exact hr _ _ rfl | exact mm_r3264 (hr _ _ rfl)) (by decide) ?_
                    refine mm_aload_n (mm_dc od_X10_sit_0 51 rfl) rfl ?_
                    refine mm_getR (ci := 10) (k := 3) (mm_dc od_X10_sit_0 52 rfl) rfl in_X10 (by decide) wd_4_115 rfl rfl ?_
                    refine mm_iload_n (mm_dc od_X10_sit_0 53 rfl) rfl ?_
                    refine mm_iload_n (mm_dc od_X10_sit_0 54 rfl) rfl ?_
                    refine mm_iast (mm_dc od_X10_sit_0 55 rfl) rfl (by first | assumption | omega | exact hr _ _ rfl | exact mm_r3264 (hr _ _ rfl)) (by first | assumption | omega | exact hr _ _ rfl | exact mm_r3264 (hr _ _ rfl)) (by decide) ?_
                    refine mm_iload (mm_dc od_X10_sit_0 56 rfl) rfl ?_
                    refine mm_iret (mm_dc od_X10_sit_0 57 rfl) rfl ?_
                    exact mm_pm rfl (pm_sit3 (by omega) (by omega)) (k3 _ (by first | assumption | omega) (by first | assumption | omega) (by assumption))
                · refine mm_aload_n (mm_dc od_X10_sit_0 39 rfl) rfl ?_
                  refine mm_getR (ci := 10) (k := 2) (mm_dc od_X10_sit_0 40 rfl) rfl in_X10 (by decide) wd_4_114 rfl rfl ?_
                  refine mm_iload (mm_dc od_X10_sit_0 41 rfl) rfl ?_
                  refine mm_iconst (mm_dc od_X10_sit_0 42 rfl) ?_
                  refine mm_iast (mm_dc od_X10_sit_0 43 rfl) rfl (by first | assumption | omega | exact hr _ _ rfl | exact mm_r3264 (hr _ _ rfl)) (by first | assumption | omega | exact hr _ _ rfl | exact mm_r3264 (hr _ _ rfl)) (by decide) ?_
                  refine mm_iload_n (mm_dc od_X10_sit_0 44 rfl) rfl ?_
                  refine mm_if_lt 97 (mm_dc od_X10_sit_0 45 rfl) (by omega) (by first | assumption | omega | exact hr _ _ rfl | exact mm_r3264 (hr _ _ rfl)) (fun c41 => ?_) (fun c41 => ?_)
                  · refine mm_iload (mm_dc od_X10_sit_0 56 rfl) rfl ?_
                    refine mm_iret (mm_dc od_X10_sit_0 57 rfl) rfl ?_
                    exact mm_pm rfl (pm_sit2 (by omega) (by omega)) (k3 _ (by first | assumption | omega) (by first | assumption | omega) (by assumption))
                  · refine mm_aload_n (mm_dc od_X10_sit_0 46 rfl) rfl ?_
                    refine mm_getR (ci := 10) (k := 2) (mm_dc od_X10_sit_0 47 rfl) rfl in_X10 (by decide) wd_4_114 rfl rfl ?_
                    refine mm_iload_n (mm_dc od_X10_sit_0 48 rfl) rfl ?_
                    refine mm_iload_n (mm_dc od_X10_sit_0 49 rfl) rfl ?_
                    refine mm_iast (mm_dc od_X10_sit_0 50 rfl) rfl (by first | assumption | omega | exact hr _ _ rfl | exact mm_r3264 (hr _ _ rfl)) (by first | assumption | omega | exact hr _ _ rfl | exact mm_r3264 (hr _ _ rfl)) (by decide) ?_
                    refine mm_aload_n (mm_dc od_X10_sit_0 51 rfl) rfl ?_
                    refine mm_getR (ci := 10) (k := 3) (mm_dc od_X10_sit_0 52 rfl) rfl in_X10 (by decide) wd_4_115 rfl rfl ?_
                    refine mm_iload_n (mm_dc od_X10_sit_0 53 rfl) rfl ?_
                    refine mm_iload_n (mm_dc od_X10_sit_0 54 rfl) rfl ?_
                    refine mm_iast (mm_dc od_X10_sit_0 55 rfl) rfl (by first | assumption | omega | exact hr _ _ rfl | exact mm_r3264 (hr _ _ rfl)) (by first | assumption | omega | exact hr _ _ rfl | exact mm_r3264 (hr _ _ rfl)) (by decide) ?_
                    refine mm_iload (mm_dc od_X10_sit_0 56 rfl) rfl ?_
                    refine mm_iret (mm_dc od_X10_sit_0 57 rfl) rfl ?_
                    exact mm_pm rfl (pm_sit4 (by omega) (by omega)) (k3 _ (by first | assumption | omega) (by first | assumption | omega) (by assumption))
              · refine mm_bipush (mm_dc od_X10_sit_0 30 rfl) (by decide) ?_
                refine mm_iret (mm_dc od_X10_sit_0 31 rfl) rfl ?_
                exact k2 (by first | assumption | omega) (by first | assumption | omega)
      · refine mm_if_ne 25 (mm_dc od_X10_sit_0 11 rfl) (by omega) (by first | assumption | omega | exact hr _ _ rfl | exact mm_r3264 (hr _ _ rfl)) (fun h => absurd h (by decide)) (fun _ => ?_)
        refine mm_bipush (mm_dc od_X10_sit_0 12 rfl) (by decide) ?_
        refine mm_iret (mm_dc od_X10_sit_0 13 rfl) rfl ?_
        exact k1 (by first | assumption | omega)
  · refine mm_if_eq 22 (mm_dc od_X10_sit_0 4 rfl) (by omega) (by first | assumption | omega | exact hr _ _ rfl | exact mm_r3264 (hr _ _ rfl)) (fun _ => ?_) (fun h => absurd h (by decide))
    refine mm_bipush (mm_dc od_X10_sit_0 12 rfl) (by decide) ?_
    refine mm_iret (mm_dc od_X10_sit_0 13 rfl) rfl ?_
    exact k1 (by first | assumption | omega)
theorem c_X10_seat {X : Nat × (Nat → Int)} {d : Nat} {Po : mm_Po} {M : mm_M} (b : Int) (s : Int) (hb : mm_r32 b) (hs : mm_r32 s) (hJom : JOm M) (hJbm : JBm M) (hr : R32 M) (k1 : (¬ ((0 ≤ b ∧ b < M 50 11) ∧ ((s = 8 ∧ (M 57 b.toNat = 1 ∨ M 57 b.toNat = 2)) ∨ (s ≠ 8 ∧ 0 ≤ s ∧ s < mm_seats (M 57 b.toNat).toNat)))) → Po (some (v_i (-1))) Lam M) (k2 : ∀ (r : Int), (((0 ≤ b ∧ b < M 50 11) ∧ ((s = 8 ∧ (M 57 b.toNat = 1 ∨ M 57 b.toNat = 2)) ∨ (s ≠ 8 ∧ 0 ≤ s ∧ s < mm_seats (M 57 b.toNat).toNat)))) → (lastP (fun i => M 53 i = b ∧ M 54 i = s) r (M 50 10).toNat) → Po (some (v_i r)) Lam M) : mm_E X (d + 2) 0 0 mi_X10_seat [v_r 50, v_i b, v_i s] Po Lam M := by
  show mm_G X (d + 2) 0 0 mi_X10_seat Po 0 [(0, v_r 50), (1, v_i b), (2, v_i s)] [] Lam M 0 0
  have hJom2 := hJom
  obtain ⟨ho0, ho16, hO⟩ := hJom2
  have hJbm2 := hJbm
  obtain ⟨hb0, hb8, hB⟩ := hJbm2
  have hB1 := hB b.toNat
  have hs1 := mm_seats_le (M 57 b.toNat).toNat
  refine mm_aload_n (mm_dc od_X10_seat_0 0 rfl) rfl ?_
  refine mm_iload_n (mm_dc od_X10_seat_0 1 rfl) rfl ?_
  refine mm_iload_n (mm_dc od_X10_seat_0 2 rfl) rfl ?_
  refine mm_callV (b := 50) (mi' := mi_X10_isSeat) [v_i b, v_i s] [] (mm_dc od_X10_seat_0 3 rfl) rfl wd_5_59 wd_5_61 wd_p_22 wd_1_12 wd_5_62 yk_X10_isSeat rfl rfl rfl (Nat.le_of_ble_eq_true rfl) rfl (by decide) (c_X10_isSeat b s (by first | assumption | omega | exact hr _ _ rfl | exact mm_r3264 (hr _ _ rfl)) (by first | assumption | omega | exact hr _ _ rfl | exact mm_r3264 (hr _ _ rfl)) hJbm (by first | assumption | omega | exact hr _ _ rfl | exact mm_r3264 (hr _ _ rfl)) (fun c1 => ⟨Nat.le_refl _, ?_⟩) (fun c1 => ⟨Nat.le_refl _, ?_⟩))
  · refine mm_if_eq 18 (mm_dc od_X10_seat_0 4 rfl) (by omega) (by first | assumption | omega | exact hr _ _ rfl | exact mm_r3264 (hr _ _ rfl)) (fun h => absurd h (by decide)) (fun _ => ?_)
    refine mm_aload_n (mm_dc od_X10_seat_0 5 rfl) rfl ?_
    refine mm_iload_n (mm_dc od_X10_seat_0 6 rfl) rfl ?_
    refine mm_iload_n (mm_dc od_X10_seat_0 7 rfl) rfl ?_
    refine mm_callV (b := 50) (mi' := mi_X10_sitter) [v_i b, v_i s] [] (mm_dc od_X10_seat_0 8 rfl) rfl wd_5_75 wd_5_77 wd_p_26 wd_1_12 wd_5_78 yk_X10_sitter rfl rfl rfl (Nat.le_of_ble_eq_true rfl) rfl (by decide) (c_X10_sitter b s (by first | assumption | omega | exact hr _ _ rfl | exact mm_r3264 (hr _ _ rfl)) (by first | assumption | omega | exact hr _ _ rfl | exact mm_r3264 (hr _ _ rfl)) hJom (by first | assumption | omega | exact hr _ _ rfl | exact mm_r3264 (hr _ _ rfl)) (fun r2 hq3 => ⟨Nat.le_refl _, ?_⟩))
    have hq3_r := lastP_rng hq3
    refine mm_goto 19 (mm_dc od_X10_seat_0 9 rfl) (by omega) ?_
    refine mm_iret (mm_dc od_X10_seat_0 11 rfl) rfl ?_
    first | exact k2 _ (by first | assumption | omega) (by first | assumption | omega) | exact mm_pm (by omega) rfl (k2 _ (by first | assumption | omega) (by first | assumption | omega)) | (exfalso; omega)
  · refine mm_if_eq 18 (mm_dc od_X10_seat_0 4 rfl) (by omega) (by first | assumption | omega | exact hr _ _ rfl | exact mm_r3264 (hr _ _ rfl)) (fun _ => ?_) (fun h => absurd h (by decide))
    refine mm_iconst (mm_dc od_X10_seat_0 10 rfl) ?_
    refine mm_iret (mm_dc od_X10_seat_0 11 rfl) rfl ?_
    first | exact k1 (by first | assumption | omega) | (exfalso; omega)
theorem c_X10_about {X : Nat × (Nat → Int)} {d : Nat} {Po : mm_Po} {M : mm_M} (o : Int) (what : Int) (ho : mm_r32 o) (hwhat : mm_r32 what) (hJom : JOm M) (hr : R32 M) (k1 : (¬ (0 ≤ o ∧ o < M 50 10)) → Po (some (v_i (-1))) Lam M) (k2 : (0 ≤ o ∧ o < M 50 10) → what = 0 → Po (some (v_i (M 51 o.toNat))) Lam M) (k3 : (0 ≤ o ∧ o < M 50 10) → what = 1 → Po (some (v_i (M 52 o.toNat))) Lam M) (k4 : (0 ≤ o ∧ o < M 50 10) → what = 2 → Po (some (v_i (M 55 o.toNat))) Lam M) (k5 : (0 ≤ o ∧ o < M 50 10) → what = 3 → M 53 o.toNat < 0 → Po (some (v_i (-1))) Lam M) (k7 : (0 ≤ o ∧ o < M 50 10) → what = 3 → 0 ≤ M 53 o.toNat → Po (some (v_i (10 * M 53 o.toNat + M 54 o.toNat))) Lam M) (k6 : (0 ≤ o ∧ o < M 50 10) → (what < 0 ∨ 3 < what) → Po (some (v_i (-1))) Lam M) : mm_E X (d + 1) 0 0 mi_X10_about [v_r 50, v_i o, v_i what] Po Lam M := by
  show mm_G X (d + 1) 0 0 mi_X10_about Po 0 [(0, v_r 50), (1, v_i o), (2, v_i what)] [] Lam M 0 0
  have hJom2 := hJom
  obtain ⟨ho0, ho16, hO⟩ := hJom2
  have hO1 := hO o.toNat
  refine mm_aload_n (mm_dc od_X10_about_0 0 rfl) rfl ?_
  refine mm_iload_n (mm_dc od_X10_about_0 1 rfl) rfl ?_
  refine mm_callV (b := 50) (mi' := mi_X10_isOar) [v_i o] [] (mm_dc od_X10_about_0 2 rfl) rfl wd_5_51 wd_5_53 wd_p_21 wd_1_12 wd_5_54 yk_X10_isOar rfl rfl rfl (Nat.le_of_ble_eq_true rfl) rfl (by decide) (c_X10_isOar o (by first | assumption | omega | exact hr _ _ rfl | exact mm_r3264 (hr _ _ rfl)) (by first | assumption | omega | exact hr _ _ rfl | exact mm_r3264 (hr _ _ rfl)) (fun c1 => ⟨Nat.le_refl _, ?_⟩) (fun c1 => ⟨Nat.le_refl _, ?_⟩))
  · refine mm_if_ne 10 (mm_dc od_X10_about_0 3 rfl) (by omega) (by first | assumption | omega | exact hr _ _ rfl | exact mm_r3264 (hr _ _ rfl)) (fun _ => ?_) (fun h => absurd h (by decide))
    refine mm_iload_n (mm_dc od_X10_about_0 6 rfl) rfl ?_
    have sw2 : (what < 0 ∨ 3 < what) ∨ what = 0 ∨ what = 1 ∨ what = 2 ∨ what = 3 := by omega
    rcases sw2 with sw2 | sw2 | sw2 | sw2 | sw2
    · refine mm_tabOut 99 (mm_dc od_X10_about_0 7 rfl) (by first | assumption | omega | exact hr _ _ rfl | exact mm_r3264 (hr _ _ rfl)) sw2 (by omega) ?_
      refine mm_iconst (mm_dc od_X10_about_0 46 rfl) ?_
      refine mm_iret (mm_dc od_X10_about_0 47 rfl) rfl ?_
      first | exact k1 (by first | assumption | omega) | exact k6 (by first | assumption | omega) (by first | assumption | omega) | exact k2 (by first | assumption | omega) (by first | assumption | omega) | exact k3 (by first | assumption | omega) (by first | assumption | omega) | exact mm_pi (by omega) (k4 (by first | assumption | omega) (by first | assumption | omega)) | exact k5 (by first | assumption | omega) (by first | assumption | omega) (by first | assumption | omega) | exact k7 (by first | assumption | omega) (by first | assumption | omega) (by first | assumption | omega)
    · refine mm_tabIn (off := 29) 40 (mm_dc od_X10_about_0 7 rfl) (by first | assumption | omega | exact hr _ _ rfl | exact mm_r3264 (hr _ _ rfl)) (by omega) (by omega) (by rw [sw2]; rfl) (by omega) ?_
      refine mm_aload_n (mm_dc od_X10_about_0 8 rfl) rfl ?_
      refine mm_getR (ci := 10) (k := 0) (mm_dc od_X10_about_0 9 rfl) rfl in_X10 (by decide) wd_4_112 rfl rfl ?_
      refine mm_iload_n (mm_dc od_X10_about_0 10 rfl) rfl ?_
      refine mm_iald (mm_dc od_X10_about_0 11 rfl) rfl (by first | assumption | omega | exact hr _ _ rfl | exact mm_r3264 (hr _ _ rfl)) (by first | assumption | omega | exact hr _ _ rfl | exact mm_r3264 (hr _ _ rfl)) (by decide) ?_
      refine mm_iret (mm_dc od_X10_about_0 12 rfl) rfl ?_
      first | exact k1 (by first | assumption | omega) | exact k6 (by first | assumption | omega) (by first | assumption | omega) | exact k2 (by first | assumption | omega) (by first | assumption | omega) | exact k3 (by first | assumption | omega) (by first | assumption | omega) | exact mm_pi (by omega) (k4 (by first | assumption | omega) (by first | assumption | omega)) | exact k5 (by first | assumption | omega) (by first | assumption | omega) (by first | assumption | omega) | exact k7 (by first | assumption | omega) (by first | assumption | omega) (by first | assumption | omega)
    · refine mm_tabIn (off := 36) 47 (mm_dc od_X10_about_0 7 rfl) (by first | assumption | omega | exact hr _ _ rfl | exact mm_r3264 (hr _ _ rfl)) (by omega) (by omega) (by rw [sw2]; rfl) (by omega) ?_
      refine mm_aload_n (mm_dc od_X10_about_0 13 rfl) rfl ?_
      refine mm_getR (ci := 10) (k := 1) (mm_dc od_X10_about_0 14 rfl) rfl in_X10 (by decide) wd_4_113 rfl rfl ?_
      refine mm_iload_n (mm_dc od_X10_about_0 15 rfl) rfl ?_
      refine mm_iald (mm_dc od_X10_about_0 16 rfl) rfl (by first | assumption | omega | exact hr _ _ rfl | exact mm_r3264 (hr _ _ rfl)) (by first | assumption | omega | exact hr _ _ rfl | exact mm_r3264 (hr _ _ rfl)) (by decide) ?_
      refine mm_iret (mm_dc od_X10_about_0 17 rfl) rfl ?_
      first | exact k1 (by first | assumption | omega) | exact k6 (by first | assumption | omega) (by first | assumption | omega) | exact k2 (by first | assumption | omega) (by first | assumption | omega) | exact k3 (by first | assumption | omega) (by first | assumption | omega) | exact mm_pi (by omega) (k4 (by first | assumption | omega) (by first | assumption | omega)) | exact k5 (by first | assumption | omega) (by first | assumption | omega) (by first | assumption | omega) | exact k7 (by first | assumption | omega) (by first | assumption | omega) (by first | assumption | omega)
    · refine mm_tabIn (off := 43) 54 (mm_dc od_X10_about_0 7 rfl) (by first | assumption | omega | exact hr _ _ rfl | exact mm_r3264 (hr _ _ rfl)) (by omega) (by omega) (by rw [sw2]; rfl) (by omega) ?_
      refine mm_aload_n (mm_dc od_X10_about_0 18 rfl) rfl ?_
      refine mm_getR (ci := 10) (k := 4) (mm_dc od_X10_about_0 19 rfl) rfl in_X10 (by decide) wd_4_116 rfl rfl ?_
      refine mm_iload_n (mm_dc od_X10_about_0 20 rfl) rfl ?_
      refine mm_zald (mm_dc od_X10_about_0 21 rfl) rfl (by first | assumption | omega | exact hr _ _ rfl | exact mm_r3264 (hr _ _ rfl)) (by first | assumption | omega | exact hr _ _ rfl | exact mm_r3264 (hr _ _ rfl)) (by decide) ?_
      refine mm_if_eq 67 (mm_dc od_X10_about_0 22 rfl) (by omega) (by first | assumption | omega | exact hr _ _ rfl | exact mm_r3264 (hr _ _ rfl)) (fun c3 => ?_) (fun c3 => ?_)
      · refine mm_iconst (mm_dc od_X10_about_0 25 rfl) ?_
        refine mm_iret (mm_dc od_X10_about_0 26 rfl) rfl ?_
        first | exact k1 (by first | assumption | omega) | exact k6 (by first | assumption | omega) (by first | assumption | omega) | exact k2 (by first | assumption | omega) (by first | assumption | omega) | exact k3 (by first | assumption | omega) (by first | assumption | omega) | exact mm_pi (by omega) (k4 (by first | assumption | omega) (by first | assumption | omega)) | exact k5 (by first | assumption | omega) (by first | assumption | omega) (by first | assumption | omega) | exact k7 (by first | assumption | omega) (by first | assumption | omega) (by first | assumption | omega)
      · refine mm_iconst (mm_dc od_X10_about_0 23 rfl) ?_
        refine mm_goto 68 (mm_dc od_X10_about_0 24 rfl) (by omega) ?_
        refine mm_iret (mm_dc od_X10_about_0 26 rfl) rfl ?_
        first | exact k1 (by first | assumption | omega) | exact k6 (by first | assumption | omega) (by first | assumption | omega) | exact k2 (by first | assumption | omega) (by first | assumption | omega) | exact k3 (by first | assumption | omega) (by first | assumption | omega) | exact mm_pi (by omega) (k4 (by first | assumption | omega) (by first | assumption | omega)) | exact k5 (by first | assumption | omega) (by first | assumption | omega) (by first | assumption | omega) | exact k7 (by first | assumption | omega) (by first | assumption | omega) (by first | assumption | omega)
    · refine mm_tabIn (off := 58) 69 (mm_dc od_X10_about_0 7 rfl) (by first | assumption | omega | exact hr _ _ rfl | exact mm_r3264 (hr _ _ rfl)) (by omega) (by omega) (by rw [sw2]; rfl) (by omega) ?_
      refine mm_aload_n (mm_dc od_X10_about_0 27 rfl) rfl ?_
      refine mm_getR (ci := 10) (k := 2) (mm_dc od_X10_about_0 28 rfl) rfl in_X10 (by decide) wd_4_114 rfl rfl ?_
      refine mm_iload_n (mm_dc od_X10_about_0 29 rfl) rfl ?_
      refine mm_iald (mm_dc od_X10_about_0 30 rfl) rfl (by first | assumption | omega | exact hr _ _ rfl | exact mm_r3264 (hr _ _ rfl)) (by first | assumption | omega | exact hr _ _ rfl | exact mm_r3264 (hr _ _ rfl)) (by decide) ?_
      refine mm_if_ge 82 (mm_dc od_X10_about_0 31 rfl) (by omega) (by first | assumption | omega | exact hr _ _ rfl | exact mm_r3264 (hr _ _ rfl)) (fun c4 => ?_) (fun c4 => ?_)
      · refine mm_bipush (mm_dc od_X10_about_0 34 rfl) (by decide) ?_
        refine mm_aload_n (mm_dc od_X10_about_0 35 rfl) rfl ?_
        refine mm_getR (ci := 10) (k := 2) (mm_dc od_X10_about_0 36 rfl) rfl in_X10 (by decide) wd_4_114 rfl rfl ?_
        refine mm_iload_n (mm_dc od_X10_about_0 37 rfl) rfl ?_
        refine mm_iald (mm_dc od_X10_about_0 38 rfl) rfl (by first | assumption | omega | exact hr _ _ rfl | exact mm_r3264 (hr _ _ rfl)) (by first | assumption | omega | exact hr _ _ rfl | exact mm_r3264 (hr _ _ rfl)) (by decide) ?_
        refine mm_imul (mm_dc od_X10_about_0 39 rfl) ?_
        refine mm_aload_n (mm_dc od_X10_about_0 40 rfl) rfl ?_
        refine mm_getR (ci := 10) (k := 3) (mm_dc od_X10_about_0 41 rfl) rfl in_X10 (by decide) wd_4_115 rfl rfl ?_
        refine mm_iload_n (mm_dc od_X10_about_0 42 rfl) rfl ?_
        refine mm_iald (mm_dc od_X10_about_0 43 rfl) rfl (by first | assumption | omega | exact hr _ _ rfl | exact mm_r3264 (hr _ _ rfl)) (by first | assumption | omega | exact hr _ _ rfl | exact mm_r3264 (hr _ _ rfl)) (by decide) ?_
        refine mm_iadd (mm_dc od_X10_about_0 44 rfl) ?_
        refine mm_iret (mm_dc od_X10_about_0 45 rfl) rfl ?_
        first | exact k1 (by first | assumption | omega) | exact k6 (by first | assumption | omega) (by first | assumption | omega) | exact k2 (by first | assumption | omega) (by first | assumption | omega) | exact k3 (by first | assumption | omega) (by first | assumption | omega) | exact mm_pi (by omega) (k4 (by first | assumption | omega) (by first | assumption | omega)) | exact k5 (by first | assumption | omega) (by first | assumption | omega) (by first | assumption | omega) | exact k7 (by first | assumption | omega) (by first | assumption | omega) (by first | assumption | omega)
      · refine mm_iconst (mm_dc od_X10_about_0 32 rfl) ?_
        refine mm_goto 98 (mm_dc od_X10_about_0 33 rfl) (by omega) ?_
        refine mm_iret (mm_dc od_X10_about_0 45 rfl) rfl ?_
        first | exact k1 (by first | assumption | omega) | exact k6 (by first | assumption | omega) (by first | assumption | omega) | exact k2 (by first | assumption | omega) (by first | assumption | omega) | exact k3 (by first | assumption | omega) (by first | assumption | omega) | exact mm_pi (by omega) (k4 (by first | assumption | omega) (by first | assumption | omega)) | exact k5 (by first | assumption | omega) (by first | assumption | omega) (by first | assumption | omega) | exact k7 (by first | assumption | omega) (by first | assumption | omega) (by first | assumption | omega)
  · refine mm_if_ne 10 (mm_dc od_X10_about_0 3 rfl) (by omega) (by first | assumption | omega | exact hr _ _ rfl | exact mm_r3264 (hr _ _ rfl)) (fun h => absurd h (by decide)) (fun _ => ?_)
    refine mm_iconst (mm_dc od_X10_about_0 4 rfl) ?_
    refine mm_iret (mm_dc od_X10_about_0 5 rfl) rfl ?_
    first | exact k1 (by first | assumption | omega) | exact k6 (by first | assumption | omega) (by first | assumption | omega) | exact k2 (by first | assumption | omega) (by first | assumption | omega) | exact k3 (by first | assumption | omega) (by first | assumption | omega) | exact mm_pi (by omega) (k4 (by first | assumption | omega) (by first | assumption | omega)) | exact k5 (by first | assumption | omega) (by first | assumption | omega) (by first | assumption | omega) | exact k7 (by first | assumption | omega) (by first | assumption | omega) (by first | assumption | omega)
theorem c_X10_race {X : Nat × (Nat → Int)} {d : Nat} {Po : mm_Po} {M : mm_M} (x : Int) (y : Int) (by_ : Int) (hx : mm_r32 x) (hy : mm_r32 y) (hby_ : mm_r32 by_) (h0 : 0 ≤ M 50 16 ∧ M 50 16 ≤ 40) (hr : R32 M) (k1 : (¬ ((0 ≤ x ∧ x < M 50 10) ∧ (0 ≤ y ∧ y < M 50 10))) → Po (some (v_i (-1))) Lam M) (k2 : ((0 ≤ x ∧ x < M 50 10) ∧ (0 ≤ y ∧ y < M 50 10)) → (x = y ∨ ¬ (-999 ≤ by_ ∧ by_ ≤ 999)) → Po (some (v_i (-2))) Lam M) (k3 : ((0 ≤ x ∧ x < M 50 10) ∧ (0 ≤ y ∧ y < M 50 10)) → (x ≠ y ∧ (-999 ≤ by_ ∧ by_ ≤ 999)) → 40 ≤ M 50 16 → Po (some (v_i (-4))) Lam M) (k4 : ((0 ≤ x ∧ x < M 50 10) ∧ (0 ≤ y ∧ y < M 50 10)) → (x ≠ y ∧ (-999 ≤ by_ ∧ by_ ≤ 999)) → M 50 16 < 40 → Po (some (v_i (M 50 16 + 1))) Lam (mm_up (mm_up (mm_up (mm_up (M) 61 (M 50 16).toNat x) 62 (M 50 16).toNat y) 63 (M 50 16).toNat by_) 50 16 (M 50 16 + 1))) : mm_E X (d + 1) 0 0 mi_X10_race [v_r 50, v_i x, v_i y, v_i by_] Po Lam M := by
  show mm_G X (d + 1) 0 0 mi_X10_race Po 0 [(0, v_r 50), (1, v_i x), (2, v_i y), (3, v_i by_)] [] Lam M 0 0
  refine mm_aload_n (mm_dc od_X10_race_0 0 rfl) rfl ?_
  refine mm_iload_n (mm_dc od_X10_race_0 1 rfl) rfl ?_
  refine mm_callV (b := 50) (mi' := mi_X10_isOar) [v_i x] [] (mm_dc od_X10_race_0 2 rfl) rfl wd_5_51 wd_5_53 wd_p_21 wd_1_12 wd_5_54 yk_X10_isOar rfl rfl rfl (Nat.le_of_ble_eq_true rfl) rfl (by decide) (c_X10_isOar x (by first | assumption | omega | exact hr _ _ rfl | exact mm_r3264 (hr _ _ rfl)) (by first | assumption | omega | exact hr _ _ rfl | exact mm_r3264 (hr _ _ rfl)) (fun c1 => ⟨Nat.le_refl _, ?_⟩) (fun c1 => ⟨Nat.le_refl _, ?_⟩))
  · refine mm_if_eq 16 (mm_dc od_X10_race_0 3 rfl) (by omega) (by first | assumption | omega | exact hr _ _ rfl | exact mm_r3264 (hr _ _ rfl)) (fun h => absurd h (by decide)) (fun _ => ?_)
    refine mm_aload_n (mm_dc od_X10_race_0 4 rfl) rfl ?_
    refine mm_iload_n (mm_dc od_X10_race_0 5 rfl) rfl ?_
    refine mm_callV (b := 50) (mi' := mi_X10_isOar) [v_i y] [] (mm_dc od_X10_race_0 6 rfl) rfl wd_5_51 wd_5_53 wd_p_21 wd_1_12 wd_5_54 yk_X10_isOar rfl rfl rfl (Nat.le_of_ble_eq_true rfl) rfl (by decide) (c_X10_isOar y (by first | assumption | omega | exact hr _ _ rfl | exact mm_r3264 (hr _ _ rfl)) (by first | assumption | omega | exact hr _ _ rfl | exact mm_r3264 (hr _ _ rfl)) (fun c2 => ⟨Nat.le_refl _, ?_⟩) (fun c2 => ⟨Nat.le_refl _, ?_⟩))
    · refine mm_if_ne 18 (mm_dc od_X10_race_0 7 rfl) (by omega) (by first | assumption | omega | exact hr _ _ rfl | exact mm_r3264 (hr _ _ rfl)) (fun _ => ?_) (fun h => absurd h (by decide))
      refine mm_iload_n (mm_dc od_X10_race_0 10 rfl) rfl ?_
      refine mm_iload_n (mm_dc od_X10_race_0 11 rfl) rfl ?_
      refine mm_icmp_eq 37 (mm_dc od_X10_race_0 12 rfl) (by omega) (by first | assumption | omega | exact hr _ _ rfl | exact mm_r3264 (hr _ _ rfl)) (by first | assumption | omega | exact hr _ _ rfl | exact mm_r3264 (hr _ _ rfl)) (fun c3 => ?_) (fun c3 => ?_)
      · refine mm_bipush (mm_dc od_X10_race_0 19 rfl) (by decide) ?_
        refine mm_iret (mm_dc od_X10_race_0 20 rfl) rfl ?_
        first | exact k2 (by first | assumption | omega) (by first | assumption | omega) | (exfalso; omega)
      · refine mm_iload_n (mm_dc od_X10_race_0 13 rfl) rfl ?_
        refine mm_i2l (mm_dc od_X10_race_0 14 rfl) (by first | assumption | omega | exact hr _ _ rfl | exact mm_r3264 (hr _ _ rfl)) ?_
        refine mm_ldcn (z := (-999)) (mm_dc od_X10_race_0 15 rfl) wd_5_91 (by decide) ?_
        refine mm_ldc2 (z := 999) (mm_dc od_X10_race_0 16 rfl) wd_5_92 ?_
        refine mm_callS (mi' := mi_X10_isIn) [v_l by_, v_l (-999), v_l 999] [] (mm_dc od_X10_race_0 17 rfl) rfl wd_5_37 wd_5_38 wd_1_12 wd_5_39 yk_X10_isIn (Nat.le_of_ble_eq_true rfl) rfl (by decide) (c_X10_isIn by_ (-999) 999 (by first | assumption | omega | exact hr _ _ rfl | exact mm_r3264 (hr _ _ rfl)) (by first | assumption | omega | exact hr _ _ rfl | exact mm_r3264 (hr _ _ rfl)) (by first | assumption | omega | exact hr _ _ rfl | exact mm_r3264 (hr _ _ rfl)) (fun c4 => ⟨Nat.le_refl _, ?_⟩) (fun c4 => ⟨Nat.le_refl _, ?_⟩))
        · refine mm_if_ne 40 (mm_dc od_X10_race_0 18 rfl) (by omega) (by first | assumption | omega | exact hr _ _ rfl | exact mm_r3264 (hr _ _ rfl)) (fun _ => ?_) (fun h => absurd h (by decide))
          refine mm_aload_n (mm_dc od_X10_race_0 21 rfl) rfl ?_
          refine mm_getI (ci := 10) (k := 16) (mm_dc od_X10_race_0 22 rfl) rfl in_X10 (by decide) wd_4_128 rfl rfl ?_
          refine mm_bipush (mm_dc od_X10_race_0 23 rfl) (by decide) ?_
          refine mm_icmp_ne 52 (mm_dc od_X10_race_0 24 rfl) (by omega) (by first | assumption | omega | exact hr _ _ rfl | exact mm_r3264 (hr _ _ rfl)) (by first | assumption | omega | exact hr _ _ rfl | exact mm_r3264 (hr _ _ rfl)) (fun c5 => ?_) (fun c5 => ?_)
          · refine mm_aload_n (mm_dc od_X10_race_0 27 rfl) rfl ?_
            refine mm_getR (ci := 10) (k := 12) (mm_dc od_X10_race_0 28 rfl) rfl in_X10 (by decide) wd_4_124 rfl rfl ?_
            refine mm_aload_n (mm_dc od_X10_race_0 29 rfl) rfl ?_
            refine mm_getI (ci := 10) (k := 16) (mm_dc od_X10_race_0 30 rfl) rfl in_X10 (by decide) wd_4_128 rfl rfl ?_
            refine mm_iload_n (mm_dc od_X10_race_0 31 rfl) rfl ?_
            refine mm_iast (mm_dc od_X10_race_0 32 rfl) rfl (by first | assumption | omega | exact hr _ _ rfl | exact mm_r3264 (hr _ _ rfl)) (by first | assumption | omega | exact hr _ _ rfl | exact mm_r3264 (hr _ _ rfl)) (by decide) ?_
            refine mm_aload_n (mm_dc od_X10_race_0 33 rfl) rfl ?_
            refine mm_getR (ci := 10) (k := 13) (mm_dc od_X10_race_0 34 rfl) rfl in_X10 (by decide) wd_4_125 rfl rfl ?_
            refine mm_aload_n (mm_dc od_X10_race_0 35 rfl) rfl ?_
            refine mm_getI (ci := 10) (k := 16) (mm_dc od_X10_race_0 36 rfl) rfl in_X10 (by decide) wd_4_128 rfl rfl ?_
            refine mm_cst (st' := [v_i (M 50 16), v_r 62]) rfl ?_
            refine mm_iload_n (mm_dc od_X10_race_0 37 rfl) rfl ?_
            refine mm_iast (mm_dc od_X10_race_0 38 rfl) rfl (by first | assumption | omega | exact hr _ _ rfl | exact mm_r3264 (hr _ _ rfl)) (by first | assumption | omega | exact hr _ _ rfl | exact mm_r3264 (hr _ _ rfl)) (by decide) ?_
            refine mm_aload_n (mm_dc od_X10_race_0 39 rfl) rfl ?_
            refine mm_getR (ci := 10) (k := 14) (mm_dc od_X10_race_0 40 rfl) rfl in_X10 (by decide) wd_4_126 rfl rfl ?_
            refine mm_aload_n (mm_dc od_X10_race_0 41 rfl) rfl ?_
            refine mm_getI (ci := 10) (k := 16) (mm_dc od_X10_race_0 42 rfl) rfl in_X10 (by decide) wd_4_128 rfl rfl ?_
            refine mm_cst (st' := [v_i (M 50 16), v_r 63]) rfl ?_
            refine mm_iload_n (mm_dc od_X10_race_0 43 rfl) rfl ?_
            refine mm_iast (mm_dc od_X10_race_0 44 rfl) rfl (by first | assumption | omega | exact hr _ _ rfl | exact mm_r3264 (hr _ _ rfl)) (by first | assumption | omega | exact hr _ _ rfl | exact mm_r3264 (hr _ _ rfl)) (by decide) ?_
            refine mm_aload_n (mm_dc od_X10_race_0 45 rfl) rfl ?_
            refine mm_dup_r (mm_dc od_X10_race_0 46 rfl) ?_
            refine mm_getI (ci := 10) (k := 16) (mm_dc od_X10_race_0 47 rfl) rfl in_X10 (by decide) wd_4_128 rfl rfl ?_
            refine mm_cst (st' := [v_i (M 50 16), v_r 50]) rfl ?_
            refine mm_iconst (mm_dc od_X10_race_0 48 rfl) ?_
            refine mm_iadd (mm_dc od_X10_race_0 49 rfl) ?_
            refine mm_putI (ci := 10) (k := 16) (mm_dc od_X10_race_0 50 rfl) rfl in_X10 tyX10_ok nmX10 (by decide) wd_4_128 rfl rfl rfl rfl ?_
            refine mm_aload_n (mm_dc od_X10_race_0 51 rfl) rfl ?_
            refine mm_getI (ci := 10) (k := 16) (mm_dc od_X10_race_0 52 rfl) rfl in_X10 (by decide) wd_4_128 rfl rfl ?_
            refine mm_cst (st' := [v_i ((M 50 16) + 1)]) rfl ?_
            refine mm_iret (mm_dc od_X10_race_0 53 rfl) rfl ?_
            first | exact k4 (by first | assumption | omega) (by first | assumption | omega) (by first | assumption | omega) | exact mm_pm (by omega) rfl (k4 (by first | assumption | omega) (by first | assumption | omega) (by first | assumption | omega)) | (exfalso; omega)
          · refine mm_bipush (mm_dc od_X10_race_0 25 rfl) (by decide) ?_
            refine mm_iret (mm_dc od_X10_race_0 26 rfl) rfl ?_
            first | exact k3 (by first | assumption | omega) (by first | assumption | omega) (by first | assumption | omega) | (exfalso; omega)
        · refine mm_if_ne 40 (mm_dc od_X10_race_0 18 rfl) (by omega) (by first | assumption | omega | exact hr _ _ rfl | exact mm_r3264 (hr _ _ rfl)) (fun h => absurd h (by decide)) (fun _ => ?_)
          refine mm_bipush (mm_dc od_X10_race_0 19 rfl) (by decide) ?_
          refine mm_iret (mm_dc od_X10_race_0 20 rfl) rfl ?_
          first | exact k2 (by first | assumption | omega) (by first | assumption | omega) | (exfalso; omega)
    · refine mm_if_ne 18 (mm_dc od_X10_race_0 7 rfl) (by omega) (by first | assumption | omega | exact hr _ _ rfl | exact mm_r3264 (hr _ _ rfl)) (fun h => absurd h (by decide)) (fun _ => ?_)
      refine mm_iconst (mm_dc od_X10_race_0 8 rfl) ?_
      refine mm_iret (mm_dc od_X10_race_0 9 rfl) rfl ?_
      first | exact k1 (by first | assumption | omega) | (exfalso; omega)
  · refine mm_if_eq 16 (mm_dc od_X10_race_0 3 rfl) (by omega) (by first | assumption | omega | exact hr _ _ rfl | exact mm_r3264 (hr _ _ rfl)) (fun _ => ?_) (fun h => absurd h (by decide))
    refine mm_iconst (mm_dc od_X10_race_0 8 rfl) ?_
    refine mm_iret (mm_dc od_X10_race_0 9 rfl) rfl ?_
    first | exact k1 (by first | assumption | omega) | (exfalso; omega)
theorem c_X10_unrace {X : Nat × (Nat → Int)} {d : Nat} {Po : mm_Po} {M : mm_M}  (h0 : 0 ≤ M 50 16) (hr : R32 M) (k1 : M 50 16 = 0 → Po (some (v_i (-3))) Lam M) (k2 : M 50 16 ≠ 0 → Po (some (v_i (M 50 16 - 1))) Lam (mm_up M 50 16 (M 50 16 - 1))) : mm_E X d 0 0 mi_X10_unrace [v_r 50] Po Lam M := by
  show mm_G X d 0 0 mi_X10_unrace Po 0 [(0, v_r 50)] [] Lam M 0 0
  refine mm_aload_n (mm_dc od_X10_unrace_0 0 rfl) rfl ?_
  refine mm_getI (ci := 10) (k := 16) (mm_dc od_X10_unrace_0 1 rfl) rfl in_X10 (by decide) wd_4_128 rfl rfl ?_
  refine mm_if_ne 10 (mm_dc od_X10_unrace_0 2 rfl) (by omega) (by first | assumption | omega | exact hr _ _ rfl | exact mm_r3264 (hr _ _ rfl)) (fun c1 => ?_) (fun c1 => ?_)
  · refine mm_aload_n (mm_dc od_X10_unrace_0 5 rfl) rfl ?_
    refine mm_dup_r (mm_dc od_X10_unrace_0 6 rfl) ?_
    refine mm_getI (ci := 10) (k := 16) (mm_dc od_X10_unrace_0 7 rfl) rfl in_X10 (by decide) wd_4_128 rfl rfl ?_
    refine mm_iconst (mm_dc od_X10_unrace_0 8 rfl) ?_
    refine mm_isub (mm_dc od_X10_unrace_0 9 rfl) ?_
    refine mm_putI (ci := 10) (k := 16) (mm_dc od_X10_unrace_0 10 rfl) rfl in_X10 tyX10_ok nmX10 (by decide) wd_4_128 rfl rfl rfl rfl ?_
    refine mm_aload_n (mm_dc od_X10_unrace_0 11 rfl) rfl ?_
    refine mm_getI (ci := 10) (k := 16) (mm_dc od_X10_unrace_0 12 rfl) rfl in_X10 (by decide) wd_4_128 rfl rfl ?_
    refine mm_cst (st' := [v_i ((M 50 16) - 1)]) rfl ?_
    refine mm_iret (mm_dc od_X10_unrace_0 13 rfl) rfl ?_
    first | exact k2 (by first | assumption | omega) | exact mm_pm (by omega) rfl (k2 (by first | assumption | omega)) | (exfalso; omega)
  · refine mm_bipush (mm_dc od_X10_unrace_0 3 rfl) (by decide) ?_
    refine mm_iret (mm_dc od_X10_unrace_0 4 rfl) rfl ?_
    first | exact k1 (by first | assumption | omega) | (exfalso; omega)
theorem c_X10_water {X : Nat × (Nat → Int)} {d : Nat} {Po : mm_Po} {M : mm_M} (dd : Int) (stream : Int) (wind : Int) (hdd : mm_r32 dd) (hstream : mm_r32 stream) (hwind : mm_r32 wind) (hr : R32 M) (k1 : (¬ (0 ≤ dd ∧ dd ≤ 29)) → Po (some (v_i (-1))) Lam M) (k2 : (0 ≤ dd ∧ dd ≤ 29) → (¬ ((0 ≤ stream ∧ stream ≤ 200) ∧ (0 ≤ wind ∧ wind ≤ 12))) → Po (some (v_i (-2))) Lam M) (k3 : (0 ≤ dd ∧ dd ≤ 29) → ((0 ≤ stream ∧ stream ≤ 200) ∧ (0 ≤ wind ∧ wind ≤ 12)) → Po (some (v_i 0)) Lam (mm_up (mm_up M 72 dd.toNat stream) 73 dd.toNat wind)) : mm_E X (d + 1) 0 0 mi_X10_water [v_r 50, v_i dd, v_i stream, v_i wind] Po Lam M := by
  show mm_G X (d + 1) 0 0 mi_X10_water Po 0 [(0, v_r 50), (1, v_i dd), (2, v_i stream), (3, v_i wind)] [] Lam M 0 0
  refine mm_iload_n (mm_dc od_X10_water_0 0 rfl) rfl ?_
  refine mm_i2l (mm_dc od_X10_water_0 1 rfl) (by first | assumption | omega | exact hr _ _ rfl | exact mm_r3264 (hr _ _ rfl)) ?_
  refine mm_lconst (mm_dc od_X10_water_0 2 rfl) ?_
  refine mm_ldc2 (z := 29) (mm_dc od_X10_water_0 3 rfl) wd_5_173 ?_
  refine mm_callS (mi' := mi_X10_isIn) [v_l dd, v_l 0, v_l 29] [] (mm_dc od_X10_water_0 4 rfl) rfl wd_5_37 wd_5_38 wd_1_12 wd_5_39 yk_X10_isIn (Nat.le_of_ble_eq_true rfl) rfl (by decide) (c_X10_isIn dd 0 29 (by first | assumption | omega | exact hr _ _ rfl | exact mm_r3264 (hr _ _ rfl)) (by first | assumption | omega | exact hr _ _ rfl | exact mm_r3264 (hr _ _ rfl)) (by first | assumption | omega | exact hr _ _ rfl | exact mm_r3264 (hr _ _ rfl)) (fun c1 => ⟨Nat.le_refl _, ?_⟩) (fun c1 => ⟨Nat.le_refl _, ?_⟩))
  · refine mm_if_ne 14 (mm_dc od_X10_water_0 5 rfl) (by omega) (by first | assumption | omega | exact hr _ _ rfl | exact mm_r3264 (hr _ _ rfl)) (fun _ => ?_) (fun h => absurd h (by decide))
    refine mm_iload_n (mm_dc od_X10_water_0 8 rfl) rfl ?_
    refine mm_i2l (mm_dc od_X10_water_0 9 rfl) (by first | assumption | omega | exact hr _ _ rfl | exact mm_r3264 (hr _ _ rfl)) ?_
    refine mm_lconst (mm_dc od_X10_water_0 10 rfl) ?_
    refine mm_ldc2 (z := 200) (mm_dc od_X10_water_0 11 rfl) wd_5_174 ?_
    refine mm_callS (mi' := mi_X10_isIn) [v_l stream, v_l 0, v_l 200] [] (mm_dc od_X10_water_0 12 rfl) rfl wd_5_37 wd_5_38 wd_1_12 wd_5_39 yk_X10_isIn (Nat.le_of_ble_eq_true rfl) rfl (by decide) (c_X10_isIn stream 0 200 (by first | assumption | omega | exact hr _ _ rfl | exact mm_r3264 (hr _ _ rfl)) (by first | assumption | omega | exact hr _ _ rfl | exact mm_r3264 (hr _ _ rfl)) (by first | assumption | omega | exact hr _ _ rfl | exact mm_r3264 (hr _ _ rfl)) (fun c2 => ⟨Nat.le_refl _, ?_⟩) (fun c2 => ⟨Nat.le_refl _, ?_⟩))
    · refine mm_if_eq 38 (mm_dc od_X10_water_0 13 rfl) (by omega) (by first | assumption | omega | exact hr _ _ rfl | exact mm_r3264 (hr _ _ rfl)) (fun h => absurd h (by decide)) (fun _ => ?_)
      refine mm_iload_n (mm_dc od_X10_water_0 14 rfl) rfl ?_
      refine mm_i2l (mm_dc od_X10_water_0 15 rfl) (by first | assumption | omega | exact hr _ _ rfl | exact mm_r3264 (hr _ _ rfl)) ?_
      refine mm_lconst (mm_dc od_X10_water_0 16 rfl) ?_
      refine mm_ldc2 (z := 12) (mm_dc od_X10_water_0 17 rfl) wd_5_175 ?_
      refine mm_callS (mi' := mi_X10_isIn) [v_l wind, v_l 0, v_l 12] [] (mm_dc od_X10_water_0 18 rfl) rfl wd_5_37 wd_5_38 wd_1_12 wd_5_39 yk_X10_isIn (Nat.le_of_ble_eq_true rfl) rfl (by decide) (c_X10_isIn wind 0 12 (by first | assumption | omega | exact hr _ _ rfl | exact mm_r3264 (hr _ _ rfl)) (by first | assumption | omega | exact hr _ _ rfl | exact mm_r3264 (hr _ _ rfl)) (by first | assumption | omega | exact hr _ _ rfl | exact mm_r3264 (hr _ _ rfl)) (fun c3 => ⟨Nat.le_refl _, ?_⟩) (fun c3 => ⟨Nat.le_refl _, ?_⟩))
      · refine mm_if_ne 41 (mm_dc od_X10_water_0 19 rfl) (by omega) (by first | assumption | omega | exact hr _ _ rfl | exact mm_r3264 (hr _ _ rfl)) (fun _ => ?_) (fun h => absurd h (by decide))
        refine mm_aload_n (mm_dc od_X10_water_0 22 rfl) rfl ?_
        refine mm_getR (ci := 10) (k := 26) (mm_dc od_X10_water_0 23 rfl) rfl in_X10 (by decide) wd_4_138 rfl rfl ?_
        refine mm_iload_n (mm_dc od_X10_water_0 24 rfl) rfl ?_
        refine mm_iload_n (mm_dc od_X10_water_0 25 rfl) rfl ?_
        refine mm_iast (mm_dc od_X10_water_0 26 rfl) rfl (by first | assumption | omega | exact hr _ _ rfl | exact mm_r3264 (hr _ _ rfl)) (by first | assumption | omega | exact hr _ _ rfl | exact mm_r3264 (hr _ _ rfl)) (by decide) ?_
        refine mm_aload_n (mm_dc od_X10_water_0 27 rfl) rfl ?_
        refine mm_getR (ci := 10) (k := 27) (mm_dc od_X10_water_0 28 rfl) rfl in_X10 (by decide) wd_4_139 rfl rfl ?_
        refine mm_iload_n (mm_dc od_X10_water_0 29 rfl) rfl ?_
        refine mm_iload_n (mm_dc od_X10_water_0 30 rfl) rfl ?_
        refine mm_iast (mm_dc od_X10_water_0 31 rfl) rfl (by first | assumption | omega | exact hr _ _ rfl | exact mm_r3264 (hr _ _ rfl)) (by first | assumption | omega | exact hr _ _ rfl | exact mm_r3264 (hr _ _ rfl)) (by decide) ?_
        refine mm_iconst (mm_dc od_X10_water_0 32 rfl) ?_
        refine mm_iret (mm_dc od_X10_water_0 33 rfl) rfl ?_
        first | exact k3 (by first | assumption | omega) (by first | assumption | omega) | (exfalso; omega)
      · refine mm_if_ne 41 (mm_dc od_X10_water_0 19 rfl) (by omega) (by first | assumption | omega | exact hr _ _ rfl | exact mm_r3264 (hr _ _ rfl)) (fun h => absurd h (by decide)) (fun _ => ?_)
        refine mm_bipush (mm_dc od_X10_water_0 20 rfl) (by decide) ?_
        refine mm_iret (mm_dc od_X10_water_0 21 rfl) rfl ?_
        first | exact k2 (by first | assumption | omega) (by first | assumption | omega) | (exfalso; omega)
    · refine mm_if_eq 38 (mm_dc od_X10_water_0 13 rfl) (by omega) (by first | assumption | omega | exact hr _ _ rfl | exact mm_r3264 (hr _ _ rfl)) (fun _ => ?_) (fun h => absurd h (by decide))
      refine mm_bipush (mm_dc od_X10_water_0 20 rfl) (by decide) ?_
      refine mm_iret (mm_dc od_X10_water_0 21 rfl) rfl ?_
      first | exact k2 (by first | assumption | omega) (by first | assumption | omega) | (exfalso; omega)
  · refine mm_if_ne 14 (mm_dc od_X10_water_0 5 rfl) (by omega) (by first | assumption | omega | exact hr _ _ rfl | exact mm_r3264 (hr _ _ rfl)) (fun h => absurd h (by decide)) (fun _ => ?_)
    refine mm_iconst (mm_dc od_X10_water_0 6 rfl) ?_
    refine mm_iret (mm_dc od_X10_water_0 7 rfl) rfl ?_
    first | exact k1 (by first | assumption | omega) | (exfalso; omega)
theorem c_X10_day {X : Nat × (Nat → Int)} {d : Nat} {Po : mm_Po} {M : mm_M} (dd : Int) (hdd : mm_r32 dd) (hr : R32 M) (k1 : (¬ (M 50 31 ≤ dd ∧ dd ≤ 999)) → Po (some (v_i (-2))) Lam M) (k2 : (M 50 31 ≤ dd ∧ dd ≤ 999) → Po (some (v_i (M 50 31))) Lam (mm_up M 50 31 dd)) : mm_E X (d + 1) 0 0 mi_X10_day [v_r 50, v_i dd] Po Lam M := by
  show mm_G X (d + 1) 0 0 mi_X10_day Po 0 [(0, v_r 50), (1, v_i dd)] [] Lam M 0 0
  refine mm_iload_n (mm_dc od_X10_day_0 0 rfl) rfl ?_
  refine mm_i2l (mm_dc od_X10_day_0 1 rfl) (by first | assumption | omega | exact hr _ _ rfl | exact mm_r3264 (hr _ _ rfl)) ?_
  refine mm_aload_n (mm_dc od_X10_day_0 2 rfl) rfl ?_
  refine mm_getI (ci := 10) (k := 31) (mm_dc od_X10_day_0 3 rfl) rfl in_X10 (by decide) wd_4_143 rfl rfl ?_
  refine mm_i2l (mm_dc od_X10_day_0 4 rfl) (by first | assumption | omega | exact hr _ _ rfl | exact mm_r3264 (hr _ _ rfl)) ?_
  refine mm_ldc2 (z := 999) (mm_dc od_X10_day_0 5 rfl) wd_5_92 ?_
  refine mm_callS (mi' := mi_X10_isIn) [v_l dd, v_l (M 50 31), v_l 999] [] (mm_dc od_X10_day_0 6 rfl) rfl wd_5_37 wd_5_38 wd_1_12 wd_5_39 yk_X10_isIn (Nat.le_of_ble_eq_true rfl) rfl (by decide) (c_X10_isIn dd (M 50 31) 999 (by first | assumption | omega | exact hr _ _ rfl | exact mm_r3264 (hr _ _ rfl)) (by first | assumption | omega | exact hr _ _ rfl | exact mm_r3264 (hr _ _ rfl)) (by first | assumption | omega | exact hr _ _ rfl | exact mm_r3264 (hr _ _ rfl)) (fun c1 => ⟨Nat.le_refl _, ?_⟩) (fun c1 => ⟨Nat.le_refl _, ?_⟩))
  · refine mm_if_ne 19 (mm_dc od_X10_day_0 7 rfl) (by omega) (by first | assumption | omega | exact hr _ _ rfl | exact mm_r3264 (hr _ _ rfl)) (fun _ => ?_) (fun h => absurd h (by decide))
    refine mm_aload_n (mm_dc od_X10_day_0 10 rfl) rfl ?_
    refine mm_getI (ci := 10) (k := 31) (mm_dc od_X10_day_0 11 rfl) rfl in_X10 (by decide) wd_4_143 rfl rfl ?_
    refine mm_istore_n (L' := [(0, v_r 50), (1, v_i dd), (2, v_i (M 50 31))]) (mm_dc od_X10_day_0 12 rfl) (by decide) rfl ?_
    refine mm_aload_n (mm_dc od_X10_day_0 13 rfl) rfl ?_
    refine mm_iload_n (mm_dc od_X10_day_0 14 rfl) rfl ?_
    refine mm_putI (ci := 10) (k := 31) (mm_dc od_X10_day_0 15 rfl) rfl in_X10 tyX10_ok nmX10 (by decide) wd_4_143 rfl rfl rfl rfl ?_
    refine mm_iload_n (mm_dc od_X10_day_0 16 rfl) rfl ?_
    refine mm_iret (mm_dc od_X10_day_0 17 rfl) rfl ?_
    first | exact k2 (by first | assumption | omega) | exact mm_pm (by omega) rfl (k2 (by first | assumption | omega)) | (exfalso; omega)
  · refine mm_if_ne 19 (mm_dc od_X10_day_0 7 rfl) (by omega) (by first | assumption | omega | exact hr _ _ rfl | exact mm_r3264 (hr _ _ rfl)) (fun h => absurd h (by decide)) (fun _ => ?_)
    refine mm_bipush (mm_dc od_X10_day_0 8 rfl) (by decide) ?_
    refine mm_iret (mm_dc od_X10_day_0 9 rfl) rfl ?_
    first | exact k1 (by first | assumption | omega) | (exfalso; omega)
theorem c_X10_near {X : Nat × (Nat → Int)} {d : Nat} {Po : mm_Po} {M : mm_M} (minutes : Int) (hminutes : mm_r32 minutes) (hr : R32 M) (k1 : (¬ (0 ≤ minutes ∧ minutes ≤ 999)) → Po (some (v_i (-2))) Lam M) (k2 : (0 ≤ minutes ∧ minutes ≤ 999) → Po (some (v_i (M 50 49))) Lam (mm_up M 50 49 minutes)) : mm_E X (d + 1) 0 0 mi_X10_near [v_r 50, v_i minutes] Po Lam M := by
  show mm_G X (d + 1) 0 0 mi_X10_near Po 0 [(0, v_r 50), (1, v_i minutes)] [] Lam M 0 0
  refine mm_iload_n (mm_dc od_X10_near_0 0 rfl) rfl ?_
  refine mm_i2l (mm_dc od_X10_near_0 1 rfl) (by first | assumption | omega | exact hr _ _ rfl | exact mm_r3264 (hr _ _ rfl)) ?_
  refine mm_lconst (mm_dc od_X10_near_0 2 rfl) ?_
  refine mm_ldc2 (z := 999) (mm_dc od_X10_near_0 3 rfl) wd_5_92 ?_
  refine mm_callS (mi' := mi_X10_isIn) [v_l minutes, v_l 0, v_l 999] [] (mm_dc od_X10_near_0 4 rfl) rfl wd_5_37 wd_5_38 wd_1_12 wd_5_39 yk_X10_isIn (Nat.le_of_ble_eq_true rfl) rfl (by decide) (c_X10_isIn minutes 0 999 (by first | assumption | omega | exact hr _ _ rfl | exact mm_r3264 (hr _ _ rfl)) (by first | assumption | omega | exact hr _ _ rfl | exact mm_r3264 (hr _ _ rfl)) (by first | assumption | omega | exact hr _ _ rfl | exact mm_r3264 (hr _ _ rfl)) (fun c1 => ⟨Nat.le_refl _, ?_⟩) (fun c1 => ⟨Nat.le_refl _, ?_⟩))
  · refine mm_if_ne 15 (mm_dc od_X10_near_0 5 rfl) (by omega) (by first | assumption | omega | exact hr _ _ rfl | exact mm_r3264 (hr _ _ rfl)) (fun _ => ?_) (fun h => absurd h (by decide))
    refine mm_aload_n (mm_dc od_X10_near_0 8 rfl) rfl ?_
    refine mm_getI (ci := 10) (k := 49) (mm_dc od_X10_near_0 9 rfl) rfl in_X10 (by decide) wd_4_161 rfl rfl ?_
    refine mm_istore_n (L' := [(0, v_r 50), (1, v_i minutes), (2, v_i (M 50 49))]) (mm_dc od_X10_near_0 10 rfl) (by decide) rfl ?_
    refine mm_aload_n (mm_dc od_X10_near_0 11 rfl) rfl ?_
    refine mm_iload_n (mm_dc od_X10_near_0 12 rfl) rfl ?_
    refine mm_putI (ci := 10) (k := 49) (mm_dc od_X10_near_0 13 rfl) rfl in_X10 tyX10_ok nmX10 (by decide) wd_4_161 rfl rfl rfl rfl ?_
    refine mm_iload_n (mm_dc od_X10_near_0 14 rfl) rfl ?_
    refine mm_iret (mm_dc od_X10_near_0 15 rfl) rfl ?_
    first | exact k2 (by first | assumption | omega) | exact mm_pm (by omega) rfl (k2 (by first | assumption | omega)) | (exfalso; omega)
  · refine mm_if_ne 15 (mm_dc od_X10_near_0 5 rfl) (by omega) (by first | assumption | omega | exact hr _ _ rfl | exact mm_r3264 (hr _ _ rfl)) (fun h => absurd h (by decide)) (fun _ => ?_)
    refine mm_bipush (mm_dc od_X10_near_0 6 rfl) (by decide) ?_
    refine mm_iret (mm_dc od_X10_near_0 7 rfl) rfl ?_
    first | exact k1 (by first | assumption | omega) | (exfalso; omega)
theorem c_X10_heat {X : Nat × (Nat → Int)} {d : Nat} {Po : mm_Po} {M : mm_M} (b : Int) (minute : Int) (hb : mm_r32 b) (hminute : mm_r32 minute) (h0 : 0 ≤ M 50 48 ∧ M 50 48 ≤ 20) (hr : R32 M) (k1 : (¬ (0 ≤ b ∧ b < M 50 11)) → Po (some (v_i (-1))) Lam M) (k2 : (0 ≤ b ∧ b < M 50 11) → (¬ (0 ≤ minute ∧ minute ≤ 1439)) → Po (some (v_i (-2))) Lam M) (k3 : (0 ≤ b ∧ b < M 50 11) → (0 ≤ minute ∧ minute ≤ 1439) → 20 ≤ M 50 48 → Po (some (v_i (-4))) Lam M) (k4 : (0 ≤ b ∧ b < M 50 11) → (0 ≤ minute ∧ minute ≤ 1439) → M 50 48 < 20 → Po (some (v_i (M 50 48))) Lam (mm_up (mm_up (mm_up (M) 86 (M 50 48).toNat b) 87 (M 50 48).toNat minute) 50 48 (M 50 48 + 1))) : mm_E X (d + 1) 0 0 mi_X10_heat [v_r 50, v_i b, v_i minute] Po Lam M := by
  show mm_G X (d + 1) 0 0 mi_X10_heat Po 0 [(0, v_r 50), (1, v_i b), (2, v_i minute)] [] Lam M 0 0
  refine mm_aload_n (mm_dc od_X10_heat_0 0 rfl) rfl ?_
  refine mm_iload_n (mm_dc od_X10_heat_0 1 rfl) rfl ?_
  refine mm_callV (b := 50) (mi' := mi_X10_isBoat) [v_i b] [] (mm_dc od_X10_heat_0 2 rfl) rfl wd_5_63 wd_5_65 wd_p_23 wd_1_12 wd_5_66 yk_X10_isBoat rfl rfl rfl (Nat.le_of_ble_eq_true rfl) rfl (by decide) (c_X10_isBoat b (by first | assumption | omega | exact hr _ _ rfl | exact mm_r3264 (hr _ _ rfl)) (by first | assumption | omega | exact hr _ _ rfl | exact mm_r3264 (hr _ _ rfl)) (fun c1 => ⟨Nat.le_refl _, ?_⟩) (fun c1 => ⟨Nat.le_refl _, ?_⟩))
  · refine mm_if_ne 10 (mm_dc od_X10_heat_0 3 rfl) (by omega) (by first | assumption | omega | exact hr _ _ rfl | exact mm_r3264 (hr _ _ rfl)) (fun _ => ?_) (fun h => absurd h (by decide))
    refine mm_iload_n (mm_dc od_X10_heat_0 6 rfl) rfl ?_
    refine mm_i2l (mm_dc od_X10_heat_0 7 rfl) (by first | assumption | omega | exact hr _ _ rfl | exact mm_r3264 (hr _ _ rfl)) ?_
    refine mm_lconst (mm_dc od_X10_heat_0 8 rfl) ?_
    refine mm_ldc2 (z := 1439) (mm_dc od_X10_heat_0 9 rfl) wd_6_37 ?_
    refine mm_callS (mi' := mi_X10_isIn) [v_l minute, v_l 0, v_l 1439] [] (mm_dc od_X10_heat_0 10 rfl) rfl wd_5_37 wd_5_38 wd_1_12 wd_5_39 yk_X10_isIn (Nat.le_of_ble_eq_true rfl) rfl (by decide) (c_X10_isIn minute 0 1439 (by first | assumption | omega | exact hr _ _ rfl | exact mm_r3264 (hr _ _ rfl)) (by first | assumption | omega | exact hr _ _ rfl | exact mm_r3264 (hr _ _ rfl)) (by first | assumption | omega | exact hr _ _ rfl | exact mm_r3264 (hr _ _ rfl)) (fun c2 => ⟨Nat.le_refl _, ?_⟩) (fun c2 => ⟨Nat.le_refl _, ?_⟩))
    · refine mm_if_ne 25 (mm_dc od_X10_heat_0 11 rfl) (by omega) (by first | assumption | omega | exact hr _ _ rfl | exact mm_r3264 (hr _ _ rfl)) (fun _ => ?_) (fun h => absurd h (by decide))
      refine mm_aload_n (mm_dc od_X10_heat_0 14 rfl) rfl ?_
      refine mm_getI (ci := 10) (k := 48) (mm_dc od_X10_heat_0 15 rfl) rfl in_X10 (by decide) wd_4_160 rfl rfl ?_
      refine mm_bipush (mm_dc od_X10_heat_0 16 rfl) (by decide) ?_
      refine mm_icmp_ne 37 (mm_dc od_X10_heat_0 17 rfl) (by omega) (by first | assumption | omega | exact hr _ _ rfl | exact mm_r3264 (hr _ _ rfl)) (by first | assumption | omega | exact hr _ _ rfl | exact mm_r3264 (hr _ _ rfl)) (fun c3 => ?_) (fun c3 => ?_)
      · refine mm_aload_n (mm_dc od_X10_heat_0 20 rfl) rfl ?_
        refine mm_getR (ci := 10) (k := 46) (mm_dc od_X10_heat_0 21 rfl) rfl in_X10 (by decide) wd_4_158 rfl rfl ?_
        refine mm_aload_n (mm_dc od_X10_heat_0 22 rfl) rfl ?_
        refine mm_getI (ci := 10) (k := 48) (mm_dc od_X10_heat_0 23 rfl) rfl in_X10 (by decide) wd_4_160 rfl rfl ?_
        refine mm_iload_n (mm_dc od_X10_heat_0 24 rfl) rfl ?_
        refine mm_iast (mm_dc od_X10_heat_0 25 rfl) rfl (by first | assumption | omega | exact hr _ _ rfl | exact mm_r3264 (hr _ _ rfl)) (by first | assumption | omega | exact hr _ _ rfl | exact mm_r3264 (hr _ _ rfl)) (by decide) ?_
        refine mm_aload_n (mm_dc od_X10_heat_0 26 rfl) rfl ?_
        refine mm_getR (ci := 10) (k := 47) (mm_dc od_X10_heat_0 27 rfl) rfl in_X10 (by decide) wd_4_159 rfl rfl ?_
        refine mm_aload_n (mm_dc od_X10_heat_0 28 rfl) rfl ?_
        refine mm_getI (ci := 10) (k := 48) (mm_dc od_X10_heat_0 29 rfl) rfl in_X10 (by decide) wd_4_160 rfl rfl ?_
        refine mm_cst (st' := [v_i (M 50 48), v_r 87]) rfl ?_
        refine mm_iload_n (mm_dc od_X10_heat_0 30 rfl) rfl ?_
        refine mm_iast (mm_dc od_X10_heat_0 31 rfl) rfl (by first | assumption | omega | exact hr _ _ rfl | exact mm_r3264 (hr _ _ rfl)) (by first | assumption | omega | exact hr _ _ rfl | exact mm_r3264 (hr _ _ rfl)) (by decide) ?_
        refine mm_aload_n (mm_dc od_X10_heat_0 32 rfl) rfl ?_
        refine mm_dup_r (mm_dc od_X10_heat_0 33 rfl) ?_
        refine mm_getI (ci := 10) (k := 48) (mm_dc od_X10_heat_0 34 rfl) rfl in_X10 (by decide) wd_4_160 rfl rfl ?_
        refine mm_cst (st' := [v_i (M 50 48), v_r 50]) rfl ?_
        refine mm_iconst (mm_dc od_X10_heat_0 35 rfl) ?_
        refine mm_iadd (mm_dc od_X10_heat_0 36 rfl) ?_
        refine mm_putI (ci := 10) (k := 48) (mm_dc od_X10_heat_0 37 rfl) rfl in_X10 tyX10_ok nmX10 (by decide) wd_4_160 rfl rfl rfl rfl ?_
        refine mm_aload_n (mm_dc od_X10_heat_0 38 rfl) rfl ?_
        refine mm_getI (ci := 10) (k := 48) (mm_dc od_X10_heat_0 39 rfl) rfl in_X10 (by decide) wd_4_160 rfl rfl ?_
        refine mm_cst (st' := [v_i ((M 50 48) + 1)]) rfl ?_
        refine mm_iconst (mm_dc od_X10_heat_0 40 rfl) ?_
        refine mm_isub (mm_dc od_X10_heat_0 41 rfl) ?_
        refine mm_iret (mm_dc od_X10_heat_0 42 rfl) rfl ?_
        first | exact k4 (by first | assumption | omega) (by first | assumption | omega) (by first | assumption | omega) | exact mm_pm (by omega) rfl (k4 (by first | assumption | omega) (by first | assumption | omega) (by first | assumption | omega)) | (exfalso; omega)
      · refine mm_bipush (mm_dc od_X10_heat_0 18 rfl) (by decide) ?_
        refine mm_iret (mm_dc od_X10_heat_0 19 rfl) rfl ?_
        first | exact k3 (by first | assumption | omega) (by first | assumption | omega) (by first | assumption | omega) | (exfalso; omega)
    · refine mm_if_ne 25 (mm_dc od_X10_heat_0 11 rfl) (by omega) (by first | assumption | omega | exact hr _ _ rfl | exact mm_r3264 (hr _ _ rfl)) (fun h => absurd h (by decide)) (fun _ => ?_)
      refine mm_bipush (mm_dc od_X10_heat_0 12 rfl) (by decide) ?_
      refine mm_iret (mm_dc od_X10_heat_0 13 rfl) rfl ?_
      first | exact k2 (by first | assumption | omega) (by first | assumption | omega) | (exfalso; omega)
  · refine mm_if_ne 10 (mm_dc od_X10_heat_0 3 rfl) (by omega) (by first | assumption | omega | exact hr _ _ rfl | exact mm_r3264 (hr _ _ rfl)) (fun h => absurd h (by decide)) (fun _ => ?_)
    refine mm_iconst (mm_dc od_X10_heat_0 4 rfl) ?_
    refine mm_iret (mm_dc od_X10_heat_0 5 rfl) rfl ?_
    first | exact k1 (by first | assumption | omega) | (exfalso; omega)
theorem c_X10_look {X : Nat × (Nat → Int)} {d : Nat} {Po : mm_Po} {M : mm_M} (b : Int) (whole : Int) (hb : mm_r32 b) (hwhole : mm_r32 whole) (h0 : 0 ≤ M 50 45 ∧ M 50 45 ≤ 60) (h8 : M 50 11 ≤ 8) (hr : R32 M) (k1 : (¬ (0 ≤ b ∧ b < M 50 11)) → Po (some (v_i (-1))) Lam M) (k2 : (0 ≤ b ∧ b < M 50 11) → (¬ (0 ≤ whole ∧ whole ≤ 1)) → Po (some (v_i (-2))) Lam M) (k3 : (0 ≤ b ∧ b < M 50 11) → (0 ≤ whole ∧ whole ≤ 1) → 60 ≤ M 50 45 → Po (some (v_i (-4))) Lam M) (k4 : (0 ≤ b ∧ b < M 50 11) → (0 ≤ whole ∧ whole ≤ 1) → M 50 45 < 60 → Po (some (v_i (M 50 45))) Lam (mm_up (mm_up (mm_up (mm_up (mm_up M 83 (M 50 45).toNat b) 84 (M 50 45).toNat (M 50 44)) 85 (M 50 45).toNat whole) 56 b.toNat (1 - whole)) 50 45 (M 50 45 + 1))) : mm_E X (d + 1) 0 0 mi_X10_look [v_r 50, v_i b, v_i whole] Po Lam M := by
  show mm_G X (d + 1) 0 0 mi_X10_look Po 0 [(0, v_r 50), (1, v_i b), (2, v_i whole)] [] Lam M 0 0
  refine mm_aload_n (mm_dc od_X10_look_0 0 rfl) rfl ?_
  refine mm_iload_n (mm_dc od_X10_look_0 1 rfl) rfl ?_
  refine mm_callV (b := 50) (mi' := mi_X10_isBoat) [v_i b] [] (mm_dc od_X10_look_0 2 rfl) rfl wd_5_63 wd_5_65 wd_p_23 wd_1_12 wd_5_66 yk_X10_isBoat rfl rfl rfl (Nat.le_of_ble_eq_true rfl) rfl (by decide) (c_X10_isBoat b (by first | assumption | omega | exact hr _ _ rfl | exact mm_r3264 (hr _ _ rfl)) (by first | assumption | omega | exact hr _ _ rfl | exact mm_r3264 (hr _ _ rfl)) (fun c1 => ⟨Nat.le_refl _, ?_⟩) (fun c1 => ⟨Nat.le_refl _, ?_⟩))
  · refine mm_if_ne 10 (mm_dc od_X10_look_0 3 rfl) (by omega) (by first | assumption | omega | exact hr _ _ rfl | exact mm_r3264 (hr _ _ rfl)) (fun _ => ?_) (fun h => absurd h (by decide))
    refine mm_iload_n (mm_dc od_X10_look_0 6 rfl) rfl ?_
    refine mm_i2l (mm_dc od_X10_look_0 7 rfl) (by first | assumption | omega | exact hr _ _ rfl | exact mm_r3264 (hr _ _ rfl)) ?_
    refine mm_lconst (mm_dc od_X10_look_0 8 rfl) ?_
    refine mm_lconst (mm_dc od_X10_look_0 9 rfl) ?_
    refine mm_callS (mi' := mi_X10_isIn) [v_l whole, v_l 0, v_l 1] [] (mm_dc od_X10_look_0 10 rfl) rfl wd_5_37 wd_5_38 wd_1_12 wd_5_39 yk_X10_isIn (Nat.le_of_ble_eq_true rfl) rfl (by decide) (c_X10_isIn whole 0 1 (by first | assumption | omega | exact hr _ _ rfl | exact mm_r3264 (hr _ _ rfl)) (by first | assumption | omega | exact hr _ _ rfl | exact mm_r3264 (hr _ _ rfl)) (by first | assumption | omega | exact hr _ _ rfl | exact mm_r3264 (hr _ _ rfl)) (fun c2 => ⟨Nat.le_refl _, ?_⟩) (fun c2 => ⟨Nat.le_refl _, ?_⟩))
    · refine mm_if_ne 23 (mm_dc od_X10_look_0 11 rfl) (by omega) (by first | assumption | omega | exact hr _ _ rfl | exact mm_r3264 (hr _ _ rfl)) (fun _ => ?_) (fun h => absurd h (by decide))
      refine mm_aload_n (mm_dc od_X10_look_0 14 rfl) rfl ?_
      refine mm_getI (ci := 10) (k := 45) (mm_dc od_X10_look_0 15 rfl) rfl in_X10 (by decide) wd_4_157 rfl rfl ?_
      refine mm_bipush (mm_dc od_X10_look_0 16 rfl) (by decide) ?_
      refine mm_icmp_ne 35 (mm_dc od_X10_look_0 17 rfl) (by omega) (by first | assumption | omega | exact hr _ _ rfl | exact mm_r3264 (hr _ _ rfl)) (by first | assumption | omega | exact hr _ _ rfl | exact mm_r3264 (hr _ _ rfl)) (fun c3 => ?_) (fun c3 => ?_)
      · refine mm_aload_n (mm_dc od_X10_look_0 20 rfl) rfl ?_
        refine mm_getR (ci := 10) (k := 41) (mm_dc od_X10_look_0 21 rfl) rfl in_X10 (by decide) wd_4_153 rfl rfl ?_
        refine mm_aload_n (mm_dc od_X10_look_0 22 rfl) rfl ?_
        refine mm_getI (ci := 10) (k := 45) (mm_dc od_X10_look_0 23 rfl) rfl in_X10 (by decide) wd_4_157 rfl rfl ?_
        refine mm_iload_n (mm_dc od_X10_look_0 24 rfl) rfl ?_
        refine mm_iast (mm_dc od_X10_look_0 25 rfl) rfl (by first | assumption | omega | exact hr _ _ rfl | exact mm_r3264 (hr _ _ rfl)) (by first | assumption | omega | exact hr _ _ rfl | exact mm_r3264 (hr _ _ rfl)) (by decide) ?_
        refine mm_aload_n (mm_dc od_X10_look_0 26 rfl) rfl ?_
        refine mm_getR (ci := 10) (k := 42) (mm_dc od_X10_look_0 27 rfl) rfl in_X10 (by decide) wd_4_154 rfl rfl ?_
        refine mm_aload_n (mm_dc od_X10_look_0 28 rfl) rfl ?_
        refine mm_getI (ci := 10) (k := 45) (mm_dc od_X10_look_0 29 rfl) rfl in_X10 (by decide) wd_4_157 rfl rfl ?_
        refine mm_cst (st' := [v_i (M 50 45), v_r 84]) rfl ?_
        refine mm_aload_n (mm_dc od_X10_look_0 30 rfl) rfl ?_
        refine mm_getI (ci := 10) (k := 44) (mm_dc od_X10_look_0 31 rfl) rfl in_X10 (by decide) wd_4_156 rfl rfl ?_
        refine mm_cst (st' := [v_i (M 50 44), v_i (M 50 45), v_r 84]) rfl ?_
        refine mm_iast (mm_dc od_X10_look_0 32 rfl) rfl (by first | assumption | omega | exact hr _ _ rfl | exact mm_r3264 (hr _ _ rfl)) (by first | assumption | omega | exact hr _ _ rfl | exact mm_r3264 (hr _ _ rfl)) (by decide) ?_
        refine mm_aload_n (mm_dc od_X10_look_0 33 rfl) rfl ?_
        refine mm_getR (ci := 10) (k := 43) (mm_dc od_X10_look_0 34 rfl) rfl in_X10 (by decide) wd_4_155 rfl rfl ?_
        refine mm_aload_n (mm_dc od_X10_look_0 35 rfl) rfl ?_
        refine mm_getI (ci := 10) (k := 45) (mm_dc od_X10_look_0 36 rfl) rfl in_X10 (by decide) wd_4_157 rfl rfl ?_
        refine mm_cst (st' := [v_i (M 50 45), v_r 85]) rfl ?_
        refine mm_iload_n (mm_dc od_X10_look_0 37 rfl) rfl ?_
        refine mm_iconst (mm_dc od_X10_look_0 38 rfl) ?_
        refine mm_icmp_ne 75 (mm_dc od_X10_look_0 39 rfl) (by omega) (by first | assumption | omega | exact hr _ _ rfl | exact mm_r3264 (hr _ _ rfl)) (by first | assumption | omega | exact hr _ _ rfl | exact mm_r3264 (hr _ _ rfl)) (fun c4 => ?_) (fun c4 => ?_)
        · refine mm_iconst (mm_dc od_X10_look_0 42 rfl) ?_
          refine mm_zast (mm_dc od_X10_look_0 43 rfl) rfl (by first | assumption | omega | exact hr _ _ rfl | exact mm_r3264 (hr _ _ rfl)) (by first | assumption | omega | exact hr _ _ rfl | exact mm_r3264 (hr _ _ rfl)) (by decide) (by first | assumption | omega | exact hr _ _ rfl | exact mm_r3264 (hr _ _ rfl)) ?_
          refine mm_aload_n (mm_dc od_X10_look_0 44 rfl) rfl ?_
          refine mm_getR (ci := 10) (k := 5) (mm_dc od_X10_look_0 45 rfl) rfl in_X10 (by decide) wd_4_117 rfl rfl ?_
          refine mm_iload_n (mm_dc od_X10_look_0 46 rfl) rfl ?_
          refine mm_iload_n (mm_dc od_X10_look_0 47 rfl) rfl ?_
          refine mm_if_ne 90 (mm_dc od_X10_look_0 48 rfl) (by omega) (by first | assumption | omega | exact hr _ _ rfl | exact mm_r3264 (hr _ _ rfl)) (fun c5 => ?_) (fun c5 => ?_)
          · refine mm_iconst (mm_dc od_X10_look_0 51 rfl) ?_
            refine mm_zast (mm_dc od_X10_look_0 52 rfl) rfl (by first | assumption | omega | exact hr _ _ rfl | exact mm_r3264 (hr _ _ rfl)) (by first | assumption | omega | exact hr _ _ rfl | exact mm_r3264 (hr _ _ rfl)) (by decide) (by first | assumption | omega | exact hr _ _ rfl | exact mm_r3264 (hr _ _ rfl)) ?_
            refine mm_aload_n (mm_dc od_X10_look_0 53 rfl) rfl ?_
            refine mm_dup_r (mm_dc od_X10_look_0 54 rfl) ?_
            refine mm_getI (ci := 10) (k := 45) (mm_dc od_X10_look_0 55 rfl) rfl in_X10 (by decide) wd_4_157 rfl rfl ?_
            refine mm_cst (st' := [v_i (M 50 45), v_r 50]) rfl ?_
            refine mm_iconst (mm_dc od_X10_look_0 56 rfl) ?_
            refine mm_iadd (mm_dc od_X10_look_0 57 rfl) ?_
            refine mm_putI (ci := 10) (k := 45) (mm_dc od_X10_look_0 58 rfl) rfl in_X10 tyX10_ok nmX10 (by decide) wd_4_157 rfl rfl rfl rfl ?_
            refine mm_aload_n (mm_dc od_X10_look_0 59 rfl) rfl ?_
            refine mm_getI (ci := 10) (k := 45) (mm_dc od_X10_look_1 0 rfl) rfl in_X10 (by decide) wd_4_157 rfl rfl ?_
            refine mm_cst (st' := [v_i ((M 50 45) + 1)]) rfl ?_
            refine mm_iconst (mm_dc od_X10_look_1 1 rfl) ?_
            refine mm_isub (mm_dc od_X10_look_1 2 rfl) ?_
            refine mm_iret (mm_dc od_X10_look_1 3 rfl) rfl ?_
            first | exact k1 (by first | assumption | omega) | exact k2 (by first | assumption | omega) (by first | assumption | omega) | exact k3 (by first | assumption | omega) (by first | assumption | omega) (by first | assumption | omega) | exact mm_pm (by omega) (by first | (have e : whole = 0 := (by omega); subst e; rfl) | (have e : whole = 1 := (by omega); subst e; rfl)) (k4 (by first | assumption | omega) (by first | assumption | omega) (by first | assumption | omega)) | (exfalso; omega)
          · refine mm_iconst (mm_dc od_X10_look_0 49 rfl) ?_
            refine mm_goto 91 (mm_dc od_X10_look_0 50 rfl) (by omega) ?_
            refine mm_zast (mm_dc od_X10_look_0 52 rfl) rfl (by first | assumption | omega | exact hr _ _ rfl | exact mm_r3264 (hr _ _ rfl)) (by first | assumption | omega | exact hr _ _ rfl | exact mm_r3264 (hr _ _ rfl)) (by decide) (by first | assumption | omega | exact hr _ _ rfl | exact mm_r3264 (hr _ _ rfl)) ?_
            refine mm_aload_n (mm_dc od_X10_look_0 53 rfl) rfl ?_
            refine mm_dup_r (mm_dc od_X10_look_0 54 rfl) ?_
            refine mm_getI (ci := 10) (k := 45) (mm_dc od_X10_look_0 55 rfl) rfl in_X10 (by decide) wd_4_157 rfl rfl ?_
            refine mm_cst (st' := [v_i (M 50 45), v_r 50]) rfl ?_
            refine mm_iconst (mm_dc od_X10_look_0 56 rfl) ?_
            refine mm_iadd (mm_dc od_X10_look_0 57 rfl) ?_
            refine mm_putI (ci := 10) (k := 45) (mm_dc od_X10_look_0 58 rfl) rfl in_X10 tyX10_ok nmX10 (by decide) wd_4_157 rfl rfl rfl rfl ?_
            refine mm_aload_n (mm_dc od_X10_look_0 59 rfl) rfl ?_
            refine mm_getI (ci := 10) (k := 45) (mm_dc od_X10_look_1 0 rfl) rfl in_X10 (by decide) wd_4_157 rfl rfl ?_
            refine mm_cst (st' := [v_i ((M 50 45) + 1)]) rfl ?_
            refine mm_iconst (mm_dc od_X10_look_1 1 rfl) ?_
            refine mm_isub (mm_dc od_X10_look_1 2 rfl) ?_
            refine mm_iret (mm_dc od_X10_look_1 3 rfl) rfl ?_
            first | exact k1 (by first | assumption | omega) | exact k2 (by first | assumption | omega) (by first | assumption | omega) | exact k3 (by first | assumption | omega) (by first | assumption | omega) (by first | assumption | omega) | exact mm_pm (by omega) (by first | (have e : whole = 0 := (by omega); subst e; rfl) | (have e : whole = 1 := (by omega); subst e; rfl)) (k4 (by first | assumption | omega) (by first | assumption | omega) (by first | assumption | omega)) | (exfalso; omega)
        · refine mm_iconst (mm_dc od_X10_look_0 40 rfl) ?_
          refine mm_goto 76 (mm_dc od_X10_look_0 41 rfl) (by omega) ?_
          refine mm_zast (mm_dc od_X10_look_0 43 rfl) rfl (by first | assumption | omega | exact hr _ _ rfl | exact mm_r3264 (hr _ _ rfl)) (by first | assumption | omega | exact hr _ _ rfl | exact mm_r3264 (hr _ _ rfl)) (by decide) (by first | assumption | omega | exact hr _ _ rfl | exact mm_r3264 (hr _ _ rfl)) ?_
          refine mm_aload_n (mm_dc od_X10_look_0 44 rfl) rfl ?_
          refine mm_getR (ci := 10) (k := 5) (mm_dc od_X10_look_0 45 rfl) rfl in_X10 (by decide) wd_4_117 rfl rfl ?_
          refine mm_iload_n (mm_dc od_X10_look_0 46 rfl) rfl ?_
          refine mm_iload_n (mm_dc od_X10_look_0 47 rfl) rfl ?_
          refine mm_if_ne 90 (mm_dc od_X10_look_0 48 rfl) (by omega) (by first | assumption | omega | exact hr _ _ rfl | exact mm_r3264 (hr _ _ rfl)) (fun c6 => ?_) (fun c6 => ?_)
          · refine mm_iconst (mm_dc od_X10_look_0 51 rfl) ?_
            refine mm_zast (mm_dc od_X10_look_0 52 rfl) rfl (by first | assumption | omega | exact hr _ _ rfl | exact mm_r3264 (hr _ _ rfl)) (by first | assumption | omega | exact hr _ _ rfl | exact mm_r3264 (hr _ _ rfl)) (by decide) (by first | assumption | omega | exact hr _ _ rfl | exact mm_r3264 (hr _ _ rfl)) ?_
            refine mm_aload_n (mm_dc od_X10_look_0 53 rfl) rfl ?_
            refine mm_dup_r (mm_dc od_X10_look_0 54 rfl) ?_
            refine mm_getI (ci := 10) (k := 45) (mm_dc od_X10_look_0 55 rfl) rfl in_X10 (by decide) wd_4_157 rfl rfl ?_
            refine mm_cst (st' := [v_i (M 50 45), v_r 50]) rfl ?_
            refine mm_iconst (mm_dc od_X10_look_0 56 rfl) ?_
            refine mm_iadd (mm_dc od_X10_look_0 57 rfl) ?_
            refine mm_putI (ci := 10) (k := 45) (mm_dc od_X10_look_0 58 rfl) rfl in_X10 tyX10_ok nmX10 (by decide) wd_4_157 rfl rfl rfl rfl ?_
            refine mm_aload_n (mm_dc od_X10_look_0 59 rfl) rfl ?_
            refine mm_getI (ci := 10) (k := 45) (mm_dc od_X10_look_1 0 rfl) rfl in_X10 (by decide) wd_4_157 rfl rfl ?_
            refine mm_cst (st' := [v_i ((M 50 45) + 1)]) rfl ?_
            refine mm_iconst (mm_dc od_X10_look_1 1 rfl) ?_
            refine mm_isub (mm_dc od_X10_look_1 2 rfl) ?_
            refine mm_iret (mm_dc od_X10_look_1 3 rfl) rfl ?_
            first | exact k1 (by first | assumption | omega) | exact k2 (by first | assumption | omega) (by first | assumption | omega) | exact k3 (by first | assumption | omega) (by first | assumption | omega) (by first | assumption | omega) | exact mm_pm (by omega) (by first | (have e : whole = 0 := (by omega); subst e; rfl) | (have e : whole = 1 := (by omega); subst e; rfl)) (k4 (by first | assumption | omega) (by first | assumption | omega) (by first | assumption | omega)) | (exfalso; omega)
          · refine mm_iconst (mm_dc od_X10_look_0 49 rfl) ?_
            refine mm_goto 91 (mm_dc od_X10_look_0 50 rfl) (by omega) ?_
            refine mm_zast (mm_dc od_X10_look_0 52 rfl) rfl (by first | assumption | omega | exact hr _ _ rfl | exact mm_r3264 (hr _ _ rfl)) (by first | assumption | omega | exact hr _ _ rfl | exact mm_r3264 (hr _ _ rfl)) (by decide) (by first | assumption | omega | exact hr _ _ rfl | exact mm_r3264 (hr _ _ rfl)) ?_
            refine mm_aload_n (mm_dc od_X10_look_0 53 rfl) rfl ?_
            refine mm_dup_r (mm_dc od_X10_look_0 54 rfl) ?_
            refine mm_getI (ci := 10) (k := 45) (mm_dc od_X10_look_0 55 rfl) rfl in_X10 (by decide) wd_4_157 rfl rfl ?_
            refine mm_cst (st' := [v_i (M 50 45), v_r 50]) rfl ?_
            refine mm_iconst (mm_dc od_X10_look_0 56 rfl) ?_
            refine mm_iadd (mm_dc od_X10_look_0 57 rfl) ?_
            refine mm_putI (ci := 10) (k := 45) (mm_dc od_X10_look_0 58 rfl) rfl in_X10 tyX10_ok nmX10 (by decide) wd_4_157 rfl rfl rfl rfl ?_
            refine mm_aload_n (mm_dc od_X10_look_0 59 rfl) rfl ?_
            refine mm_getI (ci := 10) (k := 45) (mm_dc od_X10_look_1 0 rfl) rfl in_X10 (by decide) wd_4_157 rfl rfl ?_
            refine mm_cst (st' := [v_i ((M 50 45) + 1)]) rfl ?_
            refine mm_iconst (mm_dc od_X10_look_1 1 rfl) ?_
            refine mm_isub (mm_dc od_X10_look_1 2 rfl) ?_
            refine mm_iret (mm_dc od_X10_look_1 3 rfl) rfl ?_
            first | exact k1 (by first | assumption | omega) | exact k2 (by first | assumption | omega) (by first | assumption | omega) | exact k3 (by first | assumption | omega) (by first | assumption | omega) (by first | assumption | omega) | exact mm_pm (by omega) (by first | (have e : whole = 0 := (by omega); subst e; rfl) | (have e : whole = 1 := (by omega); subst e; rfl)) (k4 (by first | assumption | omega) (by first | assumption | omega) (by first | assumption | omega)) | (exfalso; omega)
      · refine mm_bipush (mm_dc od_X10_look_0 18 rfl) (by decide) ?_
        refine mm_iret (mm_dc od_X10_look_0 19 rfl) rfl ?_
        first | exact k1 (by first | assumption | omega) | exact k2 (by first | assumption | omega) (by first | assumption | omega) | exact k3 (by first | assumption | omega) (by first | assumption | omega) (by first | assumption | omega) | exact mm_pm (by omega) (by first | (have e : whole = 0 := (by omega); subst e; rfl) | (have e : whole = 1 := (by omega); subst e; rfl)) (k4 (by first | assumption | omega) (by first | assumption | omega) (by first | assumption | omega)) | (exfalso; omega)
    · refine mm_if_ne 23 (mm_dc od_X10_look_0 11 rfl) (by omega) (by first | assumption | omega | exact hr _ _ rfl | exact mm_r3264 (hr _ _ rfl)) (fun h => absurd h (by decide)) (fun _ => ?_)
      refine mm_bipush (mm_dc od_X10_look_0 12 rfl) (by decide) ?_
      refine mm_iret (mm_dc od_X10_look_0 13 rfl) rfl ?_
      first | exact k1 (by first | assumption | omega) | exact k2 (by first | assumption | omega) (by first | assumption | omega) | exact k3 (by first | assumption | omega) (by first | assumption | omega) (by first | assumption | omega) | exact mm_pm (by omega) (by first | (have e : whole = 0 := (by omega); subst e; rfl) | (have e : whole = 1 := (by omega); subst e; rfl)) (k4 (by first | assumption | omega) (by first | assumption | omega) (by first | assumption | omega)) | (exfalso; omega)
  · refine mm_if_ne 10 (mm_dc od_X10_look_0 3 rfl) (by omega) (by first | assumption | omega | exact hr _ _ rfl | exact mm_r3264 (hr _ _ rfl)) (fun h => absurd h (by decide)) (fun _ => ?_)
    refine mm_iconst (mm_dc od_X10_look_0 4 rfl) ?_
    refine mm_iret (mm_dc od_X10_look_0 5 rfl) rfl ?_
    first | exact k1 (by first | assumption | omega) | exact k2 (by first | assumption | omega) (by first | assumption | omega) | exact k3 (by first | assumption | omega) (by first | assumption | omega) (by first | assumption | omega) | exact mm_pm (by omega) (by first | (have e : whole = 0 := (by omega); subst e; rfl) | (have e : whole = 1 := (by omega); subst e; rfl)) (k4 (by first | assumption | omega) (by first | assumption | omega) (by first | assumption | omega)) | (exfalso; omega)
theorem c_X10_outing {X : Nat × (Nat → Int)} {d : Nat} {Po : mm_Po} {M : mm_M} (i : Int) (what : Int) (hi : mm_r32 i) (hwhat : mm_r32 what) (h0 : 0 ≤ M 50 44 ∧ M 50 44 ≤ 30) (hr : R32 M) (k1 : (¬ (0 ≤ i ∧ i < M 50 44)) → Po (some (v_i (-1))) Lam M) (k2 : (0 ≤ i ∧ i < M 50 44) → what = 0 → Po (some (v_i (M 79 i.toNat))) Lam M) (k3 : (0 ≤ i ∧ i < M 50 44) → what = 1 → Po (some (v_i (M 80 i.toNat))) Lam M) (k4 : (0 ≤ i ∧ i < M 50 44) → what = 2 → Po (some (v_i (M 81 i.toNat))) Lam M) (k5 : (0 ≤ i ∧ i < M 50 44) → what = 3 → Po (some (v_i (M 82 i.toNat))) Lam M) (k6 : (0 ≤ i ∧ i < M 50 44) → (what < 0 ∨ 3 < what) → Po (some (v_i (-1))) Lam M) : mm_E X (d + 1) 0 0 mi_X10_outing [v_r 50, v_i i, v_i what] Po Lam M := by
  show mm_G X (d + 1) 0 0 mi_X10_outing Po 0 [(0, v_r 50), (1, v_i i), (2, v_i what)] [] Lam M 0 0
  refine mm_iload_n (mm_dc od_X10_outing_0 0 rfl) rfl ?_
  refine mm_i2l (mm_dc od_X10_outing_0 1 rfl) (by first | assumption | omega | exact hr _ _ rfl | exact mm_r3264 (hr _ _ rfl)) ?_
  refine mm_lconst (mm_dc od_X10_outing_0 2 rfl) ?_
  refine mm_aload_n (mm_dc od_X10_outing_0 3 rfl) rfl ?_
  refine mm_getI (ci := 10) (k := 44) (mm_dc od_X10_outing_0 4 rfl) rfl in_X10 (by decide) wd_4_156 rfl rfl ?_
  refine mm_iconst (mm_dc od_X10_outing_0 5 rfl) ?_
  refine mm_isub (mm_dc od_X10_outing_0 6 rfl) ?_
  refine mm_i2l (mm_dc od_X10_outing_0 7 rfl) (by first | assumption | omega | exact hr _ _ rfl | exact mm_r3264 (hr _ _ rfl)) ?_
  refine mm_callS (mi' := mi_X10_isIn) [v_l i, v_l 0, v_l ((M 50 44) - 1)] [] (mm_dc od_X10_outing_0 8 rfl) rfl wd_5_37 wd_5_38 wd_1_12 wd_5_39 yk_X10_isIn (Nat.le_of_ble_eq_true rfl) rfl (by decide) (c_X10_isIn i 0 ((M 50 44) - 1) (by first | assumption | omega | exact hr _ _ rfl | exact mm_r3264 (hr _ _ rfl)) (by first | assumption | omega | exact hr _ _ rfl | exact mm_r3264 (hr _ _ rfl)) (by first | assumption | omega | exact hr _ _ rfl | exact mm_r3264 (hr _ _ rfl)) (fun c1 => ⟨Nat.le_refl _, ?_⟩) (fun c1 => ⟨Nat.le_refl _, ?_⟩))
  · refine mm_if_ne 18 (mm_dc od_X10_outing_0 9 rfl) (by omega) (by first | assumption | omega | exact hr _ _ rfl | exact mm_r3264 (hr _ _ rfl)) (fun _ => ?_) (fun h => absurd h (by decide))
    refine mm_iload_n (mm_dc od_X10_outing_0 12 rfl) rfl ?_
    have sw2 : (what < 0 ∨ 3 < what) ∨ what = 0 ∨ what = 1 ∨ what = 2 ∨ what = 3 := by omega
    rcases sw2 with sw2 | sw2 | sw2 | sw2 | sw2
    · refine mm_tabOut 76 (mm_dc od_X10_outing_0 13 rfl) (by first | assumption | omega | exact hr _ _ rfl | exact mm_r3264 (hr _ _ rfl)) sw2 (by omega) ?_
      refine mm_iconst (mm_dc od_X10_outing_0 34 rfl) ?_
      refine mm_iret (mm_dc od_X10_outing_0 35 rfl) rfl ?_
      first | exact k1 (by first | assumption | omega) | exact k6 (by first | assumption | omega) (by first | assumption | omega) | (exfalso; omega)
    · refine mm_tabIn (off := 29) 48 (mm_dc od_X10_outing_0 13 rfl) (by first | assumption | omega | exact hr _ _ rfl | exact mm_r3264 (hr _ _ rfl)) (by omega) (by omega) (by rw [sw2]; rfl) (by omega) ?_
      refine mm_aload_n (mm_dc od_X10_outing_0 14 rfl) rfl ?_
      refine mm_getR (ci := 10) (k := 37) (mm_dc od_X10_outing_0 15 rfl) rfl in_X10 (by decide) wd_4_149 rfl rfl ?_
      refine mm_iload_n (mm_dc od_X10_outing_0 16 rfl) rfl ?_
      refine mm_iald (mm_dc od_X10_outing_0 17 rfl) rfl (by first | assumption | omega | exact hr _ _ rfl | exact mm_r3264 (hr _ _ rfl)) (by first | assumption | omega | exact hr _ _ rfl | exact mm_r3264 (hr _ _ rfl)) (by decide) ?_
      refine mm_iret (mm_dc od_X10_outing_0 18 rfl) rfl ?_
      first | exact k2 (by first | assumption | omega) (by first | assumption | omega) | exact mm_pm (by omega) rfl (k2 (by first | assumption | omega) (by first | assumption | omega)) | exact k3 (by first | assumption | omega) (by first | assumption | omega) | exact mm_pm (by omega) rfl (k3 (by first | assumption | omega) (by first | assumption | omega)) | exact k4 (by first | assumption | omega) (by first | assumption | omega) | exact mm_pm (by omega) rfl (k4 (by first | assumption | omega) (by first | assumption | omega)) | exact k5 (by first | assumption | omega) (by first | assumption | omega) | exact mm_pm (by omega) rfl (k5 (by first | assumption | omega) (by first | assumption | omega)) | (exfalso; omega)
    · refine mm_tabIn (off := 36) 55 (mm_dc od_X10_outing_0 13 rfl) (by first | assumption | omega | exact hr _ _ rfl | exact mm_r3264 (hr _ _ rfl)) (by omega) (by omega) (by rw [sw2]; rfl) (by omega) ?_
      refine mm_aload_n (mm_dc od_X10_outing_0 19 rfl) rfl ?_
      refine mm_getR (ci := 10) (k := 38) (mm_dc od_X10_outing_0 20 rfl) rfl in_X10 (by decide) wd_4_150 rfl rfl ?_
      refine mm_iload_n (mm_dc od_X10_outing_0 21 rfl) rfl ?_
      refine mm_iald (mm_dc od_X10_outing_0 22 rfl) rfl (by first | assumption | omega | exact hr _ _ rfl | exact mm_r3264 (hr _ _ rfl)) (by first | assumption | omega | exact hr _ _ rfl | exact mm_r3264 (hr _ _ rfl)) (by decide) ?_
      refine mm_iret (mm_dc od_X10_outing_0 23 rfl) rfl ?_
      first | exact k2 (by first | assumption | omega) (by first | assumption | omega) | exact mm_pm (by omega) rfl (k2 (by first | assumption | omega) (by first | assumption | omega)) | exact k3 (by first | assumption | omega) (by first | assumption | omega) | exact mm_pm (by omega) rfl (k3 (by first | assumption | omega) (by first | assumption | omega)) | exact k4 (by first | assumption | omega) (by first | assumption | omega) | exact mm_pm (by omega) rfl (k4 (by first | assumption | omega) (by first | assumption | omega)) | exact k5 (by first | assumption | omega) (by first | assumption | omega) | exact mm_pm (by omega) rfl (k5 (by first | assumption | omega) (by first | assumption | omega)) | (exfalso; omega)
    · refine mm_tabIn (off := 43) 62 (mm_dc od_X10_outing_0 13 rfl) (by first | assumption | omega | exact hr _ _ rfl | exact mm_r3264 (hr _ _ rfl)) (by omega) (by omega) (by rw [sw2]; rfl) (by omega) ?_
      refine mm_aload_n (mm_dc od_X10_outing_0 24 rfl) rfl ?_
      refine mm_getR (ci := 10) (k := 39) (mm_dc od_X10_outing_0 25 rfl) rfl in_X10 (by decide) wd_4_151 rfl rfl ?_
      refine mm_iload_n (mm_dc od_X10_outing_0 26 rfl) rfl ?_
      refine mm_iald (mm_dc od_X10_outing_0 27 rfl) rfl (by first | assumption | omega | exact hr _ _ rfl | exact mm_r3264 (hr _ _ rfl)) (by first | assumption | omega | exact hr _ _ rfl | exact mm_r3264 (hr _ _ rfl)) (by decide) ?_
      refine mm_iret (mm_dc od_X10_outing_0 28 rfl) rfl ?_
      first | exact k2 (by first | assumption | omega) (by first | assumption | omega) | exact mm_pm (by omega) rfl (k2 (by first | assumption | omega) (by first | assumption | omega)) | exact k3 (by first | assumption | omega) (by first | assumption | omega) | exact mm_pm (by omega) rfl (k3 (by first | assumption | omega) (by first | assumption | omega)) | exact k4 (by first | assumption | omega) (by first | assumption | omega) | exact mm_pm (by omega) rfl (k4 (by first | assumption | omega) (by first | assumption | omega)) | exact k5 (by first | assumption | omega) (by first | assumption | omega) | exact mm_pm (by omega) rfl (k5 (by first | assumption | omega) (by first | assumption | omega)) | (exfalso; omega)
    · refine mm_tabIn (off := 50) 69 (mm_dc od_X10_outing_0 13 rfl) (by first | assumption | omega | exact hr _ _ rfl | exact mm_r3264 (hr _ _ rfl)) (by omega) (by omega) (by rw [sw2]; rfl) (by omega) ?_
      refine mm_aload_n (mm_dc od_X10_outing_0 29 rfl) rfl ?_
      refine mm_getR (ci := 10) (k := 40) (mm_dc od_X10_outing_0 30 rfl) rfl in_X10 (by decide) wd_4_152 rfl rfl ?_
      refine mm_iload_n (mm_dc od_X10_outing_0 31 rfl) rfl ?_
      refine mm_iald (mm_dc od_X10_outing_0 32 rfl) rfl (by first | assumption | omega | exact hr _ _ rfl | exact mm_r3264 (hr _ _ rfl)) (by first | assumption | omega | exact hr _ _ rfl | exact mm_r3264 (hr _ _ rfl)) (by decide) ?_
      refine mm_iret (mm_dc od_X10_outing_0 33 rfl) rfl ?_
      first | exact k2 (by first | assumption | omega) (by first | assumption | omega) | exact mm_pm (by omega) rfl (k2 (by first | assumption | omega) (by first | assumption | omega)) | exact k3 (by first | assumption | omega) (by first | assumption | omega) | exact mm_pm (by omega) rfl (k3 (by first | assumption | omega) (by first | assumption | omega)) | exact k4 (by first | assumption | omega) (by first | assumption | omega) | exact mm_pm (by omega) rfl (k4 (by first | assumption | omega) (by first | assumption | omega)) | exact k5 (by first | assumption | omega) (by first | assumption | omega) | exact mm_pm (by omega) rfl (k5 (by first | assumption | omega) (by first | assumption | omega)) | (exfalso; omega)
  · refine mm_if_ne 18 (mm_dc od_X10_outing_0 9 rfl) (by omega) (by first | assumption | omega | exact hr _ _ rfl | exact mm_r3264 (hr _ _ rfl)) (fun h => absurd h (by decide)) (fun _ => ?_)
    refine mm_iconst (mm_dc od_X10_outing_0 10 rfl) ?_
    refine mm_iret (mm_dc od_X10_outing_0 11 rfl) rfl ?_
    first | exact k1 (by first | assumption | omega) | exact k6 (by first | assumption | omega) (by first | assumption | omega) | (exfalso; omega)
theorem c_X10_rack {X : Nat × (Nat → Int)} {d : Nat} {Po : mm_Po} {M : mm_M} (b : Int) (hb : mm_r32 b) (hJbm : JBm M) (hr : R32 M) (k1 : (¬ (0 ≤ b ∧ b < M 50 11)) → Po (some (v_i (-1))) Lam M) (k2 : (0 ≤ b ∧ b < M 50 11) → Po (some (v_i (M 88 b.toNat))) Lam M) : mm_E X (d + 1) 0 0 mi_X10_rack [v_r 50, v_i b] Po Lam M := by
  show mm_G X (d + 1) 0 0 mi_X10_rack Po 0 [(0, v_r 50), (1, v_i b)] [] Lam M 0 0
  have hJbm2 := hJbm
  obtain ⟨hb0, hb8, hB⟩ := hJbm2
  refine mm_aload_n (mm_dc od_X10_rack_0 0 rfl) rfl ?_
  refine mm_iload_n (mm_dc od_X10_rack_0 1 rfl) rfl ?_
  refine mm_callV (b := 50) (mi' := mi_X10_isBoat) [v_i b] [] (mm_dc od_X10_rack_0 2 rfl) rfl wd_5_63 wd_5_65 wd_p_23 wd_1_12 wd_5_66 yk_X10_isBoat rfl rfl rfl (Nat.le_of_ble_eq_true rfl) rfl (by decide) (c_X10_isBoat b (by first | assumption | omega | exact hr _ _ rfl | exact mm_r3264 (hr _ _ rfl)) (by first | assumption | omega | exact hr _ _ rfl | exact mm_r3264 (hr _ _ rfl)) (fun c1 => ⟨Nat.le_refl _, ?_⟩) (fun c1 => ⟨Nat.le_refl _, ?_⟩))
  · refine mm_if_eq 17 (mm_dc od_X10_rack_0 3 rfl) (by omega) (by first | assumption | omega | exact hr _ _ rfl | exact mm_r3264 (hr _ _ rfl)) (fun h => absurd h (by decide)) (fun _ => ?_)
    refine mm_aload_n (mm_dc od_X10_rack_0 4 rfl) rfl ?_
    refine mm_getR (ci := 10) (k := 50) (mm_dc od_X10_rack_0 5 rfl) rfl in_X10 (by decide) wd_4_162 rfl rfl ?_
    refine mm_iload_n (mm_dc od_X10_rack_0 6 rfl) rfl ?_
    refine mm_iald (mm_dc od_X10_rack_0 7 rfl) rfl (by first | assumption | omega | exact hr _ _ rfl | exact mm_r3264 (hr _ _ rfl)) (by first | assumption | omega | exact hr _ _ rfl | exact mm_r3264 (hr _ _ rfl)) (by decide) ?_
    refine mm_goto 18 (mm_dc od_X10_rack_0 8 rfl) (by omega) ?_
    refine mm_iret (mm_dc od_X10_rack_0 10 rfl) rfl ?_
    first | exact k2 (by first | assumption | omega) | exact mm_pm (by omega) rfl (k2 (by first | assumption | omega)) | (exfalso; omega)
  · refine mm_if_eq 17 (mm_dc od_X10_rack_0 3 rfl) (by omega) (by first | assumption | omega | exact hr _ _ rfl | exact mm_r3264 (hr _ _ rfl)) (fun _ => ?_) (fun h => absurd h (by decide))
    refine mm_iconst (mm_dc od_X10_rack_0 9 rfl) ?_
    refine mm_iret (mm_dc od_X10_rack_0 10 rfl) rfl ?_
    first | exact k1 (by first | assumption | omega) | (exfalso; omega)
theorem c_X10_count {X : Nat × (Nat → Int)} {d : Nat} {Po : mm_Po} {M : mm_M} (what : Int) (hwhat : mm_r32 what) (hr : R32 M) (k0 : what = 0 → Po (some (v_i (M 50 10))) Lam M) (k1 : what = 1 → Po (some (v_i (M 50 11))) Lam M) (k2 : what = 2 → Po (some (v_i (M 50 16))) Lam M) (k3 : what = 3 → Po (some (v_i (M 50 30))) Lam M) (k4 : what = 4 → Po (some (v_i (M 50 44))) Lam M) (k5 : what = 5 → Po (some (v_i (M 50 45))) Lam M) (k6 : what = 6 → Po (some (v_i (M 50 48))) Lam M) (k7 : what = 7 → Po (some (v_i (M 50 31))) Lam M) (k8 : what = 8 → Po (some (v_i (M 50 29))) Lam M) (k9 : (what < 0 ∨ 8 < what) → Po (some (v_i (-1))) Lam M) : mm_E X d 0 0 mi_X10_count [v_r 50, v_i what] Po Lam M := by
  show mm_G X d 0 0 mi_X10_count Po 0 [(0, v_r 50), (1, v_i what)] [] Lam M 0 0
  refine mm_iload_n (mm_dc od_X10_count_0 0 rfl) rfl ?_
  have sw1 : (what < 0 ∨ 8 < what) ∨ what = 0 ∨ what = 1 ∨ what = 2 ∨ what = 3 ∨ what = 4 ∨ what = 5 ∨ what = 6 ∨ what = 7 ∨ what = 8 := by omega
  rcases sw1 with sw1 | sw1 | sw1 | sw1 | sw1 | sw1 | sw1 | sw1 | sw1 | sw1
  · refine mm_tabOut 97 (mm_dc od_X10_count_0 1 rfl) (by first | assumption | omega | exact hr _ _ rfl | exact mm_r3264 (hr _ _ rfl)) sw1 (by omega) ?_
    refine mm_iconst (mm_dc od_X10_count_0 29 rfl) ?_
    refine mm_iret (mm_dc od_X10_count_0 30 rfl) rfl ?_
    first | exact k9 (by first | assumption | omega) | (exfalso; omega)
  · refine mm_tabIn (off := 51) 52 (mm_dc od_X10_count_0 1 rfl) (by first | assumption | omega | exact hr _ _ rfl | exact mm_r3264 (hr _ _ rfl)) (by omega) (by omega) (by rw [sw1]; rfl) (by omega) ?_
    refine mm_aload_n (mm_dc od_X10_count_0 2 rfl) rfl ?_
    refine mm_getI (ci := 10) (k := 10) (mm_dc od_X10_count_0 3 rfl) rfl in_X10 (by decide) wd_4_122 rfl rfl ?_
    refine mm_iret (mm_dc od_X10_count_0 4 rfl) rfl ?_
    first | exact k0 (by first | assumption | omega) | exact mm_pm (by omega) rfl (k0 (by first | assumption | omega)) | exact k1 (by first | assumption | omega) | exact mm_pm (by omega) rfl (k1 (by first | assumption | omega)) | exact k2 (by first | assumption | omega) | exact mm_pm (by omega) rfl (k2 (by first | assumption | omega)) | exact k3 (by first | assumption | omega) | exact mm_pm (by omega) rfl (k3 (by first | assumption | omega)) | exact k4 (by first | assumption | omega) | exact mm_pm (by omega) rfl (k4 (by first | assumption | omega)) | exact k5 (by first | assumption | omega) | exact mm_pm (by omega) rfl (k5 (by first | assumption | omega)) | exact k6 (by first | assumption | omega) | exact mm_pm (by omega) rfl (k6 (by first | assumption | omega)) | exact k7 (by first | assumption | omega) | exact mm_pm (by omega) rfl (k7 (by first | assumption | omega)) | exact k8 (by first | assumption | omega) | exact mm_pm (by omega) rfl (k8 (by first | assumption | omega)) | (exfalso; omega)
  · refine mm_tabIn (off := 56) 57 (mm_dc od_X10_count_0 1 rfl) (by first | assumption | omega | exact hr _ _ rfl | exact mm_r3264 (hr _ _ rfl)) (by omega) (by omega) (by rw [sw1]; rfl) (by omega) ?_
    refine mm_aload_n (mm_dc od_X10_count_0 5 rfl) rfl ?_
    refine mm_getI (ci := 10) (k := 11) (mm_dc od_X10_count_0 6 rfl) rfl in_X10 (by decide) wd_4_123 rfl rfl ?_
    refine mm_iret (mm_dc od_X10_count_0 7 rfl) rfl ?_
    first | exact k0 (by first | assumption | omega) | exact mm_pm (by omega) rfl (k0 (by first | assumption | omega)) | exact k1 (by first | assumption | omega) | exact mm_pm (by omega) rfl (k1 (by first | assumption | omega)) | exact k2 (by first | assumption | omega) | exact mm_pm (by omega) rfl (k2 (by first | assumption | omega)) | exact k3 (by first | assumption | omega) | exact mm_pm (by omega) rfl (k3 (by first | assumption | omega)) | exact k4 (by first | assumption | omega) | exact mm_pm (by omega) rfl (k4 (by first | assumption | omega)) | exact k5 (by first | assumption | omega) | exact mm_pm (by omega) rfl (k5 (by first | assumption | omega)) | exact k6 (by first | assumption | omega) | exact mm_pm (by omega) rfl (k6 (by first | assumption | omega)) | exact k7 (by first | assumption | omega) | exact mm_pm (by omega) rfl (k7 (by first | assumption | omega)) | exact k8 (by first | assumption | omega) | exact mm_pm (by omega) rfl (k8 (by first | assumption | omega)) | (exfalso; omega)
  · refine mm_tabIn (off := 61) 62 (mm_dc od_X10_count_0 1 rfl) (by first | assumption | omega | exact hr _ _ rfl | exact mm_r3264 (hr _ _ rfl)) (by omega) (by omega) (by rw [sw1]; rfl) (by omega) ?_
    refine mm_aload_n (mm_dc od_X10_count_0 8 rfl) rfl ?_
    refine mm_getI (ci := 10) (k := 16) (mm_dc od_X10_count_0 9 rfl) rfl in_X10 (by decide) wd_4_128 rfl rfl ?_
    refine mm_iret (mm_dc od_X10_count_0 10 rfl) rfl ?_
    first | exact k0 (by first | assumption | omega) | exact mm_pm (by omega) rfl (k0 (by first | assumption | omega)) | exact k1 (by first | assumption | omega) | exact mm_pm (by omega) rfl (k1 (by first | assumption | omega)) | exact k2 (by first | assumption | omega) | exact mm_pm (by omega) rfl (k2 (by first | assumption | omega)) | exact k3 (by first | assumption | omega) | exact mm_pm (by omega) rfl (k3 (by first | assumption | omega)) | exact k4 (by first | assumption | omega) | exact mm_pm (by omega) rfl (k4 (by first | assumption | omega)) | exact k5 (by first | assumption | omega) | exact mm_pm (by omega) rfl (k5 (by first | assumption | omega)) | exact k6 (by first | assumption | omega) | exact mm_pm (by omega) rfl (k6 (by first | assumption | omega)) | exact k7 (by first | assumption | omega) | exact mm_pm (by omega) rfl (k7 (by first | assumption | omega)) | exact k8 (by first | assumption | omega) | exact mm_pm (by omega) rfl (k8 (by first | assumption | omega)) | (exfalso; omega)
  · refine mm_tabIn (off := 66) 67 (mm_dc od_X10_count_0 1 rfl) (by first | assumption | omega | exact hr _ _ rfl | exact mm_r3264 (hr _ _ rfl)) (by omega) (by omega) (by rw [sw1]; rfl) (by omega) ?_
    refine mm_aload_n (mm_dc od_X10_count_0 11 rfl) rfl ?_
    refine mm_getI (ci := 10) (k := 30) (mm_dc od_X10_count_0 12 rfl) rfl in_X10 (by decide) wd_4_142 rfl rfl ?_
    refine mm_iret (mm_dc od_X10_count_0 13 rfl) rfl ?_
    first | exact k0 (by first | assumption | omega) | exact mm_pm (by omega) rfl (k0 (by first | assumption | omega)) | exact k1 (by first | assumption | omega) | exact mm_pm (by omega) rfl (k1 (by first | assumption | omega)) | exact k2 (by first | assumption | omega) | exact mm_pm (by omega) rfl (k2 (by first | assumption | omega)) | exact k3 (by first | assumption | omega) | exact mm_pm (by omega) rfl (k3 (by first | assumption | omega)) | exact k4 (by first | assumption | omega) | exact mm_pm (by omega) rfl (k4 (by first | assumption | omega)) | exact k5 (by first | assumption | omega) | exact mm_pm (by omega) rfl (k5 (by first | assumption | omega)) | exact k6 (by first | assumption | omega) | exact mm_pm (by omega) rfl (k6 (by first | assumption | omega)) | exact k7 (by first | assumption | omega) | exact mm_pm (by omega) rfl (k7 (by first | assumption | omega)) | exact k8 (by first | assumption | omega) | exact mm_pm (by omega) rfl (k8 (by first | assumption | omega)) | (exfalso; omega)
  · refine mm_tabIn (off := 71) 72 (mm_dc od_X10_count_0 1 rfl) (by first | assumption | omega | exact hr _ _ rfl | exact mm_r3264 (hr _ _ rfl)) (by omega) (by omega) (by rw [sw1]; rfl) (by omega) ?_
    refine mm_aload_n (mm_dc od_X10_count_0 14 rfl) rfl ?_
    refine mm_getI (ci := 10) (k := 44) (mm_dc od_X10_count_0 15 rfl) rfl in_X10 (by decide) wd_4_156 rfl rfl ?_
    refine mm_iret (mm_dc od_X10_count_0 16 rfl) rfl ?_
    first | exact k0 (by first | assumption | omega) | exact mm_pm (by omega) rfl (k0 (by first | assumption | omega)) | exact k1 (by first | assumption | omega) | exact mm_pm (by omega) rfl (k1 (by first | assumption | omega)) | exact k2 (by first | assumption | omega) | exact mm_pm (by omega) rfl (k2 (by first | assumption | omega)) | exact k3 (by first | assumption | omega) | exact mm_pm (by omega) rfl (k3 (by first | assumption | omega)) | exact k4 (by first | assumption | omega) | exact mm_pm (by omega) rfl (k4 (by first | assumption | omega)) | exact k5 (by first | assumption | omega) | exact mm_pm (by omega) rfl (k5 (by first | assumption | omega)) | exact k6 (by first | assumption | omega) | exact mm_pm (by omega) rfl (k6 (by first | assumption | omega)) | exact k7 (by first | assumption | omega) | exact mm_pm (by omega) rfl (k7 (by first | assumption | omega)) | exact k8 (by first | assumption | omega) | exact mm_pm (by omega) rfl (k8 (by first | assumption | omega)) | (exfalso; omega)
  · refine mm_tabIn (off := 76) 77 (mm_dc od_X10_count_0 1 rfl) (by first | assumption | omega | exact hr _ _ rfl | exact mm_r3264 (hr _ _ rfl)) (by omega) (by omega) (by rw [sw1]; rfl) (by omega) ?_
    refine mm_aload_n (mm_dc od_X10_count_0 17 rfl) rfl ?_
    refine mm_getI (ci := 10) (k := 45) (mm_dc od_X10_count_0 18 rfl) rfl in_X10 (by decide) wd_4_157 rfl rfl ?_
    refine mm_iret (mm_dc od_X10_count_0 19 rfl) rfl ?_
    first | exact k0 (by first | assumption | omega) | exact mm_pm (by omega) rfl (k0 (by first | assumption | omega)) | exact k1 (by first | assumption | omega) | exact mm_pm (by omega) rfl (k1 (by first | assumption | omega)) | exact k2 (by first | assumption | omega) | exact mm_pm (by omega) rfl (k2 (by first | assumption | omega)) | exact k3 (by first | assumption | omega) | exact mm_pm (by omega) rfl (k3 (by first | assumption | omega)) | exact k4 (by first | assumption | omega) | exact mm_pm (by omega) rfl (k4 (by first | assumption | omega)) | exact k5 (by first | assumption | omega) | exact mm_pm (by omega) rfl (k5 (by first | assumption | omega)) | exact k6 (by first | assumption | omega) | exact mm_pm (by omega) rfl (k6 (by first | assumption | omega)) | exact k7 (by first | assumption | omega) | exact mm_pm (by omega) rfl (k7 (by first | assumption | omega)) | exact k8 (by first | assumption | omega) | exact mm_pm (by omega) rfl (k8 (by first | assumption | omega)) | (exfalso; omega)
  · refine mm_tabIn (off := 81) 82 (mm_dc od_X10_count_0 1 rfl) (by first | assumption | omega | exact hr _ _ rfl | exact mm_r3264 (hr _ _ rfl)) (by omega) (by omega) (by rw [sw1]; rfl) (by omega) ?_
    refine mm_aload_n (mm_dc od_X10_count_0 20 rfl) rfl ?_
    refine mm_getI (ci := 10) (k := 48) (mm_dc od_X10_count_0 21 rfl) rfl in_X10 (by decide) wd_4_160 rfl rfl ?_
    refine mm_iret (mm_dc od_X10_count_0 22 rfl) rfl ?_
    first | exact k0 (by first | assumption | omega) | exact mm_pm (by omega) rfl (k0 (by first | assumption | omega)) | exact k1 (by first | assumption | omega) | exact mm_pm (by omega) rfl (k1 (by first | assumption | omega)) | exact k2 (by first | assumption | omega) | exact mm_pm (by omega) rfl (k2 (by first | assumption | omega)) | exact k3 (by first | assumption | omega) | exact mm_pm (by omega) rfl (k3 (by first | assumption | omega)) | exact k4 (by first | assumption | omega) | exact mm_pm (by omega) rfl (k4 (by first | assumption | omega)) | exact k5 (by first | assumption | omega) | exact mm_pm (by omega) rfl (k5 (by first | assumption | omega)) | exact k6 (by first | assumption | omega) | exact mm_pm (by omega) rfl (k6 (by first | assumption | omega)) | exact k7 (by first | assumption | omega) | exact mm_pm (by omega) rfl (k7 (by first | assumption | omega)) | exact k8 (by first | assumption | omega) | exact mm_pm (by omega) rfl (k8 (by first | assumption | omega)) | (exfalso; omega)
  · refine mm_tabIn (off := 86) 87 (mm_dc od_X10_count_0 1 rfl) (by first | assumption | omega | exact hr _ _ rfl | exact mm_r3264 (hr _ _ rfl)) (by omega) (by omega) (by rw [sw1]; rfl) (by omega) ?_
    refine mm_aload_n (mm_dc od_X10_count_0 23 rfl) rfl ?_
    refine mm_getI (ci := 10) (k := 31) (mm_dc od_X10_count_0 24 rfl) rfl in_X10 (by decide) wd_4_143 rfl rfl ?_
    refine mm_iret (mm_dc od_X10_count_0 25 rfl) rfl ?_
    first | exact k0 (by first | assumption | omega) | exact mm_pm (by omega) rfl (k0 (by first | assumption | omega)) | exact k1 (by first | assumption | omega) | exact mm_pm (by omega) rfl (k1 (by first | assumption | omega)) | exact k2 (by first | assumption | omega) | exact mm_pm (by omega) rfl (k2 (by first | assumption | omega)) | exact k3 (by first | assumption | omega) | exact mm_pm (by omega) rfl (k3 (by first | assumption | omega)) | exact k4 (by first | assumption | omega) | exact mm_pm (by omega) rfl (k4 (by first | assumption | omega)) | exact k5 (by first | assumption | omega) | exact mm_pm (by omega) rfl (k5 (by first | assumption | omega)) | exact k6 (by first | assumption | omega) | exact mm_pm (by omega) rfl (k6 (by first | assumption | omega)) | exact k7 (by first | assumption | omega) | exact mm_pm (by omega) rfl (k7 (by first | assumption | omega)) | exact k8 (by first | assumption | omega) | exact mm_pm (by omega) rfl (k8 (by first | assumption | omega)) | (exfalso; omega)
  · refine mm_tabIn (off := 91) 92 (mm_dc od_X10_count_0 1 rfl) (by first | assumption | omega | exact hr _ _ rfl | exact mm_r3264 (hr _ _ rfl)) (by omega) (by omega) (by rw [sw1]; rfl) (by omega) ?_
    refine mm_aload_n (mm_dc od_X10_count_0 26 rfl) rfl ?_
    refine mm_getI (ci := 10) (k := 29) (mm_dc od_X10_count_0 27 rfl) rfl in_X10 (by decide) wd_4_141 rfl rfl ?_
    refine mm_iret (mm_dc od_X10_count_0 28 rfl) rfl ?_
    first | exact k0 (by first | assumption | omega) | exact mm_pm (by omega) rfl (k0 (by first | assumption | omega)) | exact k1 (by first | assumption | omega) | exact mm_pm (by omega) rfl (k1 (by first | assumption | omega)) | exact k2 (by first | assumption | omega) | exact mm_pm (by omega) rfl (k2 (by first | assumption | omega)) | exact k3 (by first | assumption | omega) | exact mm_pm (by omega) rfl (k3 (by first | assumption | omega)) | exact k4 (by first | assumption | omega) | exact mm_pm (by omega) rfl (k4 (by first | assumption | omega)) | exact k5 (by first | assumption | omega) | exact mm_pm (by omega) rfl (k5 (by first | assumption | omega)) | exact k6 (by first | assumption | omega) | exact mm_pm (by omega) rfl (k6 (by first | assumption | omega)) | exact k7 (by first | assumption | omega) | exact mm_pm (by omega) rfl (k7 (by first | assumption | omega)) | exact k8 (by first | assumption | omega) | exact mm_pm (by omega) rfl (k8 (by first | assumption | omega)) | (exfalso; omega)
