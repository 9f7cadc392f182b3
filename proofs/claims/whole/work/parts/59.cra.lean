/-! crews: what the class weighs -/
def fr3 (M N : mm_M) : Prop := R32 N ∧ ∀ i, ¬ (18 ≤ i ∧ i ≤ 20) → N i = M i
theorem fr3_0 {M : mm_M} (h : R32 M) : fr3 M M := ⟨h, fun _ _ => rfl⟩
theorem fr3_t {A B C : mm_M} (h : fr3 A B) (h2 : fr3 B C) : fr3 A C := ⟨h2.1, fun i hi => by rw [h2.2 i hi, h.2 i hi]⟩
theorem fr3_up {B M : mm_M} {c k : Nat} {v : Int} (h : fr3 B M) (hc : 18 ≤ c ∧ c ≤ 20) (hv : mm_r32 v) : fr3 B (mm_up M c k v) :=
  ⟨R32_up h.1 hv, fun i hi => by rw [← h.2 i hi]; exact mm_up_ne (by omega)⟩
theorem fr3_J {M N : mm_M} (h : fr3 M N) : (JO M → JO N) ∧ (JB M → JB N) := by
  have h1 := h.2 1 (by omega); have h2 := h.2 2 (by omega); have h3 := h.2 3 (by omega); have h4 := h.2 4 (by omega); have h5 := h.2 5 (by omega); have h6 := h.2 6 (by omega); have h7 := h.2 7 (by omega); have h8 := h.2 8 (by omega); have h9 := h.2 9 (by omega)
  constructor
  · unfold JO; rw [h1, h2, h3, h4, h5]; exact id
  · unfold JB; rw [h1, h6, h7, h8, h9]; exact id
theorem mm_disl_r (j : Nat) : 0 ≤ mm_disl j ∧ mm_disl j ≤ 3 := by
  by_cases h : j < 15
  · exact (show ∀ j : Nat, j < 15 → 0 ≤ mm_disl j ∧ mm_disl j ≤ 3 by decide) j h
  · unfold mm_disl
    rw [List.getD_eq_getElem?_getD, List.getElem?_eq_none (by simp; omega)]
    decide
def sideQ (kb s : Int) : Int := if kb ≤ 2 then s % 2 else 2
def dislX (M : mm_M) (b o s : Int) : Int := mm_disl (Int.toNat (3 * M 2 o.toNat + sideQ (M 6 b.toNat) s))
def priX (M : mm_M) (b o s : Int) : Int := (if M 5 o.toNat = 10 * b + s then 0 else if M 5 o.toNat ≠ -1 ∧ M 5 o.toNat / 10 = b then 4 else 5) + dislX M b o s
theorem priX_r (M : mm_M) (b o s : Int) : 0 ≤ priX M b o s ∧ priX M b o s ≤ 8 := by
  have := mm_disl_r (Int.toNat (3 * M 2 o.toNat + sideQ (M 6 b.toNat) s))
  unfold priX dislX
  split
  · omega
  · split <;> omega
def freeX (M : mm_M) (b hour o : Int) : Prop := (M 4 o.toNat = 0 ∧ (M 2 o.toNat ≠ 4 ∨ 7 ≤ hour)) ∧ ¬ (M 5 o.toNat ≠ -1 ∧ M 5 o.toNat % 10 = 8) ∧ (M 5 o.toNat = -1 ∨ (M 5 o.toNat ≠ -1 ∧ M 5 o.toNat / 10 = b))
theorem fr3_p {M N : mm_M} (h : fr3 M N) : freeX N = freeX M ∧ priX N = priX M := by
  have h2 := h.2 2 (by omega); have h4 := h.2 4 (by omega); have h5 := h.2 5 (by omega); have h6 := h.2 6 (by omega)
  constructor
  · funext b hour o; unfold freeX; rw [h2, h4, h5]
  · funext b o s; unfold priX dislX; rw [h2, h5, h6]
theorem c_X0_dislike {X : Nat × (Nat → Int)} {d : Nat} {Po : mm_Po} {M : mm_M} (o : Int) (b : Int) (s : Int) (ho : 0 ≤ o ∧ o < M 1 0) (hb : 0 ≤ b ∧ b < M 1 5) (hs : 0 ≤ s ∧ s < 8) (hJo : JO M) (hJb : JB M) (hr : R32 M) (k : Po (some (v_i (dislX M b o s))) Lam M) : mm_E X d 0 0 mi_X0_dislike [v_r 1, v_i o, v_i b, v_i s] Po Lam M := by
  show mm_G X d 0 0 mi_X0_dislike Po 0 [(0, v_r 1), (1, v_i o), (2, v_i b), (3, v_i s)] [] Lam M 0 0
  have hJo2 := hJo
  obtain ⟨ho0, ho16, hO⟩ := hJo2
  have hJb2 := hJb
  obtain ⟨hb0, hb8, hB⟩ := hJb2
  have hO1 := hO o.toNat (by omega)
  have hB1 := hB b.toNat (by omega)
  have es : Int.tmod s 2 = s % 2 := Int.tmod_eq_emod_of_nonneg hs.1
  refine mm_aload_n (mm_dc od_X0_dislike_0 0 rfl) rfl ?_
  refine mm_getR (ci := 0) (k := 6) (mm_dc od_X0_dislike_0 1 rfl) rfl in_X0 (by decide) wd_1_48 rfl rfl ?_
  refine mm_iload_n (mm_dc od_X0_dislike_0 2 rfl) rfl ?_
  refine mm_iald (mm_dc od_X0_dislike_0 3 rfl) rfl (by first | assumption | omega | exact hr _ _ rfl | exact mm_ti _ | exact mm_r3264 (hr _ _ rfl)) (by first | assumption | omega | exact hr _ _ rfl | exact mm_ti _ | exact mm_r3264 (hr _ _ rfl)) (by decide) ?_
  refine mm_iconst (mm_dc od_X0_dislike_0 4 rfl) ?_
  refine mm_icmp_gt 14 (mm_dc od_X0_dislike_0 5 rfl) (by omega) (by first | assumption | omega | exact hr _ _ rfl | exact mm_ti _ | exact mm_r3264 (hr _ _ rfl)) (by first | assumption | omega | exact hr _ _ rfl | exact mm_ti _ | exact mm_r3264 (hr _ _ rfl)) (fun c1 => ?_) (fun c1 => ?_)
  · refine mm_iconst (mm_dc od_X0_dislike_0 8 rfl) ?_
    refine mm_istore (L' := [(0, v_r 1), (1, v_i o), (2, v_i b), (3, v_i s), (4, v_i 0)]) (mm_dc od_X0_dislike_0 9 rfl) (by decide) rfl ?_
    refine mm_iload (mm_dc od_X0_dislike_0 10 rfl) rfl ?_
    refine mm_if_eq 28 (mm_dc od_X0_dislike_0 11 rfl) (by omega) (by first | assumption | omega | exact hr _ _ rfl | exact mm_ti _ | exact mm_r3264 (hr _ _ rfl)) (fun _ => ?_) (fun h => absurd h (by decide))
    refine mm_iconst (mm_dc od_X0_dislike_0 16 rfl) ?_
    refine mm_istore (L' := [(0, v_r 1), (1, v_i o), (2, v_i b), (3, v_i s), (4, v_i 0), (5, v_i 2)]) (mm_dc od_X0_dislike_0 17 rfl) (by decide) rfl ?_
    refine mm_getS1 (mm_dc od_X0_dislike_0 18 rfl) wd_3_49 ?_
    refine mm_iconst (mm_dc od_X0_dislike_0 19 rfl) ?_
    refine mm_aload_n (mm_dc od_X0_dislike_0 20 rfl) rfl ?_
    refine mm_getR (ci := 0) (k := 1) (mm_dc od_X0_dislike_0 21 rfl) rfl in_X0 (by decide) wd_1_37 rfl rfl ?_
    refine mm_iload_n (mm_dc od_X0_dislike_0 22 rfl) rfl ?_
    refine mm_iald (mm_dc od_X0_dislike_0 23 rfl) rfl (by first | assumption | omega | exact hr _ _ rfl | exact mm_ti _ | exact mm_r3264 (hr _ _ rfl)) (by first | assumption | omega | exact hr _ _ rfl | exact mm_ti _ | exact mm_r3264 (hr _ _ rfl)) (by decide) ?_
    refine mm_imul (mm_dc od_X0_dislike_0 24 rfl) ?_
    refine mm_iload (mm_dc od_X0_dislike_0 25 rfl) rfl ?_
    refine mm_iadd (mm_dc od_X0_dislike_0 26 rfl) ?_
    refine mm_ald1 (mm_dc od_X0_dislike_0 27 rfl) (by first | assumption | omega | exact hr _ _ rfl | exact mm_ti _ | exact mm_r3264 (hr _ _ rfl)) (by first | assumption | omega | exact hr _ _ rfl | exact mm_ti _ | exact mm_r3264 (hr _ _ rfl)) ?_
    refine mm_iret (mm_dc od_X0_dislike_0 28 rfl) rfl ?_
    exact mm_pi (by unfold dislX sideQ; first | rw [if_pos (by omega), ← es] | rw [if_neg (by omega)]) k
  · refine mm_iconst (mm_dc od_X0_dislike_0 6 rfl) ?_
    refine mm_goto 15 (mm_dc od_X0_dislike_0 7 rfl) (by omega) ?_
    refine mm_istore (L' := [(0, v_r 1), (1, v_i o), (2, v_i b), (3, v_i s), (4, v_i 1)]) (mm_dc od_X0_dislike_0 9 rfl) (by decide) rfl ?_
    refine mm_iload (mm_dc od_X0_dislike_0 10 rfl) rfl ?_
    refine mm_if_eq 28 (mm_dc od_X0_dislike_0 11 rfl) (by omega) (by first | assumption | omega | exact hr _ _ rfl | exact mm_ti _ | exact mm_r3264 (hr _ _ rfl)) (fun h => absurd h (by decide)) (fun _ => ?_)
    refine mm_iload_n (mm_dc od_X0_dislike_0 12 rfl) rfl ?_
    refine mm_iconst (mm_dc od_X0_dislike_0 13 rfl) ?_
    refine mm_irem (mm_dc od_X0_dislike_0 14 rfl) (by first | assumption | omega | exact hr _ _ rfl | exact mm_ti _ | exact mm_r3264 (hr _ _ rfl)) (by first | assumption | omega | exact hr _ _ rfl | exact mm_ti _ | exact mm_r3264 (hr _ _ rfl)) (by first | assumption | omega | exact hr _ _ rfl | exact mm_ti _ | exact mm_r3264 (hr _ _ rfl)) ?_
    refine mm_goto 29 (mm_dc od_X0_dislike_0 15 rfl) (by omega) ?_
    refine mm_istore (L' := [(0, v_r 1), (1, v_i o), (2, v_i b), (3, v_i s), (4, v_i 1), (5, v_i (Int.tmod s 2))]) (mm_dc od_X0_dislike_0 17 rfl) (by decide) rfl ?_
    refine mm_getS1 (mm_dc od_X0_dislike_0 18 rfl) wd_3_49 ?_
    refine mm_iconst (mm_dc od_X0_dislike_0 19 rfl) ?_
    refine mm_aload_n (mm_dc od_X0_dislike_0 20 rfl) rfl ?_
    refine mm_getR (ci := 0) (k := 1) (mm_dc od_X0_dislike_0 21 rfl) rfl in_X0 (by decide) wd_1_37 rfl rfl ?_
    refine mm_iload_n (mm_dc od_X0_dislike_0 22 rfl) rfl ?_
    refine mm_iald (mm_dc od_X0_dislike_0 23 rfl) rfl (by first | assumption | omega | exact hr _ _ rfl | exact mm_ti _ | exact mm_r3264 (hr _ _ rfl)) (by first | assumption | omega | exact hr _ _ rfl | exact mm_ti _ | exact mm_r3264 (hr _ _ rfl)) (by decide) ?_
    refine mm_imul (mm_dc od_X0_dislike_0 24 rfl) ?_
    refine mm_iload (mm_dc od_X0_dislike_0 25 rfl) rfl ?_
    refine mm_iadd (mm_dc od_X0_dislike_0 26 rfl) ?_
    refine mm_ald1 (mm_dc od_X0_dislike_0 27 rfl) (by first | assumption | omega | exact hr _ _ rfl | exact mm_ti _ | exact mm_r3264 (hr _ _ rfl)) (by first | assumption | omega | exact hr _ _ rfl | exact mm_ti _ | exact mm_r3264 (hr _ _ rfl)) ?_
    refine mm_iret (mm_dc od_X0_dislike_0 28 rfl) rfl ?_
    exact mm_pi (by unfold dislX sideQ; first | rw [if_pos (by omega), ← es] | rw [if_neg (by omega)]) k
theorem c_X1_isFree {X : Nat × (Nat → Int)} {d : Nat} {Po : mm_Po} {M : mm_M} (b : Int) (hour : Int) (o : Int) (hb : 0 ≤ b ∧ b < M 1 5) (hh : mm_r32 hour) (ho : 0 ≤ o ∧ o < M 1 0) (hJo : JO M) (hJb : JB M) (hr : R32 M) (kt : freeX M b hour o → Po (some (v_i 1)) Lam M) (kf : ¬ (freeX M b hour o) → Po (some (v_i 0)) Lam M) : mm_E X (d + 1) 0 0 mi_X1_isFree [v_r 1, v_i b, v_i hour, v_i o] Po Lam M := by
  show mm_G X (d + 1) 0 0 mi_X1_isFree Po 0 [(0, v_r 1), (1, v_i b), (2, v_i hour), (3, v_i o)] [] Lam M 0 0
  have hJo2 := hJo
  obtain ⟨ho0, ho16, hO⟩ := hJo2
  have hJb2 := hJb
  obtain ⟨hb0, hb8, hB⟩ := hJb2
  have hO1 := hO o.toNat (by omega)
  refine mm_aload_n (mm_dc od_X1_isFree_0 0 rfl) rfl ?_
  refine mm_iload_n (mm_dc od_X1_isFree_0 1 rfl) rfl ?_
  refine mm_iload_n (mm_dc od_X1_isFree_0 2 rfl) rfl ?_
  refine mm_callV (b := 1) (mi' := mi_X0_mayBeOut) [v_i o, v_i hour] [] (mm_dc od_X1_isFree_0 3 rfl) rfl wd_3_29 wd_3_30 wd_3_31 wd_1_2 wd_3_32 yk_X0_mayBeOut rfl rfl rfl (Nat.le_of_ble_eq_true rfl) rfl (by decide) (c_X0_mayBeOut o hour (by first | assumption | omega | exact hr _ _ rfl | exact mm_ti _ | exact mm_r3264 (hr _ _ rfl)) (by first | assumption | omega | exact hr _ _ rfl | exact mm_ti _ | exact mm_r3264 (hr _ _ rfl)) hJo (by first | assumption | omega | exact hr _ _ rfl | exact mm_ti _ | exact mm_r3264 (hr _ _ rfl)) (fun c1 => ⟨Nat.le_refl _, ?_⟩) (fun c1 => ⟨Nat.le_refl _, ?_⟩))
  · refine mm_if_eq 17 (mm_dc od_X1_isFree_0 4 rfl) (by omega) (by first | assumption | omega | exact hr _ _ rfl | exact mm_ti _ | exact mm_r3264 (hr _ _ rfl)) (fun h => absurd h (by decide)) (fun _ => ?_)
    refine mm_aload_n (mm_dc od_X1_isFree_0 5 rfl) rfl ?_
    refine mm_iload_n (mm_dc od_X1_isFree_0 6 rfl) rfl ?_
    refine mm_callV (b := 1) (mi' := mi_X0_isCox) [v_i o] [] (mm_dc od_X1_isFree_0 7 rfl) rfl wd_3_33 wd_3_34 wd_3_35 wd_1_2 wd_3_36 yk_X0_isCox rfl rfl rfl (Nat.le_of_ble_eq_true rfl) rfl (by decide) (c_X0_isCox o (by first | assumption | omega | exact hr _ _ rfl | exact mm_ti _ | exact mm_r3264 (hr _ _ rfl)) hJo (by first | assumption | omega | exact hr _ _ rfl | exact mm_ti _ | exact mm_r3264 (hr _ _ rfl)) (fun c2 => ⟨Nat.le_refl _, ?_⟩) (fun c2 => ⟨Nat.le_refl _, ?_⟩))
    · refine mm_if_eq 19 (mm_dc od_X1_isFree_0 8 rfl) (by omega) (by first | assumption | omega | exact hr _ _ rfl | exact mm_ti _ | exact mm_r3264 (hr _ _ rfl)) (fun h => absurd h (by decide)) (fun _ => ?_)
      refine mm_iconst (mm_dc od_X1_isFree_0 9 rfl) ?_
      refine mm_zret .boolean (mm_dc od_X1_isFree_0 10 rfl) rfl rfl ?_
      exact kf (by unfold freeX; omega)
    · refine mm_if_eq 19 (mm_dc od_X1_isFree_0 8 rfl) (by omega) (by first | assumption | omega | exact hr _ _ rfl | exact mm_ti _ | exact mm_r3264 (hr _ _ rfl)) (fun _ => ?_) (fun h => absurd h (by decide))
      refine mm_aload_n (mm_dc od_X1_isFree_0 11 rfl) rfl ?_
      refine mm_getR (ci := 0) (k := 4) (mm_dc od_X1_isFree_0 12 rfl) rfl in_X0 (by decide) wd_1_44 rfl rfl ?_
      refine mm_iload_n (mm_dc od_X1_isFree_0 13 rfl) rfl ?_
      refine mm_iald (mm_dc od_X1_isFree_0 14 rfl) rfl (by first | assumption | omega | exact hr _ _ rfl | exact mm_ti _ | exact mm_r3264 (hr _ _ rfl)) (by first | assumption | omega | exact hr _ _ rfl | exact mm_ti _ | exact mm_r3264 (hr _ _ rfl)) (by decide) ?_
      refine mm_iconst (mm_dc od_X1_isFree_0 15 rfl) ?_
      refine mm_icmp_eq 38 (mm_dc od_X1_isFree_0 16 rfl) (by omega) (by first | assumption | omega | exact hr _ _ rfl | exact mm_ti _ | exact mm_r3264 (hr _ _ rfl)) (by first | assumption | omega | exact hr _ _ rfl | exact mm_ti _ | exact mm_r3264 (hr _ _ rfl)) (fun c3 => ?_) (fun c3 => ?_)
      · refine mm_iconst (mm_dc od_X1_isFree_0 22 rfl) ?_
        refine mm_goto 43 (mm_dc od_X1_isFree_0 23 rfl) (by omega) ?_
        refine mm_zret .boolean (mm_dc od_X1_isFree_0 25 rfl) rfl rfl ?_
        exact kt (by unfold freeX; omega)
      · refine mm_aload_n (mm_dc od_X1_isFree_0 17 rfl) rfl ?_
        refine mm_iload_n (mm_dc od_X1_isFree_0 18 rfl) rfl ?_
        refine mm_iload_n (mm_dc od_X1_isFree_0 19 rfl) rfl ?_
        refine mm_callV (b := 1) (mi' := mi_X0_sitsIn) [v_i o, v_i b] [] (mm_dc od_X1_isFree_0 20 rfl) rfl wd_3_37 wd_3_38 wd_3_39 wd_1_2 wd_3_40 yk_X0_sitsIn rfl rfl rfl (Nat.le_of_ble_eq_true rfl) rfl (by decide) (c_X0_sitsIn o b (by first | assumption | omega | exact hr _ _ rfl | exact mm_ti _ | exact mm_r3264 (hr _ _ rfl)) (by first | assumption | omega | exact hr _ _ rfl | exact mm_ti _ | exact mm_r3264 (hr _ _ rfl)) hJo (by first | assumption | omega | exact hr _ _ rfl | exact mm_ti _ | exact mm_r3264 (hr _ _ rfl)) (fun c4 => ⟨Nat.le_refl _, ?_⟩) (fun c4 => ⟨Nat.le_refl _, ?_⟩))
        · refine mm_if_eq 42 (mm_dc od_X1_isFree_0 21 rfl) (by omega) (by first | assumption | omega | exact hr _ _ rfl | exact mm_ti _ | exact mm_r3264 (hr _ _ rfl)) (fun h => absurd h (by decide)) (fun _ => ?_)
          refine mm_iconst (mm_dc od_X1_isFree_0 22 rfl) ?_
          refine mm_goto 43 (mm_dc od_X1_isFree_0 23 rfl) (by omega) ?_
          refine mm_zret .boolean (mm_dc od_X1_isFree_0 25 rfl) rfl rfl ?_
          exact kt (by unfold freeX; omega)
        · refine mm_if_eq 42 (mm_dc od_X1_isFree_0 21 rfl) (by omega) (by first | assumption | omega | exact hr _ _ rfl | exact mm_ti _ | exact mm_r3264 (hr _ _ rfl)) (fun _ => ?_) (fun h => absurd h (by decide))
          refine mm_iconst (mm_dc od_X1_isFree_0 24 rfl) ?_
          refine mm_zret .boolean (mm_dc od_X1_isFree_0 25 rfl) rfl rfl ?_
          exact kf (by unfold freeX; omega)
  · refine mm_if_eq 17 (mm_dc od_X1_isFree_0 4 rfl) (by omega) (by first | assumption | omega | exact hr _ _ rfl | exact mm_ti _ | exact mm_r3264 (hr _ _ rfl)) (fun _ => ?_) (fun h => absurd h (by decide))
    refine mm_iconst (mm_dc od_X1_isFree_0 9 rfl) ?_
    refine mm_zret .boolean (mm_dc od_X1_isFree_0 10 rfl) rfl rfl ?_
    exact kf (by unfold freeX; omega)
theorem L_setP {X : Nat × (Nat → Int)} {d : Nat} {Po : mm_Po} {M : mm_M} {B : mm_M} (b o : Int) (hbB : 0 ≤ b ∧ b < B 1 5) (hoB : 0 ≤ o ∧ o < B 1 0) (hJoB : JO B) (hJbB : JB B) (k : ∀ N : mm_M, (frm 19 B N ∧ ∀ s : Nat, (s : Int) < mm_seats (B 6 b.toNat).toNat → N 19 s = priX B b o s) → Po none Lam N) (mv : Int) (hmv : (mv = 4 ∧ (M 5 o.toNat ≠ -1 ∧ M 5 o.toNat / 10 = b)) ∨ (mv = 5 ∧ ¬ (M 5 o.toNat ≠ -1 ∧ M 5 o.toNat / 10 = b))) (j : Nat) (hf : frm 19 B M) (hp : ∀ s : Nat, s < j → M 19 s = priX B b o s) (hj : (j : Int) ≤ mm_seats (M 6 b.toNat).toNat) : mm_G X (d + 1) 0 0 mi_X1_setPrices Po 19 [(0, v_r 17), (1, v_r 1), (2, v_i b), (3, v_i o), (4, v_i mv), (5, v_i (j : Int))] [] Lam M 0 0 := by
  have hr := hf.1
  have hf3 : fr3 B M := ⟨hf.1, fun i hi => hf.2 i (by omega)⟩
  have hJo := (fr3_J hf3).1 hJoB
  have hJb := (fr3_J hf3).2 hJbB
  have h3p := (fr3_p hf3).2
  have h1 := hf.2 1 (by decide)
  have hb : 0 ≤ b ∧ b < M 1 5 := (by rw [h1]; exact hbB)
  have ho : 0 ≤ o ∧ o < M 1 0 := (by rw [h1]; exact hoB)
  have hJo2 := hJo
  obtain ⟨ho0, ho16, hO⟩ := hJo2
  have hJb2 := hJb
  obtain ⟨hb0, hb8, hB⟩ := hJb2
  have hO1 := hO o.toNat (by omega)
  have hB1 := hB b.toNat (by omega)
  have hse := mm_seats_le (M 6 b.toNat).toNat (by omega)
  have hdr := mm_disl_r (Int.toNat (3 * M 2 o.toNat + sideQ (M 6 b.toNat) j))
  refine mm_iload (mm_dc od_X1_setPrices_0 11 rfl) rfl ?_
  refine mm_aload_n (mm_dc od_X1_setPrices_0 12 rfl) rfl ?_
  refine mm_iload_n (mm_dc od_X1_setPrices_0 13 rfl) rfl ?_
  refine mm_callV (b := 1) (mi' := mi_X0_seats) [v_i b] [v_i (j : Int)] (mm_dc od_X1_setPrices_0 14 rfl) rfl wd_3_18 wd_2_120 wd_2_121 wd_1_2 wd_2_122 yk_X0_seats rfl rfl rfl (Nat.le_of_ble_eq_true rfl) rfl (by decide) (c_X0_seats b (by first | assumption | omega | exact hr _ _ rfl | exact mm_ti _ | exact mm_r3264 (hr _ _ rfl)) hJb (by first | assumption | omega | exact hr _ _ rfl | exact mm_ti _ | exact mm_r3264 (hr _ _ rfl)) ⟨Nat.le_refl _, ?_⟩)
  refine mm_icmp_ge 85 (mm_dc od_X1_setPrices_0 15 rfl) (by omega) (by first | assumption | omega | exact hr _ _ rfl | exact mm_ti _ | exact mm_r3264 (hr _ _ rfl)) (by first | assumption | omega | exact hr _ _ rfl | exact mm_ti _ | exact mm_r3264 (hr _ _ rfl)) (fun c1 => ?_) (fun c1 => ?_)
  · refine mm_ret (mm_dc od_X1_setPrices_0 47 rfl) rfl ?_
    exact k _ ⟨hf, fun s hs => hp s (by rw [← hf.2 6 (by decide)] at hs; omega)⟩
  · refine mm_aload_n (mm_dc od_X1_setPrices_0 16 rfl) rfl ?_
    refine mm_getR (ci := 0) (k := 4) (mm_dc od_X1_setPrices_0 17 rfl) rfl in_X0 (by decide) wd_1_44 rfl rfl ?_
    refine mm_iload_n (mm_dc od_X1_setPrices_0 18 rfl) rfl ?_
    refine mm_iald (mm_dc od_X1_setPrices_0 19 rfl) rfl (by first | assumption | omega | exact hr _ _ rfl | exact mm_ti _ | exact mm_r3264 (hr _ _ rfl)) (by first | assumption | omega | exact hr _ _ rfl | exact mm_ti _ | exact mm_r3264 (hr _ _ rfl)) (by decide) ?_
    refine mm_bipush (mm_dc od_X1_setPrices_0 20 rfl) (by decide) ?_
    refine mm_iload_n (mm_dc od_X1_setPrices_0 21 rfl) rfl ?_
    refine mm_imul (mm_dc od_X1_setPrices_0 22 rfl) ?_
    refine mm_iload (mm_dc od_X1_setPrices_0 23 rfl) rfl ?_
    refine mm_iadd (mm_dc od_X1_setPrices_0 24 rfl) ?_
    refine mm_icmp_ne 49 (mm_dc od_X1_setPrices_0 25 rfl) (by omega) (by first | assumption | omega | exact hr _ _ rfl | exact mm_ti _ | exact mm_r3264 (hr _ _ rfl)) (by first | assumption | omega | exact hr _ _ rfl | exact mm_ti _ | exact mm_r3264 (hr _ _ rfl)) (fun c2 => ?_) (fun c2 => ?_)
    · refine mm_iconst (mm_dc od_X1_setPrices_0 28 rfl) ?_
      refine mm_istore (L' := [(0, v_r 17), (1, v_r 1), (2, v_i b), (3, v_i o), (4, v_i mv), (5, v_i (j : Int)), (6, v_i 0)]) (mm_dc od_X1_setPrices_0 29 rfl) (by decide) rfl ?_
      refine mm_aload_n (mm_dc od_X1_setPrices_0 30 rfl) rfl ?_
      refine mm_getR (ci := 1) (k := 1) (mm_dc od_X1_setPrices_0 31 rfl) rfl in_X1 (by decide) wd_1_120 rfl rfl ?_
      refine mm_iload (mm_dc od_X1_setPrices_0 32 rfl) rfl ?_
      refine mm_iload (mm_dc od_X1_setPrices_0 33 rfl) rfl ?_
      refine mm_if_eq 67 (mm_dc od_X1_setPrices_0 34 rfl) (by omega) (by first | assumption | omega | exact hr _ _ rfl | exact mm_ti _ | exact mm_r3264 (hr _ _ rfl)) (fun _ => ?_) (fun h => absurd h (by decide))
      refine mm_iload (mm_dc od_X1_setPrices_0 37 rfl) rfl ?_
      refine mm_aload_n (mm_dc od_X1_setPrices_0 38 rfl) rfl ?_
      refine mm_iload_n (mm_dc od_X1_setPrices_0 39 rfl) rfl ?_
      refine mm_iload_n (mm_dc od_X1_setPrices_0 40 rfl) rfl ?_
      refine mm_iload (mm_dc od_X1_setPrices_0 41 rfl) rfl ?_
      refine mm_callV (b := 1) (mi' := mi_X0_dislike) [v_i o, v_i b, v_i (j : Int)] [v_i mv, v_i (j : Int), v_r 19] (mm_dc od_X1_setPrices_0 42 rfl) rfl wd_3_45 wd_3_46 wd_3_47 wd_1_2 wd_3_48 yk_X0_dislike rfl rfl rfl (Nat.le_of_ble_eq_true rfl) rfl (by decide) (c_X0_dislike o b (j : Int) (by first | assumption | omega | exact hr _ _ rfl | exact mm_ti _ | exact mm_r3264 (hr _ _ rfl)) (by first | assumption | omega | exact hr _ _ rfl | exact mm_ti _ | exact mm_r3264 (hr _ _ rfl)) (by first | assumption | omega | exact hr _ _ rfl | exact mm_ti _ | exact mm_r3264 (hr _ _ rfl)) hJo hJb (by first | assumption | omega | exact hr _ _ rfl | exact mm_ti _ | exact mm_r3264 (hr _ _ rfl)) ⟨Nat.le_refl _, ?_⟩)
      refine mm_iadd (mm_dc od_X1_setPrices_0 43 rfl) ?_
      refine mm_iast (mm_dc od_X1_setPrices_0 44 rfl) rfl (by first | assumption | omega | exact hr _ _ rfl | exact mm_ti _ | exact mm_r3264 (hr _ _ rfl)) (by first | assumption | omega | exact hr _ _ rfl | exact mm_ti _ | exact mm_r3264 (hr _ _ rfl)) (by decide) ?_
      refine mm_eqM (M' := mm_up M 19 j (mv + (dislX M b o (j : Int)))) rfl ?_
      refine mm_iinc (L' := [(0, v_r 17), (1, v_r 1), (2, v_i b), (3, v_i o), (4, v_i mv), (5, v_i ((j : Int) + 1)), (6, v_i 0)]) (mm_dc od_X1_setPrices_0 45 rfl) rfl (by decide) rfl ?_
      refine mm_goto 19 (mm_dc od_X1_setPrices_0 46 rfl) (by omega) ?_
      have hpj : priX M b o (j : Int) = (mv + (dislX M b o (j : Int))) := by unfold priX; first | rw [if_pos (by assumption)] | (rw [if_neg (by assumption)]; rcases hmv with ⟨e, q⟩ | ⟨e, q⟩; rw [if_pos q, e]; rw [if_neg q, e])
      refine mm_less [0, 1, 2, 3, 4, 5] rfl ?_
      exact L_setP (B := B) b o hbB hoB hJoB hJbB k mv (by first | exact hmv) (j + 1) (frm_up hf (by rw [← hpj]; have := priX_r M b o (j : Int); omega)) (fun s hs => by rw [mm_upa]; split; (next e => rw [e, ← hpj, h3p]); exact hp s (by omega)) (by show ((j + 1 : Nat) : Int) ≤ mm_seats (M 6 b.toNat).toNat; omega)
    · refine mm_iconst (mm_dc od_X1_setPrices_0 26 rfl) ?_
      refine mm_goto 50 (mm_dc od_X1_setPrices_0 27 rfl) (by omega) ?_
      refine mm_istore (L' := [(0, v_r 17), (1, v_r 1), (2, v_i b), (3, v_i o), (4, v_i mv), (5, v_i (j : Int)), (6, v_i 1)]) (mm_dc od_X1_setPrices_0 29 rfl) (by decide) rfl ?_
      refine mm_aload_n (mm_dc od_X1_setPrices_0 30 rfl) rfl ?_
      refine mm_getR (ci := 1) (k := 1) (mm_dc od_X1_setPrices_0 31 rfl) rfl in_X1 (by decide) wd_1_120 rfl rfl ?_
      refine mm_iload (mm_dc od_X1_setPrices_0 32 rfl) rfl ?_
      refine mm_iload (mm_dc od_X1_setPrices_0 33 rfl) rfl ?_
      refine mm_if_eq 67 (mm_dc od_X1_setPrices_0 34 rfl) (by omega) (by first | assumption | omega | exact hr _ _ rfl | exact mm_ti _ | exact mm_r3264 (hr _ _ rfl)) (fun h => absurd h (by decide)) (fun _ => ?_)
      refine mm_iconst (mm_dc od_X1_setPrices_0 35 rfl) ?_
      refine mm_goto 69 (mm_dc od_X1_setPrices_0 36 rfl) (by omega) ?_
      refine mm_aload_n (mm_dc od_X1_setPrices_0 38 rfl) rfl ?_
      refine mm_iload_n (mm_dc od_X1_setPrices_0 39 rfl) rfl ?_
      refine mm_iload_n (mm_dc od_X1_setPrices_0 40 rfl) rfl ?_
      refine mm_iload (mm_dc od_X1_setPrices_0 41 rfl) rfl ?_
      refine mm_callV (b := 1) (mi' := mi_X0_dislike) [v_i o, v_i b, v_i (j : Int)] [v_i 0, v_i (j : Int), v_r 19] (mm_dc od_X1_setPrices_0 42 rfl) rfl wd_3_45 wd_3_46 wd_3_47 wd_1_2 wd_3_48 yk_X0_dislike rfl rfl rfl (Nat.le_of_ble_eq_true rfl) rfl (by decide) (c_X0_dislike o b (j : Int) (by first | assumption | omega | exact hr _ _ rfl | exact mm_ti _ | exact mm_r3264 (hr _ _ rfl)) (by first | assumption | omega | exact hr _ _ rfl | exact mm_ti _ | exact mm_r3264 (hr _ _ rfl)) (by first | assumption | omega | exact hr _ _ rfl | exact mm_ti _ | exact mm_r3264 (hr _ _ rfl)) hJo hJb (by first | assumption | omega | exact hr _ _ rfl | exact mm_ti _ | exact mm_r3264 (hr _ _ rfl)) ⟨Nat.le_refl _, ?_⟩)
      refine mm_iadd (mm_dc od_X1_setPrices_0 43 rfl) ?_
      refine mm_iast (mm_dc od_X1_setPrices_0 44 rfl) rfl (by first | assumption | omega | exact hr _ _ rfl | exact mm_ti _ | exact mm_r3264 (hr _ _ rfl)) (by first | assumption | omega | exact hr _ _ rfl | exact mm_ti _ | exact mm_r3264 (hr _ _ rfl)) (by decide) ?_
      refine mm_eqM (M' := mm_up M 19 j (0 + (dislX M b o (j : Int)))) rfl ?_
      refine mm_iinc (L' := [(0, v_r 17), (1, v_r 1), (2, v_i b), (3, v_i o), (4, v_i mv), (5, v_i ((j : Int) + 1)), (6, v_i 1)]) (mm_dc od_X1_setPrices_0 45 rfl) rfl (by decide) rfl ?_
      refine mm_goto 19 (mm_dc od_X1_setPrices_0 46 rfl) (by omega) ?_
      have hpj : priX M b o (j : Int) = (0 + (dislX M b o (j : Int))) := by unfold priX; first | rw [if_pos (by assumption)] | (rw [if_neg (by assumption)]; rcases hmv with ⟨e, q⟩ | ⟨e, q⟩; rw [if_pos q, e]; rw [if_neg q, e])
      refine mm_less [0, 1, 2, 3, 4, 5] rfl ?_
      exact L_setP (B := B) b o hbB hoB hJoB hJbB k mv (by first | exact hmv) (j + 1) (frm_up hf (by rw [← hpj]; have := priX_r M b o (j : Int); omega)) (fun s hs => by rw [mm_upa]; split; (next e => rw [e, ← hpj, h3p]); exact hp s (by omega)) (by show ((j + 1 : Nat) : Int) ≤ mm_seats (M 6 b.toNat).toNat; omega)
termination_by 9 - j
decreasing_by all_goals (first | omega | (simp_wf; omega))
theorem c_X1_setPrices {X : Nat × (Nat → Int)} {d : Nat} {Po : mm_Po} {M : mm_M} (b : Int) (o : Int) (hb : 0 ≤ b ∧ b < M 1 5) (ho : 0 ≤ o ∧ o < M 1 0) (hJo : JO M) (hJb : JB M) (hr : R32 M) (k : ∀ N : mm_M, (frm 19 M N ∧ ∀ s : Nat, (s : Int) < mm_seats (M 6 b.toNat).toNat → N 19 s = priX M b o s) → Po none Lam N) : mm_E X (d + 1) 0 0 mi_X1_setPrices [v_r 17, v_r 1, v_i b, v_i o] Po Lam M := by
  show mm_G X (d + 1) 0 0 mi_X1_setPrices Po 0 [(0, v_r 17), (1, v_r 1), (2, v_i b), (3, v_i o)] [] Lam M 0 0
  have hJb2 := hJb
  obtain ⟨hb0, hb8, hB⟩ := hJb2
  have hB1 := hB b.toNat (by omega)
  have hse := mm_seats_le (M 6 b.toNat).toNat (by omega)
  refine mm_aload_n (mm_dc od_X1_setPrices_0 0 rfl) rfl ?_
  refine mm_iload_n (mm_dc od_X1_setPrices_0 1 rfl) rfl ?_
  refine mm_iload_n (mm_dc od_X1_setPrices_0 2 rfl) rfl ?_
  refine mm_callV (b := 1) (mi' := mi_X0_sitsIn) [v_i o, v_i b] [] (mm_dc od_X1_setPrices_0 3 rfl) rfl wd_3_37 wd_3_38 wd_3_39 wd_1_2 wd_3_40 yk_X0_sitsIn rfl rfl rfl (Nat.le_of_ble_eq_true rfl) rfl (by decide) (c_X0_sitsIn o b (by first | assumption | omega | exact hr _ _ rfl | exact mm_ti _ | exact mm_r3264 (hr _ _ rfl)) (by first | assumption | omega | exact hr _ _ rfl | exact mm_ti _ | exact mm_r3264 (hr _ _ rfl)) hJo (by first | assumption | omega | exact hr _ _ rfl | exact mm_ti _ | exact mm_r3264 (hr _ _ rfl)) (fun c1 => ⟨Nat.le_refl _, ?_⟩) (fun c1 => ⟨Nat.le_refl _, ?_⟩))
  · refine mm_if_eq 13 (mm_dc od_X1_setPrices_0 4 rfl) (by omega) (by first | assumption | omega | exact hr _ _ rfl | exact mm_ti _ | exact mm_r3264 (hr _ _ rfl)) (fun h => absurd h (by decide)) (fun _ => ?_)
    refine mm_iconst (mm_dc od_X1_setPrices_0 5 rfl) ?_
    refine mm_goto 14 (mm_dc od_X1_setPrices_0 6 rfl) (by omega) ?_
    refine mm_istore (L' := [(0, v_r 17), (1, v_r 1), (2, v_i b), (3, v_i o), (4, v_i 4)]) (mm_dc od_X1_setPrices_0 8 rfl) (by decide) rfl ?_
    refine mm_iconst (mm_dc od_X1_setPrices_0 9 rfl) ?_
    refine mm_istore (L' := [(0, v_r 17), (1, v_r 1), (2, v_i b), (3, v_i o), (4, v_i 4), (5, v_i 0)]) (mm_dc od_X1_setPrices_0 10 rfl) (by decide) rfl ?_
    exact L_setP (B := M) b o hb ho hJo hJb k _ (by first | exact Or.inl ⟨rfl, by assumption⟩ | exact Or.inr ⟨rfl, by assumption⟩) 0 (frm_0 hr) (fun s hs => by omega) (by omega)
  · refine mm_if_eq 13 (mm_dc od_X1_setPrices_0 4 rfl) (by omega) (by first | assumption | omega | exact hr _ _ rfl | exact mm_ti _ | exact mm_r3264 (hr _ _ rfl)) (fun _ => ?_) (fun h => absurd h (by decide))
    refine mm_iconst (mm_dc od_X1_setPrices_0 7 rfl) ?_
    refine mm_istore (L' := [(0, v_r 17), (1, v_r 1), (2, v_i b), (3, v_i o), (4, v_i 5)]) (mm_dc od_X1_setPrices_0 8 rfl) (by decide) rfl ?_
    refine mm_iconst (mm_dc od_X1_setPrices_0 9 rfl) ?_
    refine mm_istore (L' := [(0, v_r 17), (1, v_r 1), (2, v_i b), (3, v_i o), (4, v_i 5), (5, v_i 0)]) (mm_dc od_X1_setPrices_0 10 rfl) (by decide) rfl ?_
    exact L_setP (B := M) b o hb ho hJo hJb k _ (by first | exact Or.inl ⟨rfl, by assumption⟩ | exact Or.inr ⟨rfl, by assumption⟩) 0 (frm_0 hr) (fun s hs => by omega) (by omega)
