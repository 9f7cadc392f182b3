/-! crews: the reference -/
def dslM (M : mm_M) (b o s : Int) : Int := mm_disl (Int.toNat (3 * M 51 o.toNat + sideQ (M 57 b.toNat) s))
def cstM (M : mm_M) (b o s : Int) : Int := (if M 53 o.toNat ≠ b then 5 else if M 54 o.toNat = s then 0 else 4) + dslM M b o s
def freeM (M : mm_M) (b hour o : Int) : Prop := (M 53 o.toNat < 0 ∨ (M 53 o.toNat = b ∧ M 54 o.toNat ≠ 8)) ∧ (M 55 o.toNat = 0 ∧ (M 51 o.toNat ≠ 4 ∨ 7 ≤ hour))
theorem cstM_r (M : mm_M) (b o s : Int) : 0 ≤ cstM M b o s ∧ cstM M b o s ≤ 8 := by
  have := mm_disl_r (Int.toNat (3 * M 51 o.toNat + sideQ (M 57 b.toNat) s))
  unfold cstM dslM
  split
  · omega
  · split <;> omega
theorem sideQ_c (kb s : Int) : (kb ≤ 2 ∧ sideQ kb s = s % 2) ∨ (2 < kb ∧ sideQ kb s = 2) := by
  unfold sideQ
  split <;> omega
def minM (f p : Nat → Int) (set : Nat) : Nat → Int
  | 0 => f set
  | s + 1 => if set.testBit s = true then minM f p set s else min (minM f p set s) (p s + f (set ||| 2 ^ s))
theorem minM_r {f p : Nat → Int} {set S : Nat} (hs : set < 2 ^ S) (hf : ∀ t, t < 2 ^ S → 0 ≤ f t ∧ f t ≤ 1000000) (hp : ∀ s, 0 ≤ p s) : ∀ i, i ≤ S → 0 ≤ minM f p set i ∧ minM f p set i ≤ f set
  | 0, _ => ⟨(hf set hs).1, Int.le_refl _⟩
  | i + 1, hi => by
    have h := minM_r hs hf hp i (by omega)
    have h2 := hf (set ||| 2 ^ i) (Nat.or_lt_two_pow hs (Nat.pow_lt_pow_right (by decide) (by omega)))
    have h3 := hp i
    simp only [minM]
    split
    · exact h
    · omega
def rvM (B : mm_M) (b hour : Int) (o S : Nat) (f : Nat → Int) (set : Nat) (v : Int) : Prop := (freeM B b hour o ∧ v = minM f (fun s => cstM B b o s) set S) ∨ (¬ freeM B b hour o ∧ v = f set)
def frowM (B : mm_M) (o : Nat) (t : Nat) : Int := B 70 (256 * (o + 1) + t)
theorem rvM_r {B : mm_M} {b hour : Int} {o S set : Nat} {f : Nat → Int} {v : Int} (h : rvM B b hour o S f set v) (hs : set < 2 ^ S) (hf : ∀ t, t < 2 ^ S → 0 ≤ f t ∧ f t ≤ 1000000) : 0 ≤ v ∧ v ≤ 1000000 := by
  rcases h with ⟨_, rfl⟩ | ⟨_, rfl⟩
  · have h1 := minM_r (p := fun s => cstM B b o s) hs hf (fun s => (cstM_r B b o s).1) S (Nat.le_refl _)
    have h2 := hf set hs
    exact ⟨h1.1, Int.le_trans h1.2 h2.2⟩
  · exact hf set hs
theorem frm_JM {c : Nat} {M N : mm_M} (h : frm c M N) (hc : c = 70 ∨ c = 71) : (JOm M → JOm N) ∧ (JBm M → JBm N) := by
  have h50 := h.2 50 (by omega); have h51 := h.2 51 (by omega); have h52 := h.2 52 (by omega); have h53 := h.2 53 (by omega); have h54 := h.2 54 (by omega); have h55 := h.2 55 (by omega); have h57 := h.2 57 (by omega); have h58 := h.2 58 (by omega); have h59 := h.2 59 (by omega); have h60 := h.2 60 (by omega)
  constructor
  · unfold JOm; rw [h50, h51, h52, h53, h54, h55]; exact id
  · unfold JBm; rw [h50, h57, h58, h59, h60]; exact id
theorem frm_pM {c : Nat} {M N : mm_M} (h : frm c M N) (hc : c = 70 ∨ c = 71) : freeM N = freeM M ∧ cstM N = cstM M := by
  have h51 := h.2 51 (by omega); have h53 := h.2 53 (by omega); have h54 := h.2 54 (by omega); have h55 := h.2 55 (by omega); have h57 := h.2 57 (by omega)
  constructor
  · funext b hour o; unfold freeM; rw [h51, h53, h54, h55]
  · funext b o s; unfold cstM dslM; rw [h51, h53, h54, h57]
theorem frm_t {c : Nat} {A B C : mm_M} (h : frm c A B) (h2 : frm c B C) : frm c A C := ⟨h2.1, fun i hi => by rw [h2.2 i hi, h.2 i hi]⟩
def seM (M : mm_M) (b : Int) : Nat := (mm_seats (M 57 b.toNat).toNat).toNat
theorem seM_is {M : mm_M} {b : Int} (hb : 0 ≤ b ∧ b < M 50 11) (hJb : JBm M) : mm_seats (M 57 b.toNat).toNat = seM M b ∧ 1 ≤ seM M b ∧ seM M b ≤ 8 := by
  have h := mm_seats_le (M 57 b.toNat).toNat (by have := (hJb.2.2 b.toNat (by omega)).1; omega)
  unfold seM
  omega
theorem c_X10_dislikes {X : Nat × (Nat → Int)} {d : Nat} {Po : mm_Po} {M : mm_M} (o : Int) (b : Int) (s : Int) (ho : 0 ≤ o ∧ o < M 50 10) (hb : 0 ≤ b ∧ b < M 50 11) (hs : 0 ≤ s ∧ s < 8) (hJom : JOm M) (hJbm : JBm M) (hr : R32 M) (k : Po (some (v_i (dslM M b o s))) Lam M) : mm_E X d 0 0 mi_X10_dislikes [v_r 50, v_i o, v_i b, v_i s] Po Lam M := by
  show mm_G X d 0 0 mi_X10_dislikes Po 0 [(0, v_r 50), (1, v_i o), (2, v_i b), (3, v_i s)] [] Lam M 0 0
  have hJom2 := hJom
  obtain ⟨ho0, ho16, hO⟩ := hJom2
  have hJbm2 := hJbm
  obtain ⟨hb0, hb8, hB⟩ := hJbm2
  have hO1 := hO o.toNat (by omega)
  have hB1 := hB b.toNat (by omega)
  have es : Int.tmod s 2 = s % 2 := Int.tmod_eq_emod_of_nonneg hs.1
  have hsd := sideQ_c (M 57 b.toNat) s
  have hsv : sideQ (M 57 b.toNat) s = 0 ∨ sideQ (M 57 b.toNat) s = 1 ∨ sideQ (M 57 b.toNat) s = 2 := (by omega)
  have hkv : M 51 o.toNat = 0 ∨ M 51 o.toNat = 1 ∨ M 51 o.toNat = 2 ∨ M 51 o.toNat = 3 ∨ M 51 o.toNat = 4 := (by omega)
  refine mm_aload_n (mm_dc od_X10_dislikes_0 0 rfl) rfl ?_
  refine mm_getR (ci := 10) (k := 6) (mm_dc od_X10_dislikes_0 1 rfl) rfl in_X10 (by decide) wd_4_118 rfl rfl ?_
  refine mm_iload_n (mm_dc od_X10_dislikes_0 2 rfl) rfl ?_
  refine mm_iald (mm_dc od_X10_dislikes_0 3 rfl) rfl (by first | assumption | omega | exact hr _ _ rfl | exact mm_ti _ | exact mm_r3264 (hr _ _ rfl)) (by first | assumption | omega | exact hr _ _ rfl | exact mm_ti _ | exact mm_r3264 (hr _ _ rfl)) (by decide) ?_
  refine mm_iconst (mm_dc od_X10_dislikes_0 4 rfl) ?_
  refine mm_icmp_le 14 (mm_dc od_X10_dislikes_0 5 rfl) (by omega) (by first | assumption | omega | exact hr _ _ rfl | exact mm_ti _ | exact mm_r3264 (hr _ _ rfl)) (by first | assumption | omega | exact hr _ _ rfl | exact mm_ti _ | exact mm_r3264 (hr _ _ rfl)) (fun c1 => ?_) (fun c1 => ?_)
  · refine mm_iload_n (mm_dc od_X10_dislikes_0 8 rfl) rfl ?_
    refine mm_iconst (mm_dc od_X10_dislikes_0 9 rfl) ?_
    refine mm_irem (mm_dc od_X10_dislikes_0 10 rfl) (by first | assumption | omega | exact hr _ _ rfl | exact mm_ti _ | exact mm_r3264 (hr _ _ rfl)) (by first | assumption | omega | exact hr _ _ rfl | exact mm_ti _ | exact mm_r3264 (hr _ _ rfl)) (by first | assumption | omega | exact hr _ _ rfl | exact mm_ti _ | exact mm_r3264 (hr _ _ rfl)) ?_
    refine mm_istore (L' := [(0, v_r 50), (1, v_i o), (2, v_i b), (3, v_i s), (4, v_i (Int.tmod s 2))]) (mm_dc od_X10_dislikes_0 11 rfl) (by decide) rfl ?_
    refine mm_aload_n (mm_dc od_X10_dislikes_0 12 rfl) rfl ?_
    refine mm_getR (ci := 10) (k := 0) (mm_dc od_X10_dislikes_0 13 rfl) rfl in_X10 (by decide) wd_4_112 rfl rfl ?_
    refine mm_iload_n (mm_dc od_X10_dislikes_0 14 rfl) rfl ?_
    refine mm_iald (mm_dc od_X10_dislikes_0 15 rfl) rfl (by first | assumption | omega | exact hr _ _ rfl | exact mm_ti _ | exact mm_r3264 (hr _ _ rfl)) (by first | assumption | omega | exact hr _ _ rfl | exact mm_ti _ | exact mm_r3264 (hr _ _ rfl)) (by decide) ?_
    refine mm_istore (L' := [(0, v_r 50), (1, v_i o), (2, v_i b), (3, v_i s), (4, v_i (Int.tmod s 2)), (5, v_i (M 51 (Int.toNat o)))]) (mm_dc od_X10_dislikes_0 16 rfl) (by decide) rfl ?_
    refine mm_iload (mm_dc od_X10_dislikes_0 17 rfl) rfl ?_
    refine mm_iconst (mm_dc od_X10_dislikes_0 18 rfl) ?_
    refine mm_icmp_ge 56 (mm_dc od_X10_dislikes_0 19 rfl) (by omega) (by first | assumption | omega | exact hr _ _ rfl | exact mm_ti _ | exact mm_r3264 (hr _ _ rfl)) (by first | assumption | omega | exact hr _ _ rfl | exact mm_ti _ | exact mm_r3264 (hr _ _ rfl)) (fun c2 => ?_) (fun c2 => ?_)
    · refine mm_iload (mm_dc od_X10_dislikes_0 32 rfl) rfl ?_
      refine mm_iconst (mm_dc od_X10_dislikes_0 33 rfl) ?_
      refine mm_icmp_ne 76 (mm_dc od_X10_dislikes_0 34 rfl) (by omega) (by first | assumption | omega | exact hr _ _ rfl | exact mm_ti _ | exact mm_r3264 (hr _ _ rfl)) (by first | assumption | omega | exact hr _ _ rfl | exact mm_ti _ | exact mm_r3264 (hr _ _ rfl)) (fun c3 => ?_) (fun c3 => ?_)
      · refine mm_iload (mm_dc od_X10_dislikes_0 42 rfl) rfl ?_
        refine mm_iconst (mm_dc od_X10_dislikes_0 43 rfl) ?_
        refine mm_icmp_ne 86 (mm_dc od_X10_dislikes_0 44 rfl) (by omega) (by first | assumption | omega | exact hr _ _ rfl | exact mm_ti _ | exact mm_r3264 (hr _ _ rfl)) (by first | assumption | omega | exact hr _ _ rfl | exact mm_ti _ | exact mm_r3264 (hr _ _ rfl)) (fun c4 => ?_) (fun c4 => ?_)
        · refine mm_iconst (mm_dc od_X10_dislikes_0 47 rfl) ?_
          refine mm_iret (mm_dc od_X10_dislikes_0 48 rfl) rfl ?_
          refine mm_pi ?_ k
          unfold dslM
          rcases hkv with e | e | e | e | e <;> rcases hsv with q | q | q <;> first | (rw [e, q]; rfl) | (exfalso; omega)
        · refine mm_iconst (mm_dc od_X10_dislikes_0 45 rfl) ?_
          refine mm_goto 87 (mm_dc od_X10_dislikes_0 46 rfl) (by omega) ?_
          refine mm_iret (mm_dc od_X10_dislikes_0 48 rfl) rfl ?_
          refine mm_pi ?_ k
          unfold dslM
          rcases hkv with e | e | e | e | e <;> rcases hsv with q | q | q <;> first | (rw [e, q]; rfl) | (exfalso; omega)
      · refine mm_iload (mm_dc od_X10_dislikes_0 35 rfl) rfl ?_
        refine mm_iconst (mm_dc od_X10_dislikes_0 36 rfl) ?_
        refine mm_icmp_ne 72 (mm_dc od_X10_dislikes_0 37 rfl) (by omega) (by first | assumption | omega | exact hr _ _ rfl | exact mm_ti _ | exact mm_r3264 (hr _ _ rfl)) (by first | assumption | omega | exact hr _ _ rfl | exact mm_ti _ | exact mm_r3264 (hr _ _ rfl)) (fun c5 => ?_) (fun c5 => ?_)
        · refine mm_iconst (mm_dc od_X10_dislikes_0 40 rfl) ?_
          refine mm_goto 87 (mm_dc od_X10_dislikes_0 41 rfl) (by omega) ?_
          refine mm_iret (mm_dc od_X10_dislikes_0 48 rfl) rfl ?_
          refine mm_pi ?_ k
          unfold dslM
          rcases hkv with e | e | e | e | e <;> rcases hsv with q | q | q <;> first | (rw [e, q]; rfl) | (exfalso; omega)
        · refine mm_iconst (mm_dc od_X10_dislikes_0 38 rfl) ?_
          refine mm_goto 87 (mm_dc od_X10_dislikes_0 39 rfl) (by omega) ?_
          refine mm_iret (mm_dc od_X10_dislikes_0 48 rfl) rfl ?_
          refine mm_pi ?_ k
          unfold dslM
          rcases hkv with e | e | e | e | e <;> rcases hsv with q | q | q <;> first | (rw [e, q]; rfl) | (exfalso; omega)
    · refine mm_iload (mm_dc od_X10_dislikes_0 20 rfl) rfl ?_
      refine mm_iconst (mm_dc od_X10_dislikes_0 21 rfl) ?_
      refine mm_icmp_ne 43 (mm_dc od_X10_dislikes_0 22 rfl) (by omega) (by first | assumption | omega | exact hr _ _ rfl | exact mm_ti _ | exact mm_r3264 (hr _ _ rfl)) (by first | assumption | omega | exact hr _ _ rfl | exact mm_ti _ | exact mm_r3264 (hr _ _ rfl)) (fun c6 => ?_) (fun c6 => ?_)
      · refine mm_iload (mm_dc od_X10_dislikes_0 25 rfl) rfl ?_
        refine mm_iload (mm_dc od_X10_dislikes_0 26 rfl) rfl ?_
        refine mm_icmp_ne 54 (mm_dc od_X10_dislikes_0 27 rfl) (by omega) (by first | assumption | omega | exact hr _ _ rfl | exact mm_ti _ | exact mm_r3264 (hr _ _ rfl)) (by first | assumption | omega | exact hr _ _ rfl | exact mm_ti _ | exact mm_r3264 (hr _ _ rfl)) (fun c7 => ?_) (fun c7 => ?_)
        · refine mm_iconst (mm_dc od_X10_dislikes_0 30 rfl) ?_
          refine mm_iret (mm_dc od_X10_dislikes_0 31 rfl) rfl ?_
          refine mm_pi ?_ k
          unfold dslM
          rcases hkv with e | e | e | e | e <;> rcases hsv with q | q | q <;> first | (rw [e, q]; rfl) | (exfalso; omega)
        · refine mm_iconst (mm_dc od_X10_dislikes_0 28 rfl) ?_
          refine mm_goto 55 (mm_dc od_X10_dislikes_0 29 rfl) (by omega) ?_
          refine mm_iret (mm_dc od_X10_dislikes_0 31 rfl) rfl ?_
          refine mm_pi ?_ k
          unfold dslM
          rcases hkv with e | e | e | e | e <;> rcases hsv with q | q | q <;> first | (rw [e, q]; rfl) | (exfalso; omega)
      · refine mm_iconst (mm_dc od_X10_dislikes_0 23 rfl) ?_
        refine mm_goto 55 (mm_dc od_X10_dislikes_0 24 rfl) (by omega) ?_
        refine mm_iret (mm_dc od_X10_dislikes_0 31 rfl) rfl ?_
        refine mm_pi ?_ k
        unfold dslM
        rcases hkv with e | e | e | e | e <;> rcases hsv with q | q | q <;> first | (rw [e, q]; rfl) | (exfalso; omega)
  · refine mm_iconst (mm_dc od_X10_dislikes_0 6 rfl) ?_
    refine mm_goto 17 (mm_dc od_X10_dislikes_0 7 rfl) (by omega) ?_
    refine mm_istore (L' := [(0, v_r 50), (1, v_i o), (2, v_i b), (3, v_i s), (4, v_i 2)]) (mm_dc od_X10_dislikes_0 11 rfl) (by decide) rfl ?_
    refine mm_aload_n (mm_dc od_X10_dislikes_0 12 rfl) rfl ?_
    refine mm_getR (ci := 10) (k := 0) (mm_dc od_X10_dislikes_0 13 rfl) rfl in_X10 (by decide) wd_4_112 rfl rfl ?_
    refine mm_iload_n (mm_dc od_X10_dislikes_0 14 rfl) rfl ?_
    refine mm_iald (mm_dc od_X10_dislikes_0 15 rfl) rfl (by first | assumption | omega | exact hr _ _ rfl | exact mm_ti _ | exact mm_r3264 (hr _ _ rfl)) (by first | assumption | omega | exact hr _ _ rfl | exact mm_ti _ | exact mm_r3264 (hr _ _ rfl)) (by decide) ?_
    refine mm_istore (L' := [(0, v_r 50), (1, v_i o), (2, v_i b), (3, v_i s), (4, v_i 2), (5, v_i (M 51 (Int.toNat o)))]) (mm_dc od_X10_dislikes_0 16 rfl) (by decide) rfl ?_
    refine mm_iload (mm_dc od_X10_dislikes_0 17 rfl) rfl ?_
    refine mm_iconst (mm_dc od_X10_dislikes_0 18 rfl) ?_
    refine mm_icmp_ge 56 (mm_dc od_X10_dislikes_0 19 rfl) (by omega) (by first | assumption | omega | exact hr _ _ rfl | exact mm_ti _ | exact mm_r3264 (hr _ _ rfl)) (by first | assumption | omega | exact hr _ _ rfl | exact mm_ti _ | exact mm_r3264 (hr _ _ rfl)) (fun c8 => ?_) (fun c8 => ?_)
    · refine mm_iload (mm_dc od_X10_dislikes_0 32 rfl) rfl ?_
      refine mm_iconst (mm_dc od_X10_dislikes_0 33 rfl) ?_
      refine mm_icmp_ne 76 (mm_dc od_X10_dislikes_0 34 rfl) (by omega) (by first | assumption | omega | exact hr _ _ rfl | exact mm_ti _ | exact mm_r3264 (hr _ _ rfl)) (by first | assumption | omega | exact hr _ _ rfl | exact mm_ti _ | exact mm_r3264 (hr _ _ rfl)) (fun c9 => ?_) (fun c9 => ?_)
      · refine mm_iload (mm_dc od_X10_dislikes_0 42 rfl) rfl ?_
        refine mm_iconst (mm_dc od_X10_dislikes_0 43 rfl) ?_
        refine mm_icmp_ne 86 (mm_dc od_X10_dislikes_0 44 rfl) (by omega) (by first | assumption | omega | exact hr _ _ rfl | exact mm_ti _ | exact mm_r3264 (hr _ _ rfl)) (by first | assumption | omega | exact hr _ _ rfl | exact mm_ti _ | exact mm_r3264 (hr _ _ rfl)) (fun h => absurd h (by decide)) (fun _ => ?_)
        refine mm_iconst (mm_dc od_X10_dislikes_0 45 rfl) ?_
        refine mm_goto 87 (mm_dc od_X10_dislikes_0 46 rfl) (by omega) ?_
        refine mm_iret (mm_dc od_X10_dislikes_0 48 rfl) rfl ?_
        refine mm_pi ?_ k
        unfold dslM
        rcases hkv with e | e | e | e | e <;> rcases hsv with q | q | q <;> first | (rw [e, q]; rfl) | (exfalso; omega)
      · refine mm_iload (mm_dc od_X10_dislikes_0 35 rfl) rfl ?_
        refine mm_iconst (mm_dc od_X10_dislikes_0 36 rfl) ?_
        refine mm_icmp_ne 72 (mm_dc od_X10_dislikes_0 37 rfl) (by omega) (by first | assumption | omega | exact hr _ _ rfl | exact mm_ti _ | exact mm_r3264 (hr _ _ rfl)) (by first | assumption | omega | exact hr _ _ rfl | exact mm_ti _ | exact mm_r3264 (hr _ _ rfl)) (fun h => absurd h (by decide)) (fun _ => ?_)
        refine mm_iconst (mm_dc od_X10_dislikes_0 38 rfl) ?_
        refine mm_goto 87 (mm_dc od_X10_dislikes_0 39 rfl) (by omega) ?_
        refine mm_iret (mm_dc od_X10_dislikes_0 48 rfl) rfl ?_
        refine mm_pi ?_ k
        unfold dslM
        rcases hkv with e | e | e | e | e <;> rcases hsv with q | q | q <;> first | (rw [e, q]; rfl) | (exfalso; omega)
    · refine mm_iload (mm_dc od_X10_dislikes_0 20 rfl) rfl ?_
      refine mm_iconst (mm_dc od_X10_dislikes_0 21 rfl) ?_
      refine mm_icmp_ne 43 (mm_dc od_X10_dislikes_0 22 rfl) (by omega) (by first | assumption | omega | exact hr _ _ rfl | exact mm_ti _ | exact mm_r3264 (hr _ _ rfl)) (by first | assumption | omega | exact hr _ _ rfl | exact mm_ti _ | exact mm_r3264 (hr _ _ rfl)) (fun h => absurd h (by decide)) (fun _ => ?_)
      refine mm_iconst (mm_dc od_X10_dislikes_0 23 rfl) ?_
      refine mm_goto 55 (mm_dc od_X10_dislikes_0 24 rfl) (by omega) ?_
      refine mm_iret (mm_dc od_X10_dislikes_0 31 rfl) rfl ?_
      refine mm_pi ?_ k
      unfold dslM
      rcases hkv with e | e | e | e | e <;> rcases hsv with q | q | q <;> first | (rw [e, q]; rfl) | (exfalso; omega)
theorem c_X10_costOf {X : Nat × (Nat → Int)} {d : Nat} {Po : mm_Po} {M : mm_M} (o : Int) (b : Int) (s : Int) (ho : 0 ≤ o ∧ o < M 50 10) (hb : 0 ≤ b ∧ b < M 50 11) (hs : 0 ≤ s ∧ s < 8) (hJom : JOm M) (hJbm : JBm M) (hr : R32 M) (k : Po (some (v_i (cstM M b o s))) Lam M) : mm_E X (d + 1) 0 0 mi_X10_costOf [v_r 50, v_i o, v_i b, v_i s] Po Lam M := by
  show mm_G X (d + 1) 0 0 mi_X10_costOf Po 0 [(0, v_r 50), (1, v_i o), (2, v_i b), (3, v_i s)] [] Lam M 0 0
  have hJom2 := hJom
  obtain ⟨ho0, ho16, hO⟩ := hJom2
  have hJbm2 := hJbm
  obtain ⟨hb0, hb8, hB⟩ := hJbm2
  have hO1 := hO o.toNat (by omega)
  refine mm_aload_n (mm_dc od_X10_costOf_0 0 rfl) rfl ?_
  refine mm_getR (ci := 10) (k := 2) (mm_dc od_X10_costOf_0 1 rfl) rfl in_X10 (by decide) wd_4_114 rfl rfl ?_
  refine mm_iload_n (mm_dc od_X10_costOf_0 2 rfl) rfl ?_
  refine mm_iald (mm_dc od_X10_costOf_0 3 rfl) rfl (by first | assumption | omega | exact hr _ _ rfl | exact mm_ti _ | exact mm_r3264 (hr _ _ rfl)) (by first | assumption | omega | exact hr _ _ rfl | exact mm_ti _ | exact mm_r3264 (hr _ _ rfl)) (by decide) ?_
  refine mm_iload_n (mm_dc od_X10_costOf_0 4 rfl) rfl ?_
  refine mm_icmp_eq 14 (mm_dc od_X10_costOf_0 5 rfl) (by omega) (by first | assumption | omega | exact hr _ _ rfl | exact mm_ti _ | exact mm_r3264 (hr _ _ rfl)) (by first | assumption | omega | exact hr _ _ rfl | exact mm_ti _ | exact mm_r3264 (hr _ _ rfl)) (fun c1 => ?_) (fun c1 => ?_)
  · refine mm_aload_n (mm_dc od_X10_costOf_0 8 rfl) rfl ?_
    refine mm_getR (ci := 10) (k := 3) (mm_dc od_X10_costOf_0 9 rfl) rfl in_X10 (by decide) wd_4_115 rfl rfl ?_
    refine mm_iload_n (mm_dc od_X10_costOf_0 10 rfl) rfl ?_
    refine mm_iald (mm_dc od_X10_costOf_0 11 rfl) rfl (by first | assumption | omega | exact hr _ _ rfl | exact mm_ti _ | exact mm_r3264 (hr _ _ rfl)) (by first | assumption | omega | exact hr _ _ rfl | exact mm_ti _ | exact mm_r3264 (hr _ _ rfl)) (by decide) ?_
    refine mm_iload_n (mm_dc od_X10_costOf_0 12 rfl) rfl ?_
    refine mm_icmp_ne 28 (mm_dc od_X10_costOf_0 13 rfl) (by omega) (by first | assumption | omega | exact hr _ _ rfl | exact mm_ti _ | exact mm_r3264 (hr _ _ rfl)) (by first | assumption | omega | exact hr _ _ rfl | exact mm_ti _ | exact mm_r3264 (hr _ _ rfl)) (fun c2 => ?_) (fun c2 => ?_)
    · refine mm_iconst (mm_dc od_X10_costOf_0 16 rfl) ?_
      refine mm_istore (L' := [(0, v_r 50), (1, v_i o), (2, v_i b), (3, v_i s), (4, v_i 4)]) (mm_dc od_X10_costOf_0 17 rfl) (by decide) rfl ?_
      refine mm_iload (mm_dc od_X10_costOf_0 18 rfl) rfl ?_
      refine mm_aload_n (mm_dc od_X10_costOf_0 19 rfl) rfl ?_
      refine mm_iload_n (mm_dc od_X10_costOf_0 20 rfl) rfl ?_
      refine mm_iload_n (mm_dc od_X10_costOf_0 21 rfl) rfl ?_
      refine mm_iload_n (mm_dc od_X10_costOf_0 22 rfl) rfl ?_
      refine mm_callV (b := 50) (mi' := mi_X10_dislikes) [v_i o, v_i b, v_i s] [v_i 4] (mm_dc od_X10_costOf_0 23 rfl) rfl wd_5_165 wd_5_167 wd_p_35 wd_1_12 wd_5_168 yk_X10_dislikes rfl rfl rfl (Nat.le_of_ble_eq_true rfl) rfl (by decide) (c_X10_dislikes o b s (by first | assumption | omega | exact hr _ _ rfl | exact mm_ti _ | exact mm_r3264 (hr _ _ rfl)) (by first | assumption | omega | exact hr _ _ rfl | exact mm_ti _ | exact mm_r3264 (hr _ _ rfl)) (by first | assumption | omega | exact hr _ _ rfl | exact mm_ti _ | exact mm_r3264 (hr _ _ rfl)) hJom hJbm (by first | assumption | omega | exact hr _ _ rfl | exact mm_ti _ | exact mm_r3264 (hr _ _ rfl)) ⟨Nat.le_refl _, ?_⟩)
      refine mm_iadd (mm_dc od_X10_costOf_0 24 rfl) ?_
      refine mm_iret (mm_dc od_X10_costOf_0 25 rfl) rfl ?_
      exact mm_pi (by unfold cstM; first | rw [if_pos (by omega)] | rw [if_neg (by omega), if_pos (by omega)] | rw [if_neg (by omega), if_neg (by omega)]) k
    · refine mm_iconst (mm_dc od_X10_costOf_0 14 rfl) ?_
      refine mm_goto 29 (mm_dc od_X10_costOf_0 15 rfl) (by omega) ?_
      refine mm_istore (L' := [(0, v_r 50), (1, v_i o), (2, v_i b), (3, v_i s), (4, v_i 0)]) (mm_dc od_X10_costOf_0 17 rfl) (by decide) rfl ?_
      refine mm_iload (mm_dc od_X10_costOf_0 18 rfl) rfl ?_
      refine mm_aload_n (mm_dc od_X10_costOf_0 19 rfl) rfl ?_
      refine mm_iload_n (mm_dc od_X10_costOf_0 20 rfl) rfl ?_
      refine mm_iload_n (mm_dc od_X10_costOf_0 21 rfl) rfl ?_
      refine mm_iload_n (mm_dc od_X10_costOf_0 22 rfl) rfl ?_
      refine mm_callV (b := 50) (mi' := mi_X10_dislikes) [v_i o, v_i b, v_i s] [v_i 0] (mm_dc od_X10_costOf_0 23 rfl) rfl wd_5_165 wd_5_167 wd_p_35 wd_1_12 wd_5_168 yk_X10_dislikes rfl rfl rfl (Nat.le_of_ble_eq_true rfl) rfl (by decide) (c_X10_dislikes o b s (by first | assumption | omega | exact hr _ _ rfl | exact mm_ti _ | exact mm_r3264 (hr _ _ rfl)) (by first | assumption | omega | exact hr _ _ rfl | exact mm_ti _ | exact mm_r3264 (hr _ _ rfl)) (by first | assumption | omega | exact hr _ _ rfl | exact mm_ti _ | exact mm_r3264 (hr _ _ rfl)) hJom hJbm (by first | assumption | omega | exact hr _ _ rfl | exact mm_ti _ | exact mm_r3264 (hr _ _ rfl)) ⟨Nat.le_refl _, ?_⟩)
      refine mm_iadd (mm_dc od_X10_costOf_0 24 rfl) ?_
      refine mm_iret (mm_dc od_X10_costOf_0 25 rfl) rfl ?_
      exact mm_pi (by unfold cstM; first | rw [if_pos (by omega)] | rw [if_neg (by omega), if_pos (by omega)] | rw [if_neg (by omega), if_neg (by omega)]) k
  · refine mm_iconst (mm_dc od_X10_costOf_0 6 rfl) ?_
    refine mm_goto 29 (mm_dc od_X10_costOf_0 7 rfl) (by omega) ?_
    refine mm_istore (L' := [(0, v_r 50), (1, v_i o), (2, v_i b), (3, v_i s), (4, v_i 5)]) (mm_dc od_X10_costOf_0 17 rfl) (by decide) rfl ?_
    refine mm_iload (mm_dc od_X10_costOf_0 18 rfl) rfl ?_
    refine mm_aload_n (mm_dc od_X10_costOf_0 19 rfl) rfl ?_
    refine mm_iload_n (mm_dc od_X10_costOf_0 20 rfl) rfl ?_
    refine mm_iload_n (mm_dc od_X10_costOf_0 21 rfl) rfl ?_
    refine mm_iload_n (mm_dc od_X10_costOf_0 22 rfl) rfl ?_
    refine mm_callV (b := 50) (mi' := mi_X10_dislikes) [v_i o, v_i b, v_i s] [v_i 5] (mm_dc od_X10_costOf_0 23 rfl) rfl wd_5_165 wd_5_167 wd_p_35 wd_1_12 wd_5_168 yk_X10_dislikes rfl rfl rfl (Nat.le_of_ble_eq_true rfl) rfl (by decide) (c_X10_dislikes o b s (by first | assumption | omega | exact hr _ _ rfl | exact mm_ti _ | exact mm_r3264 (hr _ _ rfl)) (by first | assumption | omega | exact hr _ _ rfl | exact mm_ti _ | exact mm_r3264 (hr _ _ rfl)) (by first | assumption | omega | exact hr _ _ rfl | exact mm_ti _ | exact mm_r3264 (hr _ _ rfl)) hJom hJbm (by first | assumption | omega | exact hr _ _ rfl | exact mm_ti _ | exact mm_r3264 (hr _ _ rfl)) ⟨Nat.le_refl _, ?_⟩)
    refine mm_iadd (mm_dc od_X10_costOf_0 24 rfl) ?_
    refine mm_iret (mm_dc od_X10_costOf_0 25 rfl) rfl ?_
    exact mm_pi (by unfold cstM; first | rw [if_pos (by omega)] | rw [if_neg (by omega), if_pos (by omega)] | rw [if_neg (by omega), if_neg (by omega)]) k
theorem c_X10_canSit {X : Nat × (Nat → Int)} {d : Nat} {Po : mm_Po} {M : mm_M} (o : Int) (b : Int) (hour : Int) (ho : 0 ≤ o ∧ o < M 50 10) (hb1 : mm_r32 b) (hh : mm_r32 hour) (hJom : JOm M) (hr : R32 M) (kt : freeM M b hour o → Po (some (v_i 1)) Lam M) (kf : ¬ (freeM M b hour o) → Po (some (v_i 0)) Lam M) : mm_E X (d + 1) 0 0 mi_X10_canSit [v_r 50, v_i o, v_i b, v_i hour] Po Lam M := by
  show mm_G X (d + 1) 0 0 mi_X10_canSit Po 0 [(0, v_r 50), (1, v_i o), (2, v_i b), (3, v_i hour)] [] Lam M 0 0
  have hJom2 := hJom
  obtain ⟨ho0, ho16, hO⟩ := hJom2
  have hO1 := hO o.toNat (by omega)
  refine mm_aload_n (mm_dc od_X10_canSit_0 0 rfl) rfl ?_
  refine mm_getR (ci := 10) (k := 2) (mm_dc od_X10_canSit_0 1 rfl) rfl in_X10 (by decide) wd_4_114 rfl rfl ?_
  refine mm_iload_n (mm_dc od_X10_canSit_0 2 rfl) rfl ?_
  refine mm_iald (mm_dc od_X10_canSit_0 3 rfl) rfl (by first | assumption | omega | exact hr _ _ rfl | exact mm_ti _ | exact mm_r3264 (hr _ _ rfl)) (by first | assumption | omega | exact hr _ _ rfl | exact mm_ti _ | exact mm_r3264 (hr _ _ rfl)) (by decide) ?_
  refine mm_if_lt 30 (mm_dc od_X10_canSit_0 4 rfl) (by omega) (by first | assumption | omega | exact hr _ _ rfl | exact mm_ti _ | exact mm_r3264 (hr _ _ rfl)) (fun c1 => ?_) (fun c1 => ?_)
  · refine mm_iconst (mm_dc od_X10_canSit_0 17 rfl) ?_
    refine mm_goto 35 (mm_dc od_X10_canSit_0 18 rfl) (by omega) ?_
    refine mm_istore (L' := [(0, v_r 50), (1, v_i o), (2, v_i b), (3, v_i hour), (4, v_i 1)]) (mm_dc od_X10_canSit_0 20 rfl) (by decide) rfl ?_
    refine mm_iload (mm_dc od_X10_canSit_0 21 rfl) rfl ?_
    refine mm_if_eq 55 (mm_dc od_X10_canSit_0 22 rfl) (by omega) (by first | assumption | omega | exact hr _ _ rfl | exact mm_ti _ | exact mm_r3264 (hr _ _ rfl)) (fun h => absurd h (by decide)) (fun _ => ?_)
    refine mm_aload_n (mm_dc od_X10_canSit_0 23 rfl) rfl ?_
    refine mm_iload_n (mm_dc od_X10_canSit_0 24 rfl) rfl ?_
    refine mm_iload_n (mm_dc od_X10_canSit_0 25 rfl) rfl ?_
    refine mm_callV (b := 50) (mi' := mi_X10_mayBeOut) [v_i o, v_i hour] [] (mm_dc od_X10_canSit_0 26 rfl) rfl wd_5_157 wd_5_159 wd_p_33 wd_1_12 wd_5_160 yk_X10_mayBeOut rfl rfl rfl (Nat.le_of_ble_eq_true rfl) rfl (by decide) (c_X10_mayBeOut o hour (by first | assumption | omega | exact hr _ _ rfl | exact mm_ti _ | exact mm_r3264 (hr _ _ rfl)) (by first | assumption | omega | exact hr _ _ rfl | exact mm_ti _ | exact mm_r3264 (hr _ _ rfl)) hJom (by first | assumption | omega | exact hr _ _ rfl | exact mm_ti _ | exact mm_r3264 (hr _ _ rfl)) (fun c2 => ⟨Nat.le_refl _, ?_⟩) (fun c2 => ⟨Nat.le_refl _, ?_⟩))
    · refine mm_if_eq 55 (mm_dc od_X10_canSit_0 27 rfl) (by omega) (by first | assumption | omega | exact hr _ _ rfl | exact mm_ti _ | exact mm_r3264 (hr _ _ rfl)) (fun h => absurd h (by decide)) (fun _ => ?_)
      refine mm_iconst (mm_dc od_X10_canSit_0 28 rfl) ?_
      refine mm_goto 56 (mm_dc od_X10_canSit_0 29 rfl) (by omega) ?_
      refine mm_zret .boolean (mm_dc od_X10_canSit_0 31 rfl) rfl rfl ?_
      exact kt (by unfold freeM; omega)
    · refine mm_if_eq 55 (mm_dc od_X10_canSit_0 27 rfl) (by omega) (by first | assumption | omega | exact hr _ _ rfl | exact mm_ti _ | exact mm_r3264 (hr _ _ rfl)) (fun _ => ?_) (fun h => absurd h (by decide))
      refine mm_iconst (mm_dc od_X10_canSit_0 30 rfl) ?_
      refine mm_zret .boolean (mm_dc od_X10_canSit_0 31 rfl) rfl rfl ?_
      exact kf (by unfold freeM; omega)
  · refine mm_aload_n (mm_dc od_X10_canSit_0 5 rfl) rfl ?_
    refine mm_getR (ci := 10) (k := 2) (mm_dc od_X10_canSit_0 6 rfl) rfl in_X10 (by decide) wd_4_114 rfl rfl ?_
    refine mm_iload_n (mm_dc od_X10_canSit_0 7 rfl) rfl ?_
    refine mm_iald (mm_dc od_X10_canSit_0 8 rfl) rfl (by first | assumption | omega | exact hr _ _ rfl | exact mm_ti _ | exact mm_r3264 (hr _ _ rfl)) (by first | assumption | omega | exact hr _ _ rfl | exact mm_ti _ | exact mm_r3264 (hr _ _ rfl)) (by decide) ?_
    refine mm_iload_n (mm_dc od_X10_canSit_0 9 rfl) rfl ?_
    refine mm_icmp_ne 34 (mm_dc od_X10_canSit_0 10 rfl) (by omega) (by first | assumption | omega | exact hr _ _ rfl | exact mm_ti _ | exact mm_r3264 (hr _ _ rfl)) (by first | assumption | omega | exact hr _ _ rfl | exact mm_ti _ | exact mm_r3264 (hr _ _ rfl)) (fun c3 => ?_) (fun c3 => ?_)
    · refine mm_iconst (mm_dc od_X10_canSit_0 19 rfl) ?_
      refine mm_istore (L' := [(0, v_r 50), (1, v_i o), (2, v_i b), (3, v_i hour), (4, v_i 0)]) (mm_dc od_X10_canSit_0 20 rfl) (by decide) rfl ?_
      refine mm_iload (mm_dc od_X10_canSit_0 21 rfl) rfl ?_
      refine mm_if_eq 55 (mm_dc od_X10_canSit_0 22 rfl) (by omega) (by first | assumption | omega | exact hr _ _ rfl | exact mm_ti _ | exact mm_r3264 (hr _ _ rfl)) (fun _ => ?_) (fun h => absurd h (by decide))
      refine mm_iconst (mm_dc od_X10_canSit_0 30 rfl) ?_
      refine mm_zret .boolean (mm_dc od_X10_canSit_0 31 rfl) rfl rfl ?_
      exact kf (by unfold freeM; omega)
    · refine mm_aload_n (mm_dc od_X10_canSit_0 11 rfl) rfl ?_
      refine mm_getR (ci := 10) (k := 3) (mm_dc od_X10_canSit_0 12 rfl) rfl in_X10 (by decide) wd_4_115 rfl rfl ?_
      refine mm_iload_n (mm_dc od_X10_canSit_0 13 rfl) rfl ?_
      refine mm_iald (mm_dc od_X10_canSit_0 14 rfl) rfl (by first | assumption | omega | exact hr _ _ rfl | exact mm_ti _ | exact mm_r3264 (hr _ _ rfl)) (by first | assumption | omega | exact hr _ _ rfl | exact mm_ti _ | exact mm_r3264 (hr _ _ rfl)) (by decide) ?_
      refine mm_bipush (mm_dc od_X10_canSit_0 15 rfl) (by decide) ?_
      refine mm_icmp_eq 34 (mm_dc od_X10_canSit_0 16 rfl) (by omega) (by first | assumption | omega | exact hr _ _ rfl | exact mm_ti _ | exact mm_r3264 (hr _ _ rfl)) (by first | assumption | omega | exact hr _ _ rfl | exact mm_ti _ | exact mm_r3264 (hr _ _ rfl)) (fun c4 => ?_) (fun c4 => ?_)
      · refine mm_iconst (mm_dc od_X10_canSit_0 19 rfl) ?_
        refine mm_istore (L' := [(0, v_r 50), (1, v_i o), (2, v_i b), (3, v_i hour), (4, v_i 0)]) (mm_dc od_X10_canSit_0 20 rfl) (by decide) rfl ?_
        refine mm_iload (mm_dc od_X10_canSit_0 21 rfl) rfl ?_
        refine mm_if_eq 55 (mm_dc od_X10_canSit_0 22 rfl) (by omega) (by first | assumption | omega | exact hr _ _ rfl | exact mm_ti _ | exact mm_r3264 (hr _ _ rfl)) (fun _ => ?_) (fun h => absurd h (by decide))
        refine mm_iconst (mm_dc od_X10_canSit_0 30 rfl) ?_
        refine mm_zret .boolean (mm_dc od_X10_canSit_0 31 rfl) rfl rfl ?_
        exact kf (by unfold freeM; omega)
      · refine mm_iconst (mm_dc od_X10_canSit_0 17 rfl) ?_
        refine mm_goto 35 (mm_dc od_X10_canSit_0 18 rfl) (by omega) ?_
        refine mm_istore (L' := [(0, v_r 50), (1, v_i o), (2, v_i b), (3, v_i hour), (4, v_i 1)]) (mm_dc od_X10_canSit_0 20 rfl) (by decide) rfl ?_
        refine mm_iload (mm_dc od_X10_canSit_0 21 rfl) rfl ?_
        refine mm_if_eq 55 (mm_dc od_X10_canSit_0 22 rfl) (by omega) (by first | assumption | omega | exact hr _ _ rfl | exact mm_ti _ | exact mm_r3264 (hr _ _ rfl)) (fun h => absurd h (by decide)) (fun _ => ?_)
        refine mm_aload_n (mm_dc od_X10_canSit_0 23 rfl) rfl ?_
        refine mm_iload_n (mm_dc od_X10_canSit_0 24 rfl) rfl ?_
        refine mm_iload_n (mm_dc od_X10_canSit_0 25 rfl) rfl ?_
        refine mm_callV (b := 50) (mi' := mi_X10_mayBeOut) [v_i o, v_i hour] [] (mm_dc od_X10_canSit_0 26 rfl) rfl wd_5_157 wd_5_159 wd_p_33 wd_1_12 wd_5_160 yk_X10_mayBeOut rfl rfl rfl (Nat.le_of_ble_eq_true rfl) rfl (by decide) (c_X10_mayBeOut o hour (by first | assumption | omega | exact hr _ _ rfl | exact mm_ti _ | exact mm_r3264 (hr _ _ rfl)) (by first | assumption | omega | exact hr _ _ rfl | exact mm_ti _ | exact mm_r3264 (hr _ _ rfl)) hJom (by first | assumption | omega | exact hr _ _ rfl | exact mm_ti _ | exact mm_r3264 (hr _ _ rfl)) (fun c5 => ⟨Nat.le_refl _, ?_⟩) (fun c5 => ⟨Nat.le_refl _, ?_⟩))
        · refine mm_if_eq 55 (mm_dc od_X10_canSit_0 27 rfl) (by omega) (by first | assumption | omega | exact hr _ _ rfl | exact mm_ti _ | exact mm_r3264 (hr _ _ rfl)) (fun h => absurd h (by decide)) (fun _ => ?_)
          refine mm_iconst (mm_dc od_X10_canSit_0 28 rfl) ?_
          refine mm_goto 56 (mm_dc od_X10_canSit_0 29 rfl) (by omega) ?_
          refine mm_zret .boolean (mm_dc od_X10_canSit_0 31 rfl) rfl rfl ?_
          exact kt (by unfold freeM; omega)
        · refine mm_if_eq 55 (mm_dc od_X10_canSit_0 27 rfl) (by omega) (by first | assumption | omega | exact hr _ _ rfl | exact mm_ti _ | exact mm_r3264 (hr _ _ rfl)) (fun _ => ?_) (fun h => absurd h (by decide))
          refine mm_iconst (mm_dc od_X10_canSit_0 30 rfl) ?_
          refine mm_zret .boolean (mm_dc od_X10_canSit_0 31 rfl) rfl rfl ?_
          exact kf (by unfold freeM; omega)
theorem L_fm2 {X : Nat × (Nat → Int)} {d : Nat} {Po : mm_Po} {M : mm_M} {B : mm_M} (b hour : Int) (o S : Nat) (hbB : 0 ≤ b ∧ b < B 50 11) (hh : mm_r32 hour) (hoB : (o : Int) < B 50 10) (ho16 : o < 16) (hS8 : 1 ≤ S ∧ S ≤ 8) (hJoB : JOm B) (hJbB : JBm B) (hrow : ∀ t, t < 2 ^ S → 0 ≤ B 70 (256 * (o + 1) + t) ∧ B 70 (256 * (o + 1) + t) ≤ 1000000) (hf : frm 70 B M) (hout : ∀ i, (i < 256 * o ∨ 256 * o + 256 ≤ i) → M 70 i = B 70 i) (j : Nat) (hj : j < 2 ^ S) (K : ∀ v : Int, rvM B b hour o S (frowM B o) j v → mm_G X (d + 2) 0 0 mi_X10_fillCost Po 183 [(0, v_r 50), (1, v_i b), (2, v_i hour), (3, v_i (S : Int)), (4, v_i (((2 ^ S : Nat) : Int) - 1)), (5, v_i (o : Int)), (6, v_i (j : Int)), (7, v_i v)] [] Lam M 0 0) (i : Nat) (hfr : i ≠ 0 → freeM B b hour o) (hi : i ≤ S) : mm_G X (d + 2) 0 0 mi_X10_fillCost Po 102 [(0, v_r 50), (1, v_i b), (2, v_i hour), (3, v_i (S : Int)), (4, v_i (((2 ^ S : Nat) : Int) - 1)), (5, v_i (o : Int)), (6, v_i (j : Int)), (7, v_i (minM (frowM B o) (fun s => cstM B b o s) j i)), (8, v_i (i : Int))] [] Lam M 0 0 := by
  have hr := hf.1
  have hJom := (frm_JM hf (Or.inl rfl)).1 hJoB
  have hJbm := (frm_JM hf (Or.inl rfl)).2 hJbB
  have h50 := hf.2 50 (by decide)
  have hb : 0 ≤ b ∧ b < M 50 11 := (by rw [h50]; exact hbB)
  have hb1 : mm_r32 b := (by have := hJbB.2.1; omega)
  have ho : 0 ≤ (o : Int) ∧ (o : Int) < M 50 10 := (by rw [h50]; omega)
  have hfp := frm_pM hf (Or.inl rfl)
  have h256 := cr_256 hS8.2
  have hx : i < S → fx_or (j : Int) (fx_shl 1 (i : Int)) = ((j ||| 2 ^ i : Nat) : Int) ∧ j ||| 2 ^ i < 2 ^ S ∧ 2 ^ S ≤ 256 := fun q => cr_or hj q hS8.2
  have hbi : fx_and (fx_shr (j : Int) (i : Int)) 1 = if j.testBit i then 1 else 0 := fx_bit (by omega) (by omega)
  have hbt : fx_and (fx_shr (j : Int) (i : Int)) 1 = 1 → j.testBit i = true := (by rw [hbi]; intro q; by_cases q2 : j.testBit i = true; exact q2; rw [if_neg q2] at q; cases q)
  have hbf : ¬ fx_and (fx_shr (j : Int) (i : Int)) 1 = 1 → ¬ j.testBit i = true := (by rw [hbi]; intro q q2; rw [if_pos q2] at q; exact q rfl)
  have hbr : mm_r32 (fx_and (fx_shr (j : Int) (i : Int)) 1) := (by rw [hbi]; split <;> omega)
  have hcs : cstM M b (o : Int) (i : Int) = cstM B b (o : Int) (i : Int) := (by rw [hfp.2])
  have hcr := cstM_r M b (o : Int) (i : Int)
  have hrd : i < S → M 70 (Int.toNat (256 * ((o : Int) + 1) + fx_or (j : Int) (fx_shl 1 (i : Int)))) = frowM B o (j ||| 2 ^ i) := fun q => (by rw [(hx q).1, show Int.toNat (256 * ((o : Int) + 1) + ((j ||| 2 ^ i : Nat) : Int)) = 256 * (o + 1) + (j ||| 2 ^ i) by omega, hout _ (by omega)]; rfl)
  have hrr : i < S → 0 ≤ frowM B o (j ||| 2 ^ i) ∧ frowM B o (j ||| 2 ^ i) ≤ 1000000 := fun q => hrow _ (hx q).2.1
  have hmr := minM_r (f := frowM B o) (p := (fun s => cstM B b o s)) hj hrow (fun s => (cstM_r B b o s).1) i hi
  have hmr2 : 0 ≤ frowM B o j ∧ frowM B o j ≤ 1000000 := hrow j hj
  refine mm_iload (mm_dc od_X10_fillCost_0 57 rfl) rfl ?_
  refine mm_iload_n (mm_dc od_X10_fillCost_0 58 rfl) rfl ?_
  refine mm_icmp_ge 183 (mm_dc od_X10_fillCost_0 59 rfl) (by omega) (by first | assumption | omega | exact hr _ _ rfl | (have hr9 := hrr (by omega); rw [hrd (by omega)]; omega) | (have hx9 := hx (by omega); rw [hx9.1]; omega)) (by first | assumption | omega | exact hr _ _ rfl | (have hr9 := hrr (by omega); rw [hrd (by omega)]; omega) | (have hx9 := hx (by omega); rw [hx9.1]; omega)) (fun c1 => ?_) (fun c1 => ?_)
  · have e : i = S := by omega
    subst e
    exact mm_less [0, 1, 2, 3, 4, 5, 6, 7] rfl (K _ (Or.inl ⟨hfr (by omega), rfl⟩))
  · refine mm_aload_n (mm_dc od_X10_fillCost_1 0 rfl) rfl ?_
    refine mm_iload (mm_dc od_X10_fillCost_1 1 rfl) rfl ?_
    refine mm_iload_n (mm_dc od_X10_fillCost_1 2 rfl) rfl ?_
    refine mm_iload_n (mm_dc od_X10_fillCost_1 3 rfl) rfl ?_
    refine mm_callV (b := 50) (mi' := mi_X10_canSit) [v_i (o : Int), v_i b, v_i hour] [] (mm_dc od_X10_fillCost_1 4 rfl) rfl wd_5_153 wd_5_155 wd_p_32 wd_1_12 wd_5_156 yk_X10_canSit rfl rfl rfl (Nat.le_of_ble_eq_true rfl) rfl (by decide) (c_X10_canSit (o : Int) b hour (by first | assumption | omega | exact hr _ _ rfl | (have hr9 := hrr (by omega); rw [hrd (by omega)]; omega) | (have hx9 := hx (by omega); rw [hx9.1]; omega)) (by first | assumption | omega | exact hr _ _ rfl | (have hr9 := hrr (by omega); rw [hrd (by omega)]; omega) | (have hx9 := hx (by omega); rw [hx9.1]; omega)) (by first | assumption | omega | exact hr _ _ rfl | (have hr9 := hrr (by omega); rw [hrd (by omega)]; omega) | (have hx9 := hx (by omega); rw [hx9.1]; omega)) hJom (by first | assumption | omega | exact hr _ _ rfl | (have hr9 := hrr (by omega); rw [hrd (by omega)]; omega) | (have hx9 := hx (by omega); rw [hx9.1]; omega)) (fun c2 => ⟨Nat.le_refl _, ?_⟩) (fun c2 => ⟨Nat.le_refl _, ?_⟩))
    · refine mm_if_eq 183 (mm_dc od_X10_fillCost_1 5 rfl) (by omega) (by first | assumption | omega | exact hr _ _ rfl | (have hr9 := hrr (by omega); rw [hrd (by omega)]; omega) | (have hx9 := hx (by omega); rw [hx9.1]; omega)) (fun h => absurd h (by decide)) (fun _ => ?_)
      refine mm_iload (mm_dc od_X10_fillCost_1 6 rfl) rfl ?_
      refine mm_iload (mm_dc od_X10_fillCost_1 7 rfl) rfl ?_
      refine mm_ishr (mm_dc od_X10_fillCost_1 8 rfl) ?_
      refine mm_iconst (mm_dc od_X10_fillCost_1 9 rfl) ?_
      refine mm_iand (mm_dc od_X10_fillCost_1 10 rfl) ?_
      refine mm_iconst (mm_dc od_X10_fillCost_1 11 rfl) ?_
      refine mm_icmp_ne 133 (mm_dc od_X10_fillCost_1 12 rfl) (by omega) (by first | assumption | omega | exact hr _ _ rfl | (have hr9 := hrr (by omega); rw [hrd (by omega)]; omega) | (have hx9 := hx (by omega); rw [hx9.1]; omega)) (by first | assumption | omega | exact hr _ _ rfl | (have hr9 := hrr (by omega); rw [hrd (by omega)]; omega) | (have hx9 := hx (by omega); rw [hx9.1]; omega)) (fun c3 => ?_) (fun c3 => ?_)
      · refine mm_aload_n (mm_dc od_X10_fillCost_1 14 rfl) rfl ?_
        refine mm_iload (mm_dc od_X10_fillCost_1 15 rfl) rfl ?_
        refine mm_iload_n (mm_dc od_X10_fillCost_1 16 rfl) rfl ?_
        refine mm_iload (mm_dc od_X10_fillCost_1 17 rfl) rfl ?_
        refine mm_callV (b := 50) (mi' := mi_X10_costOf) [v_i (o : Int), v_i b, v_i (i : Int)] [] (mm_dc od_X10_fillCost_1 18 rfl) rfl wd_5_161 wd_5_163 wd_p_34 wd_1_12 wd_5_164 yk_X10_costOf rfl rfl rfl (Nat.le_of_ble_eq_true rfl) rfl (by decide) (c_X10_costOf (o : Int) b (i : Int) (by first | assumption | omega | exact hr _ _ rfl | (have hr9 := hrr (by omega); rw [hrd (by omega)]; omega) | (have hx9 := hx (by omega); rw [hx9.1]; omega)) (by first | assumption | omega | exact hr _ _ rfl | (have hr9 := hrr (by omega); rw [hrd (by omega)]; omega) | (have hx9 := hx (by omega); rw [hx9.1]; omega)) (by first | assumption | omega | exact hr _ _ rfl | (have hr9 := hrr (by omega); rw [hrd (by omega)]; omega) | (have hx9 := hx (by omega); rw [hx9.1]; omega)) hJom hJbm (by first | assumption | omega | exact hr _ _ rfl | (have hr9 := hrr (by omega); rw [hrd (by omega)]; omega) | (have hx9 := hx (by omega); rw [hx9.1]; omega)) ⟨Nat.le_refl _, ?_⟩)
        refine mm_aload_n (mm_dc od_X10_fillCost_1 19 rfl) rfl ?_
        refine mm_getR (ci := 10) (k := 24) (mm_dc od_X10_fillCost_1 20 rfl) rfl in_X10 (by decide) wd_4_136 rfl rfl ?_
        refine mm_sipush (mm_dc od_X10_fillCost_1 21 rfl) (by decide) ?_
        refine mm_iload (mm_dc od_X10_fillCost_1 22 rfl) rfl ?_
        refine mm_iconst (mm_dc od_X10_fillCost_1 23 rfl) ?_
        refine mm_iadd (mm_dc od_X10_fillCost_1 24 rfl) ?_
        refine mm_imul (mm_dc od_X10_fillCost_1 25 rfl) ?_
        refine mm_iload (mm_dc od_X10_fillCost_1 26 rfl) rfl ?_
        refine mm_iconst (mm_dc od_X10_fillCost_1 27 rfl) ?_
        refine mm_iload (mm_dc od_X10_fillCost_1 28 rfl) rfl ?_
        refine mm_ishl (mm_dc od_X10_fillCost_1 29 rfl) ?_
        refine mm_ior (mm_dc od_X10_fillCost_1 30 rfl) ?_
        refine mm_iadd (mm_dc od_X10_fillCost_1 31 rfl) ?_
        refine mm_iald (mm_dc od_X10_fillCost_1 32 rfl) rfl (by first | assumption | omega | exact hr _ _ rfl | (have hr9 := hrr (by omega); rw [hrd (by omega)]; omega) | (have hx9 := hx (by omega); rw [hx9.1]; omega)) (by first | assumption | omega | exact hr _ _ rfl | (have hr9 := hrr (by omega); rw [hrd (by omega)]; omega) | (have hx9 := hx (by omega); rw [hx9.1]; omega)) (by decide) ?_
        refine mm_iadd (mm_dc od_X10_fillCost_1 33 rfl) ?_
        refine mm_istore (L' := [(0, v_r 50), (1, v_i b), (2, v_i hour), (3, v_i (S : Int)), (4, v_i (((2 ^ S : Nat) : Int) - 1)), (5, v_i (o : Int)), (6, v_i (j : Int)), (7, v_i (minM (frowM B o) (fun s => cstM B b o s) j i)), (8, v_i (i : Int)), (9, v_i ((cstM M b (o : Int) (i : Int)) + (M 70 (Int.toNat ((256 * ((o : Int) + 1)) + (fx_or (j : Int) (fx_shl 1 (i : Int))))))))]) (mm_dc od_X10_fillCost_1 34 rfl) (by decide) rfl ?_
        refine mm_iload (mm_dc od_X10_fillCost_1 35 rfl) rfl ?_
        refine mm_iload (mm_dc od_X10_fillCost_1 36 rfl) rfl ?_
        refine mm_icmp_ge 177 (mm_dc od_X10_fillCost_1 37 rfl) (by omega) (by first | assumption | omega | exact hr _ _ rfl | (have hr9 := hrr (by omega); rw [hrd (by omega)]; omega) | (have hx9 := hx (by omega); rw [hx9.1]; omega)) (by first | assumption | omega | exact hr _ _ rfl | (have hr9 := hrr (by omega); rw [hrd (by omega)]; omega) | (have hx9 := hx (by omega); rw [hx9.1]; omega)) (fun c4 => ?_) (fun c4 => ?_)
        · refine mm_iinc (L' := [(0, v_r 50), (1, v_i b), (2, v_i hour), (3, v_i (S : Int)), (4, v_i (((2 ^ S : Nat) : Int) - 1)), (5, v_i (o : Int)), (6, v_i (j : Int)), (7, v_i (minM (frowM B o) (fun s => cstM B b o s) j i)), (8, v_i ((i : Int) + 1)), (9, v_i ((cstM M b (o : Int) (i : Int)) + (M 70 (Int.toNat ((256 * ((o : Int) + 1)) + (fx_or (j : Int) (fx_shl 1 (i : Int))))))))]) (mm_dc od_X10_fillCost_1 40 rfl) rfl (by decide) rfl ?_
          refine mm_goto 102 (mm_dc od_X10_fillCost_1 41 rfl) (by omega) ?_
          have hst : minM (frowM B o) (fun s => cstM B b o s) j (i + 1) = minM (frowM B o) (fun s => cstM B b o s) j i := by simp only [minM]; rw [if_neg (hbf (by assumption)), ← hrd (by omega), ← hcs]; omega
          refine mm_less (L' := [(0, v_r 50), (1, v_i b), (2, v_i hour), (3, v_i (S : Int)), (4, v_i (((2 ^ S : Nat) : Int) - 1)), (5, v_i (o : Int)), (6, v_i (j : Int)), (7, v_i (minM (frowM B o) (fun s => cstM B b o s) j i)), (8, v_i ((i : Int) + 1))]) [0, 1, 2, 3, 4, 5, 6, 7, 8] rfl ?_
          refine mm_cL (L' := [(0, v_r 50), (1, v_i b), (2, v_i hour), (3, v_i (S : Int)), (4, v_i (((2 ^ S : Nat) : Int) - 1)), (5, v_i (o : Int)), (6, v_i (j : Int)), (7, v_i (minM (frowM B o) (fun s => cstM B b o s) j (i + 1))), (8, v_i ((i : Int) + 1))]) (by rw [hst]) ?_
          exact L_fm2 b hour o S hbB hh hoB ho16 hS8 hJoB hJbB hrow hf hout j hj K (i + 1) (fun _ => by rw [← hfp.1]; exact c2) (by omega)
        · refine mm_iload (mm_dc od_X10_fillCost_1 38 rfl) rfl ?_
          refine mm_istore (L' := [(0, v_r 50), (1, v_i b), (2, v_i hour), (3, v_i (S : Int)), (4, v_i (((2 ^ S : Nat) : Int) - 1)), (5, v_i (o : Int)), (6, v_i (j : Int)), (7, v_i ((cstM M b (o : Int) (i : Int)) + (M 70 (Int.toNat ((256 * ((o : Int) + 1)) + (fx_or (j : Int) (fx_shl 1 (i : Int)))))))), (8, v_i (i : Int)), (9, v_i ((cstM M b (o : Int) (i : Int)) + (M 70 (Int.toNat ((256 * ((o : Int) + 1)) + (fx_or (j : Int) (fx_shl 1 (i : Int))))))))]) (mm_dc od_X10_fillCost_1 39 rfl) (by decide) rfl ?_
          refine mm_iinc (L' := [(0, v_r 50), (1, v_i b), (2, v_i hour), (3, v_i (S : Int)), (4, v_i (((2 ^ S : Nat) : Int) - 1)), (5, v_i (o : Int)), (6, v_i (j : Int)), (7, v_i ((cstM M b (o : Int) (i : Int)) + (M 70 (Int.toNat ((256 * ((o : Int) + 1)) + (fx_or (j : Int) (fx_shl 1 (i : Int)))))))), (8, v_i ((i : Int) + 1)), (9, v_i ((cstM M b (o : Int) (i : Int)) + (M 70 (Int.toNat ((256 * ((o : Int) + 1)) + (fx_or (j : Int) (fx_shl 1 (i : Int))))))))]) (mm_dc od_X10_fillCost_1 40 rfl) rfl (by decide) rfl ?_
          refine mm_goto 102 (mm_dc od_X10_fillCost_1 41 rfl) (by omega) ?_
          have hst : minM (frowM B o) (fun s => cstM B b o s) j (i + 1) = (cstM M b (o : Int) (i : Int)) + (M 70 (Int.toNat ((256 * ((o : Int) + 1)) + (fx_or (j : Int) (fx_shl 1 (i : Int)))))) := by simp only [minM]; rw [if_neg (hbf (by assumption)), ← hrd (by omega), ← hcs]; omega
          refine mm_less (L' := [(0, v_r 50), (1, v_i b), (2, v_i hour), (3, v_i (S : Int)), (4, v_i (((2 ^ S : Nat) : Int) - 1)), (5, v_i (o : Int)), (6, v_i (j : Int)), (7, v_i ((cstM M b (o : Int) (i : Int)) + (M 70 (Int.toNat ((256 * ((o : Int) + 1)) + (fx_or (j : Int) (fx_shl 1 (i : Int)))))))), (8, v_i ((i : Int) + 1))]) [0, 1, 2, 3, 4, 5, 6, 7, 8] rfl ?_
          refine mm_cL (L' := [(0, v_r 50), (1, v_i b), (2, v_i hour), (3, v_i (S : Int)), (4, v_i (((2 ^ S : Nat) : Int) - 1)), (5, v_i (o : Int)), (6, v_i (j : Int)), (7, v_i (minM (frowM B o) (fun s => cstM B b o s) j (i + 1))), (8, v_i ((i : Int) + 1))]) (by rw [hst]) ?_
          exact L_fm2 b hour o S hbB hh hoB ho16 hS8 hJoB hJbB hrow hf hout j hj K (i + 1) (fun _ => by rw [← hfp.1]; exact c2) (by omega)
      · refine mm_goto 177 (mm_dc od_X10_fillCost_1 13 rfl) (by omega) ?_
        refine mm_iinc (L' := [(0, v_r 50), (1, v_i b), (2, v_i hour), (3, v_i (S : Int)), (4, v_i (((2 ^ S : Nat) : Int) - 1)), (5, v_i (o : Int)), (6, v_i (j : Int)), (7, v_i (minM (frowM B o) (fun s => cstM B b o s) j i)), (8, v_i ((i : Int) + 1))]) (mm_dc od_X10_fillCost_1 40 rfl) rfl (by decide) rfl ?_
        refine mm_goto 102 (mm_dc od_X10_fillCost_1 41 rfl) (by omega) ?_
        have hst : minM (frowM B o) (fun s => cstM B b o s) j (i + 1) = minM (frowM B o) (fun s => cstM B b o s) j i := by simp only [minM]; rw [if_pos (hbt (by assumption))]
        refine mm_less (L' := [(0, v_r 50), (1, v_i b), (2, v_i hour), (3, v_i (S : Int)), (4, v_i (((2 ^ S : Nat) : Int) - 1)), (5, v_i (o : Int)), (6, v_i (j : Int)), (7, v_i (minM (frowM B o) (fun s => cstM B b o s) j i)), (8, v_i ((i : Int) + 1))]) [0, 1, 2, 3, 4, 5, 6, 7, 8] rfl ?_
        refine mm_cL (L' := [(0, v_r 50), (1, v_i b), (2, v_i hour), (3, v_i (S : Int)), (4, v_i (((2 ^ S : Nat) : Int) - 1)), (5, v_i (o : Int)), (6, v_i (j : Int)), (7, v_i (minM (frowM B o) (fun s => cstM B b o s) j (i + 1))), (8, v_i ((i : Int) + 1))]) (by rw [hst]) ?_
        exact L_fm2 b hour o S hbB hh hoB ho16 hS8 hJoB hJbB hrow hf hout j hj K (i + 1) (fun _ => by rw [← hfp.1]; exact c2) (by omega)
    · refine mm_if_eq 183 (mm_dc od_X10_fillCost_1 5 rfl) (by omega) (by first | assumption | omega | exact hr _ _ rfl | (have hr9 := hrr (by omega); rw [hrd (by omega)]; omega) | (have hx9 := hx (by omega); rw [hx9.1]; omega)) (fun _ => ?_) (fun h => absurd h (by decide))
      have e : i = 0 := by apply Classical.byContradiction; intro q; exact absurd (hfr q) (by rw [← hfp.1]; exact c2)
      subst e
      exact mm_less [0, 1, 2, 3, 4, 5, 6, 7] rfl (K _ (Or.inr ⟨by rw [← hfp.1]; exact c2, rfl⟩))
termination_by S - i
decreasing_by all_goals (first | omega | (simp_wf; omega))
theorem L_fmT {X : Nat × (Nat → Int)} {d : Nat} {Po : mm_Po} {M : mm_M} (b hour : Int) (o S : Nat) (ho16 : o < 16) (hS8 : S ≤ 8) (j : Nat) (hj : j < 2 ^ S) (v : Int) (K : mm_G X d 0 0 mi_X10_fillCost Po 74 [(0, v_r 50), (1, v_i b), (2, v_i hour), (3, v_i (S : Int)), (4, v_i (((2 ^ S : Nat) : Int) - 1)), (5, v_i (o : Int)), (6, v_i ((j : Int) + 1))] [] Lam (mm_up M 70 (256 * o + j) v) 0 0) : mm_G X d 0 0 mi_X10_fillCost Po 183 [(0, v_r 50), (1, v_i b), (2, v_i hour), (3, v_i (S : Int)), (4, v_i (((2 ^ S : Nat) : Int) - 1)), (5, v_i (o : Int)), (6, v_i (j : Int)), (7, v_i v)] [] Lam M 0 0 := by
  have h256 := cr_256 hS8
  have hix : 0 ≤ 256 * (o : Int) + (j : Int) ∧ 256 * (o : Int) + (j : Int) < 4352 := (by omega)
  refine mm_aload_n (mm_dc od_X10_fillCost_1 42 rfl) rfl ?_
  refine mm_getR (ci := 10) (k := 24) (mm_dc od_X10_fillCost_1 43 rfl) rfl in_X10 (by decide) wd_4_136 rfl rfl ?_
  refine mm_sipush (mm_dc od_X10_fillCost_1 44 rfl) (by decide) ?_
  refine mm_iload (mm_dc od_X10_fillCost_1 45 rfl) rfl ?_
  refine mm_imul (mm_dc od_X10_fillCost_1 46 rfl) ?_
  refine mm_iload (mm_dc od_X10_fillCost_1 47 rfl) rfl ?_
  refine mm_iadd (mm_dc od_X10_fillCost_1 48 rfl) ?_
  refine mm_iload (mm_dc od_X10_fillCost_1 49 rfl) rfl ?_
  refine mm_iast (mm_dc od_X10_fillCost_1 50 rfl) rfl (by first | omega | assumption) (by first | omega | assumption) (by decide) ?_
  refine mm_iinc (L' := [(0, v_r 50), (1, v_i b), (2, v_i hour), (3, v_i (S : Int)), (4, v_i (((2 ^ S : Nat) : Int) - 1)), (5, v_i (o : Int)), (6, v_i ((j : Int) + 1)), (7, v_i v)]) (mm_dc od_X10_fillCost_1 51 rfl) rfl (by decide) rfl ?_
  refine mm_goto 74 (mm_dc od_X10_fillCost_1 52 rfl) (by omega) ?_
  refine mm_eqM (M' := mm_up M 70 (256 * o + j) v) (by rw [show Int.toNat (256 * (o : Int) + (j : Int)) = 256 * o + j by omega]) ?_
  exact mm_less [0, 1, 2, 3, 4, 5, 6] rfl K
theorem L_fm1 {X : Nat × (Nat → Int)} {d : Nat} {Po : mm_Po} {M : mm_M} {B : mm_M} (b hour : Int) (o S : Nat) (hbB : 0 ≤ b ∧ b < B 50 11) (hh : mm_r32 hour) (hoB : (o : Int) < B 50 10) (ho16 : o < 16) (hS8 : 1 ≤ S ∧ S ≤ 8) (hJoB : JOm B) (hJbB : JBm B) (hrow : ∀ t, t < 2 ^ S → 0 ≤ B 70 (256 * (o + 1) + t) ∧ B 70 (256 * (o + 1) + t) ≤ 1000000) (K : ∀ N : mm_M, (frm 70 B N ∧ (∀ i, (i < 256 * o ∨ 256 * o + 256 ≤ i) → N 70 i = B 70 i) ∧ ∀ set, set < 2 ^ S → rvM B b hour o S (frowM B o) set (N 70 (256 * o + set))) → mm_G X (d + 2) 0 0 mi_X10_fillCost Po 66 [(0, v_r 50), (1, v_i b), (2, v_i hour), (3, v_i (S : Int)), (4, v_i (((2 ^ S : Nat) : Int) - 1)), (5, v_i ((o : Int) + (-1)))] [] Lam N 0 0) (j : Nat) (hj : j ≤ 2 ^ S) (hf : frm 70 B M) (hout : ∀ i, (i < 256 * o ∨ 256 * o + 256 ≤ i) → M 70 i = B 70 i) (hd : ∀ set, set < j → rvM B b hour o S (frowM B o) set (M 70 (256 * o + set))) : mm_G X (d + 2) 0 0 mi_X10_fillCost Po 74 [(0, v_r 50), (1, v_i b), (2, v_i hour), (3, v_i (S : Int)), (4, v_i (((2 ^ S : Nat) : Int) - 1)), (5, v_i (o : Int)), (6, v_i (j : Int))] [] Lam M 0 0 := by
  have hr := hf.1
  have hJom := (frm_JM hf (Or.inl rfl)).1 hJoB
  have hJbm := (frm_JM hf (Or.inl rfl)).2 hJbB
  have h50 := hf.2 50 (by decide)
  have hb : 0 ≤ b ∧ b < M 50 11 := (by rw [h50]; exact hbB)
  have hb1 : mm_r32 b := (by have := hJbB.2.1; omega)
  have ho : 0 ≤ (o : Int) ∧ (o : Int) < M 50 10 := (by rw [h50]; omega)
  have hfp := frm_pM hf (Or.inl rfl)
  have h256 := cr_256 hS8.2
  refine mm_iload (mm_dc od_X10_fillCost_0 41 rfl) rfl ?_
  refine mm_iload (mm_dc od_X10_fillCost_0 42 rfl) rfl ?_
  refine mm_icmp_gt 205 (mm_dc od_X10_fillCost_0 43 rfl) (by omega) (by first | omega | assumption | exact hr _ _ rfl) (by first | omega | assumption | exact hr _ _ rfl) (fun c1 => ?_) (fun c1 => ?_)
  · refine mm_iinc (L' := [(0, v_r 50), (1, v_i b), (2, v_i hour), (3, v_i (S : Int)), (4, v_i (((2 ^ S : Nat) : Int) - 1)), (5, v_i ((o : Int) + (-1))), (6, v_i (j : Int))]) (mm_dc od_X10_fillCost_1 53 rfl) rfl (by decide) rfl ?_
    refine mm_goto 66 (mm_dc od_X10_fillCost_1 54 rfl) (by omega) ?_
    exact mm_less [0, 1, 2, 3, 4, 5] rfl (K M ⟨hf, hout, fun set hs => hd set (by omega)⟩)
  · refine mm_aload_n (mm_dc od_X10_fillCost_0 44 rfl) rfl ?_
    refine mm_getR (ci := 10) (k := 24) (mm_dc od_X10_fillCost_0 45 rfl) rfl in_X10 (by decide) wd_4_136 rfl rfl ?_
    refine mm_sipush (mm_dc od_X10_fillCost_0 46 rfl) (by decide) ?_
    refine mm_iload (mm_dc od_X10_fillCost_0 47 rfl) rfl ?_
    refine mm_iconst (mm_dc od_X10_fillCost_0 48 rfl) ?_
    refine mm_iadd (mm_dc od_X10_fillCost_0 49 rfl) ?_
    refine mm_imul (mm_dc od_X10_fillCost_0 50 rfl) ?_
    refine mm_iload (mm_dc od_X10_fillCost_0 51 rfl) rfl ?_
    refine mm_iadd (mm_dc od_X10_fillCost_0 52 rfl) ?_
    refine mm_iald (mm_dc od_X10_fillCost_0 53 rfl) rfl (by first | omega | assumption | exact hr _ _ rfl) (by first | omega | assumption | exact hr _ _ rfl) (by decide) ?_
    refine mm_istore (L' := [(0, v_r 50), (1, v_i b), (2, v_i hour), (3, v_i (S : Int)), (4, v_i (((2 ^ S : Nat) : Int) - 1)), (5, v_i (o : Int)), (6, v_i (j : Int)), (7, v_i (M 70 (Int.toNat ((256 * ((o : Int) + 1)) + (j : Int)))))]) (mm_dc od_X10_fillCost_0 54 rfl) (by decide) rfl ?_
    refine mm_iconst (mm_dc od_X10_fillCost_0 55 rfl) ?_
    refine mm_istore (L' := [(0, v_r 50), (1, v_i b), (2, v_i hour), (3, v_i (S : Int)), (4, v_i (((2 ^ S : Nat) : Int) - 1)), (5, v_i (o : Int)), (6, v_i (j : Int)), (7, v_i (M 70 (Int.toNat ((256 * ((o : Int) + 1)) + (j : Int))))), (8, v_i 0)]) (mm_dc od_X10_fillCost_0 56 rfl) (by decide) rfl ?_
    have hjl : j < 2 ^ S := by omega
    have hfj : M 70 (Int.toNat (256 * ((o : Int) + 1) + (j : Int))) = minM (frowM B o) (fun s => cstM B b o s) j 0 := by rw [show Int.toNat (256 * ((o : Int) + 1) + (j : Int)) = 256 * (o + 1) + j by omega, hout _ (by omega)]; rfl
    rw [hfj]
    refine L_fm2 b hour o S hbB hh hoB ho16 hS8 hJoB hJbB hrow hf hout j hjl (fun v hv => ?_) 0 (fun q => absurd rfl q) (Nat.zero_le _)
    have hvr := rvM_r hv hjl hrow
    refine L_fmT b hour o S ho16 hS8.2 j hjl v ?_
    refine L_fm1 b hour o S hbB hh hoB ho16 hS8 hJoB hJbB hrow K (j + 1) (by omega) (frm_up hf (by omega)) (fun i hi => ?_) (fun set hs2 => ?_)
    · rw [mm_upa, if_neg (by omega)]; exact hout i hi
    · rw [mm_upa]
      by_cases e : set = j
      · rw [if_pos (by omega), e]; exact hv
      · rw [if_neg (by omega)]; exact hd set (by omega)
termination_by 2 ^ S - j
decreasing_by all_goals (first | omega | (simp_wf; omega))
def cosM (B N : mm_M) (b hour : Int) (S n : Nat) : Prop := (∀ set, set < 2 ^ S → N 70 (256 * n + set) = if set = 2 ^ S - 1 then 0 else 1000000) ∧ ∀ o, o < n → ∀ set, set < 2 ^ S → rvM B b hour o S (frowM N o) set (N 70 (256 * o + set))
theorem L_fm0 {X : Nat × (Nat → Int)} {d : Nat} {Po : mm_Po} {M : mm_M} {B : mm_M} (b hour : Int) (n S : Nat) (hbB : 0 ≤ b ∧ b < B 50 11) (hh : mm_r32 hour) (hn : B 50 10 = n) (hS : seM B b = S) (hS8 : 1 ≤ S ∧ S ≤ 8) (hJoB : JOm B) (hJbB : JBm B) (k : ∀ N : mm_M, (frm 70 B N ∧ cosM B N b hour S n) → Po none Lam N) (j : Nat) (hf : frm 70 B M) (hbase : ∀ set, set < 2 ^ S → M 70 (256 * n + set) = if set = 2 ^ S - 1 then 0 else 1000000) (hrows : ∀ o, j ≤ o → o < n → ∀ set, set < 2 ^ S → rvM B b hour o S (frowM M o) set (M 70 (256 * o + set))) (hrw : ∀ t, t < 2 ^ S → 0 ≤ M 70 (256 * j + t) ∧ M 70 (256 * j + t) ≤ 1000000) (hj : j ≤ n) : mm_G X (d + 2) 0 0 mi_X10_fillCost Po 66 [(0, v_r 50), (1, v_i b), (2, v_i hour), (3, v_i (S : Int)), (4, v_i (((2 ^ S : Nat) : Int) - 1)), (5, v_i ((j : Int) - 1))] [] Lam M 0 0 := by
  have hr := hf.1
  have h50 := hf.2 50 (by decide)
  have hn2 : M 50 10 = n := (by rw [h50]; exact hn)
  have hn16 := hJoB.2.1
  have h256 := cr_256 hS8.2
  have hpow := Nat.one_le_two_pow (n := S)
  refine mm_iload (mm_dc od_X10_fillCost_0 37 rfl) rfl ?_
  refine mm_if_lt 211 (mm_dc od_X10_fillCost_0 38 rfl) (by omega) (by first | omega | assumption | exact hr _ _ rfl) (fun c1 => ?_) (fun c1 => ?_)
  · refine mm_ret (mm_dc od_X10_fillCost_1 55 rfl) rfl ?_
    exact k _ ⟨hf, hbase, fun o ho => hrows o (by omega) ho⟩
  · refine mm_iconst (mm_dc od_X10_fillCost_0 39 rfl) ?_
    refine mm_istore (L' := [(0, v_r 50), (1, v_i b), (2, v_i hour), (3, v_i (S : Int)), (4, v_i (((2 ^ S : Nat) : Int) - 1)), (5, v_i ((j : Int) - 1)), (6, v_i 0)]) (mm_dc od_X10_fillCost_0 40 rfl) (by decide) rfl ?_
    obtain ⟨o, rfl⟩ : ∃ o : Nat, j = o + 1 := ⟨j - 1, by omega⟩
    have hfp := frm_pM hf (Or.inl rfl)
    refine mm_cL (L' := [(0, v_r 50), (1, v_i b), (2, v_i hour), (3, v_i (S : Int)), (4, v_i (((2 ^ S : Nat) : Int) - 1)), (5, v_i (o : Int)), (6, v_i ((0 : Nat) : Int))]) (by rw [show ((o + 1 : Nat) : Int) - 1 = (o : Int) by omega]; rfl) ?_
    refine L_fm1 (B := M) b hour o S (by rw [h50]; exact hbB) hh (by omega) (by omega) hS8 ((frm_JM hf (Or.inl rfl)).1 hJoB) ((frm_JM hf (Or.inl rfl)).2 hJbB) hrw (fun N hN => ?_) 0 (Nat.zero_le _) (frm_0 hr) (fun i hi => rfl) (fun set hs => by omega)
    obtain ⟨q1, q2, q3⟩ := hN
    have efr : ∀ o2, o ≤ o2 → frowM N o2 = frowM M o2 := fun o2 h2 => by funext t; exact q2 _ (by omega)
    have q3' : ∀ set, set < 2 ^ S → rvM B b hour o S (frowM N o) set (N 70 (256 * o + set)) := fun set hs => by
      have h := q3 set hs
      unfold rvM at *
      rw [hfp.1, hfp.2] at h
      rw [efr o (Nat.le_refl _)]; exact h
    refine L_fm0 b hour n S hbB hh hn hS hS8 hJoB hJbB k o (frm_t hf q1) (fun set hs => by rw [q2 _ (by omega)]; exact hbase set hs) (fun o2 h1 h2 set hs => ?_) (fun t ht => rvM_r (q3 t ht) ht hrw) (by omega)
    by_cases e : o2 = o
    · rw [e]; exact q3' set hs
    · rw [efr o2 h1, q2 _ (by omega)]; exact hrows o2 (by omega) h2 set hs
termination_by j
decreasing_by all_goals (first | omega | (simp_wf; omega))
theorem L_fmA {X : Nat × (Nat → Int)} {d : Nat} {Po : mm_Po} {M : mm_M} {B : mm_M} (b hour : Int) (n S : Nat) (hbB : 0 ≤ b ∧ b < B 50 11) (hh : mm_r32 hour) (hn : B 50 10 = n) (hS : seM B b = S) (hS8 : 1 ≤ S ∧ S ≤ 8) (hJoB : JOm B) (hJbB : JBm B) (k : ∀ N : mm_M, (frm 70 B N ∧ cosM B N b hour S n) → Po none Lam N) (j : Nat) (hf : frm 70 B M) (hbase : ∀ set, set < j → M 70 (256 * n + set) = if set = 2 ^ S - 1 then 0 else 1000000) (hj : j ≤ 2 ^ S) : mm_G X (d + 2) 0 0 mi_X10_fillCost Po 16 [(0, v_r 50), (1, v_i b), (2, v_i hour), (3, v_i (S : Int)), (4, v_i (((2 ^ S : Nat) : Int) - 1)), (5, v_i (j : Int))] [] Lam M 0 0 := by
  have hr := hf.1
  have h50 := hf.2 50 (by decide)
  have hn2 : M 50 10 = n := (by rw [h50]; exact hn)
  have hn16 := hJoB.2.1
  have h256 := cr_256 hS8.2
  have hpow := Nat.one_le_two_pow (n := S)
  refine mm_iload (mm_dc od_X10_fillCost_0 12 rfl) rfl ?_
  refine mm_iload (mm_dc od_X10_fillCost_0 13 rfl) rfl ?_
  refine mm_icmp_gt 58 (mm_dc od_X10_fillCost_0 14 rfl) (by omega) (by first | omega | assumption | exact hr _ _ rfl) (by first | omega | assumption | exact hr _ _ rfl) (fun c1 => ?_) (fun c1 => ?_)
  · refine mm_aload_n (mm_dc od_X10_fillCost_0 32 rfl) rfl ?_
    refine mm_getI (ci := 10) (k := 10) (mm_dc od_X10_fillCost_0 33 rfl) rfl in_X10 (by decide) wd_4_122 rfl rfl ?_
    refine mm_iconst (mm_dc od_X10_fillCost_0 34 rfl) ?_
    refine mm_isub (mm_dc od_X10_fillCost_0 35 rfl) ?_
    refine mm_istore (L' := [(0, v_r 50), (1, v_i b), (2, v_i hour), (3, v_i (S : Int)), (4, v_i (((2 ^ S : Nat) : Int) - 1)), (5, v_i ((M 50 10) - 1))]) (mm_dc od_X10_fillCost_0 36 rfl) (by decide) rfl ?_
    refine mm_cL (L' := [(0, v_r 50), (1, v_i b), (2, v_i hour), (3, v_i (S : Int)), (4, v_i (((2 ^ S : Nat) : Int) - 1)), (5, v_i ((n : Int) - 1))]) (by rw [hn2]) ?_
    exact L_fm0 b hour n S hbB hh hn hS hS8 hJoB hJbB k n hf (fun set hs => hbase set (by omega)) (fun o h1 h2 => by omega) (fun t ht => by rw [hbase t (by omega)]; split <;> omega) (Nat.le_refl _)
  · refine mm_aload_n (mm_dc od_X10_fillCost_0 15 rfl) rfl ?_
    refine mm_getR (ci := 10) (k := 24) (mm_dc od_X10_fillCost_0 16 rfl) rfl in_X10 (by decide) wd_4_136 rfl rfl ?_
    refine mm_sipush (mm_dc od_X10_fillCost_0 17 rfl) (by decide) ?_
    refine mm_aload_n (mm_dc od_X10_fillCost_0 18 rfl) rfl ?_
    refine mm_getI (ci := 10) (k := 10) (mm_dc od_X10_fillCost_0 19 rfl) rfl in_X10 (by decide) wd_4_122 rfl rfl ?_
    refine mm_imul (mm_dc od_X10_fillCost_0 20 rfl) ?_
    refine mm_iload (mm_dc od_X10_fillCost_0 21 rfl) rfl ?_
    refine mm_iadd (mm_dc od_X10_fillCost_0 22 rfl) ?_
    refine mm_iload (mm_dc od_X10_fillCost_0 23 rfl) rfl ?_
    refine mm_iload (mm_dc od_X10_fillCost_0 24 rfl) rfl ?_
    refine mm_icmp_ne 49 (mm_dc od_X10_fillCost_0 25 rfl) (by omega) (by first | omega | assumption | exact hr _ _ rfl) (by first | omega | assumption | exact hr _ _ rfl) (fun c2 => ?_) (fun c2 => ?_)
    · refine mm_ldc (z := 1000000) (mm_dc od_X10_fillCost_0 28 rfl) wd_5_152 ?_
      refine mm_iast (mm_dc od_X10_fillCost_0 29 rfl) rfl (by first | omega | assumption | exact hr _ _ rfl) (by first | omega | assumption | exact hr _ _ rfl) (by decide) ?_
      refine mm_iinc (L' := [(0, v_r 50), (1, v_i b), (2, v_i hour), (3, v_i (S : Int)), (4, v_i (((2 ^ S : Nat) : Int) - 1)), (5, v_i ((j : Int) + 1))]) (mm_dc od_X10_fillCost_0 30 rfl) rfl (by decide) rfl ?_
      refine mm_goto 16 (mm_dc od_X10_fillCost_0 31 rfl) (by omega) ?_
      have hix : Int.toNat (256 * M 50 10 + (j : Int)) = 256 * n + j := by omega
      rw [hix]
      exact L_fmA b hour n S hbB hh hn hS hS8 hJoB hJbB k (j + 1) (frm_up hf (by decide)) (fun set hs => by rw [mm_upa]; split; (next e => rw [if_neg (by omega)]); exact hbase set (by omega)) (by omega)
    · refine mm_iconst (mm_dc od_X10_fillCost_0 26 rfl) ?_
      refine mm_goto 51 (mm_dc od_X10_fillCost_0 27 rfl) (by omega) ?_
      refine mm_iast (mm_dc od_X10_fillCost_0 29 rfl) rfl (by first | omega | assumption | exact hr _ _ rfl) (by first | omega | assumption | exact hr _ _ rfl) (by decide) ?_
      refine mm_iinc (L' := [(0, v_r 50), (1, v_i b), (2, v_i hour), (3, v_i (S : Int)), (4, v_i (((2 ^ S : Nat) : Int) - 1)), (5, v_i ((j : Int) + 1))]) (mm_dc od_X10_fillCost_0 30 rfl) rfl (by decide) rfl ?_
      refine mm_goto 16 (mm_dc od_X10_fillCost_0 31 rfl) (by omega) ?_
      have hix : Int.toNat (256 * M 50 10 + (j : Int)) = 256 * n + j := by omega
      rw [hix]
      exact L_fmA b hour n S hbB hh hn hS hS8 hJoB hJbB k (j + 1) (frm_up hf (by decide)) (fun set hs => by rw [mm_upa]; split; (next e => rw [if_pos (by omega)]); exact hbase set (by omega)) (by omega)
termination_by 2 ^ S - j
decreasing_by all_goals (first | omega | (simp_wf; omega))
theorem c_X10_fillCost {X : Nat × (Nat → Int)} {d : Nat} {Po : mm_Po} {M : mm_M} (b : Int) (hour : Int) (hb : 0 ≤ b ∧ b < M 50 11) (hh : mm_r32 hour) (hJom : JOm M) (hJbm : JBm M) (hr : R32 M) (k : ∀ N : mm_M, (frm 70 M N ∧ cosM M N b hour (seM M b) (M 50 10).toNat) → Po none Lam N) : mm_E X (d + 2) 0 0 mi_X10_fillCost [v_r 50, v_i b, v_i hour] Po Lam M := by
  show mm_G X (d + 2) 0 0 mi_X10_fillCost Po 0 [(0, v_r 50), (1, v_i b), (2, v_i hour)] [] Lam M 0 0
  have hs := seM_is hb hJbm
  have hn0 := hJom.1
  have h256 := cr_256 hs.2.2
  refine mm_aload_n (mm_dc od_X10_fillCost_0 0 rfl) rfl ?_
  refine mm_iload_n (mm_dc od_X10_fillCost_0 1 rfl) rfl ?_
  refine mm_callV (b := 50) (mi' := mi_X10_seatsOf) [v_i b] [] (mm_dc od_X10_fillCost_0 2 rfl) rfl wd_5_67 wd_5_69 wd_p_24 wd_1_12 wd_5_70 yk_X10_seatsOf rfl rfl rfl (Nat.le_of_ble_eq_true rfl) rfl (by decide) (c_X10_seatsOf b (by first | omega | assumption | exact hr _ _ rfl) hJbm (by first | omega | assumption | exact hr _ _ rfl) ⟨Nat.le_refl _, ?_⟩)
  refine mm_istore_n (L' := [(0, v_r 50), (1, v_i b), (2, v_i hour), (3, v_i (mm_seats (M 57 b.toNat).toNat))]) (mm_dc od_X10_fillCost_0 3 rfl) (by decide) rfl ?_
  refine mm_iconst (mm_dc od_X10_fillCost_0 4 rfl) ?_
  refine mm_iload_n (mm_dc od_X10_fillCost_0 5 rfl) rfl ?_
  refine mm_ishl (mm_dc od_X10_fillCost_0 6 rfl) ?_
  refine mm_iconst (mm_dc od_X10_fillCost_0 7 rfl) ?_
  refine mm_isub (mm_dc od_X10_fillCost_0 8 rfl) ?_
  refine mm_istore (L' := [(0, v_r 50), (1, v_i b), (2, v_i hour), (3, v_i (mm_seats (M 57 b.toNat).toNat)), (4, v_i ((fx_shl 1 (mm_seats (M 57 b.toNat).toNat)) - 1))]) (mm_dc od_X10_fillCost_0 9 rfl) (by decide) rfl ?_
  refine mm_iconst (mm_dc od_X10_fillCost_0 10 rfl) ?_
  refine mm_istore (L' := [(0, v_r 50), (1, v_i b), (2, v_i hour), (3, v_i (mm_seats (M 57 b.toNat).toNat)), (4, v_i ((fx_shl 1 (mm_seats (M 57 b.toNat).toNat)) - 1)), (5, v_i 0)]) (mm_dc od_X10_fillCost_0 11 rfl) (by decide) rfl ?_
  have hsh : fx_shl 1 (mm_seats (M 57 b.toNat).toNat) = ((2 ^ seM M b : Nat) : Int) := by rw [hs.1]; exact fx_shl_1 (by omega)
  refine mm_cL (L' := [(0, v_r 50), (1, v_i b), (2, v_i hour), (3, v_i ((seM M b : Nat) : Int)), (4, v_i (((2 ^ seM M b : Nat) : Int) - 1)), (5, v_i ((0 : Nat) : Int))]) (by rw [hsh, hs.1]; rfl) ?_
  exact L_fmA b hour (M 50 10).toNat (seM M b) hb hh (by omega) rfl hs.2 hJom hJbm k 0 (frm_0 hr) (fun set hs => by omega) (Nat.zero_le _)
