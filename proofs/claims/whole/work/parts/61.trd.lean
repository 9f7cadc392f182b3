theorem L_tp {X : Nat × (Nat → Int)} {d : Nat} {Po : mm_Po} {M : mm_M} (set c : Nat) (len : Int) (hc : c ≤ 8) (K : ∀ y : Int, mm_G X d 0 0 mi_X10_trailer Po 56 [(0, v_r 50), (1, v_i (set : Int)), (2, v_i len), (3, v_i ((3 ^ c : Nat) : Int)), (4, v_i y)] [] Lam M 0 0) (j i : Nat) (hj : i + j = c) : mm_G X d 0 0 mi_X10_trailer Po 41 [(0, v_r 50), (1, v_i (set : Int)), (2, v_i len), (3, v_i ((3 ^ i : Nat) : Int)), (4, v_i (j : Int))] [] Lam M 0 0 := by
  refine mm_iload (mm_dc od_X10_trailer_0 25 rfl) rfl ?_
  refine mm_if_le 56 (mm_dc od_X10_trailer_0 26 rfl) (by omega) (by first | omega | assumption) (fun c1 => ?_) (fun c1 => ?_)
  · have e : i = c := by omega
    subst e
    exact K _
  · refine mm_iload_n (mm_dc od_X10_trailer_0 27 rfl) rfl ?_
    refine mm_iconst (mm_dc od_X10_trailer_0 28 rfl) ?_
    refine mm_imul (mm_dc od_X10_trailer_0 29 rfl) ?_
    refine mm_istore_n (L' := [(0, v_r 50), (1, v_i (set : Int)), (2, v_i len), (3, v_i (((3 ^ i : Nat) : Int) * 3)), (4, v_i (j : Int))]) (mm_dc od_X10_trailer_0 30 rfl) (by decide) rfl ?_
    refine mm_iinc (L' := [(0, v_r 50), (1, v_i (set : Int)), (2, v_i len), (3, v_i (((3 ^ i : Nat) : Int) * 3)), (4, v_i ((j : Int) + (-1)))]) (mm_dc od_X10_trailer_0 31 rfl) rfl (by decide) rfl ?_
    refine mm_goto 41 (mm_dc od_X10_trailer_0 32 rfl) (by omega) ?_
    obtain ⟨q, rfl⟩ : ∃ q : Nat, j = q + 1 := ⟨j - 1, by omega⟩
    refine mm_cL (L' := [(0, v_r 50), (1, v_i (set : Int)), (2, v_i len), (3, v_i ((3 ^ (i + 1) : Nat) : Int)), (4, v_i (q : Int))]) (by rw [show ((q + 1 : Nat) : Int) + (-1) = (q : Int) by omega, show ((3 ^ (i + 1) : Nat) : Int) = ((3 ^ i : Nat) : Int) * 3 by rw [Nat.pow_succ]; rfl]) ?_
    exact L_tp set c len hc K q (i + 1) (by omega)
termination_by j
decreasing_by all_goals (first | omega | (simp_wf; omega))
theorem L_t67 {X : Nat × (Nat → Int)} {d : Nat} {Po : mm_Po} {M : mm_M} {B : mm_M} (set E : Nat) (len : Int) (hset : set < 256) (hE : E ≤ 6561) (hlen : 1 ≤ len ∧ len ≤ 999) (hl : lnM B set) (K : ∀ (N : mm_M) (best v : Int), R32 N → (∀ i, i ≠ 89 → i ≠ 90 → N i = B i) → bqF set (B 60) len E best v → mm_G X (d + 1) 0 0 mi_X10_trailer Po 106 [(0, v_r 50), (1, v_i (set : Int)), (2, v_i len), (4, v_i best)] [] Lam N 0 0) (best v : Int) (e : Nat) (hr : R32 M) (hf : ∀ i, i ≠ 89 → i ≠ 90 → M i = B i) (hq : bqF set (B 60) len e best v) (he : e ≤ E) : mm_G X (d + 1) 0 0 mi_X10_trailer Po 67 [(0, v_r 50), (1, v_i (set : Int)), (2, v_i len), (3, v_i (E : Int)), (4, v_i best), (5, v_i v), (6, v_i (e : Int))] [] Lam M 0 0 := by
  have h60 : M 60 = B 60 := hf 60 (by decide) (by decide)
  have hlM : lnM M ((set : Int)).toNat := (by intro i hi; rw [h60]; exact hl i hi)
  have hvr : -1 ≤ v ∧ v ≤ len + 1 := (by rcases hq with ⟨_, q, _⟩ | ⟨p, _, _, q, q2, _⟩; omega; have := lgF_r hl 8 p; omega)
  refine mm_iload (mm_dc od_X10_trailer_0 41 rfl) rfl ?_
  refine mm_iload_n (mm_dc od_X10_trailer_0 42 rfl) rfl ?_
  refine mm_icmp_ge 106 (mm_dc od_X10_trailer_0 43 rfl) (by omega) (by first | omega | assumption | exact hr _ _ rfl) (by first | omega | assumption | exact hr _ _ rfl) (fun c1 => ?_) (fun c1 => ?_)
  · have ee : e = E := by omega
    subst ee
    exact mm_less [0, 1, 2, 4] rfl (K M best v hr hf hq)
  · refine mm_aload_n (mm_dc od_X10_trailer_0 44 rfl) rfl ?_
    refine mm_iload_n (mm_dc od_X10_trailer_0 45 rfl) rfl ?_
    refine mm_iload (mm_dc od_X10_trailer_0 46 rfl) rfl ?_
    refine mm_callV (b := 50) (mi' := mi_X10_longest) [v_i (set : Int), v_i (e : Int)] [] (mm_dc od_X10_trailer_0 47 rfl) rfl wd_6_58 wd_6_60 wd_p_48 wd_1_12 wd_6_61 yk_X10_longest rfl rfl rfl (Nat.le_of_ble_eq_true rfl) rfl (by decide) (c_X10_longest (set : Int) (e : Int) (by first | omega | assumption | exact hr _ _ rfl) (by first | omega | assumption | exact hr _ _ rfl) (by first | omega | assumption | exact hr _ _ rfl) (by first | omega | assumption | exact hr _ _ rfl) (fun N3 r2 hq4 => ⟨Nat.le_refl _, ?_⟩))
    have hro := hr
    have hr := hq4.1
    have hlr : mm_r32 r2 := by rw [hq4.2.2.2, h60, Int.toNat_natCast, Int.toNat_natCast]; have := lgF_r hl 8 e; omega
    have hlv : r2 = lgF set (B 60) 8 e := by rw [hq4.2.2.2, h60, Int.toNat_natCast, Int.toNat_natCast]
    refine mm_istore (L' := [(0, v_r 50), (1, v_i (set : Int)), (2, v_i len), (3, v_i (E : Int)), (4, v_i best), (5, v_i v), (6, v_i (e : Int)), (7, v_i r2)]) (mm_dc od_X10_trailer_0 48 rfl) (by decide) rfl ?_
    refine mm_iload (mm_dc od_X10_trailer_0 49 rfl) rfl ?_
    refine mm_iload (mm_dc od_X10_trailer_0 50 rfl) rfl ?_
    refine mm_icmp_lt 92 (mm_dc od_X10_trailer_0 51 rfl) (by omega) (by first | omega | assumption | exact hr _ _ rfl) (by first | omega | assumption | exact hr _ _ rfl) (fun c5 => ?_) (fun c5 => ?_)
    · refine mm_iload (mm_dc od_X10_trailer_0 53 rfl) rfl ?_
      refine mm_istore (L' := [(0, v_r 50), (1, v_i (set : Int)), (2, v_i len), (3, v_i (E : Int)), (4, v_i best), (5, v_i r2), (6, v_i (e : Int)), (7, v_i r2)]) (mm_dc od_X10_trailer_0 54 rfl) (by decide) rfl ?_
      refine mm_iload (mm_dc od_X10_trailer_0 55 rfl) rfl ?_
      refine mm_istore (L' := [(0, v_r 50), (1, v_i (set : Int)), (2, v_i len), (3, v_i (E : Int)), (4, v_i (e : Int)), (5, v_i r2), (6, v_i (e : Int)), (7, v_i r2)]) (mm_dc od_X10_trailer_0 56 rfl) (by decide) rfl ?_
      refine mm_iinc (L' := [(0, v_r 50), (1, v_i (set : Int)), (2, v_i len), (3, v_i (E : Int)), (4, v_i (e : Int)), (5, v_i r2), (6, v_i ((e : Int) + 1)), (7, v_i r2)]) (mm_dc od_X10_trailer_0 57 rfl) rfl (by decide) rfl ?_
      refine mm_goto 67 (mm_dc od_X10_trailer_0 58 rfl) (by omega) ?_
      refine mm_cL (L' := [(0, v_r 50), (1, v_i (set : Int)), (2, v_i len), (3, v_i (E : Int)), (4, v_i (e : Int)), (5, v_i (lgF set (B 60) 8 e)), (6, v_i ((e : Int) + 1)), (7, v_i r2)]) (by rw [hlv]) ?_
      exact mm_less [0, 1, 2, 3, 4, 5, 6] rfl (L_t67 set E len hset hE hlen hl K (e : Int) (lgF set (B 60) 8 e) (e + 1) hr (fun i q1 q2 => by rw [hq4.2.1 i q1 q2]; exact hf i q1 q2) (bq_lt hq (by rw [← hlv]; omega)) (by omega))
    · refine mm_goto 100 (mm_dc od_X10_trailer_0 52 rfl) (by omega) ?_
      refine mm_iinc (L' := [(0, v_r 50), (1, v_i (set : Int)), (2, v_i len), (3, v_i (E : Int)), (4, v_i best), (5, v_i v), (6, v_i ((e : Int) + 1)), (7, v_i r2)]) (mm_dc od_X10_trailer_0 57 rfl) rfl (by decide) rfl ?_
      refine mm_goto 67 (mm_dc od_X10_trailer_0 58 rfl) (by omega) ?_
      exact mm_less [0, 1, 2, 3, 4, 5, 6] rfl (L_t67 set E len hset hE hlen hl K best v (e + 1) hr (fun i q1 q2 => by rw [hq4.2.1 i q1 q2]; exact hf i q1 q2) (bq_ge hq (by rw [← hlv]; omega)) (by omega))
termination_by E - e
decreasing_by all_goals (first | omega | (simp_wf; omega))
theorem L_t126 {X : Nat × (Nat → Int)} {d : Nat} {Po : mm_Po} {M : mm_M} {B : mm_M} (set p : Nat) (len told : Int) (hset : set < 256) (h89 : ∀ i, i < 8 → set.testBit i = true → B 89 i = asF set 8 p i) (k : ∀ N : mm_M, (R32 N ∧ (∀ i, i ≠ 88 → N i = B i) ∧ ∀ i, i < 8 → N 88 i = asF set 8 p i) → Po (some (v_i told)) Lam N) (j : Nat) (hr : R32 M) (hf : ∀ i, i ≠ 88 → M i = B i) (h88 : ∀ i, i < j → M 88 i = asF set 8 p i) (hj : j ≤ 8) : mm_G X d 0 0 mi_X10_trailer Po 126 [(0, v_r 50), (1, v_i (set : Int)), (2, v_i len), (4, v_i (p : Int)), (6, v_i told), (7, v_i (j : Int))] [] Lam M 0 0 := by
  have hbi := fx_bit (a := set) (j := j) (show j < 32 by omega) (by omega)
  have hbr : mm_r32 (fx_and (fx_shr (set : Int) (j : Int)) 1) := (by rw [hbi]; split <;> omega)
  have hbt2 : fx_and (fx_shr (set : Int) (j : Int)) 1 = 1 → set.testBit j = true := (by rw [hbi]; intro q; by_cases q2 : set.testBit j = true; exact q2; rw [if_neg q2] at q; cases q)
  have hbf2 : ¬ fx_and (fx_shr (set : Int) (j : Int)) 1 = 1 → ¬ set.testBit j = true := (by rw [hbi]; intro q q2; rw [if_pos q2] at q; exact q rfl)
  refine mm_iload (mm_dc od_X10_trailer_1 10 rfl) rfl ?_
  refine mm_bipush (mm_dc od_X10_trailer_1 11 rfl) (by decide) ?_
  refine mm_icmp_ge 167 (mm_dc od_X10_trailer_1 12 rfl) (by omega) (by first | omega | assumption | exact hr _ _ rfl) (by first | omega | assumption | exact hr _ _ rfl) (fun c1 => ?_) (fun c1 => ?_)
  · refine mm_iload (mm_dc od_X10_trailer_1 32 rfl) rfl ?_
    refine mm_iret (mm_dc od_X10_trailer_1 33 rfl) rfl ?_
    exact k _ ⟨hr, hf, fun i hi => h88 i (by omega)⟩
  · refine mm_aload_n (mm_dc od_X10_trailer_1 13 rfl) rfl ?_
    refine mm_getR (ci := 10) (k := 50) (mm_dc od_X10_trailer_1 14 rfl) rfl in_X10 (by decide) wd_4_162 rfl rfl ?_
    refine mm_iload (mm_dc od_X10_trailer_1 15 rfl) rfl ?_
    refine mm_iload_n (mm_dc od_X10_trailer_1 16 rfl) rfl ?_
    refine mm_iload (mm_dc od_X10_trailer_1 17 rfl) rfl ?_
    refine mm_ishr (mm_dc od_X10_trailer_1 18 rfl) ?_
    refine mm_iconst (mm_dc od_X10_trailer_1 19 rfl) ?_
    refine mm_iand (mm_dc od_X10_trailer_1 20 rfl) ?_
    refine mm_iconst (mm_dc od_X10_trailer_1 21 rfl) ?_
    refine mm_icmp_ne 159 (mm_dc od_X10_trailer_1 22 rfl) (by omega) (by first | omega | assumption | exact hr _ _ rfl) (by first | omega | assumption | exact hr _ _ rfl) (fun c2 => ?_) (fun c2 => ?_)
    · refine mm_iconst (mm_dc od_X10_trailer_1 28 rfl) ?_
      refine mm_iast (mm_dc od_X10_trailer_1 29 rfl) rfl (by first | omega | assumption | exact hr _ _ rfl) (by first | omega | assumption | exact hr _ _ rfl) (by decide) ?_
      refine mm_eqM (M' := mm_up M 88 j (-1)) rfl ?_
      refine mm_iinc (L' := [(0, v_r 50), (1, v_i (set : Int)), (2, v_i len), (4, v_i (p : Int)), (6, v_i told), (7, v_i ((j : Int) + 1))]) (mm_dc od_X10_trailer_1 30 rfl) rfl (by decide) rfl ?_
      refine mm_goto 126 (mm_dc od_X10_trailer_1 31 rfl) (by omega) ?_
      exact L_t126 set p len told hset h89 k (j + 1) (R32_up hr (by decide)) (fun i q => by rw [mm_up_ne q]; exact hf i q) (fun i hi => by rw [mm_upa]; split; (next e => rw [e, asF_no (hbf2 (by assumption))]); exact h88 i (by omega)) (by omega)
    · refine mm_aload_n (mm_dc od_X10_trailer_1 23 rfl) rfl ?_
      refine mm_getR (ci := 10) (k := 51) (mm_dc od_X10_trailer_1 24 rfl) rfl in_X10 (by decide) wd_4_163 rfl rfl ?_
      refine mm_iload (mm_dc od_X10_trailer_1 25 rfl) rfl ?_
      refine mm_iald (mm_dc od_X10_trailer_1 26 rfl) rfl (by first | omega | assumption | exact hr _ _ rfl) (by first | omega | assumption | exact hr _ _ rfl) (by decide) ?_
      refine mm_cst (st' := [v_i (M 89 j), v_i (j : Int), v_r 88]) rfl ?_
      refine mm_goto 160 (mm_dc od_X10_trailer_1 27 rfl) (by omega) ?_
      refine mm_iast (mm_dc od_X10_trailer_1 29 rfl) rfl (by first | omega | assumption | exact hr _ _ rfl) (by first | omega | assumption | exact hr _ _ rfl) (by decide) ?_
      refine mm_eqM (M' := mm_up M 88 j (M 89 j)) rfl ?_
      refine mm_iinc (L' := [(0, v_r 50), (1, v_i (set : Int)), (2, v_i len), (4, v_i (p : Int)), (6, v_i told), (7, v_i ((j : Int) + 1))]) (mm_dc od_X10_trailer_1 30 rfl) rfl (by decide) rfl ?_
      refine mm_goto 126 (mm_dc od_X10_trailer_1 31 rfl) (by omega) ?_
      exact L_t126 set p len told hset h89 k (j + 1) (R32_up hr (hr _ _ rfl)) (fun i q => by rw [mm_up_ne q]; exact hf i q) (fun i hi => by rw [mm_upa]; split; (next e => rw [e, hf 89 (by decide)]; exact h89 j (by omega) (hbt2 (by assumption))); exact h88 i (by omega)) (by omega)
termination_by 8 - j
decreasing_by all_goals (first | omega | (simp_wf; omega))
theorem L_t106 {X : Nat × (Nat → Int)} {d : Nat} {Po : mm_Po} {M : mm_M} {B : mm_M} (set E : Nat) (len : Int) (hset : set < 256) (hE : E ≤ 6561) (hlen : 1 ≤ len ∧ len ≤ 999) (hl : lnM B set) (best v : Int) (hf : ∀ i, i ≠ 89 → i ≠ 90 → M i = B i) (hr : R32 M) (hq : bqF set (B 60) len E best v) (k : ∀ (N : mm_M) (r : Int), (R32 N ∧ (∀ i, i ≠ 88 → i ≠ 89 → i ≠ 90 → N i = B i) ∧ ((r = -3 ∧ N 88 = B 88 ∧ ∀ old, stF set (B 60) len old E = (len + 1, old)) ∨ (r ≤ len ∧ -1 ≤ r ∧ ∃ p : Nat, (∀ old, stF set (B 60) len old E = (r, asF set 8 p)) ∧ ∀ i, i < 8 → N 88 i = asF set 8 p i))) → Po (some (v_i r)) Lam N) : mm_G X (d + 1) 0 0 mi_X10_trailer Po 106 [(0, v_r 50), (1, v_i (set : Int)), (2, v_i len), (4, v_i best)] [] Lam M 0 0 := by
  have h60 : M 60 = B 60 := hf 60 (by decide) (by decide)
  have hlM : lnM M ((set : Int)).toNat := (by intro i hi; rw [h60]; exact hl i hi)
  have hbr : mm_r32 best ∧ best < 100000 := (by rcases hq with ⟨q, _⟩ | ⟨p, q, _⟩ <;> omega)
  refine mm_iload (mm_dc od_X10_trailer_0 59 rfl) rfl ?_
  refine mm_if_ge 114 (mm_dc od_X10_trailer_1 0 rfl) (by omega) (by first | omega | assumption | exact hr _ _ rfl | exact hbr.1) (fun c1 => ?_) (fun c1 => ?_)
  · refine mm_aload_n (mm_dc od_X10_trailer_1 3 rfl) rfl ?_
    refine mm_iload_n (mm_dc od_X10_trailer_1 4 rfl) rfl ?_
    refine mm_iload (mm_dc od_X10_trailer_1 5 rfl) rfl ?_
    refine mm_callV (b := 50) (mi' := mi_X10_longest) [v_i (set : Int), v_i best] [] (mm_dc od_X10_trailer_1 6 rfl) rfl wd_6_58 wd_6_60 wd_p_48 wd_1_12 wd_6_61 yk_X10_longest rfl rfl rfl (Nat.le_of_ble_eq_true rfl) rfl (by decide) (c_X10_longest (set : Int) best (by first | omega | assumption | exact hr _ _ rfl | exact hbr.1) (by first | omega | assumption | exact hr _ _ rfl | exact hbr.1) (by first | omega | assumption | exact hr _ _ rfl | exact hbr.1) (by first | omega | assumption | exact hr _ _ rfl | exact hbr.1) (fun N3 r2 hq4 => ⟨Nat.le_refl _, ?_⟩))
    have hro := hr
    have hr := hq4.1
    have hlv : r2 = lgF set (B 60) 8 best.toNat := by rw [hq4.2.2.2, h60, Int.toNat_natCast]
    have hlr : mm_r32 r2 := by rw [hlv]; have := lgF_r hl 8 best.toNat; omega
    refine mm_istore (L' := [(0, v_r 50), (1, v_i (set : Int)), (2, v_i len), (4, v_i best), (6, v_i r2)]) (mm_dc od_X10_trailer_1 7 rfl) (by decide) rfl ?_
    refine mm_iconst (mm_dc od_X10_trailer_1 8 rfl) ?_
    refine mm_istore (L' := [(0, v_r 50), (1, v_i (set : Int)), (2, v_i len), (4, v_i best), (6, v_i r2), (7, v_i 0)]) (mm_dc od_X10_trailer_1 9 rfl) (by decide) rfl ?_
    rcases hq with ⟨q1, _⟩ | ⟨p, q1, q2, q3, q4, q5⟩
    · exfalso; omega
    have hp : best.toNat = p := by omega
    rw [hp] at hlv
    have hgr := lgF_r hl 8 p
    rw [q1]
    refine L_t126 (B := N3) set p len r2 hset (fun i hi hb => ?_) (fun N hN => ?_) 0 hr (fun i _ => rfl) (fun i hi => by omega) (by omega)
    · have h := hq4.2.2.1 i hi (by rw [Int.toNat_natCast]; exact hb)
      rw [Int.toNat_natCast, hp] at h; exact h
    · refine k _ _ ⟨hN.1, fun i h1 h2 h3 => ?_, Or.inr ⟨by omega, by omega, p, fun old => ?_, hN.2.2⟩⟩
      · rw [hN.2.1 i h1, hq4.2.1 i h2 h3]; exact hf i h2 h3
      · rw [q5 old, q3, hlv]
  · refine mm_bipush (mm_dc od_X10_trailer_1 1 rfl) (by decide) ?_
    refine mm_iret (mm_dc od_X10_trailer_1 2 rfl) rfl ?_
    rcases hq with ⟨q1, q2, q3⟩ | ⟨p, q1, _⟩
    · exact k _ _ ⟨hr, fun i _ h2 h3 => hf i h2 h3, Or.inl ⟨rfl, hf 88 (by decide) (by decide), q3⟩⟩
    · exfalso; omega
theorem trl_lm {M : mm_M} (hJb : JBm M) {set : Nat} (hs : (set : Int) < ((2 ^ (M 50 11).toNat : Nat) : Int)) : lnM M set := by
  intro i hi
  have h1 : i < (M 50 11).toNat := by
    apply Classical.byContradiction
    intro q
    have h2 : set < 2 ^ i := Nat.lt_of_lt_of_le (by omega) (Nat.pow_le_pow_right (n := 2) (i := (M 50 11).toNat) (by decide) (by omega))
    rw [Nat.testBit_lt_two_pow h2] at hi
    cases hi
  have h3 := (hJb.2.2 i (by have := hJb.1; omega)).2.2.2
  omega
theorem c_X10_trailer {X : Nat × (Nat → Int)} {d : Nat} {Po : mm_Po} {M : mm_M} (set : Int) (len : Int) (hs0 : mm_r32 set) (hl0 : mm_r32 len) (hJbm : JBm M) (hr : R32 M) (k : ∀ (N : mm_M) (r : Int), ((¬ ((0 ≤ set ∧ set < ((2 ^ (M 50 11).toNat : Nat) : Int)) ∧ (1 ≤ len ∧ len ≤ 999)) ∧ r = -2 ∧ N = M) ∨ (((0 ≤ set ∧ set < ((2 ^ (M 50 11).toNat : Nat) : Int)) ∧ (1 ≤ len ∧ len ≤ 999)) ∧ (R32 N ∧ (∀ i, i ≠ 88 → i ≠ 89 → i ≠ 90 → N i = M i) ∧ ((r = -3 ∧ N 88 = M 88 ∧ ∀ old, stF set.toNat (M 60) len old (bsF set.toNat 8) = (len + 1, old)) ∨ (r ≤ len ∧ -1 ≤ r ∧ ∃ p : Nat, (∀ old, stF set.toNat (M 60) len old (bsF set.toNat 8) = (r, asF set.toNat 8 p)) ∧ ∀ i, i < 8 → N 88 i = asF set.toNat 8 p i))))) → Po (some (v_i r)) Lam N) : mm_E X (d + 1) 0 0 mi_X10_trailer [v_r 50, v_i set, v_i len] Po Lam M := by
  show mm_G X (d + 1) 0 0 mi_X10_trailer Po 0 [(0, v_r 50), (1, v_i set), (2, v_i len)] [] Lam M 0 0
  have hJb2 := hJbm
  obtain ⟨hb0, hb8, hB⟩ := hJb2
  have hsh : fx_shl 1 (M 50 11) = ((2 ^ (M 50 11).toNat : Nat) : Int) := (by
    have h := fx_shl_1 (j := (M 50 11).toNat) (by omega)
    rw [Int.toNat_of_nonneg hb0] at h; exact h)
  have hp : 2 ^ (M 50 11).toNat ≤ 2 ^ 8 := Nat.pow_le_pow_right (by decide) (by omega)
  have hp1 := Nat.one_le_two_pow (n := (M 50 11).toNat)
  refine mm_iload_n (mm_dc od_X10_trailer_0 0 rfl) rfl ?_
  refine mm_i2l (mm_dc od_X10_trailer_0 1 rfl) (by first | omega | assumption | exact hr _ _ rfl | (rw [hsh]; omega)) ?_
  refine mm_lconst (mm_dc od_X10_trailer_0 2 rfl) ?_
  refine mm_iconst (mm_dc od_X10_trailer_0 3 rfl) ?_
  refine mm_aload_n (mm_dc od_X10_trailer_0 4 rfl) rfl ?_
  refine mm_getI (ci := 10) (k := 11) (mm_dc od_X10_trailer_0 5 rfl) rfl in_X10 (by decide) wd_4_123 rfl rfl ?_
  refine mm_ishl (mm_dc od_X10_trailer_0 6 rfl) ?_
  refine mm_iconst (mm_dc od_X10_trailer_0 7 rfl) ?_
  refine mm_isub (mm_dc od_X10_trailer_0 8 rfl) ?_
  refine mm_i2l (mm_dc od_X10_trailer_0 9 rfl) (by first | omega | assumption | exact hr _ _ rfl | (rw [hsh]; omega)) ?_
  refine mm_callS (mi' := mi_X10_isIn) [v_l set, v_l 0, v_l ((fx_shl 1 (M 50 11)) - 1)] [] (mm_dc od_X10_trailer_0 10 rfl) rfl wd_5_37 wd_5_38 wd_1_12 wd_5_39 yk_X10_isIn (Nat.le_of_ble_eq_true rfl) rfl (by decide) (c_X10_isIn set 0 ((fx_shl 1 (M 50 11)) - 1) (by first | omega | assumption | exact hr _ _ rfl | (rw [hsh]; omega)) (by first | omega | assumption | exact hr _ _ rfl | (rw [hsh]; omega)) (by first | omega | assumption | exact hr _ _ rfl | (rw [hsh]; omega)) (fun c1 => ⟨Nat.le_refl _, ?_⟩) (fun c1 => ⟨Nat.le_refl _, ?_⟩))
  · refine mm_if_eq 30 (mm_dc od_X10_trailer_0 11 rfl) (by omega) (by first | omega | assumption | exact hr _ _ rfl | (rw [hsh]; omega)) (fun h => absurd h (by decide)) (fun _ => ?_)
    refine mm_iload_n (mm_dc od_X10_trailer_0 12 rfl) rfl ?_
    refine mm_i2l (mm_dc od_X10_trailer_0 13 rfl) (by first | omega | assumption | exact hr _ _ rfl | (rw [hsh]; omega)) ?_
    refine mm_lconst (mm_dc od_X10_trailer_0 14 rfl) ?_
    refine mm_ldc2 (z := 999) (mm_dc od_X10_trailer_0 15 rfl) wd_5_92 ?_
    refine mm_callS (mi' := mi_X10_isIn) [v_l len, v_l 1, v_l 999] [] (mm_dc od_X10_trailer_0 16 rfl) rfl wd_5_37 wd_5_38 wd_1_12 wd_5_39 yk_X10_isIn (Nat.le_of_ble_eq_true rfl) rfl (by decide) (c_X10_isIn len 1 999 (by first | omega | assumption | exact hr _ _ rfl | (rw [hsh]; omega)) (by first | omega | assumption | exact hr _ _ rfl | (rw [hsh]; omega)) (by first | omega | assumption | exact hr _ _ rfl | (rw [hsh]; omega)) (fun c2 => ⟨Nat.le_refl _, ?_⟩) (fun c2 => ⟨Nat.le_refl _, ?_⟩))
    · refine mm_if_ne 33 (mm_dc od_X10_trailer_0 17 rfl) (by omega) (by first | omega | assumption | exact hr _ _ rfl | (rw [hsh]; omega)) (fun _ => ?_) (fun h => absurd h (by decide))
      refine mm_iconst (mm_dc od_X10_trailer_0 20 rfl) ?_
      refine mm_istore_n (L' := [(0, v_r 50), (1, v_i set), (2, v_i len), (3, v_i 1)]) (mm_dc od_X10_trailer_0 21 rfl) (by decide) rfl ?_
      refine mm_iload_n (mm_dc od_X10_trailer_0 22 rfl) rfl ?_
      refine mm_callS (mi' := mi_X10_bits) [v_i set] [] (mm_dc od_X10_trailer_0 23 rfl) rfl wd_5_121 wd_5_122 wd_1_12 wd_5_123 yk_X10_bits (Nat.le_of_ble_eq_true rfl) rfl (by decide) (c_X10_bits set (by first | omega | assumption | exact hr _ _ rfl | (rw [hsh]; omega)) ⟨Nat.le_refl _, ?_⟩)
      refine mm_istore (L' := [(0, v_r 50), (1, v_i set), (2, v_i len), (3, v_i 1), (4, v_i (cntb set.toNat))]) (mm_dc od_X10_trailer_0 24 rfl) (by decide) rfl ?_
      have hv : (0 ≤ set ∧ set < ((2 ^ (M 50 11).toNat : Nat) : Int)) ∧ (1 ≤ len ∧ len ≤ 999) := by omega
      obtain ⟨z, rfl⟩ : ∃ z : Nat, set = z := ⟨set.toNat, by omega⟩
      have hz : z < 256 := by omega
      have hc8 := cnt_8 z hz
      have hc0 := (cntb_r z).1
      have hbs := bs_cnt z hz
      have hp6 := pow3_le (c := (cntb z).toNat) (by omega)
      rw [← hbs] at hp6
      refine mm_cL (L' := [(0, v_r 50), (1, v_i (z : Int)), (2, v_i len), (3, v_i ((3 ^ 0 : Nat) : Int)), (4, v_i (((cntb z).toNat : Nat) : Int))]) (by rw [Int.toNat_natCast, Int.toNat_of_nonneg hc0]; rfl) ?_
      refine L_tp z (cntb z).toNat len (by omega) (fun y => ?_) (cntb z).toNat 0 (by omega)
      rw [← hbs]
      have hlz := trl_lm (set := z) hJbm (by omega)
      refine mm_iconst (mm_dc od_X10_trailer_0 33 rfl) ?_
      refine mm_istore (L' := [(0, v_r 50), (1, v_i (z : Int)), (2, v_i len), (3, v_i ((bsF z 8 : Nat) : Int)), (4, v_i (-1))]) (mm_dc od_X10_trailer_0 34 rfl) (by decide) rfl ?_
      refine mm_iload_n (mm_dc od_X10_trailer_0 35 rfl) rfl ?_
      refine mm_iconst (mm_dc od_X10_trailer_0 36 rfl) ?_
      refine mm_iadd (mm_dc od_X10_trailer_0 37 rfl) ?_
      refine mm_istore (L' := [(0, v_r 50), (1, v_i (z : Int)), (2, v_i len), (3, v_i ((bsF z 8 : Nat) : Int)), (4, v_i (-1)), (5, v_i (len + 1))]) (mm_dc od_X10_trailer_0 38 rfl) (by decide) rfl ?_
      refine mm_iconst (mm_dc od_X10_trailer_0 39 rfl) ?_
      refine mm_istore (L' := [(0, v_r 50), (1, v_i (z : Int)), (2, v_i len), (3, v_i ((bsF z 8 : Nat) : Int)), (4, v_i (-1)), (5, v_i (len + 1)), (6, v_i 0)]) (mm_dc od_X10_trailer_0 40 rfl) (by decide) rfl ?_
      refine L_t67 (B := M) z (bsF z 8) len hz hp6 hv.2 hlz (fun N best v h1 h2 h3 => ?_) (-1) (len + 1) 0 hr (fun i _ _ => rfl) (Or.inl ⟨rfl, rfl, fun old => rfl⟩) (Nat.zero_le _)
      exact L_t106 (B := M) z (bsF z 8) len hz hp6 hv.2 hlz best v h2 h1 h3 (fun N2 r h => k _ _ (Or.inr ⟨hv, h⟩))
    · refine mm_if_ne 33 (mm_dc od_X10_trailer_0 17 rfl) (by omega) (by first | omega | assumption | exact hr _ _ rfl | (rw [hsh]; omega)) (fun h => absurd h (by decide)) (fun _ => ?_)
      refine mm_bipush (mm_dc od_X10_trailer_0 18 rfl) (by decide) ?_
      refine mm_iret (mm_dc od_X10_trailer_0 19 rfl) rfl ?_
      exact k _ _ (Or.inl ⟨by omega, rfl, rfl⟩)
  · refine mm_if_eq 30 (mm_dc od_X10_trailer_0 11 rfl) (by omega) (by first | omega | assumption | exact hr _ _ rfl | (rw [hsh]; omega)) (fun _ => ?_) (fun h => absurd h (by decide))
    refine mm_bipush (mm_dc od_X10_trailer_0 18 rfl) (by decide) ?_
    refine mm_iret (mm_dc od_X10_trailer_0 19 rfl) rfl ?_
    exact k _ _ (Or.inl ⟨by omega, rfl, rfl⟩)
theorem pair_trailer {M : mm_M} (hI : inv M) (set len : Int) (hs : mm_r32 set) (hl : mm_r32 len) : Pair2 mi_X9_trailer mi_X10_trailer v_i [v_i set, v_i len] M := by
  have hI0 := hI
  obtain ⟨hr, hJo, hJb, hJr, hJom, hJbm, v0, v1, v2, v3, v4, v5, v6, v7, v8, v9⟩ := hI0
  have jo := hJo; have jb := hJb; have jr := hJr; have jom := hJom; have jbm := hJbm
  obtain ⟨ho0, ho16, hO⟩ := jo
  obtain ⟨hb0, hb8, hB⟩ := jb
  obtain ⟨hr0, hr40, hRr⟩ := jr
  obtain ⟨go0, go16, gO⟩ := jom
  obtain ⟨gb0, gb8, gB⟩ := jbm
  have w1 := v1.1; have w2 := v2.1; have w3 := v3.1; have w4 := v4.1; have w5 := v5.1; have w6 := v6.1; have w7 := v7.1.1; have w7b := v7.2.1.1; have w8 := v8.1; have w8b := v8.2.2.2.1
  refine Pair2_i _ (fun X d Po k => c_X9_trailer (d := d + 1) set len hs hl hJb hr (fun N r h => k r N h)) (fun a MX h => ?_)
  rcases h with ⟨h1, rfl, rfl⟩ | ⟨h1, h2, h3⟩
  · refine ⟨by decide, fun X d Po k => c_X10_trailer (d := d + 11) set len hs hl hJbm hr (fun N2 r2 q => ?_)⟩
    rcases q with ⟨q1, rfl, rfl⟩ | ⟨q1, _⟩
    · exact k _ hI
    · rw [w2] at q1; exact absurd q1 h1
  · obtain ⟨l1, l2, l3, l4, l5, l6⟩ := h2
    rw [Nat.one_mul] at l5 l6
    have hra : mm_r32 a := by
      rcases h3 with ⟨_, rfl⟩ | ⟨_, rfl⟩
      · decide
      · exact l1 _ _ rfl
    have e50 : MX 50 = M 50 := l2 50 (by omega)
    have gJbm : JBm MX := by unfold JBm; rw [e50, l2 57 (by omega), l2 58 (by omega), l2 59 (by omega), l2 60 (by omega)]; exact hJbm
    refine ⟨hra, fun X d Po k => c_X10_trailer (d := d + 11) set len hs hl gJbm l1 (fun N2 r2 q => ?_)⟩
    rw [e50, w2] at q
    have hln := trl_ln hJb (set := set.toNat) (by omega)
    have hbl : ∀ i, set.toNat.testBit i = true → MX 60 i = M 9 i := by
      intro i hi
      rw [l2 60 (by omega)]
      have hi2 : i < (M 1 5).toNat := by
        apply Classical.byContradiction
        intro q
        have h2 : set.toNat < 2 ^ i := Nat.lt_of_lt_of_le (by omega) (Nat.pow_le_pow_right (n := 2) (i := (M 1 5).toNat) (by decide) (by omega))
        rw [Nat.testBit_lt_two_pow h2] at hi
        cases hi
      exact (v2.2 i (by omega)).2.2.2
    have hst := stF_cong (lim := len) (old := M 47) hbl (bsF set.toNat 8)
    rcases q with ⟨q1, _⟩ | ⟨q1, q2, q3, q4⟩
    · exact absurd h1 q1
    · have hfin : (∀ i, i < 8 → N2 88 i = MX 47 i) → inv N2 := by
        intro h88
        have ne : ∀ j, ¬ (46 ≤ j ∧ j ≤ 49) → j ≠ 88 → j ≠ 89 → j ≠ 90 → N2 j = M j := fun j a1 a2 a3 a4 => by rw [q3 j a2 a3 a4, l2 j a1]
        have hI3 : inv (fun i => if i = 47 then M 47 else if i = 88 then M 88 else N2 i) := by
          refine inv_cong hI ?_ (fun j hj => ?_) (fun q hq => ?_)
          · intro i k hik
            dsimp only
            split
            · exact hr _ _ (by simp [mm_isL])
            · split
              · exact hr _ _ (by simp [mm_isL])
              · exact q2 i k hik
          · have hj2 : (¬ (46 ≤ j ∧ j ≤ 49) ∧ j ≠ 88 ∧ j ≠ 89 ∧ j ≠ 90) ∨ j = 47 ∨ j = 88 := (show ∀ j, j ∈ liveA → (¬ (46 ≤ j ∧ j ≤ 49) ∧ j ≠ 88 ∧ j ≠ 89 ∧ j ≠ 90) ∨ j = 47 ∨ j = 88 by decide) j hj
            rcases hj2 with ⟨a1, a2, a3, a4⟩ | e | e
            · rw [if_neg (by omega), if_neg a2]; exact ne j a1 a2 a3 a4
            · subst e; rfl
            · subst e; rfl
          · have hq2 : ¬ (46 ≤ q.1 ∧ q.1 ≤ 49) ∧ q.1 ≠ 88 ∧ q.1 ≠ 89 ∧ q.1 ≠ 90 := (show ∀ q : Nat × Nat, q ∈ liveF → ¬ (46 ≤ q.1 ∧ q.1 ≤ 49) ∧ q.1 ≠ 88 ∧ q.1 ≠ 89 ∧ q.1 ≠ 90 by decide) q hq
            rw [if_neg (by omega), if_neg hq2.2.1, ne q.1 hq2.1 hq2.2.1 hq2.2.2.1 hq2.2.2.2]
        obtain ⟨_, i1, i2, i3, i4, i5, i6, i7, i8, i9, i10, i11, i12, i13, i14, _⟩ := hI3
        refine ⟨q2, i1, i2, i3, i4, i5, i6, i7, i8, i9, i10, i11, i12, i13, i14, ?_⟩
        intro b hb
        rw [h88 b hb, q3 47 (by decide) (by decide) (by decide)]
      rcases q4 with ⟨e1, e2, e3⟩ | ⟨e1, e0, p, e2, e3⟩
      · have hs2 := e3 (M 47)
        rw [hst] at hs2
        rw [hs2] at l5 l6
        have ea : a = -3 := by
          have l5' : MX 46 3 = len + 1 := l5
          rcases h3 with ⟨_, h4⟩ | ⟨h4, _⟩ <;> omega
        rw [e1, ← ea]
        refine k _ (hfin (fun i hi => ?_))
        rw [e2, l2 88 (by omega), l6 i hi]; exact v9 i hi
      · have hs2 := e2 (M 47)
        rw [hst] at hs2
        rw [hs2] at l5 l6
        have ea : a = r2 := by
          have l5' : MX 46 3 = r2 := l5
          rcases h3 with ⟨h4, _⟩ | ⟨_, h4⟩ <;> omega
        rw [← ea]
        exact k _ (hfin (fun i hi => by rw [e3 i hi, l6 i hi]))
