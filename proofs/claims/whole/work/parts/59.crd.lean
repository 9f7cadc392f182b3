theorem L_choose {X : Nat × (Nat → Int)} {d : Nat} {Po : mm_Po} {M : mm_M} (o op se : Int) (ho : 0 ≤ o ∧ o < 16) (hop : 0 ≤ op ∧ op.toNat < 2 ^ se.toNat) (hse : 1 ≤ se ∧ se ≤ 8) (hc : ∀ t, t < 2 ^ se.toNat → 0 ≤ M 18 (256 * (o.toNat + 1) + t) ∧ M 18 (256 * (o.toNat + 1) + t) ≤ 1000) (hp : ∀ s : Nat, (s : Int) < se → 0 ≤ M 19 s ∧ M 19 s ≤ 8) (hr : R32 M) (k : ∀ r : Int, firstP (fun s => op.toNat.testBit s = true ∧ M 18 (256 * (o.toNat + 1) + (op.toNat ^^^ 2 ^ s)) + M 19 s = M 18 (256 * o.toNat + op.toNat)) r se.toNat → Po (some (v_i r)) Lam M) (j : Nat) (hj : ∀ s : Nat, s < j → ¬ (fun s => op.toNat.testBit s = true ∧ M 18 (256 * (o.toNat + 1) + (op.toNat ^^^ 2 ^ s)) + M 19 s = M 18 (256 * o.toNat + op.toNat)) s) (hj2 : j ≤ se.toNat) : mm_G X (d + 1) 0 0 mi_X1_choose Po 10 [(0, v_r 17), (1, v_i o), (2, v_i op), (3, v_i se), (4, v_i (o * 256)), (5, v_i (j : Int))] [] Lam M 0 0 := by
  have h256 := cr_256 (S := se.toNat) (by omega)
  have hx : j < se.toNat → fx_xor op (fx_shl 1 (j : Int)) = ((op.toNat ^^^ 2 ^ j : Nat) : Int) ∧ op.toNat ^^^ 2 ^ j < 2 ^ se.toNat ∧ 2 ^ se.toNat ≤ 256 := fun q => (by have h := cr_xor (j := op.toNat) hop.2 q (by omega); rw [Int.toNat_of_nonneg hop.1] at h; exact h)
  have hx1 : j < se.toNat → M 18 (Int.toNat (o * 256 + 256 + fx_xor op (fx_shl 1 (j : Int)))) = M 18 (256 * (o.toNat + 1) + (op.toNat ^^^ 2 ^ j)) := fun q => (by rw [(hx q).1, show Int.toNat (o * 256 + 256 + ((op.toNat ^^^ 2 ^ j : Nat) : Int)) = 256 * (o.toNat + 1) + (op.toNat ^^^ 2 ^ j) by omega])
  have hx2 : M 18 (Int.toNat (o * 256 + op)) = M 18 (256 * o.toNat + op.toNat) := (by rw [show Int.toNat (o * 256 + op) = 256 * o.toNat + op.toNat by omega])
  refine mm_iload (mm_dc od_X1_choose_0 6 rfl) rfl ?_
  refine mm_iload_n (mm_dc od_X1_choose_0 7 rfl) rfl ?_
  refine mm_icmp_ge 72 (mm_dc od_X1_choose_0 8 rfl) (by omega) (by first | omega | assumption | exact hr _ _ rfl | (have hh9 := hc (op.toNat ^^^ 2 ^ j) (hx (by omega)).2.1; have hh8 := hp j (by omega); rw [hx1 (by omega)]; omega)) (by first | omega | assumption | exact hr _ _ rfl | (have hh9 := hc (op.toNat ^^^ 2 ^ j) (hx (by omega)).2.1; have hh8 := hp j (by omega); rw [hx1 (by omega)]; omega)) (fun c1 => ?_) (fun c1 => ?_)
  · refine mm_iconst (mm_dc od_X1_choose_0 41 rfl) ?_
    refine mm_iret (mm_dc od_X1_choose_0 42 rfl) rfl ?_
    exact k _ (Or.inl ⟨rfl, fun i hi => hj i (by omega)⟩)
  · refine mm_iload_n (mm_dc od_X1_choose_0 9 rfl) rfl ?_
    refine mm_iload (mm_dc od_X1_choose_0 10 rfl) rfl ?_
    refine mm_callN (mi' := mi_X9_has) [v_i op, v_i (j : Int)] [] (mm_dc od_X1_choose_0 11 rfl) rfl (List.mem_of_getElem? (i := 10) rfl) wd_2_171 wd_1_1 wd_2_172 yk_X9_has (Nat.le_of_ble_eq_true rfl) rfl (by decide) (c_X9_has op (j : Int) (by first | omega | assumption | exact hr _ _ rfl | (have hh9 := hc (op.toNat ^^^ 2 ^ j) (hx (by omega)).2.1; have hh8 := hp j (by omega); rw [hx1 (by omega)]; omega)) (by first | omega | assumption | exact hr _ _ rfl | (have hh9 := hc (op.toNat ^^^ 2 ^ j) (hx (by omega)).2.1; have hh8 := hp j (by omega); rw [hx1 (by omega)]; omega)) (fun c2 => ⟨Nat.le_refl _, ?_⟩) (fun c2 => ⟨Nat.le_refl _, ?_⟩))
    · simp only [Int.toNat_natCast] at c2
      refine mm_if_eq 66 (mm_dc od_X1_choose_0 12 rfl) (by omega) (by first | omega | assumption | exact hr _ _ rfl | (have hh9 := hc (op.toNat ^^^ 2 ^ j) (hx (by omega)).2.1; have hh8 := hp j (by omega); rw [hx1 (by omega)]; omega)) (fun h => absurd h (by decide)) (fun _ => ?_)
      refine mm_aload_n (mm_dc od_X1_choose_0 13 rfl) rfl ?_
      refine mm_getR (ci := 1) (k := 0) (mm_dc od_X1_choose_0 14 rfl) rfl in_X1 (by decide) wd_1_119 rfl rfl ?_
      refine mm_iload (mm_dc od_X1_choose_0 15 rfl) rfl ?_
      refine mm_sipush (mm_dc od_X1_choose_0 16 rfl) (by decide) ?_
      refine mm_iadd (mm_dc od_X1_choose_0 17 rfl) ?_
      refine mm_iload_n (mm_dc od_X1_choose_0 18 rfl) rfl ?_
      refine mm_iconst (mm_dc od_X1_choose_0 19 rfl) ?_
      refine mm_iload (mm_dc od_X1_choose_0 20 rfl) rfl ?_
      refine mm_ishl (mm_dc od_X1_choose_0 21 rfl) ?_
      refine mm_ixor (mm_dc od_X1_choose_0 22 rfl) ?_
      refine mm_iadd (mm_dc od_X1_choose_0 23 rfl) ?_
      refine mm_iald (mm_dc od_X1_choose_0 24 rfl) rfl (by first | omega | assumption | exact hr _ _ rfl | (have hh9 := hc (op.toNat ^^^ 2 ^ j) (hx (by omega)).2.1; have hh8 := hp j (by omega); rw [hx1 (by omega)]; omega)) (by first | omega | assumption | exact hr _ _ rfl | (have hh9 := hc (op.toNat ^^^ 2 ^ j) (hx (by omega)).2.1; have hh8 := hp j (by omega); rw [hx1 (by omega)]; omega)) (by decide) ?_
      refine mm_aload_n (mm_dc od_X1_choose_0 25 rfl) rfl ?_
      refine mm_getR (ci := 1) (k := 1) (mm_dc od_X1_choose_0 26 rfl) rfl in_X1 (by decide) wd_1_120 rfl rfl ?_
      refine mm_iload (mm_dc od_X1_choose_0 27 rfl) rfl ?_
      refine mm_iald (mm_dc od_X1_choose_0 28 rfl) rfl (by first | omega | assumption | exact hr _ _ rfl | (have hh9 := hc (op.toNat ^^^ 2 ^ j) (hx (by omega)).2.1; have hh8 := hp j (by omega); rw [hx1 (by omega)]; omega)) (by first | omega | assumption | exact hr _ _ rfl | (have hh9 := hc (op.toNat ^^^ 2 ^ j) (hx (by omega)).2.1; have hh8 := hp j (by omega); rw [hx1 (by omega)]; omega)) (by decide) ?_
      refine mm_cst (st' := [v_i (M 19 j), v_i (M 18 (Int.toNat (((o * 256) + 256) + (fx_xor op (fx_shl 1 (j : Int))))))]) rfl ?_
      refine mm_iadd (mm_dc od_X1_choose_0 29 rfl) ?_
      refine mm_aload_n (mm_dc od_X1_choose_0 30 rfl) rfl ?_
      refine mm_getR (ci := 1) (k := 0) (mm_dc od_X1_choose_0 31 rfl) rfl in_X1 (by decide) wd_1_119 rfl rfl ?_
      refine mm_iload (mm_dc od_X1_choose_0 32 rfl) rfl ?_
      refine mm_iload_n (mm_dc od_X1_choose_0 33 rfl) rfl ?_
      refine mm_iadd (mm_dc od_X1_choose_0 34 rfl) ?_
      refine mm_iald (mm_dc od_X1_choose_0 35 rfl) rfl (by first | omega | assumption | exact hr _ _ rfl | (have hh9 := hc (op.toNat ^^^ 2 ^ j) (hx (by omega)).2.1; have hh8 := hp j (by omega); rw [hx1 (by omega)]; omega)) (by first | omega | assumption | exact hr _ _ rfl | (have hh9 := hc (op.toNat ^^^ 2 ^ j) (hx (by omega)).2.1; have hh8 := hp j (by omega); rw [hx1 (by omega)]; omega)) (by decide) ?_
      refine mm_icmp_ne 66 (mm_dc od_X1_choose_0 36 rfl) (by omega) (by first | omega | assumption | exact hr _ _ rfl | (have hh9 := hc (op.toNat ^^^ 2 ^ j) (hx (by omega)).2.1; have hh8 := hp j (by omega); rw [hx1 (by omega)]; omega)) (by first | omega | assumption | exact hr _ _ rfl | (have hh9 := hc (op.toNat ^^^ 2 ^ j) (hx (by omega)).2.1; have hh8 := hp j (by omega); rw [hx1 (by omega)]; omega)) (fun c3 => ?_) (fun c3 => ?_)
      · refine mm_iinc (L' := [(0, v_r 17), (1, v_i o), (2, v_i op), (3, v_i se), (4, v_i (o * 256)), (5, v_i ((j : Int) + 1))]) (mm_dc od_X1_choose_0 39 rfl) rfl (by decide) rfl ?_
        refine mm_goto 10 (mm_dc od_X1_choose_0 40 rfl) (by omega) ?_
        exact L_choose o op se ho hop hse hc hp hr k (j + 1) (lt_s hj (by rintro ⟨q1, q2⟩; first | exact absurd q1 (by assumption) | (rw [← hx1 (by omega), ← hx2] at q2; exact absurd q2 (by assumption)))) (by omega)
      · refine mm_iload (mm_dc od_X1_choose_0 37 rfl) rfl ?_
        refine mm_iret (mm_dc od_X1_choose_0 38 rfl) rfl ?_
        exact k _ (Or.inr ⟨by omega, by omega, ⟨by assumption, by rw [Int.toNat_natCast, ← hx1 (by omega), ← hx2]; assumption⟩, fun i hi => hj i (by omega)⟩)
    · simp only [Int.toNat_natCast] at c2
      refine mm_if_eq 66 (mm_dc od_X1_choose_0 12 rfl) (by omega) (by first | omega | assumption | exact hr _ _ rfl | (have hh9 := hc (op.toNat ^^^ 2 ^ j) (hx (by omega)).2.1; have hh8 := hp j (by omega); rw [hx1 (by omega)]; omega)) (fun _ => ?_) (fun h => absurd h (by decide))
      refine mm_iinc (L' := [(0, v_r 17), (1, v_i o), (2, v_i op), (3, v_i se), (4, v_i (o * 256)), (5, v_i ((j : Int) + 1))]) (mm_dc od_X1_choose_0 39 rfl) rfl (by decide) rfl ?_
      refine mm_goto 10 (mm_dc od_X1_choose_0 40 rfl) (by omega) ?_
      exact L_choose o op se ho hop hse hc hp hr k (j + 1) (lt_s hj (by rintro ⟨q1, q2⟩; first | exact absurd q1 (by assumption) | (rw [← hx1 (by omega), ← hx2] at q2; exact absurd q2 (by assumption)))) (by omega)
termination_by se.toNat - j
decreasing_by all_goals (first | omega | (simp_wf; omega))
theorem c_X1_choose {X : Nat × (Nat → Int)} {d : Nat} {Po : mm_Po} {M : mm_M} (o : Int) (op : Int) (se : Int) (ho : 0 ≤ o ∧ o < 16) (hop : 0 ≤ op ∧ op.toNat < 2 ^ se.toNat) (hse : 1 ≤ se ∧ se ≤ 8) (hc : ∀ t, t < 2 ^ se.toNat → 0 ≤ M 18 (256 * (o.toNat + 1) + t) ∧ M 18 (256 * (o.toNat + 1) + t) ≤ 1000) (hp : ∀ s : Nat, (s : Int) < se → 0 ≤ M 19 s ∧ M 19 s ≤ 8) (hr : R32 M) (k : ∀ r : Int, (firstP (fun s => op.toNat.testBit s = true ∧ M 18 (256 * (o.toNat + 1) + (op.toNat ^^^ 2 ^ s)) + M 19 s = M 18 (256 * o.toNat + op.toNat)) r se.toNat) → Po (some (v_i r)) Lam M) : mm_E X (d + 1) 0 0 mi_X1_choose [v_r 17, v_i o, v_i op, v_i se] Po Lam M := by
  show mm_G X (d + 1) 0 0 mi_X1_choose Po 0 [(0, v_r 17), (1, v_i o), (2, v_i op), (3, v_i se)] [] Lam M 0 0
  refine mm_iload_n (mm_dc od_X1_choose_0 0 rfl) rfl ?_
  refine mm_sipush (mm_dc od_X1_choose_0 1 rfl) (by decide) ?_
  refine mm_imul (mm_dc od_X1_choose_0 2 rfl) ?_
  refine mm_istore (L' := [(0, v_r 17), (1, v_i o), (2, v_i op), (3, v_i se), (4, v_i (o * 256))]) (mm_dc od_X1_choose_0 3 rfl) (by decide) rfl ?_
  refine mm_iconst (mm_dc od_X1_choose_0 4 rfl) ?_
  refine mm_istore (L' := [(0, v_r 17), (1, v_i o), (2, v_i op), (3, v_i se), (4, v_i (o * 256)), (5, v_i 0)]) (mm_dc od_X1_choose_0 5 rfl) (by decide) rfl ?_
  exact L_choose o op se ho hop hse hc hp hr k 0 (fun s hs => by omega) (Nat.zero_le _)
