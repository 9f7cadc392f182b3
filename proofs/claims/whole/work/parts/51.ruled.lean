/-! the rules that are asked -/
def anyN (P : Nat → Bool) : Nat → Bool
  | 0 => false
  | n + 1 => anyN P n || P n
theorem anyN_iff (P : Nat → Bool) : ∀ n : Nat, anyN P n = true ↔ ∃ i, i < n ∧ P i = true
  | 0 => by simp [anyN]
  | n + 1 => by
    rw [anyN, Bool.or_eq_true, anyN_iff P n]
    constructor
    · rintro (⟨i, h1, h2⟩ | h)
      · exact ⟨i, by omega, h2⟩
      · exact ⟨n, by omega, h⟩
    · rintro ⟨i, h1, h2⟩
      by_cases e : i = n
      · subst e; exact Or.inr h2
      · exact Or.inl ⟨i, by omega, h2⟩
theorem anyN_cong {P Q : Nat → Bool} : ∀ {n : Nat}, (∀ i, i < n → P i = Q i) → anyN P n = anyN Q n
  | 0, _ => rfl
  | n + 1, h => by simp only [anyN]; rw [anyN_cong (fun i hi => h i (by omega)), h n (by omega)]
def nowV (s w h mo si : Int) (yo : Bool) : Nat → Int
  | 0 => s
  | 1 => w
  | 2 => h
  | 3 => mo
  | 4 => si
  | 5 => if yo = true then 1 else 0
  | _ => if mo < 2 ∧ s < 10 then 1 else 0
def yngX (M : mm_M) (b : Int) (o : Nat) : Bool := decide (M 5 o ≠ -1 ∧ M 5 o / 10 = b ∧ M 2 o = 4)
def yngM (M : mm_M) (b : Int) (o : Nat) : Bool := decide (M 53 o = b ∧ M 51 o = 4)
def nowX (M : mm_M) (b hour : Int) : Nat → Int := nowV (M 22 (Int.toNat (Int.tmod (M 0 9) 30))) (M 23 (Int.toNat (Int.tmod (M 0 9) 30))) hour (Int.tmod (Int.tdiv (M 0 9) 30) 12) (mm_seats (M 6 b.toNat).toNat) (anyN (yngX M b) (M 1 0).toNat)
def nowM (M : mm_M) (b hour : Int) : Nat → Int := nowV (M 72 (Int.toNat (Int.tmod (M 50 31) 30))) (M 73 (Int.toNat (Int.tmod (M 50 31) 30))) hour (Int.tmod (Int.tdiv (M 50 31) 30) 12) (mm_seats (M 57 b.toNat).toNat) (anyN (yngM M b) (M 50 10).toNat)
def soQ (v s n : Int) : Prop := (s = 0 ∧ v = n) ∨ (s = 1 ∧ v < n) ∨ (s ≠ 0 ∧ s ≠ 1 ∧ n < v)
def soM (v s n : Int) : Prop := (s = 61 ∧ v = n) ∨ (s = 60 ∧ v < n) ∨ (s ≠ 61 ∧ s ≠ 60 ∧ n < v)
def tstX (M : mm_M) (nw : Nat → Int) (i : Nat) : Prop := soQ (nw (M 31 i).toNat) (M 32 i) (M 33 i) ↔ M 30 i = 0
def tstM (M : mm_M) (nw : Nat → Int) (k : Nat) : Prop := soM (nw (M 78 (k + 1)).toNat) (M 78 (k + 2)) (M 78 (k + 3)) ↔ ¬ M 78 k = 1
def rulX (M : mm_M) (nw : Nat → Int) (kind : Int) (r : Nat) : Prop := (M 28 r = kind ∨ M 28 r = 5) ∧ ∀ t : Nat, (t : Int) < M 29 r → tstX M nw (3 * r + t)
def rulM (M : mm_M) (nw : Nat → Int) (kind : Int) (r : Nat) : Prop := (M 76 r = kind ∨ M 76 r = 5) ∧ ∀ t : Nat, (t : Int) < M 77 r → tstM M nw (12 * r + 4 * t)
def JRu (M : mm_M) : Prop := 0 ≤ M 26 0 ∧ M 26 0 ≤ 10 ∧ ∀ r : Nat, (r : Int) < M 26 0 → (M 27 r = 0 ∨ M 27 r = 1) ∧ (0 ≤ M 28 r ∧ M 28 r ≤ 5) ∧ (0 ≤ M 29 r ∧ M 29 r ≤ 3) ∧ ∀ t : Nat, (t : Int) < M 29 r → (M 30 (3 * r + t) = 0 ∨ M 30 (3 * r + t) = 1) ∧ (0 ≤ M 31 (3 * r + t) ∧ M 31 (3 * r + t) ≤ 6)
def JRum (M : mm_M) : Prop := 0 ≤ M 50 30 ∧ M 50 30 ≤ 10 ∧ ∀ r : Nat, (r : Int) < M 50 30 → (M 75 r = 0 ∨ M 75 r = 1) ∧ (0 ≤ M 76 r ∧ M 76 r ≤ 5) ∧ (0 ≤ M 77 r ∧ M 77 r ≤ 3) ∧ ∀ t : Nat, (t : Int) < M 77 r → (M 78 (12 * r + 4 * t) = 0 ∨ M 78 (12 * r + 4 * t) = 1) ∧ (0 ≤ M 78 (12 * r + 4 * t + 1) ∧ M 78 (12 * r + 4 * t + 1) ≤ 6)
def JW (M : mm_M) : Prop := 0 ≤ M 0 9 ∧ M 0 9 ≤ 999 ∧ ∀ i : Nat, i < 30 → (0 ≤ M 22 i ∧ M 22 i ≤ 200) ∧ (0 ≤ M 23 i ∧ M 23 i ≤ 12)
def JWm (M : mm_M) : Prop := 0 ≤ M 50 31 ∧ M 50 31 ≤ 999 ∧ ∀ i : Nat, i < 30 → (0 ≤ M 72 i ∧ M 72 i ≤ 200) ∧ (0 ≤ M 73 i ∧ M 73 i ≤ 12)
theorem inv_JRu {M : mm_M} (hI : inv M) : JRu M ∧ JRum M ∧ JW M ∧ JWm M := by
  have hI0 := hI
  obtain ⟨hr, hJo, hJb, hJr, hJom, hJbm, v0, v1, v2, v3, v4, v5, v6, v7, v8, v9⟩ := hI0
  have jo := hJo; have jb := hJb; have jr := hJr; have jom := hJom; have jbm := hJbm
  obtain ⟨ho0, ho16, hO⟩ := jo
  obtain ⟨hb0, hb8, hB⟩ := jb
  obtain ⟨hr0, hr40, hRr⟩ := jr
  obtain ⟨go0, go16, gO⟩ := jom
  obtain ⟨gb0, gb8, gB⟩ := jbm
  have w1 := v1.1; have w2 := v2.1; have w3 := v3.1; have w4 := v4.1; have w5 := v5.1; have w6 := v6.1; have w7 := v7.1.1; have w7b := v7.2.1.1; have w8 := v8.1; have w8b := v8.2.2.2.1
  obtain ⟨x1, x2, x3, x4⟩ := v6
  obtain ⟨y1, y2, y3, y4⟩ := v4
  refine ⟨⟨x2, x3, fun r hr1 => ?_⟩, ⟨by omega, by omega, fun r hr1 => ?_⟩, ⟨y2, y3, fun i hi => ?_⟩, ⟨by omega, by omega, fun i hi => ?_⟩⟩
  · obtain ⟨a1, a2, a3, a4, a5, a6, a7⟩ := x4 r hr1
    exact ⟨a2, a4, a6, fun t ht => by have h := a7 t ht; omega⟩
  · obtain ⟨a1, a2, a3, a4, a5, a6, a7⟩ := x4 r (by omega)
    exact ⟨by omega, by omega, by omega, fun t ht => by have h := a7 t (by omega); omega⟩
  · have h := y4 i hi; omega
  · have h := y4 i hi; omega
theorem lt_all {P : Nat → Prop} {j : Nat} {n : Int} (h : ∀ t : Nat, t < j → P t) (hn : n ≤ j) : ∀ t : Nat, (t : Int) < n → P t := fun t ht => h t (by omega)
theorem c_X7_isSo {X : Nat × (Nat → Int)} {d : Nat} {Po : mm_Po} {M : mm_M} (i : Int) (h0 : 0 ≤ i ∧ i < 30) (h1 : 0 ≤ M 31 i.toNat ∧ M 31 i.toNat ≤ 6) (hr : R32 M) (kt : soQ (M 34 (M 31 i.toNat).toNat) (M 32 i.toNat) (M 33 i.toNat) → Po (some (v_i 1)) Lam M) (kf : ¬ (soQ (M 34 (M 31 i.toNat).toNat) (M 32 i.toNat) (M 33 i.toNat)) → Po (some (v_i 0)) Lam M) : mm_E X d 0 0 mi_X7_isSo [v_r 26, v_i i] Po Lam M := by
  show mm_G X d 0 0 mi_X7_isSo Po 0 [(0, v_r 26), (1, v_i i)] [] Lam M 0 0
  refine mm_aload_n (mm_dc od_X7_isSo_0 0 rfl) rfl ?_
  refine mm_getR (ci := 7) (k := 8) (mm_dc od_X7_isSo_0 1 rfl) rfl in_X7 (by decide) wd_1_179 rfl rfl ?_
  refine mm_aload_n (mm_dc od_X7_isSo_0 2 rfl) rfl ?_
  refine mm_getR (ci := 7) (k := 5) (mm_dc od_X7_isSo_0 3 rfl) rfl in_X7 (by decide) wd_1_176 rfl rfl ?_
  refine mm_iload_n (mm_dc od_X7_isSo_0 4 rfl) rfl ?_
  refine mm_iald (mm_dc od_X7_isSo_0 5 rfl) rfl (by first | assumption | omega | exact hr _ _ rfl | exact mm_ti _ | exact mm_r3264 (hr _ _ rfl)) (by first | assumption | omega | exact hr _ _ rfl | exact mm_ti _ | exact mm_r3264 (hr _ _ rfl)) (by decide) ?_
  refine mm_iald (mm_dc od_X7_isSo_0 6 rfl) rfl (by first | assumption | omega | exact hr _ _ rfl | exact mm_ti _ | exact mm_r3264 (hr _ _ rfl)) (by first | assumption | omega | exact hr _ _ rfl | exact mm_ti _ | exact mm_r3264 (hr _ _ rfl)) (by decide) ?_
  refine mm_istore_n (L' := [(0, v_r 26), (1, v_i i), (2, v_i (M 34 (Int.toNat (M 31 (Int.toNat i)))))]) (mm_dc od_X7_isSo_0 7 rfl) (by decide) rfl ?_
  refine mm_aload_n (mm_dc od_X7_isSo_0 8 rfl) rfl ?_
  refine mm_getR (ci := 7) (k := 6) (mm_dc od_X7_isSo_0 9 rfl) rfl in_X7 (by decide) wd_1_177 rfl rfl ?_
  refine mm_iload_n (mm_dc od_X7_isSo_0 10 rfl) rfl ?_
  refine mm_iald (mm_dc od_X7_isSo_0 11 rfl) rfl (by first | assumption | omega | exact hr _ _ rfl | exact mm_ti _ | exact mm_r3264 (hr _ _ rfl)) (by first | assumption | omega | exact hr _ _ rfl | exact mm_ti _ | exact mm_r3264 (hr _ _ rfl)) (by decide) ?_
  refine mm_if_ne 37 (mm_dc od_X7_isSo_0 12 rfl) (by omega) (by first | assumption | omega | exact hr _ _ rfl | exact mm_ti _ | exact mm_r3264 (hr _ _ rfl)) (fun c1 => ?_) (fun c1 => ?_)
  · refine mm_aload_n (mm_dc od_X7_isSo_0 23 rfl) rfl ?_
    refine mm_getR (ci := 7) (k := 6) (mm_dc od_X7_isSo_0 24 rfl) rfl in_X7 (by decide) wd_1_177 rfl rfl ?_
    refine mm_iload_n (mm_dc od_X7_isSo_0 25 rfl) rfl ?_
    refine mm_iald (mm_dc od_X7_isSo_0 26 rfl) rfl (by first | assumption | omega | exact hr _ _ rfl | exact mm_ti _ | exact mm_r3264 (hr _ _ rfl)) (by first | assumption | omega | exact hr _ _ rfl | exact mm_ti _ | exact mm_r3264 (hr _ _ rfl)) (by decide) ?_
    refine mm_iconst (mm_dc od_X7_isSo_0 27 rfl) ?_
    refine mm_icmp_ne 65 (mm_dc od_X7_isSo_0 28 rfl) (by omega) (by first | assumption | omega | exact hr _ _ rfl | exact mm_ti _ | exact mm_r3264 (hr _ _ rfl)) (by first | assumption | omega | exact hr _ _ rfl | exact mm_ti _ | exact mm_r3264 (hr _ _ rfl)) (fun c2 => ?_) (fun c2 => ?_)
    · refine mm_iload_n (mm_dc od_X7_isSo_0 39 rfl) rfl ?_
      refine mm_aload_n (mm_dc od_X7_isSo_0 40 rfl) rfl ?_
      refine mm_getR (ci := 7) (k := 7) (mm_dc od_X7_isSo_0 41 rfl) rfl in_X7 (by decide) wd_1_178 rfl rfl ?_
      refine mm_iload_n (mm_dc od_X7_isSo_0 42 rfl) rfl ?_
      refine mm_iald (mm_dc od_X7_isSo_0 43 rfl) rfl (by first | assumption | omega | exact hr _ _ rfl | exact mm_ti _ | exact mm_r3264 (hr _ _ rfl)) (by first | assumption | omega | exact hr _ _ rfl | exact mm_ti _ | exact mm_r3264 (hr _ _ rfl)) (by decide) ?_
      refine mm_icmp_le 79 (mm_dc od_X7_isSo_0 44 rfl) (by omega) (by first | assumption | omega | exact hr _ _ rfl | exact mm_ti _ | exact mm_r3264 (hr _ _ rfl)) (by first | assumption | omega | exact hr _ _ rfl | exact mm_ti _ | exact mm_r3264 (hr _ _ rfl)) (fun c3 => ?_) (fun c3 => ?_)
      · refine mm_iconst (mm_dc od_X7_isSo_0 47 rfl) ?_
        refine mm_zret .boolean (mm_dc od_X7_isSo_0 48 rfl) rfl rfl ?_
        exact kf (by unfold soQ; omega)
      · refine mm_iconst (mm_dc od_X7_isSo_0 45 rfl) ?_
        refine mm_goto 80 (mm_dc od_X7_isSo_0 46 rfl) (by omega) ?_
        refine mm_zret .boolean (mm_dc od_X7_isSo_0 48 rfl) rfl rfl ?_
        exact kt (by unfold soQ; omega)
    · refine mm_iload_n (mm_dc od_X7_isSo_0 29 rfl) rfl ?_
      refine mm_aload_n (mm_dc od_X7_isSo_0 30 rfl) rfl ?_
      refine mm_getR (ci := 7) (k := 7) (mm_dc od_X7_isSo_0 31 rfl) rfl in_X7 (by decide) wd_1_178 rfl rfl ?_
      refine mm_iload_n (mm_dc od_X7_isSo_0 32 rfl) rfl ?_
      refine mm_iald (mm_dc od_X7_isSo_0 33 rfl) rfl (by first | assumption | omega | exact hr _ _ rfl | exact mm_ti _ | exact mm_r3264 (hr _ _ rfl)) (by first | assumption | omega | exact hr _ _ rfl | exact mm_ti _ | exact mm_r3264 (hr _ _ rfl)) (by decide) ?_
      refine mm_icmp_ge 61 (mm_dc od_X7_isSo_0 34 rfl) (by omega) (by first | assumption | omega | exact hr _ _ rfl | exact mm_ti _ | exact mm_r3264 (hr _ _ rfl)) (by first | assumption | omega | exact hr _ _ rfl | exact mm_ti _ | exact mm_r3264 (hr _ _ rfl)) (fun c4 => ?_) (fun c4 => ?_)
      · refine mm_iconst (mm_dc od_X7_isSo_0 37 rfl) ?_
        refine mm_goto 80 (mm_dc od_X7_isSo_0 38 rfl) (by omega) ?_
        refine mm_zret .boolean (mm_dc od_X7_isSo_0 48 rfl) rfl rfl ?_
        exact kf (by unfold soQ; omega)
      · refine mm_iconst (mm_dc od_X7_isSo_0 35 rfl) ?_
        refine mm_goto 80 (mm_dc od_X7_isSo_0 36 rfl) (by omega) ?_
        refine mm_zret .boolean (mm_dc od_X7_isSo_0 48 rfl) rfl rfl ?_
        exact kt (by unfold soQ; omega)
  · refine mm_iload_n (mm_dc od_X7_isSo_0 13 rfl) rfl ?_
    refine mm_aload_n (mm_dc od_X7_isSo_0 14 rfl) rfl ?_
    refine mm_getR (ci := 7) (k := 7) (mm_dc od_X7_isSo_0 15 rfl) rfl in_X7 (by decide) wd_1_178 rfl rfl ?_
    refine mm_iload_n (mm_dc od_X7_isSo_0 16 rfl) rfl ?_
    refine mm_iald (mm_dc od_X7_isSo_0 17 rfl) rfl (by first | assumption | omega | exact hr _ _ rfl | exact mm_ti _ | exact mm_r3264 (hr _ _ rfl)) (by first | assumption | omega | exact hr _ _ rfl | exact mm_ti _ | exact mm_r3264 (hr _ _ rfl)) (by decide) ?_
    refine mm_icmp_ne 35 (mm_dc od_X7_isSo_0 18 rfl) (by omega) (by first | assumption | omega | exact hr _ _ rfl | exact mm_ti _ | exact mm_r3264 (hr _ _ rfl)) (by first | assumption | omega | exact hr _ _ rfl | exact mm_ti _ | exact mm_r3264 (hr _ _ rfl)) (fun c5 => ?_) (fun c5 => ?_)
    · refine mm_iconst (mm_dc od_X7_isSo_0 21 rfl) ?_
      refine mm_zret .boolean (mm_dc od_X7_isSo_0 22 rfl) rfl rfl ?_
      exact kf (by unfold soQ; omega)
    · refine mm_iconst (mm_dc od_X7_isSo_0 19 rfl) ?_
      refine mm_goto 36 (mm_dc od_X7_isSo_0 20 rfl) (by omega) ?_
      refine mm_zret .boolean (mm_dc od_X7_isSo_0 22 rfl) rfl rfl ?_
      exact kt (by unfold soQ; omega)
theorem L_holds {X : Nat × (Nat → Int)} {d : Nat} {Po : mm_Po} {M : mm_M} (r : Int) (h0 : 0 ≤ r ∧ r < M 26 0) (hJru : JRu M) (hr : R32 M) (kt : (∀ t : Nat, (t : Int) < M 29 r.toNat → tstX M (M 34) (3 * r.toNat + t)) → Po (some (v_i 1)) Lam M) (kf : (¬ ∀ t : Nat, (t : Int) < M 29 r.toNat → tstX M (M 34) (3 * r.toNat + t)) → Po (some (v_i 0)) Lam M) (j : Nat) (hj : ∀ t : Nat, t < j → tstX M (M 34) (3 * r.toNat + t)) (hj2 : (j : Int) ≤ M 29 r.toNat) : mm_G X (d + 1) 0 0 mi_X7_testsHold Po 2 [(0, v_r 26), (1, v_i r), (2, v_i (j : Int))] [] Lam M 0 0 := by
  have hJru2 := hJru
  obtain ⟨hu0, hu10, hU⟩ := hJru2
  have hU1 := hU r.toNat (by omega)
  have hU2 := hU1.2.2.2 j
  have hrj : (r * 3 + (j : Int)).toNat = 3 * r.toNat + j := (by omega)
  rw [← hrj] at hU2
  refine mm_iload_n (mm_dc od_X7_testsHold_0 2 rfl) rfl ?_
  refine mm_aload_n (mm_dc od_X7_testsHold_0 3 rfl) rfl ?_
  refine mm_getR (ci := 7) (k := 3) (mm_dc od_X7_testsHold_0 4 rfl) rfl in_X7 (by decide) wd_1_174 rfl rfl ?_
  refine mm_iload_n (mm_dc od_X7_testsHold_0 5 rfl) rfl ?_
  refine mm_iald (mm_dc od_X7_testsHold_0 6 rfl) rfl (by first | assumption | omega | exact hr _ _ rfl | exact mm_ti _ | exact mm_r3264 (hr _ _ rfl)) (by first | assumption | omega | exact hr _ _ rfl | exact mm_ti _ | exact mm_r3264 (hr _ _ rfl)) (by decide) ?_
  refine mm_icmp_ge 40 (mm_dc od_X7_testsHold_0 7 rfl) (by omega) (by first | assumption | omega | exact hr _ _ rfl | exact mm_ti _ | exact mm_r3264 (hr _ _ rfl)) (by first | assumption | omega | exact hr _ _ rfl | exact mm_ti _ | exact mm_r3264 (hr _ _ rfl)) (fun c1 => ?_) (fun c1 => ?_)
  · refine mm_iconst (mm_dc od_X7_testsHold_0 26 rfl) ?_
    refine mm_zret .boolean (mm_dc od_X7_testsHold_0 27 rfl) rfl rfl ?_
    exact kt (lt_all hj (by omega))
  · refine mm_iload_n (mm_dc od_X7_testsHold_0 8 rfl) rfl ?_
    refine mm_iconst (mm_dc od_X7_testsHold_0 9 rfl) ?_
    refine mm_imul (mm_dc od_X7_testsHold_0 10 rfl) ?_
    refine mm_iload_n (mm_dc od_X7_testsHold_0 11 rfl) rfl ?_
    refine mm_iadd (mm_dc od_X7_testsHold_0 12 rfl) ?_
    refine mm_istore_n (L' := [(0, v_r 26), (1, v_i r), (2, v_i (j : Int)), (3, v_i ((r * 3) + (j : Int)))]) (mm_dc od_X7_testsHold_0 13 rfl) (by decide) rfl ?_
    refine mm_aload_n (mm_dc od_X7_testsHold_0 14 rfl) rfl ?_
    refine mm_iload_n (mm_dc od_X7_testsHold_0 15 rfl) rfl ?_
    refine mm_callV (b := 26) (mi' := mi_X7_isSo) [v_i ((r * 3) + (j : Int))] [] (mm_dc od_X7_testsHold_0 16 rfl) rfl wd_3_197 wd_3_199 wd_p_14 wd_1_7 wd_3_200 yk_X7_isSo rfl rfl rfl (Nat.le_of_ble_eq_true rfl) rfl (by decide) (c_X7_isSo ((r * 3) + (j : Int)) (by first | assumption | omega | exact hr _ _ rfl | exact mm_ti _ | exact mm_r3264 (hr _ _ rfl)) (by first | assumption | omega | exact hr _ _ rfl | exact mm_ti _ | exact mm_r3264 (hr _ _ rfl)) (by first | assumption | omega | exact hr _ _ rfl | exact mm_ti _ | exact mm_r3264 (hr _ _ rfl)) (fun c2 => ⟨Nat.le_refl _, ?_⟩) (fun c2 => ⟨Nat.le_refl _, ?_⟩))
    · refine mm_aload_n (mm_dc od_X7_testsHold_0 17 rfl) rfl ?_
      refine mm_getR (ci := 7) (k := 4) (mm_dc od_X7_testsHold_0 18 rfl) rfl in_X7 (by decide) wd_1_175 rfl rfl ?_
      refine mm_iload_n (mm_dc od_X7_testsHold_0 19 rfl) rfl ?_
      refine mm_zald (mm_dc od_X7_testsHold_0 20 rfl) rfl (by first | assumption | omega | exact hr _ _ rfl | exact mm_ti _ | exact mm_r3264 (hr _ _ rfl)) (by first | assumption | omega | exact hr _ _ rfl | exact mm_ti _ | exact mm_r3264 (hr _ _ rfl)) (by decide) ?_
      refine mm_icmp_ne 34 (mm_dc od_X7_testsHold_0 21 rfl) (by omega) (by first | assumption | omega | exact hr _ _ rfl | exact mm_ti _ | exact mm_r3264 (hr _ _ rfl)) (by first | assumption | omega | exact hr _ _ rfl | exact mm_ti _ | exact mm_r3264 (hr _ _ rfl)) (fun c3 => ?_) (fun c3 => ?_)
      · refine mm_iinc (L' := [(0, v_r 26), (1, v_i r), (2, v_i ((j : Int) + 1)), (3, v_i ((r * 3) + (j : Int)))]) (mm_dc od_X7_testsHold_0 24 rfl) rfl (by decide) rfl ?_
        refine mm_goto 2 (mm_dc od_X7_testsHold_0 25 rfl) (by omega) ?_
        exact mm_less [0, 1, 2] rfl (L_holds r h0 hJru hr kt kf (j + 1) (lt_s hj (by unfold tstX; rw [← hrj]; first | (constructor <;> intro <;> first | assumption | omega | (exfalso; omega) | contradiction))) (by omega))
      · refine mm_iconst (mm_dc od_X7_testsHold_0 22 rfl) ?_
        refine mm_zret .boolean (mm_dc od_X7_testsHold_0 23 rfl) rfl rfl ?_
        refine kf (fun q => ?_)
        have q2 := q j (by omega)
        unfold tstX at q2
        rw [← hrj] at q2
        first | exact absurd (q2.mp (by assumption)) (by omega) | exact absurd (q2.mpr (by omega)) (by assumption)
    · refine mm_aload_n (mm_dc od_X7_testsHold_0 17 rfl) rfl ?_
      refine mm_getR (ci := 7) (k := 4) (mm_dc od_X7_testsHold_0 18 rfl) rfl in_X7 (by decide) wd_1_175 rfl rfl ?_
      refine mm_iload_n (mm_dc od_X7_testsHold_0 19 rfl) rfl ?_
      refine mm_zald (mm_dc od_X7_testsHold_0 20 rfl) rfl (by first | assumption | omega | exact hr _ _ rfl | exact mm_ti _ | exact mm_r3264 (hr _ _ rfl)) (by first | assumption | omega | exact hr _ _ rfl | exact mm_ti _ | exact mm_r3264 (hr _ _ rfl)) (by decide) ?_
      refine mm_icmp_ne 34 (mm_dc od_X7_testsHold_0 21 rfl) (by omega) (by first | assumption | omega | exact hr _ _ rfl | exact mm_ti _ | exact mm_r3264 (hr _ _ rfl)) (by first | assumption | omega | exact hr _ _ rfl | exact mm_ti _ | exact mm_r3264 (hr _ _ rfl)) (fun c4 => ?_) (fun c4 => ?_)
      · refine mm_iinc (L' := [(0, v_r 26), (1, v_i r), (2, v_i ((j : Int) + 1)), (3, v_i ((r * 3) + (j : Int)))]) (mm_dc od_X7_testsHold_0 24 rfl) rfl (by decide) rfl ?_
        refine mm_goto 2 (mm_dc od_X7_testsHold_0 25 rfl) (by omega) ?_
        exact mm_less [0, 1, 2] rfl (L_holds r h0 hJru hr kt kf (j + 1) (lt_s hj (by unfold tstX; rw [← hrj]; first | (constructor <;> intro <;> first | assumption | omega | (exfalso; omega) | contradiction))) (by omega))
      · refine mm_iconst (mm_dc od_X7_testsHold_0 22 rfl) ?_
        refine mm_zret .boolean (mm_dc od_X7_testsHold_0 23 rfl) rfl rfl ?_
        refine kf (fun q => ?_)
        have q2 := q j (by omega)
        unfold tstX at q2
        rw [← hrj] at q2
        first | exact absurd (q2.mp (by assumption)) (by omega) | exact absurd (q2.mpr (by omega)) (by assumption)
termination_by 4 - j
decreasing_by all_goals (first | omega | (simp_wf; omega))
theorem c_X7_testsHold {X : Nat × (Nat → Int)} {d : Nat} {Po : mm_Po} {M : mm_M} (r : Int) (h0 : 0 ≤ r ∧ r < M 26 0) (hJru : JRu M) (hr : R32 M) (kt : (∀ t : Nat, (t : Int) < M 29 r.toNat → tstX M (M 34) (3 * r.toNat + t)) → Po (some (v_i 1)) Lam M) (kf : ¬ (∀ t : Nat, (t : Int) < M 29 r.toNat → tstX M (M 34) (3 * r.toNat + t)) → Po (some (v_i 0)) Lam M) : mm_E X (d + 1) 0 0 mi_X7_testsHold [v_r 26, v_i r] Po Lam M := by
  show mm_G X (d + 1) 0 0 mi_X7_testsHold Po 0 [(0, v_r 26), (1, v_i r)] [] Lam M 0 0
  refine mm_iconst (mm_dc od_X7_testsHold_0 0 rfl) ?_
  refine mm_istore_n (L' := [(0, v_r 26), (1, v_i r), (2, v_i 0)]) (mm_dc od_X7_testsHold_0 1 rfl) (by decide) rfl ?_
  exact L_holds r h0 hJru hr kt kf 0 (fun t ht => by omega) (by have := (hJru.2.2 r.toNat (by omega)).2.2.1.1; omega)
theorem L_asked {X : Nat × (Nat → Int)} {d : Nat} {Po : mm_Po} {M : mm_M} (kind : Int) (hk : mm_r32 kind) (hJru : JRu M) (hr : R32 M) (k : ∀ r : Int, lastP (rulX M (M 34) kind) r (M 26 0).toNat → Po (some (v_i r)) Lam M) (j : Nat) (hj : ∀ i : Nat, j ≤ i → i < (M 26 0).toNat → ¬ rulX M (M 34) kind i) (hj2 : (j : Int) ≤ M 26 0) : mm_G X (d + 2) 0 0 mi_X7_asked Po 7 [(0, v_r 26), (1, v_i kind), (2, v_i ((j : Int) - 1))] [] Lam M 0 0 := by
  have hJru2 := hJru
  obtain ⟨hu0, hu10, hU⟩ := hJru2
  have hj1 : ((j : Int) - 1).toNat = j - 1 := (by omega)
  have hU1 := hU (j - 1)
  rw [← hj1] at hU1
  refine mm_iload_n (mm_dc od_X7_asked_0 5 rfl) rfl ?_
  refine mm_if_lt 47 (mm_dc od_X7_asked_0 6 rfl) (by omega) (by first | assumption | omega | exact hr _ _ rfl | exact mm_ti _ | exact mm_r3264 (hr _ _ rfl)) (fun c1 => ?_) (fun c1 => ?_)
  · refine mm_iconst (mm_dc od_X7_asked_0 27 rfl) ?_
    refine mm_iret (mm_dc od_X7_asked_0 28 rfl) rfl ?_
    exact k _ (Or.inl ⟨rfl, fun i hi => hj i (by omega) hi⟩)
  · refine mm_aload_n (mm_dc od_X7_asked_0 7 rfl) rfl ?_
    refine mm_getR (ci := 7) (k := 2) (mm_dc od_X7_asked_0 8 rfl) rfl in_X7 (by decide) wd_1_173 rfl rfl ?_
    refine mm_iload_n (mm_dc od_X7_asked_0 9 rfl) rfl ?_
    refine mm_iald (mm_dc od_X7_asked_0 10 rfl) rfl (by first | assumption | omega | exact hr _ _ rfl | exact mm_ti _ | exact mm_r3264 (hr _ _ rfl)) (by first | assumption | omega | exact hr _ _ rfl | exact mm_ti _ | exact mm_r3264 (hr _ _ rfl)) (by decide) ?_
    refine mm_iload_n (mm_dc od_X7_asked_0 11 rfl) rfl ?_
    refine mm_icmp_eq 31 (mm_dc od_X7_asked_0 12 rfl) (by omega) (by first | assumption | omega | exact hr _ _ rfl | exact mm_ti _ | exact mm_r3264 (hr _ _ rfl)) (by first | assumption | omega | exact hr _ _ rfl | exact mm_ti _ | exact mm_r3264 (hr _ _ rfl)) (fun c2 => ?_) (fun c2 => ?_)
    · refine mm_aload_n (mm_dc od_X7_asked_0 19 rfl) rfl ?_
      refine mm_iload_n (mm_dc od_X7_asked_0 20 rfl) rfl ?_
      refine mm_callV (b := 26) (mi' := mi_X7_testsHold) [v_i ((j : Int) - 1)] [] (mm_dc od_X7_asked_0 21 rfl) rfl wd_3_193 wd_3_195 wd_p_13 wd_1_7 wd_3_196 yk_X7_testsHold rfl rfl rfl (Nat.le_of_ble_eq_true rfl) rfl (by decide) (c_X7_testsHold ((j : Int) - 1) (by first | assumption | omega | exact hr _ _ rfl | exact mm_ti _ | exact mm_r3264 (hr _ _ rfl)) hJru (by first | assumption | omega | exact hr _ _ rfl | exact mm_ti _ | exact mm_r3264 (hr _ _ rfl)) (fun c3 => ⟨Nat.le_refl _, ?_⟩) (fun c3 => ⟨Nat.le_refl _, ?_⟩))
      · refine mm_if_eq 41 (mm_dc od_X7_asked_0 22 rfl) (by omega) (by first | assumption | omega | exact hr _ _ rfl | exact mm_ti _ | exact mm_r3264 (hr _ _ rfl)) (fun h => absurd h (by decide)) (fun _ => ?_)
        refine mm_iload_n (mm_dc od_X7_asked_0 23 rfl) rfl ?_
        refine mm_iret (mm_dc od_X7_asked_0 24 rfl) rfl ?_
        exact k _ (Or.inr ⟨by omega, by omega, ⟨by omega, by assumption⟩, fun i h1 h2 => hj i (by omega) h2⟩)
      · refine mm_if_eq 41 (mm_dc od_X7_asked_0 22 rfl) (by omega) (by first | assumption | omega | exact hr _ _ rfl | exact mm_ti _ | exact mm_r3264 (hr _ _ rfl)) (fun _ => ?_) (fun h => absurd h (by decide))
        refine mm_iinc (L' := [(0, v_r 26), (1, v_i kind), (2, v_i (((j : Int) - 1) + (-1)))]) (mm_dc od_X7_asked_0 25 rfl) rfl (by decide) rfl ?_
        refine mm_goto 7 (mm_dc od_X7_asked_0 26 rfl) (by omega) ?_
        refine mm_cL (L' := [(0, v_r 26), (1, v_i kind), (2, v_i (((j - 1 : Nat) : Int) - 1))]) (by rw [show (j : Int) - 1 + (-1) = ((j - 1 : Nat) : Int) - 1 by omega]) ?_
        exact L_asked kind hk hJru hr k (j - 1) (fun i h1 h2 => by by_cases q : i = j - 1; rw [q, ← hj1]; exact (fun q => by first | (have q1 := q.1; omega) | exact absurd q.2 (by assumption)); exact hj i (by omega) h2) (by omega)
    · refine mm_aload_n (mm_dc od_X7_asked_0 13 rfl) rfl ?_
      refine mm_getR (ci := 7) (k := 2) (mm_dc od_X7_asked_0 14 rfl) rfl in_X7 (by decide) wd_1_173 rfl rfl ?_
      refine mm_iload_n (mm_dc od_X7_asked_0 15 rfl) rfl ?_
      refine mm_iald (mm_dc od_X7_asked_0 16 rfl) rfl (by first | assumption | omega | exact hr _ _ rfl | exact mm_ti _ | exact mm_r3264 (hr _ _ rfl)) (by first | assumption | omega | exact hr _ _ rfl | exact mm_ti _ | exact mm_r3264 (hr _ _ rfl)) (by decide) ?_
      refine mm_iconst (mm_dc od_X7_asked_0 17 rfl) ?_
      refine mm_icmp_ne 41 (mm_dc od_X7_asked_0 18 rfl) (by omega) (by first | assumption | omega | exact hr _ _ rfl | exact mm_ti _ | exact mm_r3264 (hr _ _ rfl)) (by first | assumption | omega | exact hr _ _ rfl | exact mm_ti _ | exact mm_r3264 (hr _ _ rfl)) (fun c4 => ?_) (fun c4 => ?_)
      · refine mm_iinc (L' := [(0, v_r 26), (1, v_i kind), (2, v_i (((j : Int) - 1) + (-1)))]) (mm_dc od_X7_asked_0 25 rfl) rfl (by decide) rfl ?_
        refine mm_goto 7 (mm_dc od_X7_asked_0 26 rfl) (by omega) ?_
        refine mm_cL (L' := [(0, v_r 26), (1, v_i kind), (2, v_i (((j - 1 : Nat) : Int) - 1))]) (by rw [show (j : Int) - 1 + (-1) = ((j - 1 : Nat) : Int) - 1 by omega]) ?_
        exact L_asked kind hk hJru hr k (j - 1) (fun i h1 h2 => by by_cases q : i = j - 1; rw [q, ← hj1]; exact (fun q => by first | (have q1 := q.1; omega) | exact absurd q.2 (by assumption)); exact hj i (by omega) h2) (by omega)
      · refine mm_aload_n (mm_dc od_X7_asked_0 19 rfl) rfl ?_
        refine mm_iload_n (mm_dc od_X7_asked_0 20 rfl) rfl ?_
        refine mm_callV (b := 26) (mi' := mi_X7_testsHold) [v_i ((j : Int) - 1)] [] (mm_dc od_X7_asked_0 21 rfl) rfl wd_3_193 wd_3_195 wd_p_13 wd_1_7 wd_3_196 yk_X7_testsHold rfl rfl rfl (Nat.le_of_ble_eq_true rfl) rfl (by decide) (c_X7_testsHold ((j : Int) - 1) (by first | assumption | omega | exact hr _ _ rfl | exact mm_ti _ | exact mm_r3264 (hr _ _ rfl)) hJru (by first | assumption | omega | exact hr _ _ rfl | exact mm_ti _ | exact mm_r3264 (hr _ _ rfl)) (fun c5 => ⟨Nat.le_refl _, ?_⟩) (fun c5 => ⟨Nat.le_refl _, ?_⟩))
        · refine mm_if_eq 41 (mm_dc od_X7_asked_0 22 rfl) (by omega) (by first | assumption | omega | exact hr _ _ rfl | exact mm_ti _ | exact mm_r3264 (hr _ _ rfl)) (fun h => absurd h (by decide)) (fun _ => ?_)
          refine mm_iload_n (mm_dc od_X7_asked_0 23 rfl) rfl ?_
          refine mm_iret (mm_dc od_X7_asked_0 24 rfl) rfl ?_
          exact k _ (Or.inr ⟨by omega, by omega, ⟨by omega, by assumption⟩, fun i h1 h2 => hj i (by omega) h2⟩)
        · refine mm_if_eq 41 (mm_dc od_X7_asked_0 22 rfl) (by omega) (by first | assumption | omega | exact hr _ _ rfl | exact mm_ti _ | exact mm_r3264 (hr _ _ rfl)) (fun _ => ?_) (fun h => absurd h (by decide))
          refine mm_iinc (L' := [(0, v_r 26), (1, v_i kind), (2, v_i (((j : Int) - 1) + (-1)))]) (mm_dc od_X7_asked_0 25 rfl) rfl (by decide) rfl ?_
          refine mm_goto 7 (mm_dc od_X7_asked_0 26 rfl) (by omega) ?_
          refine mm_cL (L' := [(0, v_r 26), (1, v_i kind), (2, v_i (((j - 1 : Nat) : Int) - 1))]) (by rw [show (j : Int) - 1 + (-1) = ((j - 1 : Nat) : Int) - 1 by omega]) ?_
          exact L_asked kind hk hJru hr k (j - 1) (fun i h1 h2 => by by_cases q : i = j - 1; rw [q, ← hj1]; exact (fun q => by first | (have q1 := q.1; omega) | exact absurd q.2 (by assumption)); exact hj i (by omega) h2) (by omega)
termination_by j
decreasing_by all_goals (first | omega | (simp_wf; omega))
theorem c_X7_asked {X : Nat × (Nat → Int)} {d : Nat} {Po : mm_Po} {M : mm_M} (kind : Int) (hk : mm_r32 kind) (hJru : JRu M) (hr : R32 M) (k : ∀ r : Int, (lastP (rulX M (M 34) kind) r (M 26 0).toNat) → Po (some (v_i r)) Lam M) : mm_E X (d + 2) 0 0 mi_X7_asked [v_r 26, v_i kind] Po Lam M := by
  show mm_G X (d + 2) 0 0 mi_X7_asked Po 0 [(0, v_r 26), (1, v_i kind)] [] Lam M 0 0
  have hJru2 := hJru
  obtain ⟨hu0, hu10, hU⟩ := hJru2
  refine mm_aload_n (mm_dc od_X7_asked_0 0 rfl) rfl ?_
  refine mm_getI (ci := 7) (k := 0) (mm_dc od_X7_asked_0 1 rfl) rfl in_X7 (by decide) wd_1_169 rfl rfl ?_
  refine mm_iconst (mm_dc od_X7_asked_0 2 rfl) ?_
  refine mm_isub (mm_dc od_X7_asked_0 3 rfl) ?_
  refine mm_istore_n (L' := [(0, v_r 26), (1, v_i kind), (2, v_i ((M 26 0) - 1))]) (mm_dc od_X7_asked_0 4 rfl) (by decide) rfl ?_
  refine mm_cL (L' := [(0, v_r 26), (1, v_i kind), (2, v_i (((M 26 0).toNat : Int) - 1))]) (by rw [show ((M 26 0).toNat : Int) = M 26 0 by omega]) ?_
  exact L_asked kind hk hJru hr k (M 26 0).toNat (fun i h1 h2 => by omega) (by omega)
theorem L_young {X : Nat × (Nat → Int)} {d : Nat} {Po : mm_Po} {M : mm_M} (b : Int) (hb : mm_r32 b) (hJo : JO M) (hr : R32 M) (kt : anyN (yngX M b) (M 1 0).toNat = true → Po (some (v_i 1)) Lam M) (kf : ¬ anyN (yngX M b) (M 1 0).toNat = true → Po (some (v_i 0)) Lam M) (j : Nat) (hj : ∀ i : Nat, i < j → ¬ yngX M b i = true) (hj2 : (j : Int) ≤ M 1 0) : mm_G X (d + 1) 0 0 mi_X0_isYoungAboard Po 2 [(0, v_r 1), (1, v_i b), (2, v_i (j : Int))] [] Lam M 0 0 := by
  have hJo2 := hJo
  obtain ⟨ho0, ho16, hO⟩ := hJo2
  have hO1 := hO j
  refine mm_iload_n (mm_dc od_X0_isYoungAboard_0 2 rfl) rfl ?_
  refine mm_aload_n (mm_dc od_X0_isYoungAboard_0 3 rfl) rfl ?_
  refine mm_getI (ci := 0) (k := 0) (mm_dc od_X0_isYoungAboard_0 4 rfl) rfl in_X0 (by decide) wd_1_34 rfl rfl ?_
  refine mm_icmp_ge 37 (mm_dc od_X0_isYoungAboard_0 5 rfl) (by omega) (by first | assumption | omega | exact hr _ _ rfl | exact mm_ti _ | exact mm_r3264 (hr _ _ rfl)) (by first | assumption | omega | exact hr _ _ rfl | exact mm_ti _ | exact mm_r3264 (hr _ _ rfl)) (fun c1 => ?_) (fun c1 => ?_)
  · refine mm_iconst (mm_dc od_X0_isYoungAboard_0 21 rfl) ?_
    refine mm_zret .boolean (mm_dc od_X0_isYoungAboard_0 22 rfl) rfl rfl ?_
    exact kf (fun q => by obtain ⟨i, q1, q2⟩ := (anyN_iff _ _).mp q; exact hj i (by omega) q2)
  · refine mm_aload_n (mm_dc od_X0_isYoungAboard_0 6 rfl) rfl ?_
    refine mm_iload_n (mm_dc od_X0_isYoungAboard_0 7 rfl) rfl ?_
    refine mm_iload_n (mm_dc od_X0_isYoungAboard_0 8 rfl) rfl ?_
    refine mm_callV (b := 1) (mi' := mi_X0_sitsIn) [v_i (j : Int), v_i b] [] (mm_dc od_X0_isYoungAboard_0 9 rfl) rfl wd_3_188 wd_3_38 wd_3_39 wd_1_2 wd_3_40 yk_X0_sitsIn rfl rfl rfl (Nat.le_of_ble_eq_true rfl) rfl (by decide) (c_X0_sitsIn (j : Int) b (by first | assumption | omega | exact hr _ _ rfl | exact mm_ti _ | exact mm_r3264 (hr _ _ rfl)) (by first | assumption | omega | exact hr _ _ rfl | exact mm_ti _ | exact mm_r3264 (hr _ _ rfl)) hJo (by first | assumption | omega | exact hr _ _ rfl | exact mm_ti _ | exact mm_r3264 (hr _ _ rfl)) (fun c2 => ⟨Nat.le_refl _, ?_⟩) (fun c2 => ⟨Nat.le_refl _, ?_⟩))
    · simp only [Int.toNat_natCast] at c2
      refine mm_if_eq 31 (mm_dc od_X0_isYoungAboard_0 10 rfl) (by omega) (by first | assumption | omega | exact hr _ _ rfl | exact mm_ti _ | exact mm_r3264 (hr _ _ rfl)) (fun h => absurd h (by decide)) (fun _ => ?_)
      refine mm_aload_n (mm_dc od_X0_isYoungAboard_0 11 rfl) rfl ?_
      refine mm_getR (ci := 0) (k := 1) (mm_dc od_X0_isYoungAboard_0 12 rfl) rfl in_X0 (by decide) wd_1_37 rfl rfl ?_
      refine mm_iload_n (mm_dc od_X0_isYoungAboard_0 13 rfl) rfl ?_
      refine mm_iald (mm_dc od_X0_isYoungAboard_0 14 rfl) rfl (by first | assumption | omega | exact hr _ _ rfl | exact mm_ti _ | exact mm_r3264 (hr _ _ rfl)) (by first | assumption | omega | exact hr _ _ rfl | exact mm_ti _ | exact mm_r3264 (hr _ _ rfl)) (by decide) ?_
      refine mm_cst (st' := [v_i (M 2 j)]) rfl ?_
      refine mm_iconst (mm_dc od_X0_isYoungAboard_0 15 rfl) ?_
      refine mm_icmp_ne 31 (mm_dc od_X0_isYoungAboard_0 16 rfl) (by omega) (by first | assumption | omega | exact hr _ _ rfl | exact mm_ti _ | exact mm_r3264 (hr _ _ rfl)) (by first | assumption | omega | exact hr _ _ rfl | exact mm_ti _ | exact mm_r3264 (hr _ _ rfl)) (fun c3 => ?_) (fun c3 => ?_)
      · refine mm_iinc (L' := [(0, v_r 1), (1, v_i b), (2, v_i ((j : Int) + 1))]) (mm_dc od_X0_isYoungAboard_0 19 rfl) rfl (by decide) rfl ?_
        refine mm_goto 2 (mm_dc od_X0_isYoungAboard_0 20 rfl) (by omega) ?_
        exact L_young b hb hJo hr kt kf (j + 1) (lt_s hj (by unfold yngX; rw [decide_eq_true_eq]; omega)) (by omega)
      · refine mm_iconst (mm_dc od_X0_isYoungAboard_0 17 rfl) ?_
        refine mm_zret .boolean (mm_dc od_X0_isYoungAboard_0 18 rfl) rfl rfl ?_
        exact kt ((anyN_iff _ _).mpr ⟨j, by omega, by unfold yngX; rw [decide_eq_true_eq]; omega⟩)
    · simp only [Int.toNat_natCast] at c2
      refine mm_if_eq 31 (mm_dc od_X0_isYoungAboard_0 10 rfl) (by omega) (by first | assumption | omega | exact hr _ _ rfl | exact mm_ti _ | exact mm_r3264 (hr _ _ rfl)) (fun _ => ?_) (fun h => absurd h (by decide))
      refine mm_iinc (L' := [(0, v_r 1), (1, v_i b), (2, v_i ((j : Int) + 1))]) (mm_dc od_X0_isYoungAboard_0 19 rfl) rfl (by decide) rfl ?_
      refine mm_goto 2 (mm_dc od_X0_isYoungAboard_0 20 rfl) (by omega) ?_
      exact L_young b hb hJo hr kt kf (j + 1) (lt_s hj (by unfold yngX; rw [decide_eq_true_eq]; omega)) (by omega)
termination_by (M 1 0).toNat - j
decreasing_by all_goals (first | omega | (simp_wf; omega))
theorem c_X0_isYoungAboard {X : Nat × (Nat → Int)} {d : Nat} {Po : mm_Po} {M : mm_M} (b : Int) (hb : mm_r32 b) (hJo : JO M) (hr : R32 M) (kt : anyN (yngX M b) (M 1 0).toNat = true → Po (some (v_i 1)) Lam M) (kf : ¬ (anyN (yngX M b) (M 1 0).toNat = true) → Po (some (v_i 0)) Lam M) : mm_E X (d + 1) 0 0 mi_X0_isYoungAboard [v_r 1, v_i b] Po Lam M := by
  show mm_G X (d + 1) 0 0 mi_X0_isYoungAboard Po 0 [(0, v_r 1), (1, v_i b)] [] Lam M 0 0
  refine mm_iconst (mm_dc od_X0_isYoungAboard_0 0 rfl) ?_
  refine mm_istore_n (L' := [(0, v_r 1), (1, v_i b), (2, v_i 0)]) (mm_dc od_X0_isYoungAboard_0 1 rfl) (by decide) rfl ?_
  exact L_young b hb hJo hr kt kf 0 (fun i hi => by omega) (by have := hJo.1; omega)
theorem rulX_fin {M N : mm_M} {b hour kind r : Int} (hJ : JRu M) (hN : ∀ i, i ≠ 34 → N i = M i) (h7 : ∀ i, i < 7 → N 34 i = nowX M b hour i) (h : lastP (rulX N (N 34) kind) r (N 26 0).toNat) : lastP (rulX M (nowX M b hour) kind) r (M 26 0).toNat := by
  rw [hN 26 (by decide)] at h
  refine lastP_cong h (fun i hi => ?_)
  have hJ2 := (hJ.2.2 i (by have := hJ.1; omega)).2.2.2
  unfold rulX
  rw [hN 28 (by decide), hN 29 (by decide)]
  refine and_congr Iff.rfl (forall_congr' fun t => ?_)
  refine ⟨fun q ht => ?_, fun q ht => ?_⟩
  · have q2 := q ht
    have h3 := hJ2 t ht
    unfold tstX at *
    rw [hN 30 (by decide), hN 31 (by decide), hN 32 (by decide), hN 33 (by decide), h7 _ (by omega)] at q2
    exact q2
  · have q2 := q ht
    have h3 := hJ2 t ht
    unfold tstX at *
    rw [hN 30 (by decide), hN 31 (by decide), hN 32 (by decide), hN 33 (by decide), h7 _ (by omega)]
    exact q2
theorem now7 {P : Nat → Prop} (h0 : P 0) (h1 : P 1) (h2 : P 2) (h3 : P 3) (h4 : P 4) (h5 : P 5) (h6 : P 6) : ∀ i, i < 7 → P i := by
  intro i hi
  rcases (show i = 0 ∨ i = 1 ∨ i = 2 ∨ i = 3 ∨ i = 4 ∨ i = 5 ∨ i = 6 by omega) with rfl | rfl | rfl | rfl | rfl | rfl | rfl <;> assumption
theorem c_X9_askedRule {X : Nat × (Nat → Int)} {d : Nat} {Po : mm_Po} {M : mm_M} (b : Int) (hour : Int) (hb : 0 ≤ b ∧ b < M 1 5) (hh : 0 ≤ hour ∧ hour ≤ 23) (hJo : JO M) (hJb : JB M) (hJru : JRu M) (hJw : JW M) (hr : R32 M) (k : ∀ (N : mm_M) (r : Int), (frm 34 M N ∧ lastP (rulX M (nowX M b hour) (M 6 b.toNat)) r (M 26 0).toNat) → Po (some (v_i r)) Lam N) : mm_E X (d + 3) 0 0 mi_X9_askedRule [v_r 0, v_i b, v_i hour] Po Lam M := by
  show mm_G X (d + 3) 0 0 mi_X9_askedRule Po 0 [(0, v_r 0), (1, v_i b), (2, v_i hour)] [] Lam M 0 0
  have hJb2 := hJb
  obtain ⟨hb0, hb8, hB⟩ := hJb2
  have hJo2 := hJo
  obtain ⟨ho0, ho16, hO⟩ := hJo2
  have hB1 := hB b.toNat
  have hJw2 := hJw
  obtain ⟨hw0, hw9, hW⟩ := hJw2
  have e30 : Int.tmod (M 0 9) 30 = M 0 9 % 30 := Int.tmod_eq_emod_of_nonneg hw0
  have e31 : Int.tdiv (M 0 9) 30 = M 0 9 / 30 := Int.tdiv_eq_ediv_of_nonneg hw0
  have e32 : Int.tmod (Int.tdiv (M 0 9) 30) 12 = M 0 9 / 30 % 12 := (by rw [e31]; exact Int.tmod_eq_emod_of_nonneg (by omega))
  have hW1 := hW (Int.toNat (Int.tmod (M 0 9) 30)) (by omega)
  have hse := mm_seats_le (M 6 b.toNat).toNat
  refine mm_aload_n (mm_dc od_X9_askedRule_0 0 rfl) rfl ?_
  refine mm_getI (ci := 9) (k := 9) (mm_dc od_X9_askedRule_0 1 rfl) rfl in_X9 (by decide) wd_2_54 rfl rfl ?_
  refine mm_bipush (mm_dc od_X9_askedRule_0 2 rfl) (by decide) ?_
  refine mm_idiv (mm_dc od_X9_askedRule_0 3 rfl) (by first | assumption | omega | exact hr _ _ rfl | exact R32_up (R32_up (R32_up (R32_up hr (by omega)) (by omega)) (by omega)) (by omega) | exact R32_up (R32_up (R32_up (R32_up (R32_up hr (by omega)) (by omega)) (by omega)) (by omega)) (by omega) | exact R32_up (R32_up (R32_up (R32_up (R32_up (R32_up (R32_up hr (by omega)) (by omega)) (by omega)) (by omega)) (by omega)) (by omega)) (by omega)) (by first | assumption | omega | exact hr _ _ rfl | exact R32_up (R32_up (R32_up (R32_up hr (by omega)) (by omega)) (by omega)) (by omega) | exact R32_up (R32_up (R32_up (R32_up (R32_up hr (by omega)) (by omega)) (by omega)) (by omega)) (by omega) | exact R32_up (R32_up (R32_up (R32_up (R32_up (R32_up (R32_up hr (by omega)) (by omega)) (by omega)) (by omega)) (by omega)) (by omega)) (by omega)) (by first | assumption | omega | exact hr _ _ rfl | exact R32_up (R32_up (R32_up (R32_up hr (by omega)) (by omega)) (by omega)) (by omega) | exact R32_up (R32_up (R32_up (R32_up (R32_up hr (by omega)) (by omega)) (by omega)) (by omega)) (by omega) | exact R32_up (R32_up (R32_up (R32_up (R32_up (R32_up (R32_up hr (by omega)) (by omega)) (by omega)) (by omega)) (by omega)) (by omega)) (by omega)) ?_
  refine mm_bipush (mm_dc od_X9_askedRule_0 4 rfl) (by decide) ?_
  refine mm_irem (mm_dc od_X9_askedRule_0 5 rfl) (by first | assumption | omega | exact hr _ _ rfl | exact R32_up (R32_up (R32_up (R32_up hr (by omega)) (by omega)) (by omega)) (by omega) | exact R32_up (R32_up (R32_up (R32_up (R32_up hr (by omega)) (by omega)) (by omega)) (by omega)) (by omega) | exact R32_up (R32_up (R32_up (R32_up (R32_up (R32_up (R32_up hr (by omega)) (by omega)) (by omega)) (by omega)) (by omega)) (by omega)) (by omega)) (by first | assumption | omega | exact hr _ _ rfl | exact R32_up (R32_up (R32_up (R32_up hr (by omega)) (by omega)) (by omega)) (by omega) | exact R32_up (R32_up (R32_up (R32_up (R32_up hr (by omega)) (by omega)) (by omega)) (by omega)) (by omega) | exact R32_up (R32_up (R32_up (R32_up (R32_up (R32_up (R32_up hr (by omega)) (by omega)) (by omega)) (by omega)) (by omega)) (by omega)) (by omega)) (by first | assumption | omega | exact hr _ _ rfl | exact R32_up (R32_up (R32_up (R32_up hr (by omega)) (by omega)) (by omega)) (by omega) | exact R32_up (R32_up (R32_up (R32_up (R32_up hr (by omega)) (by omega)) (by omega)) (by omega)) (by omega) | exact R32_up (R32_up (R32_up (R32_up (R32_up (R32_up (R32_up hr (by omega)) (by omega)) (by omega)) (by omega)) (by omega)) (by omega)) (by omega)) ?_
  refine mm_istore_n (L' := [(0, v_r 0), (1, v_i b), (2, v_i hour), (3, v_i (Int.tmod (Int.tdiv (M 0 9) 30) 12))]) (mm_dc od_X9_askedRule_0 6 rfl) (by decide) rfl ?_
  refine mm_aload_n (mm_dc od_X9_askedRule_0 7 rfl) rfl ?_
  refine mm_getR (ci := 9) (k := 3) (mm_dc od_X9_askedRule_0 8 rfl) rfl in_X9 (by decide) wd_2_48 rfl rfl ?_
  refine mm_getR (ci := 6) (k := 0) (mm_dc od_X9_askedRule_0 9 rfl) rfl in_X6 (by decide) wd_1_136 rfl rfl ?_
  refine mm_aload_n (mm_dc od_X9_askedRule_0 10 rfl) rfl ?_
  refine mm_getI (ci := 9) (k := 9) (mm_dc od_X9_askedRule_0 11 rfl) rfl in_X9 (by decide) wd_2_54 rfl rfl ?_
  refine mm_bipush (mm_dc od_X9_askedRule_0 12 rfl) (by decide) ?_
  refine mm_irem (mm_dc od_X9_askedRule_0 13 rfl) (by first | assumption | omega | exact hr _ _ rfl | exact R32_up (R32_up (R32_up (R32_up hr (by omega)) (by omega)) (by omega)) (by omega) | exact R32_up (R32_up (R32_up (R32_up (R32_up hr (by omega)) (by omega)) (by omega)) (by omega)) (by omega) | exact R32_up (R32_up (R32_up (R32_up (R32_up (R32_up (R32_up hr (by omega)) (by omega)) (by omega)) (by omega)) (by omega)) (by omega)) (by omega)) (by first | assumption | omega | exact hr _ _ rfl | exact R32_up (R32_up (R32_up (R32_up hr (by omega)) (by omega)) (by omega)) (by omega) | exact R32_up (R32_up (R32_up (R32_up (R32_up hr (by omega)) (by omega)) (by omega)) (by omega)) (by omega) | exact R32_up (R32_up (R32_up (R32_up (R32_up (R32_up (R32_up hr (by omega)) (by omega)) (by omega)) (by omega)) (by omega)) (by omega)) (by omega)) (by first | assumption | omega | exact hr _ _ rfl | exact R32_up (R32_up (R32_up (R32_up hr (by omega)) (by omega)) (by omega)) (by omega) | exact R32_up (R32_up (R32_up (R32_up (R32_up hr (by omega)) (by omega)) (by omega)) (by omega)) (by omega) | exact R32_up (R32_up (R32_up (R32_up (R32_up (R32_up (R32_up hr (by omega)) (by omega)) (by omega)) (by omega)) (by omega)) (by omega)) (by omega)) ?_
  refine mm_iald (mm_dc od_X9_askedRule_0 14 rfl) rfl (by first | assumption | omega | exact hr _ _ rfl | exact R32_up (R32_up (R32_up (R32_up hr (by omega)) (by omega)) (by omega)) (by omega) | exact R32_up (R32_up (R32_up (R32_up (R32_up hr (by omega)) (by omega)) (by omega)) (by omega)) (by omega) | exact R32_up (R32_up (R32_up (R32_up (R32_up (R32_up (R32_up hr (by omega)) (by omega)) (by omega)) (by omega)) (by omega)) (by omega)) (by omega)) (by first | assumption | omega | exact hr _ _ rfl | exact R32_up (R32_up (R32_up (R32_up hr (by omega)) (by omega)) (by omega)) (by omega) | exact R32_up (R32_up (R32_up (R32_up (R32_up hr (by omega)) (by omega)) (by omega)) (by omega)) (by omega) | exact R32_up (R32_up (R32_up (R32_up (R32_up (R32_up (R32_up hr (by omega)) (by omega)) (by omega)) (by omega)) (by omega)) (by omega)) (by omega)) (by decide) ?_
  refine mm_istore (L' := [(0, v_r 0), (1, v_i b), (2, v_i hour), (3, v_i (Int.tmod (Int.tdiv (M 0 9) 30) 12)), (4, v_i (M 22 (Int.toNat (Int.tmod (M 0 9) 30))))]) (mm_dc od_X9_askedRule_0 15 rfl) (by decide) rfl ?_
  refine mm_aload_n (mm_dc od_X9_askedRule_0 16 rfl) rfl ?_
  refine mm_getR (ci := 9) (k := 5) (mm_dc od_X9_askedRule_0 17 rfl) rfl in_X9 (by decide) wd_2_50 rfl rfl ?_
  refine mm_getR (ci := 7) (k := 8) (mm_dc od_X9_askedRule_0 18 rfl) rfl in_X7 (by decide) wd_1_180 rfl rfl ?_
  refine mm_astore (L' := [(0, v_r 0), (1, v_i b), (2, v_i hour), (3, v_i (Int.tmod (Int.tdiv (M 0 9) 30) 12)), (4, v_i (M 22 (Int.toNat (Int.tmod (M 0 9) 30)))), (5, v_r 34)]) (mm_dc od_X9_askedRule_0 19 rfl) (by decide) rfl ?_
  refine mm_aload (mm_dc od_X9_askedRule_0 20 rfl) rfl ?_
  refine mm_iconst (mm_dc od_X9_askedRule_0 21 rfl) ?_
  refine mm_iload (mm_dc od_X9_askedRule_0 22 rfl) rfl ?_
  refine mm_iast (mm_dc od_X9_askedRule_0 23 rfl) rfl (by first | assumption | omega | exact hr _ _ rfl | exact R32_up (R32_up (R32_up (R32_up hr (by omega)) (by omega)) (by omega)) (by omega) | exact R32_up (R32_up (R32_up (R32_up (R32_up hr (by omega)) (by omega)) (by omega)) (by omega)) (by omega) | exact R32_up (R32_up (R32_up (R32_up (R32_up (R32_up (R32_up hr (by omega)) (by omega)) (by omega)) (by omega)) (by omega)) (by omega)) (by omega)) (by first | assumption | omega | exact hr _ _ rfl | exact R32_up (R32_up (R32_up (R32_up hr (by omega)) (by omega)) (by omega)) (by omega) | exact R32_up (R32_up (R32_up (R32_up (R32_up hr (by omega)) (by omega)) (by omega)) (by omega)) (by omega) | exact R32_up (R32_up (R32_up (R32_up (R32_up (R32_up (R32_up hr (by omega)) (by omega)) (by omega)) (by omega)) (by omega)) (by omega)) (by omega)) (by decide) ?_
  refine mm_eqM (M' := mm_up M 34 0 (M 22 (Int.toNat (Int.tmod (M 0 9) 30)))) rfl ?_
  refine mm_aload (mm_dc od_X9_askedRule_0 24 rfl) rfl ?_
  refine mm_iconst (mm_dc od_X9_askedRule_0 25 rfl) ?_
  refine mm_aload_n (mm_dc od_X9_askedRule_0 26 rfl) rfl ?_
  refine mm_getR (ci := 9) (k := 3) (mm_dc od_X9_askedRule_0 27 rfl) rfl in_X9 (by decide) wd_2_48 rfl rfl ?_
  refine mm_getR (ci := 6) (k := 1) (mm_dc od_X9_askedRule_0 28 rfl) rfl in_X6 (by decide) wd_1_138 rfl rfl ?_
  refine mm_aload_n (mm_dc od_X9_askedRule_0 29 rfl) rfl ?_
  refine mm_getI (ci := 9) (k := 9) (mm_dc od_X9_askedRule_0 30 rfl) rfl in_X9 (by decide) wd_2_54 rfl rfl ?_
  refine mm_cst (st' := [v_i (M 0 9), v_r 23, v_i 1, v_r 34]) rfl ?_
  refine mm_bipush (mm_dc od_X9_askedRule_0 31 rfl) (by decide) ?_
  refine mm_irem (mm_dc od_X9_askedRule_0 32 rfl) (by first | assumption | omega | exact hr _ _ rfl | exact R32_up (R32_up (R32_up (R32_up hr (by omega)) (by omega)) (by omega)) (by omega) | exact R32_up (R32_up (R32_up (R32_up (R32_up hr (by omega)) (by omega)) (by omega)) (by omega)) (by omega) | exact R32_up (R32_up (R32_up (R32_up (R32_up (R32_up (R32_up hr (by omega)) (by omega)) (by omega)) (by omega)) (by omega)) (by omega)) (by omega)) (by first | assumption | omega | exact hr _ _ rfl | exact R32_up (R32_up (R32_up (R32_up hr (by omega)) (by omega)) (by omega)) (by omega) | exact R32_up (R32_up (R32_up (R32_up (R32_up hr (by omega)) (by omega)) (by omega)) (by omega)) (by omega) | exact R32_up (R32_up (R32_up (R32_up (R32_up (R32_up (R32_up hr (by omega)) (by omega)) (by omega)) (by omega)) (by omega)) (by omega)) (by omega)) (by first | assumption | omega | exact hr _ _ rfl | exact R32_up (R32_up (R32_up (R32_up hr (by omega)) (by omega)) (by omega)) (by omega) | exact R32_up (R32_up (R32_up (R32_up (R32_up hr (by omega)) (by omega)) (by omega)) (by omega)) (by omega) | exact R32_up (R32_up (R32_up (R32_up (R32_up (R32_up (R32_up hr (by omega)) (by omega)) (by omega)) (by omega)) (by omega)) (by omega)) (by omega)) ?_
  refine mm_iald (mm_dc od_X9_askedRule_0 33 rfl) rfl (by first | assumption | omega | exact hr _ _ rfl | exact R32_up (R32_up (R32_up (R32_up hr (by omega)) (by omega)) (by omega)) (by omega) | exact R32_up (R32_up (R32_up (R32_up (R32_up hr (by omega)) (by omega)) (by omega)) (by omega)) (by omega) | exact R32_up (R32_up (R32_up (R32_up (R32_up (R32_up (R32_up hr (by omega)) (by omega)) (by omega)) (by omega)) (by omega)) (by omega)) (by omega)) (by first | assumption | omega | exact hr _ _ rfl | exact R32_up (R32_up (R32_up (R32_up hr (by omega)) (by omega)) (by omega)) (by omega) | exact R32_up (R32_up (R32_up (R32_up (R32_up hr (by omega)) (by omega)) (by omega)) (by omega)) (by omega) | exact R32_up (R32_up (R32_up (R32_up (R32_up (R32_up (R32_up hr (by omega)) (by omega)) (by omega)) (by omega)) (by omega)) (by omega)) (by omega)) (by decide) ?_
  refine mm_cst (st' := [v_i (M 23 (Int.toNat (Int.tmod (M 0 9) 30))), v_i 1, v_r 34]) rfl ?_
  refine mm_iast (mm_dc od_X9_askedRule_0 34 rfl) rfl (by first | assumption | omega | exact hr _ _ rfl | exact R32_up (R32_up (R32_up (R32_up hr (by omega)) (by omega)) (by omega)) (by omega) | exact R32_up (R32_up (R32_up (R32_up (R32_up hr (by omega)) (by omega)) (by omega)) (by omega)) (by omega) | exact R32_up (R32_up (R32_up (R32_up (R32_up (R32_up (R32_up hr (by omega)) (by omega)) (by omega)) (by omega)) (by omega)) (by omega)) (by omega)) (by first | assumption | omega | exact hr _ _ rfl | exact R32_up (R32_up (R32_up (R32_up hr (by omega)) (by omega)) (by omega)) (by omega) | exact R32_up (R32_up (R32_up (R32_up (R32_up hr (by omega)) (by omega)) (by omega)) (by omega)) (by omega) | exact R32_up (R32_up (R32_up (R32_up (R32_up (R32_up (R32_up hr (by omega)) (by omega)) (by omega)) (by omega)) (by omega)) (by omega)) (by omega)) (by decide) ?_
  refine mm_eqM (M' := mm_up (mm_up M 34 0 (M 22 (Int.toNat (Int.tmod (M 0 9) 30)))) 34 1 (M 23 (Int.toNat (Int.tmod (M 0 9) 30)))) rfl ?_
  refine mm_aload (mm_dc od_X9_askedRule_0 35 rfl) rfl ?_
  refine mm_iconst (mm_dc od_X9_askedRule_0 36 rfl) ?_
  refine mm_iload_n (mm_dc od_X9_askedRule_0 37 rfl) rfl ?_
  refine mm_iast (mm_dc od_X9_askedRule_0 38 rfl) rfl (by first | assumption | omega | exact hr _ _ rfl | exact R32_up (R32_up (R32_up (R32_up hr (by omega)) (by omega)) (by omega)) (by omega) | exact R32_up (R32_up (R32_up (R32_up (R32_up hr (by omega)) (by omega)) (by omega)) (by omega)) (by omega) | exact R32_up (R32_up (R32_up (R32_up (R32_up (R32_up (R32_up hr (by omega)) (by omega)) (by omega)) (by omega)) (by omega)) (by omega)) (by omega)) (by first | assumption | omega | exact hr _ _ rfl | exact R32_up (R32_up (R32_up (R32_up hr (by omega)) (by omega)) (by omega)) (by omega) | exact R32_up (R32_up (R32_up (R32_up (R32_up hr (by omega)) (by omega)) (by omega)) (by omega)) (by omega) | exact R32_up (R32_up (R32_up (R32_up (R32_up (R32_up (R32_up hr (by omega)) (by omega)) (by omega)) (by omega)) (by omega)) (by omega)) (by omega)) (by decide) ?_
  refine mm_eqM (M' := mm_up (mm_up (mm_up M 34 0 (M 22 (Int.toNat (Int.tmod (M 0 9) 30)))) 34 1 (M 23 (Int.toNat (Int.tmod (M 0 9) 30)))) 34 2 hour) rfl ?_
  refine mm_aload (mm_dc od_X9_askedRule_0 39 rfl) rfl ?_
  refine mm_iconst (mm_dc od_X9_askedRule_0 40 rfl) ?_
  refine mm_iload_n (mm_dc od_X9_askedRule_0 41 rfl) rfl ?_
  refine mm_iast (mm_dc od_X9_askedRule_0 42 rfl) rfl (by first | assumption | omega | exact hr _ _ rfl | exact R32_up (R32_up (R32_up (R32_up hr (by omega)) (by omega)) (by omega)) (by omega) | exact R32_up (R32_up (R32_up (R32_up (R32_up hr (by omega)) (by omega)) (by omega)) (by omega)) (by omega) | exact R32_up (R32_up (R32_up (R32_up (R32_up (R32_up (R32_up hr (by omega)) (by omega)) (by omega)) (by omega)) (by omega)) (by omega)) (by omega)) (by first | assumption | omega | exact hr _ _ rfl | exact R32_up (R32_up (R32_up (R32_up hr (by omega)) (by omega)) (by omega)) (by omega) | exact R32_up (R32_up (R32_up (R32_up (R32_up hr (by omega)) (by omega)) (by omega)) (by omega)) (by omega) | exact R32_up (R32_up (R32_up (R32_up (R32_up (R32_up (R32_up hr (by omega)) (by omega)) (by omega)) (by omega)) (by omega)) (by omega)) (by omega)) (by decide) ?_
  refine mm_eqM (M' := mm_up (mm_up (mm_up (mm_up M 34 0 (M 22 (Int.toNat (Int.tmod (M 0 9) 30)))) 34 1 (M 23 (Int.toNat (Int.tmod (M 0 9) 30)))) 34 2 hour) 34 3 (Int.tmod (Int.tdiv (M 0 9) 30) 12)) rfl ?_
  refine mm_aload (mm_dc od_X9_askedRule_0 43 rfl) rfl ?_
  refine mm_iconst (mm_dc od_X9_askedRule_0 44 rfl) ?_
  refine mm_aload_n (mm_dc od_X9_askedRule_0 45 rfl) rfl ?_
  refine mm_getR (ci := 9) (k := 0) (mm_dc od_X9_askedRule_0 46 rfl) rfl in_X9 (by decide) wd_2_45 rfl rfl ?_
  refine mm_iload_n (mm_dc od_X9_askedRule_0 47 rfl) rfl ?_
  refine mm_callV (b := 1) (mi' := mi_X0_seats) [v_i b] [v_i 4, v_r 34] (mm_dc od_X9_askedRule_0 48 rfl) rfl wd_3_183 wd_2_120 wd_2_121 wd_1_2 wd_2_122 yk_X0_seats rfl rfl rfl (Nat.le_of_ble_eq_true rfl) rfl (by decide) (c_X0_seats b (by first | assumption | omega | exact hr _ _ rfl | exact R32_up (R32_up (R32_up (R32_up hr (by omega)) (by omega)) (by omega)) (by omega) | exact R32_up (R32_up (R32_up (R32_up (R32_up hr (by omega)) (by omega)) (by omega)) (by omega)) (by omega) | exact R32_up (R32_up (R32_up (R32_up (R32_up (R32_up (R32_up hr (by omega)) (by omega)) (by omega)) (by omega)) (by omega)) (by omega)) (by omega)) hJb (by first | assumption | omega | exact hr _ _ rfl | exact R32_up (R32_up (R32_up (R32_up hr (by omega)) (by omega)) (by omega)) (by omega) | exact R32_up (R32_up (R32_up (R32_up (R32_up hr (by omega)) (by omega)) (by omega)) (by omega)) (by omega) | exact R32_up (R32_up (R32_up (R32_up (R32_up (R32_up (R32_up hr (by omega)) (by omega)) (by omega)) (by omega)) (by omega)) (by omega)) (by omega)) ⟨Nat.le_refl _, ?_⟩)
  refine mm_cst (st' := [v_i (mm_seats (M 6 b.toNat).toNat), v_i 4, v_r 34]) rfl ?_
  refine mm_iast (mm_dc od_X9_askedRule_0 49 rfl) rfl (by first | assumption | omega | exact hr _ _ rfl | exact R32_up (R32_up (R32_up (R32_up hr (by omega)) (by omega)) (by omega)) (by omega) | exact R32_up (R32_up (R32_up (R32_up (R32_up hr (by omega)) (by omega)) (by omega)) (by omega)) (by omega) | exact R32_up (R32_up (R32_up (R32_up (R32_up (R32_up (R32_up hr (by omega)) (by omega)) (by omega)) (by omega)) (by omega)) (by omega)) (by omega)) (by first | assumption | omega | exact hr _ _ rfl | exact R32_up (R32_up (R32_up (R32_up hr (by omega)) (by omega)) (by omega)) (by omega) | exact R32_up (R32_up (R32_up (R32_up (R32_up hr (by omega)) (by omega)) (by omega)) (by omega)) (by omega) | exact R32_up (R32_up (R32_up (R32_up (R32_up (R32_up (R32_up hr (by omega)) (by omega)) (by omega)) (by omega)) (by omega)) (by omega)) (by omega)) (by decide) ?_
  refine mm_eqM (M' := mm_up (mm_up (mm_up (mm_up (mm_up M 34 0 (M 22 (Int.toNat (Int.tmod (M 0 9) 30)))) 34 1 (M 23 (Int.toNat (Int.tmod (M 0 9) 30)))) 34 2 hour) 34 3 (Int.tmod (Int.tdiv (M 0 9) 30) 12)) 34 4 (mm_seats (M 6 b.toNat).toNat)) rfl ?_
  refine mm_aload (mm_dc od_X9_askedRule_0 50 rfl) rfl ?_
  refine mm_iconst (mm_dc od_X9_askedRule_0 51 rfl) ?_
  refine mm_aload_n (mm_dc od_X9_askedRule_0 52 rfl) rfl ?_
  refine mm_getR (ci := 9) (k := 0) (mm_dc od_X9_askedRule_0 53 rfl) rfl in_X9 (by decide) wd_2_45 rfl rfl ?_
  refine mm_iload_n (mm_dc od_X9_askedRule_0 54 rfl) rfl ?_
  refine mm_callV (b := 1) (mi' := mi_X0_isYoungAboard) [v_i b] [v_i 5, v_r 34] (mm_dc od_X9_askedRule_0 55 rfl) rfl wd_3_184 wd_3_185 wd_3_186 wd_1_2 wd_3_187 yk_X0_isYoungAboard rfl rfl rfl (Nat.le_of_ble_eq_true rfl) rfl (by decide) (c_X0_isYoungAboard b (by first | assumption | omega | exact hr _ _ rfl | exact R32_up (R32_up (R32_up (R32_up hr (by omega)) (by omega)) (by omega)) (by omega) | exact R32_up (R32_up (R32_up (R32_up (R32_up hr (by omega)) (by omega)) (by omega)) (by omega)) (by omega) | exact R32_up (R32_up (R32_up (R32_up (R32_up (R32_up (R32_up hr (by omega)) (by omega)) (by omega)) (by omega)) (by omega)) (by omega)) (by omega)) hJo (by first | assumption | omega | exact hr _ _ rfl | exact R32_up (R32_up (R32_up (R32_up hr (by omega)) (by omega)) (by omega)) (by omega) | exact R32_up (R32_up (R32_up (R32_up (R32_up hr (by omega)) (by omega)) (by omega)) (by omega)) (by omega) | exact R32_up (R32_up (R32_up (R32_up (R32_up (R32_up (R32_up hr (by omega)) (by omega)) (by omega)) (by omega)) (by omega)) (by omega)) (by omega)) (fun c1 => ⟨Nat.le_refl _, ?_⟩) (fun c1 => ⟨Nat.le_refl _, ?_⟩))
  · refine mm_if_eq 102 (mm_dc od_X9_askedRule_0 56 rfl) (by omega) (by first | assumption | omega | exact hr _ _ rfl | exact R32_up (R32_up (R32_up (R32_up hr (by omega)) (by omega)) (by omega)) (by omega) | exact R32_up (R32_up (R32_up (R32_up (R32_up hr (by omega)) (by omega)) (by omega)) (by omega)) (by omega) | exact R32_up (R32_up (R32_up (R32_up (R32_up (R32_up (R32_up hr (by omega)) (by omega)) (by omega)) (by omega)) (by omega)) (by omega)) (by omega)) (fun h => absurd h (by decide)) (fun _ => ?_)
    refine mm_iconst (mm_dc od_X9_askedRule_0 57 rfl) ?_
    refine mm_goto 103 (mm_dc od_X9_askedRule_0 58 rfl) (by omega) ?_
    refine mm_iast (mm_dc od_X9_askedRule_1 0 rfl) rfl (by first | assumption | omega | exact hr _ _ rfl | exact R32_up (R32_up (R32_up (R32_up hr (by omega)) (by omega)) (by omega)) (by omega) | exact R32_up (R32_up (R32_up (R32_up (R32_up hr (by omega)) (by omega)) (by omega)) (by omega)) (by omega) | exact R32_up (R32_up (R32_up (R32_up (R32_up (R32_up (R32_up hr (by omega)) (by omega)) (by omega)) (by omega)) (by omega)) (by omega)) (by omega)) (by first | assumption | omega | exact hr _ _ rfl | exact R32_up (R32_up (R32_up (R32_up hr (by omega)) (by omega)) (by omega)) (by omega) | exact R32_up (R32_up (R32_up (R32_up (R32_up hr (by omega)) (by omega)) (by omega)) (by omega)) (by omega) | exact R32_up (R32_up (R32_up (R32_up (R32_up (R32_up (R32_up hr (by omega)) (by omega)) (by omega)) (by omega)) (by omega)) (by omega)) (by omega)) (by decide) ?_
    refine mm_eqM (M' := mm_up (mm_up (mm_up (mm_up (mm_up (mm_up M 34 0 (M 22 (Int.toNat (Int.tmod (M 0 9) 30)))) 34 1 (M 23 (Int.toNat (Int.tmod (M 0 9) 30)))) 34 2 hour) 34 3 (Int.tmod (Int.tdiv (M 0 9) 30) 12)) 34 4 (mm_seats (M 6 b.toNat).toNat)) 34 5 1) rfl ?_
    refine mm_aload (mm_dc od_X9_askedRule_1 1 rfl) rfl ?_
    refine mm_bipush (mm_dc od_X9_askedRule_1 2 rfl) (by decide) ?_
    refine mm_iload_n (mm_dc od_X9_askedRule_1 3 rfl) rfl ?_
    refine mm_iconst (mm_dc od_X9_askedRule_1 4 rfl) ?_
    refine mm_icmp_ge 124 (mm_dc od_X9_askedRule_1 5 rfl) (by omega) (by first | assumption | omega | exact hr _ _ rfl | exact R32_up (R32_up (R32_up (R32_up hr (by omega)) (by omega)) (by omega)) (by omega) | exact R32_up (R32_up (R32_up (R32_up (R32_up hr (by omega)) (by omega)) (by omega)) (by omega)) (by omega) | exact R32_up (R32_up (R32_up (R32_up (R32_up (R32_up (R32_up hr (by omega)) (by omega)) (by omega)) (by omega)) (by omega)) (by omega)) (by omega)) (by first | assumption | omega | exact hr _ _ rfl | exact R32_up (R32_up (R32_up (R32_up hr (by omega)) (by omega)) (by omega)) (by omega) | exact R32_up (R32_up (R32_up (R32_up (R32_up hr (by omega)) (by omega)) (by omega)) (by omega)) (by omega) | exact R32_up (R32_up (R32_up (R32_up (R32_up (R32_up (R32_up hr (by omega)) (by omega)) (by omega)) (by omega)) (by omega)) (by omega)) (by omega)) (fun c2 => ?_) (fun c2 => ?_)
    · refine mm_iconst (mm_dc od_X9_askedRule_1 11 rfl) ?_
      refine mm_iast (mm_dc od_X9_askedRule_1 12 rfl) rfl (by first | assumption | omega | exact hr _ _ rfl | exact R32_up (R32_up (R32_up (R32_up hr (by omega)) (by omega)) (by omega)) (by omega) | exact R32_up (R32_up (R32_up (R32_up (R32_up hr (by omega)) (by omega)) (by omega)) (by omega)) (by omega) | exact R32_up (R32_up (R32_up (R32_up (R32_up (R32_up (R32_up hr (by omega)) (by omega)) (by omega)) (by omega)) (by omega)) (by omega)) (by omega)) (by first | assumption | omega | exact hr _ _ rfl | exact R32_up (R32_up (R32_up (R32_up hr (by omega)) (by omega)) (by omega)) (by omega) | exact R32_up (R32_up (R32_up (R32_up (R32_up hr (by omega)) (by omega)) (by omega)) (by omega)) (by omega) | exact R32_up (R32_up (R32_up (R32_up (R32_up (R32_up (R32_up hr (by omega)) (by omega)) (by omega)) (by omega)) (by omega)) (by omega)) (by omega)) (by decide) ?_
      refine mm_eqM (M' := mm_up (mm_up (mm_up (mm_up (mm_up (mm_up (mm_up M 34 0 (M 22 (Int.toNat (Int.tmod (M 0 9) 30)))) 34 1 (M 23 (Int.toNat (Int.tmod (M 0 9) 30)))) 34 2 hour) 34 3 (Int.tmod (Int.tdiv (M 0 9) 30) 12)) 34 4 (mm_seats (M 6 b.toNat).toNat)) 34 5 1) 34 6 0) rfl ?_
      refine mm_aload_n (mm_dc od_X9_askedRule_1 13 rfl) rfl ?_
      refine mm_getR (ci := 9) (k := 5) (mm_dc od_X9_askedRule_1 14 rfl) rfl in_X9 (by decide) wd_2_50 rfl rfl ?_
      refine mm_aload_n (mm_dc od_X9_askedRule_1 15 rfl) rfl ?_
      refine mm_getR (ci := 9) (k := 0) (mm_dc od_X9_askedRule_1 16 rfl) rfl in_X9 (by decide) wd_2_45 rfl rfl ?_
      refine mm_getR (ci := 0) (k := 6) (mm_dc od_X9_askedRule_1 17 rfl) rfl in_X0 (by decide) wd_1_49 rfl rfl ?_
      refine mm_iload_n (mm_dc od_X9_askedRule_1 18 rfl) rfl ?_
      refine mm_iald (mm_dc od_X9_askedRule_1 19 rfl) rfl (by first | assumption | omega | exact hr _ _ rfl | exact R32_up (R32_up (R32_up (R32_up hr (by omega)) (by omega)) (by omega)) (by omega) | exact R32_up (R32_up (R32_up (R32_up (R32_up hr (by omega)) (by omega)) (by omega)) (by omega)) (by omega) | exact R32_up (R32_up (R32_up (R32_up (R32_up (R32_up (R32_up hr (by omega)) (by omega)) (by omega)) (by omega)) (by omega)) (by omega)) (by omega)) (by first | assumption | omega | exact hr _ _ rfl | exact R32_up (R32_up (R32_up (R32_up hr (by omega)) (by omega)) (by omega)) (by omega) | exact R32_up (R32_up (R32_up (R32_up (R32_up hr (by omega)) (by omega)) (by omega)) (by omega)) (by omega) | exact R32_up (R32_up (R32_up (R32_up (R32_up (R32_up (R32_up hr (by omega)) (by omega)) (by omega)) (by omega)) (by omega)) (by omega)) (by omega)) (by decide) ?_
      refine mm_cst (st' := [v_i (M 6 (Int.toNat b)), v_r 26]) rfl ?_
      refine mm_callV (b := 26) (mi' := mi_X7_asked) [v_i (M 6 (Int.toNat b))] [] (mm_dc od_X9_askedRule_1 20 rfl) rfl wd_3_189 wd_3_190 wd_3_191 wd_1_7 wd_3_192 yk_X7_asked rfl rfl rfl (Nat.le_of_ble_eq_true rfl) rfl (by decide) (c_X7_asked (M 6 (Int.toNat b)) (by first | assumption | omega | exact hr _ _ rfl | exact R32_up (R32_up (R32_up (R32_up hr (by omega)) (by omega)) (by omega)) (by omega) | exact R32_up (R32_up (R32_up (R32_up (R32_up hr (by omega)) (by omega)) (by omega)) (by omega)) (by omega) | exact R32_up (R32_up (R32_up (R32_up (R32_up (R32_up (R32_up hr (by omega)) (by omega)) (by omega)) (by omega)) (by omega)) (by omega)) (by omega)) hJru (by first | assumption | omega | exact hr _ _ rfl | exact R32_up (R32_up (R32_up (R32_up hr (by omega)) (by omega)) (by omega)) (by omega) | exact R32_up (R32_up (R32_up (R32_up (R32_up hr (by omega)) (by omega)) (by omega)) (by omega)) (by omega) | exact R32_up (R32_up (R32_up (R32_up (R32_up (R32_up (R32_up hr (by omega)) (by omega)) (by omega)) (by omega)) (by omega)) (by omega)) (by omega)) (fun r3 hq4 => ⟨Nat.le_refl _, ?_⟩))
      have hq4_r := lastP_rng hq4
      refine mm_iret (mm_dc od_X9_askedRule_1 21 rfl) rfl ?_
      have hfr : frm 34 M ((mm_up (mm_up (mm_up (mm_up (mm_up (mm_up (mm_up M 34 0 (M 22 (Int.toNat (Int.tmod (M 0 9) 30)))) 34 1 (M 23 (Int.toNat (Int.tmod (M 0 9) 30)))) 34 2 hour) 34 3 (Int.tmod (Int.tdiv (M 0 9) 30) 12)) 34 4 (mm_seats (M 6 b.toNat).toNat)) 34 5 1) 34 6 0)) := (frm_up (frm_up (frm_up (frm_up (frm_up (frm_up (frm_up (frm_0 hr) (by first | omega | assumption | exact hr _ _ rfl)) (by first | omega | assumption | exact hr _ _ rfl)) (by first | omega | assumption | exact hr _ _ rfl)) (by first | omega | assumption | exact hr _ _ rfl)) (by first | omega | assumption | exact hr _ _ rfl)) (by first | omega | assumption | exact hr _ _ rfl)) (by first | omega | assumption | exact hr _ _ rfl))
      exact k _ _ ⟨hfr, rulX_fin hJru hfr.2 (now7 rfl rfl rfl rfl rfl (if_pos (show anyN (yngX M b) (M 1 0).toNat = true from c1)).symm (if_neg (by omega)).symm) hq4⟩
    · refine mm_iload (mm_dc od_X9_askedRule_1 6 rfl) rfl ?_
      refine mm_bipush (mm_dc od_X9_askedRule_1 7 rfl) (by decide) ?_
      refine mm_icmp_ge 124 (mm_dc od_X9_askedRule_1 8 rfl) (by omega) (by first | assumption | omega | exact hr _ _ rfl | exact R32_up (R32_up (R32_up (R32_up hr (by omega)) (by omega)) (by omega)) (by omega) | exact R32_up (R32_up (R32_up (R32_up (R32_up hr (by omega)) (by omega)) (by omega)) (by omega)) (by omega) | exact R32_up (R32_up (R32_up (R32_up (R32_up (R32_up (R32_up hr (by omega)) (by omega)) (by omega)) (by omega)) (by omega)) (by omega)) (by omega)) (by first | assumption | omega | exact hr _ _ rfl | exact R32_up (R32_up (R32_up (R32_up hr (by omega)) (by omega)) (by omega)) (by omega) | exact R32_up (R32_up (R32_up (R32_up (R32_up hr (by omega)) (by omega)) (by omega)) (by omega)) (by omega) | exact R32_up (R32_up (R32_up (R32_up (R32_up (R32_up (R32_up hr (by omega)) (by omega)) (by omega)) (by omega)) (by omega)) (by omega)) (by omega)) (fun c5 => ?_) (fun c5 => ?_)
      · refine mm_iconst (mm_dc od_X9_askedRule_1 11 rfl) ?_
        refine mm_iast (mm_dc od_X9_askedRule_1 12 rfl) rfl (by first | assumption | omega | exact hr _ _ rfl | exact R32_up (R32_up (R32_up (R32_up hr (by omega)) (by omega)) (by omega)) (by omega) | exact R32_up (R32_up (R32_up (R32_up (R32_up hr (by omega)) (by omega)) (by omega)) (by omega)) (by omega) | exact R32_up (R32_up (R32_up (R32_up (R32_up (R32_up (R32_up hr (by omega)) (by omega)) (by omega)) (by omega)) (by omega)) (by omega)) (by omega)) (by first | assumption | omega | exact hr _ _ rfl | exact R32_up (R32_up (R32_up (R32_up hr (by omega)) (by omega)) (by omega)) (by omega) | exact R32_up (R32_up (R32_up (R32_up (R32_up hr (by omega)) (by omega)) (by omega)) (by omega)) (by omega) | exact R32_up (R32_up (R32_up (R32_up (R32_up (R32_up (R32_up hr (by omega)) (by omega)) (by omega)) (by omega)) (by omega)) (by omega)) (by omega)) (by decide) ?_
        refine mm_eqM (M' := mm_up (mm_up (mm_up (mm_up (mm_up (mm_up (mm_up M 34 0 (M 22 (Int.toNat (Int.tmod (M 0 9) 30)))) 34 1 (M 23 (Int.toNat (Int.tmod (M 0 9) 30)))) 34 2 hour) 34 3 (Int.tmod (Int.tdiv (M 0 9) 30) 12)) 34 4 (mm_seats (M 6 b.toNat).toNat)) 34 5 1) 34 6 0) rfl ?_
        refine mm_aload_n (mm_dc od_X9_askedRule_1 13 rfl) rfl ?_
        refine mm_getR (ci := 9) (k := 5) (mm_dc od_X9_askedRule_1 14 rfl) rfl in_X9 (by decide) wd_2_50 rfl rfl ?_
        refine mm_aload_n (mm_dc od_X9_askedRule_1 15 rfl) rfl ?_
        refine mm_getR (ci := 9) (k := 0) (mm_dc od_X9_askedRule_1 16 rfl) rfl in_X9 (by decide) wd_2_45 rfl rfl ?_
        refine mm_getR (ci := 0) (k := 6) (mm_dc od_X9_askedRule_1 17 rfl) rfl in_X0 (by decide) wd_1_49 rfl rfl ?_
        refine mm_iload_n (mm_dc od_X9_askedRule_1 18 rfl) rfl ?_
        refine mm_iald (mm_dc od_X9_askedRule_1 19 rfl) rfl (by first | assumption | omega | exact hr _ _ rfl | exact R32_up (R32_up (R32_up (R32_up hr (by omega)) (by omega)) (by omega)) (by omega) | exact R32_up (R32_up (R32_up (R32_up (R32_up hr (by omega)) (by omega)) (by omega)) (by omega)) (by omega) | exact R32_up (R32_up (R32_up (R32_up (R32_up (R32_up (R32_up hr (by omega)) (by omega)) (by omega)) (by omega)) (by omega)) (by omega)) (by omega)) (by first | assumption | omega | exact hr _ _ rfl | exact R32_up (R32_up (R32_up (R32_up hr (by omega)) (by omega)) (by omega)) (by omega) | exact R32_up (R32_up (R32_up (R32_up (R32_up hr (by omega)) (by omega)) (by omega)) (by omega)) (by omega) | exact R32_up (R32_up (R32_up (R32_up (R32_up (R32_up (R32_up hr (by omega)) (by omega)) (by omega)) (by omega)) (by omega)) (by omega)) (by omega)) (by decide) ?_
        refine mm_cst (st' := [v_i (M 6 (Int.toNat b)), v_r 26]) rfl ?_
        refine mm_callV (b := 26) (mi' := mi_X7_asked) [v_i (M 6 (Int.toNat b))] [] (mm_dc od_X9_askedRule_1 20 rfl) rfl wd_3_189 wd_3_190 wd_3_191 wd_1_7 wd_3_192 yk_X7_asked rfl rfl rfl (Nat.le_of_ble_eq_true rfl) rfl (by decide) (c_X7_asked (M 6 (Int.toNat b)) (by first | assumption | omega | exact hr _ _ rfl | exact R32_up (R32_up (R32_up (R32_up hr (by omega)) (by omega)) (by omega)) (by omega) | exact R32_up (R32_up (R32_up (R32_up (R32_up hr (by omega)) (by omega)) (by omega)) (by omega)) (by omega) | exact R32_up (R32_up (R32_up (R32_up (R32_up (R32_up (R32_up hr (by omega)) (by omega)) (by omega)) (by omega)) (by omega)) (by omega)) (by omega)) hJru (by first | assumption | omega | exact hr _ _ rfl | exact R32_up (R32_up (R32_up (R32_up hr (by omega)) (by omega)) (by omega)) (by omega) | exact R32_up (R32_up (R32_up (R32_up (R32_up hr (by omega)) (by omega)) (by omega)) (by omega)) (by omega) | exact R32_up (R32_up (R32_up (R32_up (R32_up (R32_up (R32_up hr (by omega)) (by omega)) (by omega)) (by omega)) (by omega)) (by omega)) (by omega)) (fun r6 hq7 => ⟨Nat.le_refl _, ?_⟩))
        have hq7_r := lastP_rng hq7
        refine mm_iret (mm_dc od_X9_askedRule_1 21 rfl) rfl ?_
        have hfr : frm 34 M ((mm_up (mm_up (mm_up (mm_up (mm_up (mm_up (mm_up M 34 0 (M 22 (Int.toNat (Int.tmod (M 0 9) 30)))) 34 1 (M 23 (Int.toNat (Int.tmod (M 0 9) 30)))) 34 2 hour) 34 3 (Int.tmod (Int.tdiv (M 0 9) 30) 12)) 34 4 (mm_seats (M 6 b.toNat).toNat)) 34 5 1) 34 6 0)) := (frm_up (frm_up (frm_up (frm_up (frm_up (frm_up (frm_up (frm_0 hr) (by first | omega | assumption | exact hr _ _ rfl)) (by first | omega | assumption | exact hr _ _ rfl)) (by first | omega | assumption | exact hr _ _ rfl)) (by first | omega | assumption | exact hr _ _ rfl)) (by first | omega | assumption | exact hr _ _ rfl)) (by first | omega | assumption | exact hr _ _ rfl)) (by first | omega | assumption | exact hr _ _ rfl))
        exact k _ _ ⟨hfr, rulX_fin hJru hfr.2 (now7 rfl rfl rfl rfl rfl (if_pos (show anyN (yngX M b) (M 1 0).toNat = true from c1)).symm (if_neg (by omega)).symm) hq7⟩
      · refine mm_iconst (mm_dc od_X9_askedRule_1 9 rfl) ?_
        refine mm_goto 125 (mm_dc od_X9_askedRule_1 10 rfl) (by omega) ?_
        refine mm_iast (mm_dc od_X9_askedRule_1 12 rfl) rfl (by first | assumption | omega | exact hr _ _ rfl | exact R32_up (R32_up (R32_up (R32_up hr (by omega)) (by omega)) (by omega)) (by omega) | exact R32_up (R32_up (R32_up (R32_up (R32_up hr (by omega)) (by omega)) (by omega)) (by omega)) (by omega) | exact R32_up (R32_up (R32_up (R32_up (R32_up (R32_up (R32_up hr (by omega)) (by omega)) (by omega)) (by omega)) (by omega)) (by omega)) (by omega)) (by first | assumption | omega | exact hr _ _ rfl | exact R32_up (R32_up (R32_up (R32_up hr (by omega)) (by omega)) (by omega)) (by omega) | exact R32_up (R32_up (R32_up (R32_up (R32_up hr (by omega)) (by omega)) (by omega)) (by omega)) (by omega) | exact R32_up (R32_up (R32_up (R32_up (R32_up (R32_up (R32_up hr (by omega)) (by omega)) (by omega)) (by omega)) (by omega)) (by omega)) (by omega)) (by decide) ?_
        refine mm_eqM (M' := mm_up (mm_up (mm_up (mm_up (mm_up (mm_up (mm_up M 34 0 (M 22 (Int.toNat (Int.tmod (M 0 9) 30)))) 34 1 (M 23 (Int.toNat (Int.tmod (M 0 9) 30)))) 34 2 hour) 34 3 (Int.tmod (Int.tdiv (M 0 9) 30) 12)) 34 4 (mm_seats (M 6 b.toNat).toNat)) 34 5 1) 34 6 1) rfl ?_
        refine mm_aload_n (mm_dc od_X9_askedRule_1 13 rfl) rfl ?_
        refine mm_getR (ci := 9) (k := 5) (mm_dc od_X9_askedRule_1 14 rfl) rfl in_X9 (by decide) wd_2_50 rfl rfl ?_
        refine mm_aload_n (mm_dc od_X9_askedRule_1 15 rfl) rfl ?_
        refine mm_getR (ci := 9) (k := 0) (mm_dc od_X9_askedRule_1 16 rfl) rfl in_X9 (by decide) wd_2_45 rfl rfl ?_
        refine mm_getR (ci := 0) (k := 6) (mm_dc od_X9_askedRule_1 17 rfl) rfl in_X0 (by decide) wd_1_49 rfl rfl ?_
        refine mm_iload_n (mm_dc od_X9_askedRule_1 18 rfl) rfl ?_
        refine mm_iald (mm_dc od_X9_askedRule_1 19 rfl) rfl (by first | assumption | omega | exact hr _ _ rfl | exact R32_up (R32_up (R32_up (R32_up hr (by omega)) (by omega)) (by omega)) (by omega) | exact R32_up (R32_up (R32_up (R32_up (R32_up hr (by omega)) (by omega)) (by omega)) (by omega)) (by omega) | exact R32_up (R32_up (R32_up (R32_up (R32_up (R32_up (R32_up hr (by omega)) (by omega)) (by omega)) (by omega)) (by omega)) (by omega)) (by omega)) (by first | assumption | omega | exact hr _ _ rfl | exact R32_up (R32_up (R32_up (R32_up hr (by omega)) (by omega)) (by omega)) (by omega) | exact R32_up (R32_up (R32_up (R32_up (R32_up hr (by omega)) (by omega)) (by omega)) (by omega)) (by omega) | exact R32_up (R32_up (R32_up (R32_up (R32_up (R32_up (R32_up hr (by omega)) (by omega)) (by omega)) (by omega)) (by omega)) (by omega)) (by omega)) (by decide) ?_
        refine mm_cst (st' := [v_i (M 6 (Int.toNat b)), v_r 26]) rfl ?_
        refine mm_callV (b := 26) (mi' := mi_X7_asked) [v_i (M 6 (Int.toNat b))] [] (mm_dc od_X9_askedRule_1 20 rfl) rfl wd_3_189 wd_3_190 wd_3_191 wd_1_7 wd_3_192 yk_X7_asked rfl rfl rfl (Nat.le_of_ble_eq_true rfl) rfl (by decide) (c_X7_asked (M 6 (Int.toNat b)) (by first | assumption | omega | exact hr _ _ rfl | exact R32_up (R32_up (R32_up (R32_up hr (by omega)) (by omega)) (by omega)) (by omega) | exact R32_up (R32_up (R32_up (R32_up (R32_up hr (by omega)) (by omega)) (by omega)) (by omega)) (by omega) | exact R32_up (R32_up (R32_up (R32_up (R32_up (R32_up (R32_up hr (by omega)) (by omega)) (by omega)) (by omega)) (by omega)) (by omega)) (by omega)) hJru (by first | assumption | omega | exact hr _ _ rfl | exact R32_up (R32_up (R32_up (R32_up hr (by omega)) (by omega)) (by omega)) (by omega) | exact R32_up (R32_up (R32_up (R32_up (R32_up hr (by omega)) (by omega)) (by omega)) (by omega)) (by omega) | exact R32_up (R32_up (R32_up (R32_up (R32_up (R32_up (R32_up hr (by omega)) (by omega)) (by omega)) (by omega)) (by omega)) (by omega)) (by omega)) (fun r8 hq9 => ⟨Nat.le_refl _, ?_⟩))
        have hq9_r := lastP_rng hq9
        refine mm_iret (mm_dc od_X9_askedRule_1 21 rfl) rfl ?_
        have hfr : frm 34 M ((mm_up (mm_up (mm_up (mm_up (mm_up (mm_up (mm_up M 34 0 (M 22 (Int.toNat (Int.tmod (M 0 9) 30)))) 34 1 (M 23 (Int.toNat (Int.tmod (M 0 9) 30)))) 34 2 hour) 34 3 (Int.tmod (Int.tdiv (M 0 9) 30) 12)) 34 4 (mm_seats (M 6 b.toNat).toNat)) 34 5 1) 34 6 1)) := (frm_up (frm_up (frm_up (frm_up (frm_up (frm_up (frm_up (frm_0 hr) (by first | omega | assumption | exact hr _ _ rfl)) (by first | omega | assumption | exact hr _ _ rfl)) (by first | omega | assumption | exact hr _ _ rfl)) (by first | omega | assumption | exact hr _ _ rfl)) (by first | omega | assumption | exact hr _ _ rfl)) (by first | omega | assumption | exact hr _ _ rfl)) (by first | omega | assumption | exact hr _ _ rfl))
        exact k _ _ ⟨hfr, rulX_fin hJru hfr.2 (now7 rfl rfl rfl rfl rfl (if_pos (show anyN (yngX M b) (M 1 0).toNat = true from c1)).symm (if_pos (by omega)).symm) hq9⟩
  · refine mm_if_eq 102 (mm_dc od_X9_askedRule_0 56 rfl) (by omega) (by first | assumption | omega | exact hr _ _ rfl | exact R32_up (R32_up (R32_up (R32_up hr (by omega)) (by omega)) (by omega)) (by omega) | exact R32_up (R32_up (R32_up (R32_up (R32_up hr (by omega)) (by omega)) (by omega)) (by omega)) (by omega) | exact R32_up (R32_up (R32_up (R32_up (R32_up (R32_up (R32_up hr (by omega)) (by omega)) (by omega)) (by omega)) (by omega)) (by omega)) (by omega)) (fun _ => ?_) (fun h => absurd h (by decide))
    refine mm_iconst (mm_dc od_X9_askedRule_0 59 rfl) ?_
    refine mm_iast (mm_dc od_X9_askedRule_1 0 rfl) rfl (by first | assumption | omega | exact hr _ _ rfl | exact R32_up (R32_up (R32_up (R32_up hr (by omega)) (by omega)) (by omega)) (by omega) | exact R32_up (R32_up (R32_up (R32_up (R32_up hr (by omega)) (by omega)) (by omega)) (by omega)) (by omega) | exact R32_up (R32_up (R32_up (R32_up (R32_up (R32_up (R32_up hr (by omega)) (by omega)) (by omega)) (by omega)) (by omega)) (by omega)) (by omega)) (by first | assumption | omega | exact hr _ _ rfl | exact R32_up (R32_up (R32_up (R32_up hr (by omega)) (by omega)) (by omega)) (by omega) | exact R32_up (R32_up (R32_up (R32_up (R32_up hr (by omega)) (by omega)) (by omega)) (by omega)) (by omega) | exact R32_up (R32_up (R32_up (R32_up (R32_up (R32_up (R32_up hr (by omega)) (by omega)) (by omega)) (by omega)) (by omega)) (by omega)) (by omega)) (by decide) ?_
    refine mm_eqM (M' := mm_up (mm_up (mm_up (mm_up (mm_up (mm_up M 34 0 (M 22 (Int.toNat (Int.tmod (M 0 9) 30)))) 34 1 (M 23 (Int.toNat (Int.tmod (M 0 9) 30)))) 34 2 hour) 34 3 (Int.tmod (Int.tdiv (M 0 9) 30) 12)) 34 4 (mm_seats (M 6 b.toNat).toNat)) 34 5 0) rfl ?_
    refine mm_aload (mm_dc od_X9_askedRule_1 1 rfl) rfl ?_
    refine mm_bipush (mm_dc od_X9_askedRule_1 2 rfl) (by decide) ?_
    refine mm_iload_n (mm_dc od_X9_askedRule_1 3 rfl) rfl ?_
    refine mm_iconst (mm_dc od_X9_askedRule_1 4 rfl) ?_
    refine mm_icmp_ge 124 (mm_dc od_X9_askedRule_1 5 rfl) (by omega) (by first | assumption | omega | exact hr _ _ rfl | exact R32_up (R32_up (R32_up (R32_up hr (by omega)) (by omega)) (by omega)) (by omega) | exact R32_up (R32_up (R32_up (R32_up (R32_up hr (by omega)) (by omega)) (by omega)) (by omega)) (by omega) | exact R32_up (R32_up (R32_up (R32_up (R32_up (R32_up (R32_up hr (by omega)) (by omega)) (by omega)) (by omega)) (by omega)) (by omega)) (by omega)) (by first | assumption | omega | exact hr _ _ rfl | exact R32_up (R32_up (R32_up (R32_up hr (by omega)) (by omega)) (by omega)) (by omega) | exact R32_up (R32_up (R32_up (R32_up (R32_up hr (by omega)) (by omega)) (by omega)) (by omega)) (by omega) | exact R32_up (R32_up (R32_up (R32_up (R32_up (R32_up (R32_up hr (by omega)) (by omega)) (by omega)) (by omega)) (by omega)) (by omega)) (by omega)) (fun c10 => ?_) (fun c10 => ?_)
    · refine mm_iconst (mm_dc od_X9_askedRule_1 11 rfl) ?_
      refine mm_iast (mm_dc od_X9_askedRule_1 12 rfl) rfl (by first | assumption | omega | exact hr _ _ rfl | exact R32_up (R32_up (R32_up (R32_up hr (by omega)) (by omega)) (by omega)) (by omega) | exact R32_up (R32_up (R32_up (R32_up (R32_up hr (by omega)) (by omega)) (by omega)) (by omega)) (by omega) | exact R32_up (R32_up (R32_up (R32_up (R32_up (R32_up (R32_up hr (by omega)) (by omega)) (by omega)) (by omega)) (by omega)) (by omega)) (by omega)) (by first | assumption | omega | exact hr _ _ rfl | exact R32_up (R32_up (R32_up (R32_up hr (by omega)) (by omega)) (by omega)) (by omega) | exact R32_up (R32_up (R32_up (R32_up (R32_up hr (by omega)) (by omega)) (by omega)) (by omega)) (by omega) | exact R32_up (R32_up (R32_up (R32_up (R32_up (R32_up (R32_up hr (by omega)) (by omega)) (by omega)) (by omega)) (by omega)) (by omega)) (by omega)) (by decide) ?_
      refine mm_eqM (M' := mm_up (mm_up (mm_up (mm_up (mm_up (mm_up (mm_up M 34 0 (M 22 (Int.toNat (Int.tmod (M 0 9) 30)))) 34 1 (M 23 (Int.toNat (Int.tmod (M 0 9) 30)))) 34 2 hour) 34 3 (Int.tmod (Int.tdiv (M 0 9) 30) 12)) 34 4 (mm_seats (M 6 b.toNat).toNat)) 34 5 0) 34 6 0) rfl ?_
      refine mm_aload_n (mm_dc od_X9_askedRule_1 13 rfl) rfl ?_
      refine mm_getR (ci := 9) (k := 5) (mm_dc od_X9_askedRule_1 14 rfl) rfl in_X9 (by decide) wd_2_50 rfl rfl ?_
      refine mm_aload_n (mm_dc od_X9_askedRule_1 15 rfl) rfl ?_
      refine mm_getR (ci := 9) (k := 0) (mm_dc od_X9_askedRule_1 16 rfl) rfl in_X9 (by decide) wd_2_45 rfl rfl ?_
      refine mm_getR (ci := 0) (k := 6) (mm_dc od_X9_askedRule_1 17 rfl) rfl in_X0 (by decide) wd_1_49 rfl rfl ?_
      refine mm_iload_n (mm_dc od_X9_askedRule_1 18 rfl) rfl ?_
      refine mm_iald (mm_dc od_X9_askedRule_1 19 rfl) rfl (by first | assumption | omega | exact hr _ _ rfl | exact R32_up (R32_up (R32_up (R32_up hr (by omega)) (by omega)) (by omega)) (by omega) | exact R32_up (R32_up (R32_up (R32_up (R32_up hr (by omega)) (by omega)) (by omega)) (by omega)) (by omega) | exact R32_up (R32_up (R32_up (R32_up (R32_up (R32_up (R32_up hr (by omega)) (by omega)) (by omega)) (by omega)) (by omega)) (by omega)) (by omega)) (by first | assumption | omega | exact hr _ _ rfl | exact R32_up (R32_up (R32_up (R32_up hr (by omega)) (by omega)) (by omega)) (by omega) | exact R32_up (R32_up (R32_up (R32_up (R32_up hr (by omega)) (by omega)) (by omega)) (by omega)) (by omega) | exact R32_up (R32_up (R32_up (R32_up (R32_up (R32_up (R32_up hr (by omega)) (by omega)) (by omega)) (by omega)) (by omega)) (by omega)) (by omega)) (by decide) ?_
      refine mm_cst (st' := [v_i (M 6 (Int.toNat b)), v_r 26]) rfl ?_
      refine mm_callV (b := 26) (mi' := mi_X7_asked) [v_i (M 6 (Int.toNat b))] [] (mm_dc od_X9_askedRule_1 20 rfl) rfl wd_3_189 wd_3_190 wd_3_191 wd_1_7 wd_3_192 yk_X7_asked rfl rfl rfl (Nat.le_of_ble_eq_true rfl) rfl (by decide) (c_X7_asked (M 6 (Int.toNat b)) (by first | assumption | omega | exact hr _ _ rfl | exact R32_up (R32_up (R32_up (R32_up hr (by omega)) (by omega)) (by omega)) (by omega) | exact R32_up (R32_up (R32_up (R32_up (R32_up hr (by omega)) (by omega)) (by omega)) (by omega)) (by omega) | exact R32_up (R32_up (R32_up (R32_up (R32_up (R32_up (R32_up hr (by omega)) (by omega)) (by omega)) (by omega)) (by omega)) (by omega)) (by omega)) hJru (by first | assumption | omega | exact hr _ _ rfl | exact R32_up (R32_up (R32_up (R32_up hr (by omega)) (by omega)) (by omega)) (by omega) | exact R32_up (R32_up (R32_up (R32_up (R32_up hr (by omega)) (by omega)) (by omega)) (by omega)) (by omega) | exact R32_up (R32_up (R32_up (R32_up (R32_up (R32_up (R32_up hr (by omega)) (by omega)) (by omega)) (by omega)) (by omega)) (by omega)) (by omega)) (fun r11 hq12 => ⟨Nat.le_refl _, ?_⟩))
      have hq12_r := lastP_rng hq12
      refine mm_iret (mm_dc od_X9_askedRule_1 21 rfl) rfl ?_
      have hfr : frm 34 M ((mm_up (mm_up (mm_up (mm_up (mm_up (mm_up (mm_up M 34 0 (M 22 (Int.toNat (Int.tmod (M 0 9) 30)))) 34 1 (M 23 (Int.toNat (Int.tmod (M 0 9) 30)))) 34 2 hour) 34 3 (Int.tmod (Int.tdiv (M 0 9) 30) 12)) 34 4 (mm_seats (M 6 b.toNat).toNat)) 34 5 0) 34 6 0)) := (frm_up (frm_up (frm_up (frm_up (frm_up (frm_up (frm_up (frm_0 hr) (by first | omega | assumption | exact hr _ _ rfl)) (by first | omega | assumption | exact hr _ _ rfl)) (by first | omega | assumption | exact hr _ _ rfl)) (by first | omega | assumption | exact hr _ _ rfl)) (by first | omega | assumption | exact hr _ _ rfl)) (by first | omega | assumption | exact hr _ _ rfl)) (by first | omega | assumption | exact hr _ _ rfl))
      exact k _ _ ⟨hfr, rulX_fin hJru hfr.2 (now7 rfl rfl rfl rfl rfl (if_neg (show ¬ anyN (yngX M b) (M 1 0).toNat = true from c1)).symm (if_neg (by omega)).symm) hq12⟩
    · refine mm_iload (mm_dc od_X9_askedRule_1 6 rfl) rfl ?_
      refine mm_bipush (mm_dc od_X9_askedRule_1 7 rfl) (by decide) ?_
      refine mm_icmp_ge 124 (mm_dc od_X9_askedRule_1 8 rfl) (by omega) (by first | assumption | omega | exact hr _ _ rfl | exact R32_up (R32_up (R32_up (R32_up hr (by omega)) (by omega)) (by omega)) (by omega) | exact R32_up (R32_up (R32_up (R32_up (R32_up hr (by omega)) (by omega)) (by omega)) (by omega)) (by omega) | exact R32_up (R32_up (R32_up (R32_up (R32_up (R32_up (R32_up hr (by omega)) (by omega)) (by omega)) (by omega)) (by omega)) (by omega)) (by omega)) (by first | assumption | omega | exact hr _ _ rfl | exact R32_up (R32_up (R32_up (R32_up hr (by omega)) (by omega)) (by omega)) (by omega) | exact R32_up (R32_up (R32_up (R32_up (R32_up hr (by omega)) (by omega)) (by omega)) (by omega)) (by omega) | exact R32_up (R32_up (R32_up (R32_up (R32_up (R32_up (R32_up hr (by omega)) (by omega)) (by omega)) (by omega)) (by omega)) (by omega)) (by omega)) (fun c13 => ?_) (fun c13 => ?_)
      · refine mm_iconst (mm_dc od_X9_askedRule_1 11 rfl) ?_
        refine mm_iast (mm_dc od_X9_askedRule_1 12 rfl) rfl (by first | assumption | omega | exact hr _ _ rfl | exact R32_up (R32_up (R32_up (R32_up hr (by omega)) (by omega)) (by omega)) (by omega) | exact R32_up (R32_up (R32_up (R32_up (R32_up hr (by omega)) (by omega)) (by omega)) (by omega)) (by omega) | exact R32_up (R32_up (R32_up (R32_up (R32_up (R32_up (R32_up hr (by omega)) (by omega)) (by omega)) (by omega)) (by omega)) (by omega)) (by omega)) (by first | assumption | omega | exact hr _ _ rfl | exact R32_up (R32_up (R32_up (R32_up hr (by omega)) (by omega)) (by omega)) (by omega) | exact R32_up (R32_up (R32_up (R32_up (R32_up hr (by omega)) (by omega)) (by omega)) (by omega)) (by omega) | exact R32_up (R32_up (R32_up (R32_up (R32_up (R32_up (R32_up hr (by omega)) (by omega)) (by omega)) (by omega)) (by omega)) (by omega)) (by omega)) (by decide) ?_
        refine mm_eqM (M' := mm_up (mm_up (mm_up (mm_up (mm_up (mm_up (mm_up M 34 0 (M 22 (Int.toNat (Int.tmod (M 0 9) 30)))) 34 1 (M 23 (Int.toNat (Int.tmod (M 0 9) 30)))) 34 2 hour) 34 3 (Int.tmod (Int.tdiv (M 0 9) 30) 12)) 34 4 (mm_seats (M 6 b.toNat).toNat)) 34 5 0) 34 6 0) rfl ?_
        refine mm_aload_n (mm_dc od_X9_askedRule_1 13 rfl) rfl ?_
        refine mm_getR (ci := 9) (k := 5) (mm_dc od_X9_askedRule_1 14 rfl) rfl in_X9 (by decide) wd_2_50 rfl rfl ?_
        refine mm_aload_n (mm_dc od_X9_askedRule_1 15 rfl) rfl ?_
        refine mm_getR (ci := 9) (k := 0) (mm_dc od_X9_askedRule_1 16 rfl) rfl in_X9 (by decide) wd_2_45 rfl rfl ?_
        refine mm_getR (ci := 0) (k := 6) (mm_dc od_X9_askedRule_1 17 rfl) rfl in_X0 (by decide) wd_1_49 rfl rfl ?_
        refine mm_iload_n (mm_dc od_X9_askedRule_1 18 rfl) rfl ?_
        refine mm_iald (mm_dc od_X9_askedRule_1 19 rfl) rfl (by first | assumption | omega | exact hr _ _ rfl | exact R32_up (R32_up (R32_up (R32_up hr (by omega)) (by omega)) (by omega)) (by omega) | exact R32_up (R32_up (R32_up (R32_up (R32_up hr (by omega)) (by omega)) (by omega)) (by omega)) (by omega) | exact R32_up (R32_up (R32_up (R32_up (R32_up (R32_up (R32_up hr (by omega)) (by omega)) (by omega)) (by omega)) (by omega)) (by omega)) (by omega)) (by first | assumption | omega | exact hr _ _ rfl | exact R32_up (R32_up (R32_up (R32_up hr (by omega)) (by omega)) (by omega)) (by omega) | exact R32_up (R32_up (R32_up (R32_up (R32_up hr (by omega)) (by omega)) (by omega)) (by omega)) (by omega) | exact R32_up (R32_up (R32_up (R32_up (R32_up (R32_up (R32_up hr (by omega)) (by omega)) (by omega)) (by omega)) (by omega)) (by omega)) (by omega)) (by decide) ?_
        refine mm_cst (st' := [v_i (M 6 (Int.toNat b)), v_r 26]) rfl ?_
        refine mm_callV (b := 26) (mi' := mi_X7_asked) [v_i (M 6 (Int.toNat b))] [] (mm_dc od_X9_askedRule_1 20 rfl) rfl wd_3_189 wd_3_190 wd_3_191 wd_1_7 wd_3_192 yk_X7_asked rfl rfl rfl (Nat.le_of_ble_eq_true rfl) rfl (by decide) (c_X7_asked (M 6 (Int.toNat b)) (by first | assumption | omega | exact hr _ _ rfl | exact R32_up (R32_up (R32_up (R32_up hr (by omega)) (by omega)) (by omega)) (by omega) | exact R32_up (R32_up (R32_up (R32_up (R32_up hr (by omega)) (by omega)) (by omega)) (by omega)) (by omega) | exact R32_up (R32_up (R32_up (R32_up (R32_up (R32_up (R32_up hr (by omega)) (by omega)) (by omega)) (by omega)) (by omega)) (by omega)) (by omega)) hJru (by first | assumption | omega | exact hr _ _ rfl | exact R32_up (R32_up (R32_up (R32_up hr (by omega)) (by omega)) (by omega)) (by omega) | exact R32_up (R32_up (R32_up (R32_up (R32_up hr (by omega)) (by omega)) (by omega)) (by omega)) (by omega) | exact R32_up (R32_up (R32_up (R32_up (R32_up (R32_up (R32_up hr (by omega)) (by omega)) (by omega)) (by omega)) (by omega)) (by omega)) (by omega)) (fun r14 hq15 => ⟨Nat.le_refl _, ?_⟩))
        have hq15_r := lastP_rng hq15
        refine mm_iret (mm_dc od_X9_askedRule_1 21 rfl) rfl ?_
        have hfr : frm 34 M ((mm_up (mm_up (mm_up (mm_up (mm_up (mm_up (mm_up M 34 0 (M 22 (Int.toNat (Int.tmod (M 0 9) 30)))) 34 1 (M 23 (Int.toNat (Int.tmod (M 0 9) 30)))) 34 2 hour) 34 3 (Int.tmod (Int.tdiv (M 0 9) 30) 12)) 34 4 (mm_seats (M 6 b.toNat).toNat)) 34 5 0) 34 6 0)) := (frm_up (frm_up (frm_up (frm_up (frm_up (frm_up (frm_up (frm_0 hr) (by first | omega | assumption | exact hr _ _ rfl)) (by first | omega | assumption | exact hr _ _ rfl)) (by first | omega | assumption | exact hr _ _ rfl)) (by first | omega | assumption | exact hr _ _ rfl)) (by first | omega | assumption | exact hr _ _ rfl)) (by first | omega | assumption | exact hr _ _ rfl)) (by first | omega | assumption | exact hr _ _ rfl))
        exact k _ _ ⟨hfr, rulX_fin hJru hfr.2 (now7 rfl rfl rfl rfl rfl (if_neg (show ¬ anyN (yngX M b) (M 1 0).toNat = true from c1)).symm (if_neg (by omega)).symm) hq15⟩
      · refine mm_iconst (mm_dc od_X9_askedRule_1 9 rfl) ?_
        refine mm_goto 125 (mm_dc od_X9_askedRule_1 10 rfl) (by omega) ?_
        refine mm_iast (mm_dc od_X9_askedRule_1 12 rfl) rfl (by first | assumption | omega | exact hr _ _ rfl | exact R32_up (R32_up (R32_up (R32_up hr (by omega)) (by omega)) (by omega)) (by omega) | exact R32_up (R32_up (R32_up (R32_up (R32_up hr (by omega)) (by omega)) (by omega)) (by omega)) (by omega) | exact R32_up (R32_up (R32_up (R32_up (R32_up (R32_up (R32_up hr (by omega)) (by omega)) (by omega)) (by omega)) (by omega)) (by omega)) (by omega)) (by first | assumption | omega | exact hr _ _ rfl | exact R32_up (R32_up (R32_up (R32_up hr (by omega)) (by omega)) (by omega)) (by omega) | exact R32_up (R32_up (R32_up (R32_up (R32_up hr (by omega)) (by omega)) (by omega)) (by omega)) (by omega) | exact R32_up (R32_up (R32_up (R32_up (R32_up (R32_up (R32_up hr (by omega)) (by omega)) (by omega)) (by omega)) (by omega)) (by omega)) (by omega)) (by decide) ?_
        refine mm_eqM (M' := mm_up (mm_up (mm_up (mm_up (mm_up (mm_up (mm_up M 34 0 (M 22 (Int.toNat (Int.tmod (M 0 9) 30)))) 34 1 (M 23 (Int.toNat (Int.tmod (M 0 9) 30)))) 34 2 hour) 34 3 (Int.tmod (Int.tdiv (M 0 9) 30) 12)) 34 4 (mm_seats (M 6 b.toNat).toNat)) 34 5 0) 34 6 1) rfl ?_
        refine mm_aload_n (mm_dc od_X9_askedRule_1 13 rfl) rfl ?_
        refine mm_getR (ci := 9) (k := 5) (mm_dc od_X9_askedRule_1 14 rfl) rfl in_X9 (by decide) wd_2_50 rfl rfl ?_
        refine mm_aload_n (mm_dc od_X9_askedRule_1 15 rfl) rfl ?_
        refine mm_getR (ci := 9) (k := 0) (mm_dc od_X9_askedRule_1 16 rfl) rfl in_X9 (by decide) wd_2_45 rfl rfl ?_
        refine mm_getR (ci := 0) (k := 6) (mm_dc od_X9_askedRule_1 17 rfl) rfl in_X0 (by decide) wd_1_49 rfl rfl ?_
        refine mm_iload_n (mm_dc od_X9_askedRule_1 18 rfl) rfl ?_
        refine mm_iald (mm_dc od_X9_askedRule_1 19 rfl) rfl (by first | assumption | omega | exact hr _ _ rfl | exact R32_up (R32_up (R32_up (R32_up hr (by omega)) (by omega)) (by omega)) (by omega) | exact R32_up (R32_up (R32_up (R32_up (R32_up hr (by omega)) (by omega)) (by omega)) (by omega)) (by omega) | exact R32_up (R32_up (R32_up (R32_up (R32_up (R32_up (R32_up hr (by omega)) (by omega)) (by omega)) (by omega)) (by omega)) (by omega)) (by omega)) (by first | assumption | omega | exact hr _ _ rfl | exact R32_up (R32_up (R32_up (R32_up hr (by omega)) (by omega)) (by omega)) (by omega) | exact R32_up (R32_up (R32_up (R32_up (R32_up hr (by omega)) (by omega)) (by omega)) (by omega)) (by omega) | exact R32_up (R32_up (R32_up (R32_up (R32_up (R32_up (R32_up hr (by omega)) (by omega)) (by omega)) (by omega)) (by omega)) (by omega)) (by omega)) (by decide) ?_
        refine mm_cst (st' := [v_i (M 6 (Int.toNat b)), v_r 26]) rfl ?_
        refine mm_callV (b := 26) (mi' := mi_X7_asked) [v_i (M 6 (Int.toNat b))] [] (mm_dc od_X9_askedRule_1 20 rfl) rfl wd_3_189 wd_3_190 wd_3_191 wd_1_7 wd_3_192 yk_X7_asked rfl rfl rfl (Nat.le_of_ble_eq_true rfl) rfl (by decide) (c_X7_asked (M 6 (Int.toNat b)) (by first | assumption | omega | exact hr _ _ rfl | exact R32_up (R32_up (R32_up (R32_up hr (by omega)) (by omega)) (by omega)) (by omega) | exact R32_up (R32_up (R32_up (R32_up (R32_up hr (by omega)) (by omega)) (by omega)) (by omega)) (by omega) | exact R32_up (R32_up (R32_up (R32_up (R32_up (R32_up (R32_up hr (by omega)) (by omega)) (by omega)) (by omega)) (by omega)) (by omega)) (by omega)) hJru (by first | assumption | omega | exact hr _ _ rfl | exact R32_up (R32_up (R32_up (R32_up hr (by omega)) (by omega)) (by omega)) (by omega) | exact R32_up (R32_up (R32_up (R32_up (R32_up hr (by omega)) (by omega)) (by omega)) (by omega)) (by omega) | exact R32_up (R32_up (R32_up (R32_up (R32_up (R32_up (R32_up hr (by omega)) (by omega)) (by omega)) (by omega)) (by omega)) (by omega)) (by omega)) (fun r16 hq17 => ⟨Nat.le_refl _, ?_⟩))
        have hq17_r := lastP_rng hq17
        refine mm_iret (mm_dc od_X9_askedRule_1 21 rfl) rfl ?_
        have hfr : frm 34 M ((mm_up (mm_up (mm_up (mm_up (mm_up (mm_up (mm_up M 34 0 (M 22 (Int.toNat (Int.tmod (M 0 9) 30)))) 34 1 (M 23 (Int.toNat (Int.tmod (M 0 9) 30)))) 34 2 hour) 34 3 (Int.tmod (Int.tdiv (M 0 9) 30) 12)) 34 4 (mm_seats (M 6 b.toNat).toNat)) 34 5 0) 34 6 1)) := (frm_up (frm_up (frm_up (frm_up (frm_up (frm_up (frm_up (frm_0 hr) (by first | omega | assumption | exact hr _ _ rfl)) (by first | omega | assumption | exact hr _ _ rfl)) (by first | omega | assumption | exact hr _ _ rfl)) (by first | omega | assumption | exact hr _ _ rfl)) (by first | omega | assumption | exact hr _ _ rfl)) (by first | omega | assumption | exact hr _ _ rfl)) (by first | omega | assumption | exact hr _ _ rfl))
        exact k _ _ ⟨hfr, rulX_fin hJru hfr.2 (now7 rfl rfl rfl rfl rfl (if_neg (show ¬ anyN (yngX M b) (M 1 0).toNat = true from c1)).symm (if_pos (by omega)).symm) hq17⟩
theorem L_fieldE {X : Nat × (Nat → Int)} {d : Nat} {Po : mm_Po} {M : mm_M} (w b hour : Int) (hw : 0 ≤ w ∧ w ≤ 6) (hb : 0 ≤ b ∧ b < M 50 11) (hh : 0 ≤ hour ∧ hour ≤ 23) (hJom : JOm M) (hJbm : JBm M) (hJwm : JWm M) (hr : R32 M) (k : Po (some (v_i (nowM M b hour w.toNat))) Lam M) (y j : Int) (hyo : (y = 1 ∧ anyN (yngM M b) (M 50 10).toNat = true) ∨ (y = 0 ∧ ¬ anyN (yngM M b) (M 50 10).toNat = true)) : mm_G X (d + 1) 0 0 mi_X10_field Po 72 [(0, v_r 50), (1, v_i w), (2, v_i b), (3, v_i hour), (4, v_i (Int.tmod (M 50 31) 30)), (5, v_i (Int.tmod (Int.tdiv (M 50 31) 30) 12)), (6, v_i y), (7, v_i j)] [] Lam M 0 0 := by
  have hJbm2 := hJbm
  obtain ⟨hb0, hb8, hB⟩ := hJbm2
  have hJw2 := hJwm
  obtain ⟨hw0, hw9, hW⟩ := hJw2
  have e30 : Int.tmod (M 50 31) 30 = M 50 31 % 30 := Int.tmod_eq_emod_of_nonneg hw0
  have e31 : Int.tdiv (M 50 31) 30 = M 50 31 / 30 := Int.tdiv_eq_ediv_of_nonneg hw0
  have e32 : Int.tmod (Int.tdiv (M 50 31) 30) 12 = M 50 31 / 30 % 12 := (by rw [e31]; exact Int.tmod_eq_emod_of_nonneg (by omega))
  have hW1 := hW (Int.toNat (Int.tmod (M 50 31) 30)) (by omega)
  have hB1 := hB b.toNat
  refine mm_iload_n (mm_dc od_X10_field_0 38 rfl) rfl ?_
  have sw1 : (w < 0 ∨ 5 < w) ∨ w = 0 ∨ w = 1 ∨ w = 2 ∨ w = 3 ∨ w = 4 ∨ w = 5 := by omega
  rcases sw1 with sw1 | sw1 | sw1 | sw1 | sw1 | sw1 | sw1
  · refine mm_tabOut 142 (mm_dc od_X10_field_0 39 rfl) (by first | assumption | omega | exact hr _ _ rfl | exact mm_ti _ | exact mm_r3264 (hr _ _ rfl)) sw1 (by omega) ?_
    refine mm_iload (mm_dc od_X10_field_1 0 rfl) rfl ?_
    refine mm_iconst (mm_dc od_X10_field_1 1 rfl) ?_
    refine mm_icmp_ge 164 (mm_dc od_X10_field_1 2 rfl) (by omega) (by first | assumption | omega | exact hr _ _ rfl | exact mm_ti _ | exact mm_r3264 (hr _ _ rfl)) (by first | assumption | omega | exact hr _ _ rfl | exact mm_ti _ | exact mm_r3264 (hr _ _ rfl)) (fun c2 => ?_) (fun c2 => ?_)
    · refine mm_iconst (mm_dc od_X10_field_1 11 rfl) ?_
      refine mm_iret (mm_dc od_X10_field_1 12 rfl) rfl ?_
      have ew : w = 0 ∨ w = 1 ∨ w = 2 ∨ w = 3 ∨ w = 4 ∨ w = 5 ∨ w = 6 := by omega
      rcases ew with rfl | rfl | rfl | rfl | rfl | rfl | rfl <;> first | (exfalso; omega) | exact k | exact mm_pi (by show _ = (if _ then (1:Int) else 0); rcases hyo with ⟨e1, e2⟩ | ⟨e1, e2⟩; rw [if_pos e2, e1]; rw [if_neg e2, e1]) k | exact mm_pi (by show _ = (if _ then (1:Int) else 0); first | rw [if_pos (by omega)] | rw [if_neg (by omega)]) k
    · refine mm_aload_n (mm_dc od_X10_field_1 3 rfl) rfl ?_
      refine mm_getR (ci := 10) (k := 26) (mm_dc od_X10_field_1 4 rfl) rfl in_X10 (by decide) wd_4_138 rfl rfl ?_
      refine mm_iload (mm_dc od_X10_field_1 5 rfl) rfl ?_
      refine mm_iald (mm_dc od_X10_field_1 6 rfl) rfl (by first | assumption | omega | exact hr _ _ rfl | exact mm_ti _ | exact mm_r3264 (hr _ _ rfl)) (by first | assumption | omega | exact hr _ _ rfl | exact mm_ti _ | exact mm_r3264 (hr _ _ rfl)) (by decide) ?_
      refine mm_bipush (mm_dc od_X10_field_1 7 rfl) (by decide) ?_
      refine mm_icmp_ge 164 (mm_dc od_X10_field_1 8 rfl) (by omega) (by first | assumption | omega | exact hr _ _ rfl | exact mm_ti _ | exact mm_r3264 (hr _ _ rfl)) (by first | assumption | omega | exact hr _ _ rfl | exact mm_ti _ | exact mm_r3264 (hr _ _ rfl)) (fun c3 => ?_) (fun c3 => ?_)
      · refine mm_iconst (mm_dc od_X10_field_1 11 rfl) ?_
        refine mm_iret (mm_dc od_X10_field_1 12 rfl) rfl ?_
        have ew : w = 0 ∨ w = 1 ∨ w = 2 ∨ w = 3 ∨ w = 4 ∨ w = 5 ∨ w = 6 := by omega
        rcases ew with rfl | rfl | rfl | rfl | rfl | rfl | rfl <;> first | (exfalso; omega) | exact k | exact mm_pi (by show _ = (if _ then (1:Int) else 0); rcases hyo with ⟨e1, e2⟩ | ⟨e1, e2⟩; rw [if_pos e2, e1]; rw [if_neg e2, e1]) k | exact mm_pi (by show _ = (if _ then (1:Int) else 0); first | rw [if_pos (by omega)] | rw [if_neg (by omega)]) k
      · refine mm_iconst (mm_dc od_X10_field_1 9 rfl) ?_
        refine mm_goto 165 (mm_dc od_X10_field_1 10 rfl) (by omega) ?_
        refine mm_iret (mm_dc od_X10_field_1 12 rfl) rfl ?_
        have ew : w = 0 ∨ w = 1 ∨ w = 2 ∨ w = 3 ∨ w = 4 ∨ w = 5 ∨ w = 6 := by omega
        rcases ew with rfl | rfl | rfl | rfl | rfl | rfl | rfl <;> first | (exfalso; omega) | exact k | exact mm_pi (by show _ = (if _ then (1:Int) else 0); rcases hyo with ⟨e1, e2⟩ | ⟨e1, e2⟩; rw [if_pos e2, e1]; rw [if_neg e2, e1]) k | exact mm_pi (by show _ = (if _ then (1:Int) else 0); first | rw [if_pos (by omega)] | rw [if_neg (by omega)]) k
  · refine mm_tabIn (off := 39) 112 (mm_dc od_X10_field_0 39 rfl) (by first | assumption | omega | exact hr _ _ rfl | exact mm_ti _ | exact mm_r3264 (hr _ _ rfl)) (by omega) (by omega) (by rw [sw1]; rfl) (by omega) ?_
    refine mm_aload_n (mm_dc od_X10_field_0 40 rfl) rfl ?_
    refine mm_getR (ci := 10) (k := 26) (mm_dc od_X10_field_0 41 rfl) rfl in_X10 (by decide) wd_4_138 rfl rfl ?_
    refine mm_iload (mm_dc od_X10_field_0 42 rfl) rfl ?_
    refine mm_iald (mm_dc od_X10_field_0 43 rfl) rfl (by first | assumption | omega | exact hr _ _ rfl | exact mm_ti _ | exact mm_r3264 (hr _ _ rfl)) (by first | assumption | omega | exact hr _ _ rfl | exact mm_ti _ | exact mm_r3264 (hr _ _ rfl)) (by decide) ?_
    refine mm_iret (mm_dc od_X10_field_0 44 rfl) rfl ?_
    have ew : w = 0 ∨ w = 1 ∨ w = 2 ∨ w = 3 ∨ w = 4 ∨ w = 5 ∨ w = 6 := by omega
    rcases ew with rfl | rfl | rfl | rfl | rfl | rfl | rfl <;> first | (exfalso; omega) | exact k | exact mm_pi (by show _ = (if _ then (1:Int) else 0); rcases hyo with ⟨e1, e2⟩ | ⟨e1, e2⟩; rw [if_pos e2, e1]; rw [if_neg e2, e1]) k | exact mm_pi (by show _ = (if _ then (1:Int) else 0); first | rw [if_pos (by omega)] | rw [if_neg (by omega)]) k
  · refine mm_tabIn (off := 47) 120 (mm_dc od_X10_field_0 39 rfl) (by first | assumption | omega | exact hr _ _ rfl | exact mm_ti _ | exact mm_r3264 (hr _ _ rfl)) (by omega) (by omega) (by rw [sw1]; rfl) (by omega) ?_
    refine mm_aload_n (mm_dc od_X10_field_0 45 rfl) rfl ?_
    refine mm_getR (ci := 10) (k := 27) (mm_dc od_X10_field_0 46 rfl) rfl in_X10 (by decide) wd_4_139 rfl rfl ?_
    refine mm_iload (mm_dc od_X10_field_0 47 rfl) rfl ?_
    refine mm_iald (mm_dc od_X10_field_0 48 rfl) rfl (by first | assumption | omega | exact hr _ _ rfl | exact mm_ti _ | exact mm_r3264 (hr _ _ rfl)) (by first | assumption | omega | exact hr _ _ rfl | exact mm_ti _ | exact mm_r3264 (hr _ _ rfl)) (by decide) ?_
    refine mm_iret (mm_dc od_X10_field_0 49 rfl) rfl ?_
    have ew : w = 0 ∨ w = 1 ∨ w = 2 ∨ w = 3 ∨ w = 4 ∨ w = 5 ∨ w = 6 := by omega
    rcases ew with rfl | rfl | rfl | rfl | rfl | rfl | rfl <;> first | (exfalso; omega) | exact k | exact mm_pi (by show _ = (if _ then (1:Int) else 0); rcases hyo with ⟨e1, e2⟩ | ⟨e1, e2⟩; rw [if_pos e2, e1]; rw [if_neg e2, e1]) k | exact mm_pi (by show _ = (if _ then (1:Int) else 0); first | rw [if_pos (by omega)] | rw [if_neg (by omega)]) k
  · refine mm_tabIn (off := 55) 128 (mm_dc od_X10_field_0 39 rfl) (by first | assumption | omega | exact hr _ _ rfl | exact mm_ti _ | exact mm_r3264 (hr _ _ rfl)) (by omega) (by omega) (by rw [sw1]; rfl) (by omega) ?_
    refine mm_iload_n (mm_dc od_X10_field_0 50 rfl) rfl ?_
    refine mm_iret (mm_dc od_X10_field_0 51 rfl) rfl ?_
    have ew : w = 0 ∨ w = 1 ∨ w = 2 ∨ w = 3 ∨ w = 4 ∨ w = 5 ∨ w = 6 := by omega
    rcases ew with rfl | rfl | rfl | rfl | rfl | rfl | rfl <;> first | (exfalso; omega) | exact k | exact mm_pi (by show _ = (if _ then (1:Int) else 0); rcases hyo with ⟨e1, e2⟩ | ⟨e1, e2⟩; rw [if_pos e2, e1]; rw [if_neg e2, e1]) k | exact mm_pi (by show _ = (if _ then (1:Int) else 0); first | rw [if_pos (by omega)] | rw [if_neg (by omega)]) k
  · refine mm_tabIn (off := 57) 130 (mm_dc od_X10_field_0 39 rfl) (by first | assumption | omega | exact hr _ _ rfl | exact mm_ti _ | exact mm_r3264 (hr _ _ rfl)) (by omega) (by omega) (by rw [sw1]; rfl) (by omega) ?_
    refine mm_iload (mm_dc od_X10_field_0 52 rfl) rfl ?_
    refine mm_iret (mm_dc od_X10_field_0 53 rfl) rfl ?_
    have ew : w = 0 ∨ w = 1 ∨ w = 2 ∨ w = 3 ∨ w = 4 ∨ w = 5 ∨ w = 6 := by omega
    rcases ew with rfl | rfl | rfl | rfl | rfl | rfl | rfl <;> first | (exfalso; omega) | exact k | exact mm_pi (by show _ = (if _ then (1:Int) else 0); rcases hyo with ⟨e1, e2⟩ | ⟨e1, e2⟩; rw [if_pos e2, e1]; rw [if_neg e2, e1]) k | exact mm_pi (by show _ = (if _ then (1:Int) else 0); first | rw [if_pos (by omega)] | rw [if_neg (by omega)]) k
  · refine mm_tabIn (off := 60) 133 (mm_dc od_X10_field_0 39 rfl) (by first | assumption | omega | exact hr _ _ rfl | exact mm_ti _ | exact mm_r3264 (hr _ _ rfl)) (by omega) (by omega) (by rw [sw1]; rfl) (by omega) ?_
    refine mm_aload_n (mm_dc od_X10_field_0 54 rfl) rfl ?_
    refine mm_iload_n (mm_dc od_X10_field_0 55 rfl) rfl ?_
    refine mm_callV (b := 50) (mi' := mi_X10_seatsOf) [v_i b] [] (mm_dc od_X10_field_0 56 rfl) rfl wd_5_67 wd_5_69 wd_p_24 wd_1_12 wd_5_70 yk_X10_seatsOf rfl rfl rfl (Nat.le_of_ble_eq_true rfl) rfl (by decide) (c_X10_seatsOf b (by first | assumption | omega | exact hr _ _ rfl | exact mm_ti _ | exact mm_r3264 (hr _ _ rfl)) hJbm (by first | assumption | omega | exact hr _ _ rfl | exact mm_ti _ | exact mm_r3264 (hr _ _ rfl)) ⟨Nat.le_refl _, ?_⟩)
    refine mm_iret (mm_dc od_X10_field_0 57 rfl) rfl ?_
    have ew : w = 0 ∨ w = 1 ∨ w = 2 ∨ w = 3 ∨ w = 4 ∨ w = 5 ∨ w = 6 := by omega
    rcases ew with rfl | rfl | rfl | rfl | rfl | rfl | rfl <;> first | (exfalso; omega) | exact k | exact mm_pi (by show _ = (if _ then (1:Int) else 0); rcases hyo with ⟨e1, e2⟩ | ⟨e1, e2⟩; rw [if_pos e2, e1]; rw [if_neg e2, e1]) k | exact mm_pi (by show _ = (if _ then (1:Int) else 0); first | rw [if_pos (by omega)] | rw [if_neg (by omega)]) k
  · refine mm_tabIn (off := 66) 139 (mm_dc od_X10_field_0 39 rfl) (by first | assumption | omega | exact hr _ _ rfl | exact mm_ti _ | exact mm_r3264 (hr _ _ rfl)) (by omega) (by omega) (by rw [sw1]; rfl) (by omega) ?_
    refine mm_iload (mm_dc od_X10_field_0 58 rfl) rfl ?_
    refine mm_iret (mm_dc od_X10_field_0 59 rfl) rfl ?_
    have ew : w = 0 ∨ w = 1 ∨ w = 2 ∨ w = 3 ∨ w = 4 ∨ w = 5 ∨ w = 6 := by omega
    rcases ew with rfl | rfl | rfl | rfl | rfl | rfl | rfl <;> first | (exfalso; omega) | exact k | exact mm_pi (by show _ = (if _ then (1:Int) else 0); rcases hyo with ⟨e1, e2⟩ | ⟨e1, e2⟩; rw [if_pos e2, e1]; rw [if_neg e2, e1]) k | exact mm_pi (by show _ = (if _ then (1:Int) else 0); first | rw [if_pos (by omega)] | rw [if_neg (by omega)]) k
theorem L_field {X : Nat × (Nat → Int)} {d : Nat} {Po : mm_Po} {M : mm_M} (w b hour : Int) (hw : 0 ≤ w ∧ w ≤ 6) (hb : 0 ≤ b ∧ b < M 50 11) (hh : 0 ≤ hour ∧ hour ≤ 23) (hJom : JOm M) (hJbm : JBm M) (hJwm : JWm M) (hr : R32 M) (k : Po (some (v_i (nowM M b hour w.toNat))) Lam M) (y : Int) (j : Nat) (hyo : (y = 1 ∧ anyN (yngM M b) j = true) ∨ (y = 0 ∧ ¬ anyN (yngM M b) j = true)) (hj : (j : Int) ≤ M 50 10) : mm_G X (d + 1) 0 0 mi_X10_field Po 27 [(0, v_r 50), (1, v_i w), (2, v_i b), (3, v_i hour), (4, v_i (Int.tmod (M 50 31) 30)), (5, v_i (Int.tmod (Int.tdiv (M 50 31) 30) 12)), (6, v_i y), (7, v_i (j : Int))] [] Lam M 0 0 := by
  have hJom2 := hJom
  obtain ⟨ho0, ho16, hO⟩ := hJom2
  have hO1 := hO j
  have hJbm2 := hJbm
  obtain ⟨hb0, hb8, hB⟩ := hJbm2
  refine mm_iload (mm_dc od_X10_field_0 16 rfl) rfl ?_
  refine mm_aload_n (mm_dc od_X10_field_0 17 rfl) rfl ?_
  refine mm_getI (ci := 10) (k := 10) (mm_dc od_X10_field_0 18 rfl) rfl in_X10 (by decide) wd_4_122 rfl rfl ?_
  refine mm_icmp_ge 72 (mm_dc od_X10_field_0 19 rfl) (by omega) (by first | assumption | omega | exact hr _ _ rfl | exact mm_ti _ | exact mm_r3264 (hr _ _ rfl)) (by first | assumption | omega | exact hr _ _ rfl | exact mm_ti _ | exact mm_r3264 (hr _ _ rfl)) (fun c1 => ?_) (fun c1 => ?_)
  · have e : j = (M 50 10).toNat := by omega
    exact L_fieldE w b hour hw hb hh hJom hJbm hJwm hr k y (j : Int) (e ▸ hyo)
  · refine mm_aload_n (mm_dc od_X10_field_0 20 rfl) rfl ?_
    refine mm_getR (ci := 10) (k := 2) (mm_dc od_X10_field_0 21 rfl) rfl in_X10 (by decide) wd_4_114 rfl rfl ?_
    refine mm_iload (mm_dc od_X10_field_0 22 rfl) rfl ?_
    refine mm_iald (mm_dc od_X10_field_0 23 rfl) rfl (by first | assumption | omega | exact hr _ _ rfl | exact mm_ti _ | exact mm_r3264 (hr _ _ rfl)) (by first | assumption | omega | exact hr _ _ rfl | exact mm_ti _ | exact mm_r3264 (hr _ _ rfl)) (by decide) ?_
    refine mm_cst (st' := [v_i (M 53 j)]) rfl ?_
    refine mm_iload_n (mm_dc od_X10_field_0 24 rfl) rfl ?_
    refine mm_icmp_ne 62 (mm_dc od_X10_field_0 25 rfl) (by omega) (by first | assumption | omega | exact hr _ _ rfl | exact mm_ti _ | exact mm_r3264 (hr _ _ rfl)) (by first | assumption | omega | exact hr _ _ rfl | exact mm_ti _ | exact mm_r3264 (hr _ _ rfl)) (fun c2 => ?_) (fun c2 => ?_)
    · refine mm_iload (mm_dc od_X10_field_0 34 rfl) rfl ?_
      refine mm_istore (L' := [(0, v_r 50), (1, v_i w), (2, v_i b), (3, v_i hour), (4, v_i (Int.tmod (M 50 31) 30)), (5, v_i (Int.tmod (Int.tdiv (M 50 31) 30) 12)), (6, v_i y), (7, v_i (j : Int))]) (mm_dc od_X10_field_0 35 rfl) (by decide) rfl ?_
      refine mm_iinc (L' := [(0, v_r 50), (1, v_i w), (2, v_i b), (3, v_i hour), (4, v_i (Int.tmod (M 50 31) 30)), (5, v_i (Int.tmod (Int.tdiv (M 50 31) 30) 12)), (6, v_i y), (7, v_i ((j : Int) + 1))]) (mm_dc od_X10_field_0 36 rfl) rfl (by decide) rfl ?_
      refine mm_goto 27 (mm_dc od_X10_field_0 37 rfl) (by omega) ?_
      exact L_field w b hour hw hb hh hJom hJbm hJwm hr k y (j + 1) (by simp only [anyN, Bool.or_eq_true]; have hny : ¬ yngM M b j = true := (by unfold yngM; rw [decide_eq_true_eq]; omega); rcases hyo with ⟨e1, e2⟩ | ⟨e1, e2⟩; exact Or.inl ⟨e1, Or.inl e2⟩; exact Or.inr ⟨e1, fun q => by rcases q with q | q; exact e2 q; exact hny q⟩) (by omega)
    · refine mm_aload_n (mm_dc od_X10_field_0 26 rfl) rfl ?_
      refine mm_getR (ci := 10) (k := 0) (mm_dc od_X10_field_0 27 rfl) rfl in_X10 (by decide) wd_4_112 rfl rfl ?_
      refine mm_iload (mm_dc od_X10_field_0 28 rfl) rfl ?_
      refine mm_iald (mm_dc od_X10_field_0 29 rfl) rfl (by first | assumption | omega | exact hr _ _ rfl | exact mm_ti _ | exact mm_r3264 (hr _ _ rfl)) (by first | assumption | omega | exact hr _ _ rfl | exact mm_ti _ | exact mm_r3264 (hr _ _ rfl)) (by decide) ?_
      refine mm_cst (st' := [v_i (M 51 j)]) rfl ?_
      refine mm_iconst (mm_dc od_X10_field_0 30 rfl) ?_
      refine mm_icmp_ne 62 (mm_dc od_X10_field_0 31 rfl) (by omega) (by first | assumption | omega | exact hr _ _ rfl | exact mm_ti _ | exact mm_r3264 (hr _ _ rfl)) (by first | assumption | omega | exact hr _ _ rfl | exact mm_ti _ | exact mm_r3264 (hr _ _ rfl)) (fun c3 => ?_) (fun c3 => ?_)
      · refine mm_iload (mm_dc od_X10_field_0 34 rfl) rfl ?_
        refine mm_istore (L' := [(0, v_r 50), (1, v_i w), (2, v_i b), (3, v_i hour), (4, v_i (Int.tmod (M 50 31) 30)), (5, v_i (Int.tmod (Int.tdiv (M 50 31) 30) 12)), (6, v_i y), (7, v_i (j : Int))]) (mm_dc od_X10_field_0 35 rfl) (by decide) rfl ?_
        refine mm_iinc (L' := [(0, v_r 50), (1, v_i w), (2, v_i b), (3, v_i hour), (4, v_i (Int.tmod (M 50 31) 30)), (5, v_i (Int.tmod (Int.tdiv (M 50 31) 30) 12)), (6, v_i y), (7, v_i ((j : Int) + 1))]) (mm_dc od_X10_field_0 36 rfl) rfl (by decide) rfl ?_
        refine mm_goto 27 (mm_dc od_X10_field_0 37 rfl) (by omega) ?_
        exact L_field w b hour hw hb hh hJom hJbm hJwm hr k y (j + 1) (by simp only [anyN, Bool.or_eq_true]; have hny : ¬ yngM M b j = true := (by unfold yngM; rw [decide_eq_true_eq]; omega); rcases hyo with ⟨e1, e2⟩ | ⟨e1, e2⟩; exact Or.inl ⟨e1, Or.inl e2⟩; exact Or.inr ⟨e1, fun q => by rcases q with q | q; exact e2 q; exact hny q⟩) (by omega)
      · refine mm_iconst (mm_dc od_X10_field_0 32 rfl) ?_
        refine mm_goto 64 (mm_dc od_X10_field_0 33 rfl) (by omega) ?_
        refine mm_istore (L' := [(0, v_r 50), (1, v_i w), (2, v_i b), (3, v_i hour), (4, v_i (Int.tmod (M 50 31) 30)), (5, v_i (Int.tmod (Int.tdiv (M 50 31) 30) 12)), (6, v_i 1), (7, v_i (j : Int))]) (mm_dc od_X10_field_0 35 rfl) (by decide) rfl ?_
        refine mm_iinc (L' := [(0, v_r 50), (1, v_i w), (2, v_i b), (3, v_i hour), (4, v_i (Int.tmod (M 50 31) 30)), (5, v_i (Int.tmod (Int.tdiv (M 50 31) 30) 12)), (6, v_i 1), (7, v_i ((j : Int) + 1))]) (mm_dc od_X10_field_0 36 rfl) rfl (by decide) rfl ?_
        refine mm_goto 27 (mm_dc od_X10_field_0 37 rfl) (by omega) ?_
        exact L_field w b hour hw hb hh hJom hJbm hJwm hr k 1 (j + 1) (by exact Or.inl ⟨rfl, by simp only [anyN, yngM, Bool.or_eq_true, decide_eq_true_eq]; exact Or.inr ⟨by assumption, by assumption⟩⟩) (by omega)
termination_by (M 50 10).toNat - j
decreasing_by all_goals (first | omega | (simp_wf; omega))
theorem c_X10_field {X : Nat × (Nat → Int)} {d : Nat} {Po : mm_Po} {M : mm_M} (w : Int) (b : Int) (hour : Int) (hw : 0 ≤ w ∧ w ≤ 6) (hb : 0 ≤ b ∧ b < M 50 11) (hh : 0 ≤ hour ∧ hour ≤ 23) (hJom : JOm M) (hJbm : JBm M) (hJwm : JWm M) (hr : R32 M) (k : Po (some (v_i (nowM M b hour w.toNat))) Lam M) : mm_E X (d + 1) 0 0 mi_X10_field [v_r 50, v_i w, v_i b, v_i hour] Po Lam M := by
  show mm_G X (d + 1) 0 0 mi_X10_field Po 0 [(0, v_r 50), (1, v_i w), (2, v_i b), (3, v_i hour)] [] Lam M 0 0
  have hJbm2 := hJbm
  obtain ⟨hb0, hb8, hB⟩ := hJbm2
  have hJw2 := hJwm
  obtain ⟨hw0, hw9, hW⟩ := hJw2
  have e30 : Int.tmod (M 50 31) 30 = M 50 31 % 30 := Int.tmod_eq_emod_of_nonneg hw0
  have e31 : Int.tdiv (M 50 31) 30 = M 50 31 / 30 := Int.tdiv_eq_ediv_of_nonneg hw0
  have e32 : Int.tmod (Int.tdiv (M 50 31) 30) 12 = M 50 31 / 30 % 12 := (by rw [e31]; exact Int.tmod_eq_emod_of_nonneg (by omega))
  have hW1 := hW (Int.toNat (Int.tmod (M 50 31) 30)) (by omega)
  refine mm_aload_n (mm_dc od_X10_field_0 0 rfl) rfl ?_
  refine mm_getI (ci := 10) (k := 31) (mm_dc od_X10_field_0 1 rfl) rfl in_X10 (by decide) wd_4_143 rfl rfl ?_
  refine mm_bipush (mm_dc od_X10_field_0 2 rfl) (by decide) ?_
  refine mm_irem (mm_dc od_X10_field_0 3 rfl) (by first | assumption | omega | exact hr _ _ rfl | exact mm_ti _ | exact mm_r3264 (hr _ _ rfl)) (by first | assumption | omega | exact hr _ _ rfl | exact mm_ti _ | exact mm_r3264 (hr _ _ rfl)) (by first | assumption | omega | exact hr _ _ rfl | exact mm_ti _ | exact mm_r3264 (hr _ _ rfl)) ?_
  refine mm_istore (L' := [(0, v_r 50), (1, v_i w), (2, v_i b), (3, v_i hour), (4, v_i (Int.tmod (M 50 31) 30))]) (mm_dc od_X10_field_0 4 rfl) (by decide) rfl ?_
  refine mm_aload_n (mm_dc od_X10_field_0 5 rfl) rfl ?_
  refine mm_getI (ci := 10) (k := 31) (mm_dc od_X10_field_0 6 rfl) rfl in_X10 (by decide) wd_4_143 rfl rfl ?_
  refine mm_bipush (mm_dc od_X10_field_0 7 rfl) (by decide) ?_
  refine mm_idiv (mm_dc od_X10_field_0 8 rfl) (by first | assumption | omega | exact hr _ _ rfl | exact mm_ti _ | exact mm_r3264 (hr _ _ rfl)) (by first | assumption | omega | exact hr _ _ rfl | exact mm_ti _ | exact mm_r3264 (hr _ _ rfl)) (by first | assumption | omega | exact hr _ _ rfl | exact mm_ti _ | exact mm_r3264 (hr _ _ rfl)) ?_
  refine mm_bipush (mm_dc od_X10_field_0 9 rfl) (by decide) ?_
  refine mm_irem (mm_dc od_X10_field_0 10 rfl) (by first | assumption | omega | exact hr _ _ rfl | exact mm_ti _ | exact mm_r3264 (hr _ _ rfl)) (by first | assumption | omega | exact hr _ _ rfl | exact mm_ti _ | exact mm_r3264 (hr _ _ rfl)) (by first | assumption | omega | exact hr _ _ rfl | exact mm_ti _ | exact mm_r3264 (hr _ _ rfl)) ?_
  refine mm_istore (L' := [(0, v_r 50), (1, v_i w), (2, v_i b), (3, v_i hour), (4, v_i (Int.tmod (M 50 31) 30)), (5, v_i (Int.tmod (Int.tdiv (M 50 31) 30) 12))]) (mm_dc od_X10_field_0 11 rfl) (by decide) rfl ?_
  refine mm_iconst (mm_dc od_X10_field_0 12 rfl) ?_
  refine mm_istore (L' := [(0, v_r 50), (1, v_i w), (2, v_i b), (3, v_i hour), (4, v_i (Int.tmod (M 50 31) 30)), (5, v_i (Int.tmod (Int.tdiv (M 50 31) 30) 12)), (6, v_i 0)]) (mm_dc od_X10_field_0 13 rfl) (by decide) rfl ?_
  refine mm_iconst (mm_dc od_X10_field_0 14 rfl) ?_
  refine mm_istore (L' := [(0, v_r 50), (1, v_i w), (2, v_i b), (3, v_i hour), (4, v_i (Int.tmod (M 50 31) 30)), (5, v_i (Int.tmod (Int.tdiv (M 50 31) 30) 12)), (6, v_i 0), (7, v_i 0)]) (mm_dc od_X10_field_0 15 rfl) (by decide) rfl ?_
  exact L_field w b hour hw hb hh hJom hJbm hJwm hr k 0 0 (Or.inr ⟨rfl, by simp [anyN]⟩) (by have := hJom.1; omega)
theorem nowM_r {M : mm_M} {b hour : Int} (hr : R32 M) (hh : 0 ≤ hour ∧ hour ≤ 23) (hb : 0 ≤ b ∧ b < M 50 11) (hJbm : JBm M) (hJwm : JWm M) (i : Nat) : mm_r32 (nowM M b hour i) := by
  have hB1 := hJbm.2.2 b.toNat (by omega)
  have hJw2 := hJwm
  obtain ⟨hw0, hw9, hW⟩ := hJw2
  have e30 : Int.tmod (M 50 31) 30 = M 50 31 % 30 := Int.tmod_eq_emod_of_nonneg hw0
  have e31 : Int.tdiv (M 50 31) 30 = M 50 31 / 30 := Int.tdiv_eq_ediv_of_nonneg hw0
  have e32 : Int.tmod (Int.tdiv (M 50 31) 30) 12 = M 50 31 / 30 % 12 := (by rw [e31]; exact Int.tmod_eq_emod_of_nonneg (by omega))
  have hW1 := hW (Int.toNat (Int.tmod (M 50 31) 30)) (by omega)
  have hse := mm_seats_le (M 57 b.toNat).toNat (by omega)
  unfold nowM nowV
  split
  · exact hr _ _ rfl
  · exact hr _ _ rfl
  · omega
  · omega
  · omega
  · split <;> decide
  · split <;> decide
theorem c_X10_isSo {X : Nat × (Nat → Int)} {d : Nat} {Po : mm_Po} {M : mm_M} (t : Int) (b : Int) (hour : Int) (ht : 0 ≤ t ∧ t < 117) (h1 : 0 ≤ M 78 (t.toNat + 1) ∧ M 78 (t.toNat + 1) ≤ 6) (hb : 0 ≤ b ∧ b < M 50 11) (hh : 0 ≤ hour ∧ hour ≤ 23) (hJom : JOm M) (hJbm : JBm M) (hJwm : JWm M) (hr : R32 M) (kt : tstM M (nowM M b hour) t.toNat → Po (some (v_i 1)) Lam M) (kf : ¬ (tstM M (nowM M b hour) t.toNat) → Po (some (v_i 0)) Lam M) : mm_E X (d + 2) 0 0 mi_X10_isSo [v_r 50, v_i t, v_i b, v_i hour] Po Lam M := by
  show mm_G X (d + 2) 0 0 mi_X10_isSo Po 0 [(0, v_r 50), (1, v_i t), (2, v_i b), (3, v_i hour)] [] Lam M 0 0
  have et1 : (t + 1).toNat = t.toNat + 1 := (by omega)
  have et2 : (t + 2).toNat = t.toNat + 2 := (by omega)
  have et3 : (t + 3).toNat = t.toNat + 3 := (by omega)
  rw [← et1] at h1
  refine mm_aload_n (mm_dc od_X10_isSo_0 0 rfl) rfl ?_
  refine mm_aload_n (mm_dc od_X10_isSo_0 1 rfl) rfl ?_
  refine mm_getR (ci := 10) (k := 35) (mm_dc od_X10_isSo_0 2 rfl) rfl in_X10 (by decide) wd_4_147 rfl rfl ?_
  refine mm_iload_n (mm_dc od_X10_isSo_0 3 rfl) rfl ?_
  refine mm_iconst (mm_dc od_X10_isSo_0 4 rfl) ?_
  refine mm_iadd (mm_dc od_X10_isSo_0 5 rfl) ?_
  refine mm_iald (mm_dc od_X10_isSo_0 6 rfl) rfl (by first | assumption | omega | exact hr _ _ rfl | exact nowM_r hr hh hb hJbm hJwm _) (by first | assumption | omega | exact hr _ _ rfl | exact nowM_r hr hh hb hJbm hJwm _) (by decide) ?_
  refine mm_iload_n (mm_dc od_X10_isSo_0 7 rfl) rfl ?_
  refine mm_iload_n (mm_dc od_X10_isSo_0 8 rfl) rfl ?_
  refine mm_callV (b := 50) (mi' := mi_X10_field) [v_i (M 78 (Int.toNat (t + 1))), v_i b, v_i hour] [] (mm_dc od_X10_isSo_0 9 rfl) rfl wd_5_236 wd_5_238 wd_p_44 wd_1_12 wd_5_239 yk_X10_field rfl rfl rfl (Nat.le_of_ble_eq_true rfl) rfl (by decide) (c_X10_field (M 78 (Int.toNat (t + 1))) b hour (by first | assumption | omega | exact hr _ _ rfl | exact nowM_r hr hh hb hJbm hJwm _) (by first | assumption | omega | exact hr _ _ rfl | exact nowM_r hr hh hb hJbm hJwm _) (by first | assumption | omega | exact hr _ _ rfl | exact nowM_r hr hh hb hJbm hJwm _) hJom hJbm hJwm (by first | assumption | omega | exact hr _ _ rfl | exact nowM_r hr hh hb hJbm hJwm _) ⟨Nat.le_refl _, ?_⟩)
  refine mm_istore (L' := [(0, v_r 50), (1, v_i t), (2, v_i b), (3, v_i hour), (4, v_i (nowM M b hour (M 78 (Int.toNat (t + 1))).toNat))]) (mm_dc od_X10_isSo_0 10 rfl) (by decide) rfl ?_
  refine mm_aload_n (mm_dc od_X10_isSo_0 11 rfl) rfl ?_
  refine mm_getR (ci := 10) (k := 35) (mm_dc od_X10_isSo_0 12 rfl) rfl in_X10 (by decide) wd_4_147 rfl rfl ?_
  refine mm_iload_n (mm_dc od_X10_isSo_0 13 rfl) rfl ?_
  refine mm_iconst (mm_dc od_X10_isSo_0 14 rfl) ?_
  refine mm_iadd (mm_dc od_X10_isSo_0 15 rfl) ?_
  refine mm_iald (mm_dc od_X10_isSo_0 16 rfl) rfl (by first | assumption | omega | exact hr _ _ rfl | exact nowM_r hr hh hb hJbm hJwm _) (by first | assumption | omega | exact hr _ _ rfl | exact nowM_r hr hh hb hJbm hJwm _) (by decide) ?_
  refine mm_bipush (mm_dc od_X10_isSo_0 17 rfl) (by decide) ?_
  refine mm_icmp_ne 50 (mm_dc od_X10_isSo_0 18 rfl) (by omega) (by first | assumption | omega | exact hr _ _ rfl | exact nowM_r hr hh hb hJbm hJwm _) (by first | assumption | omega | exact hr _ _ rfl | exact nowM_r hr hh hb hJbm hJwm _) (fun c1 => ?_) (fun c1 => ?_)
  · refine mm_aload_n (mm_dc od_X10_isSo_0 31 rfl) rfl ?_
    refine mm_getR (ci := 10) (k := 35) (mm_dc od_X10_isSo_0 32 rfl) rfl in_X10 (by decide) wd_4_147 rfl rfl ?_
    refine mm_iload_n (mm_dc od_X10_isSo_0 33 rfl) rfl ?_
    refine mm_iconst (mm_dc od_X10_isSo_0 34 rfl) ?_
    refine mm_iadd (mm_dc od_X10_isSo_0 35 rfl) ?_
    refine mm_iald (mm_dc od_X10_isSo_0 36 rfl) rfl (by first | assumption | omega | exact hr _ _ rfl | exact nowM_r hr hh hb hJbm hJwm _) (by first | assumption | omega | exact hr _ _ rfl | exact nowM_r hr hh hb hJbm hJwm _) (by decide) ?_
    refine mm_bipush (mm_dc od_X10_isSo_0 37 rfl) (by decide) ?_
    refine mm_icmp_ne 84 (mm_dc od_X10_isSo_0 38 rfl) (by omega) (by first | assumption | omega | exact hr _ _ rfl | exact nowM_r hr hh hb hJbm hJwm _) (by first | assumption | omega | exact hr _ _ rfl | exact nowM_r hr hh hb hJbm hJwm _) (fun c2 => ?_) (fun c2 => ?_)
    · refine mm_iload (mm_dc od_X10_isSo_0 51 rfl) rfl ?_
      refine mm_aload_n (mm_dc od_X10_isSo_0 52 rfl) rfl ?_
      refine mm_getR (ci := 10) (k := 35) (mm_dc od_X10_isSo_0 53 rfl) rfl in_X10 (by decide) wd_4_147 rfl rfl ?_
      refine mm_iload_n (mm_dc od_X10_isSo_0 54 rfl) rfl ?_
      refine mm_iconst (mm_dc od_X10_isSo_0 55 rfl) ?_
      refine mm_iadd (mm_dc od_X10_isSo_0 56 rfl) ?_
      refine mm_iald (mm_dc od_X10_isSo_0 57 rfl) rfl (by first | assumption | omega | exact hr _ _ rfl | exact nowM_r hr hh hb hJbm hJwm _) (by first | assumption | omega | exact hr _ _ rfl | exact nowM_r hr hh hb hJbm hJwm _) (by decide) ?_
      refine mm_icmp_le 101 (mm_dc od_X10_isSo_0 58 rfl) (by omega) (by first | assumption | omega | exact hr _ _ rfl | exact nowM_r hr hh hb hJbm hJwm _) (by first | assumption | omega | exact hr _ _ rfl | exact nowM_r hr hh hb hJbm hJwm _) (fun c3 => ?_) (fun c3 => ?_)
      · refine mm_iconst (mm_dc od_X10_isSo_1 1 rfl) ?_
        refine mm_istore (L' := [(0, v_r 50), (1, v_i t), (2, v_i b), (3, v_i hour), (4, v_i (nowM M b hour (M 78 (Int.toNat (t + 1))).toNat)), (5, v_i 0)]) (mm_dc od_X10_isSo_1 2 rfl) (by decide) rfl ?_
        refine mm_iload (mm_dc od_X10_isSo_1 3 rfl) rfl ?_
        refine mm_aload_n (mm_dc od_X10_isSo_1 4 rfl) rfl ?_
        refine mm_getR (ci := 10) (k := 35) (mm_dc od_X10_isSo_1 5 rfl) rfl in_X10 (by decide) wd_4_147 rfl rfl ?_
        refine mm_iload_n (mm_dc od_X10_isSo_1 6 rfl) rfl ?_
        refine mm_iald (mm_dc od_X10_isSo_1 7 rfl) rfl (by first | assumption | omega | exact hr _ _ rfl | exact nowM_r hr hh hb hJbm hJwm _) (by first | assumption | omega | exact hr _ _ rfl | exact nowM_r hr hh hb hJbm hJwm _) (by decide) ?_
        refine mm_iconst (mm_dc od_X10_isSo_1 8 rfl) ?_
        refine mm_icmp_ne 120 (mm_dc od_X10_isSo_1 9 rfl) (by omega) (by first | assumption | omega | exact hr _ _ rfl | exact nowM_r hr hh hb hJbm hJwm _) (by first | assumption | omega | exact hr _ _ rfl | exact nowM_r hr hh hb hJbm hJwm _) (fun c4 => ?_) (fun c4 => ?_)
        · refine mm_iconst (mm_dc od_X10_isSo_1 12 rfl) ?_
          refine mm_icmp_eq 128 (mm_dc od_X10_isSo_1 13 rfl) (by omega) (by first | assumption | omega | exact hr _ _ rfl | exact nowM_r hr hh hb hJbm hJwm _) (by first | assumption | omega | exact hr _ _ rfl | exact nowM_r hr hh hb hJbm hJwm _) (fun _ => ?_) (fun h => absurd h (by decide))
          refine mm_iconst (mm_dc od_X10_isSo_1 16 rfl) ?_
          refine mm_zret .boolean (mm_dc od_X10_isSo_1 17 rfl) rfl rfl ?_
          exact kf (by unfold tstM soM; rw [← et1, ← et2, ← et3]; omega)
        · refine mm_iconst (mm_dc od_X10_isSo_1 10 rfl) ?_
          refine mm_goto 121 (mm_dc od_X10_isSo_1 11 rfl) (by omega) ?_
          refine mm_icmp_eq 128 (mm_dc od_X10_isSo_1 13 rfl) (by omega) (by first | assumption | omega | exact hr _ _ rfl | exact nowM_r hr hh hb hJbm hJwm _) (by first | assumption | omega | exact hr _ _ rfl | exact nowM_r hr hh hb hJbm hJwm _) (fun h => absurd h (by decide)) (fun _ => ?_)
          refine mm_iconst (mm_dc od_X10_isSo_1 14 rfl) ?_
          refine mm_goto 129 (mm_dc od_X10_isSo_1 15 rfl) (by omega) ?_
          refine mm_zret .boolean (mm_dc od_X10_isSo_1 17 rfl) rfl rfl ?_
          exact kt (by unfold tstM soM; rw [← et1, ← et2, ← et3]; omega)
      · refine mm_iconst (mm_dc od_X10_isSo_0 59 rfl) ?_
        refine mm_goto 102 (mm_dc od_X10_isSo_1 0 rfl) (by omega) ?_
        refine mm_istore (L' := [(0, v_r 50), (1, v_i t), (2, v_i b), (3, v_i hour), (4, v_i (nowM M b hour (M 78 (Int.toNat (t + 1))).toNat)), (5, v_i 1)]) (mm_dc od_X10_isSo_1 2 rfl) (by decide) rfl ?_
        refine mm_iload (mm_dc od_X10_isSo_1 3 rfl) rfl ?_
        refine mm_aload_n (mm_dc od_X10_isSo_1 4 rfl) rfl ?_
        refine mm_getR (ci := 10) (k := 35) (mm_dc od_X10_isSo_1 5 rfl) rfl in_X10 (by decide) wd_4_147 rfl rfl ?_
        refine mm_iload_n (mm_dc od_X10_isSo_1 6 rfl) rfl ?_
        refine mm_iald (mm_dc od_X10_isSo_1 7 rfl) rfl (by first | assumption | omega | exact hr _ _ rfl | exact nowM_r hr hh hb hJbm hJwm _) (by first | assumption | omega | exact hr _ _ rfl | exact nowM_r hr hh hb hJbm hJwm _) (by decide) ?_
        refine mm_iconst (mm_dc od_X10_isSo_1 8 rfl) ?_
        refine mm_icmp_ne 120 (mm_dc od_X10_isSo_1 9 rfl) (by omega) (by first | assumption | omega | exact hr _ _ rfl | exact nowM_r hr hh hb hJbm hJwm _) (by first | assumption | omega | exact hr _ _ rfl | exact nowM_r hr hh hb hJbm hJwm _) (fun c5 => ?_) (fun c5 => ?_)
        · refine mm_iconst (mm_dc od_X10_isSo_1 12 rfl) ?_
          refine mm_icmp_eq 128 (mm_dc od_X10_isSo_1 13 rfl) (by omega) (by first | assumption | omega | exact hr _ _ rfl | exact nowM_r hr hh hb hJbm hJwm _) (by first | assumption | omega | exact hr _ _ rfl | exact nowM_r hr hh hb hJbm hJwm _) (fun h => absurd h (by decide)) (fun _ => ?_)
          refine mm_iconst (mm_dc od_X10_isSo_1 14 rfl) ?_
          refine mm_goto 129 (mm_dc od_X10_isSo_1 15 rfl) (by omega) ?_
          refine mm_zret .boolean (mm_dc od_X10_isSo_1 17 rfl) rfl rfl ?_
          exact kt (by unfold tstM soM; rw [← et1, ← et2, ← et3]; omega)
        · refine mm_iconst (mm_dc od_X10_isSo_1 10 rfl) ?_
          refine mm_goto 121 (mm_dc od_X10_isSo_1 11 rfl) (by omega) ?_
          refine mm_icmp_eq 128 (mm_dc od_X10_isSo_1 13 rfl) (by omega) (by first | assumption | omega | exact hr _ _ rfl | exact nowM_r hr hh hb hJbm hJwm _) (by first | assumption | omega | exact hr _ _ rfl | exact nowM_r hr hh hb hJbm hJwm _) (fun _ => ?_) (fun h => absurd h (by decide))
          refine mm_iconst (mm_dc od_X10_isSo_1 16 rfl) ?_
          refine mm_zret .boolean (mm_dc od_X10_isSo_1 17 rfl) rfl rfl ?_
          exact kf (by unfold tstM soM; rw [← et1, ← et2, ← et3]; omega)
    · refine mm_iload (mm_dc od_X10_isSo_0 39 rfl) rfl ?_
      refine mm_aload_n (mm_dc od_X10_isSo_0 40 rfl) rfl ?_
      refine mm_getR (ci := 10) (k := 35) (mm_dc od_X10_isSo_0 41 rfl) rfl in_X10 (by decide) wd_4_147 rfl rfl ?_
      refine mm_iload_n (mm_dc od_X10_isSo_0 42 rfl) rfl ?_
      refine mm_iconst (mm_dc od_X10_isSo_0 43 rfl) ?_
      refine mm_iadd (mm_dc od_X10_isSo_0 44 rfl) ?_
      refine mm_iald (mm_dc od_X10_isSo_0 45 rfl) rfl (by first | assumption | omega | exact hr _ _ rfl | exact nowM_r hr hh hb hJbm hJwm _) (by first | assumption | omega | exact hr _ _ rfl | exact nowM_r hr hh hb hJbm hJwm _) (by decide) ?_
      refine mm_icmp_ge 80 (mm_dc od_X10_isSo_0 46 rfl) (by omega) (by first | assumption | omega | exact hr _ _ rfl | exact nowM_r hr hh hb hJbm hJwm _) (by first | assumption | omega | exact hr _ _ rfl | exact nowM_r hr hh hb hJbm hJwm _) (fun c6 => ?_) (fun c6 => ?_)
      · refine mm_iconst (mm_dc od_X10_isSo_0 49 rfl) ?_
        refine mm_goto 102 (mm_dc od_X10_isSo_0 50 rfl) (by omega) ?_
        refine mm_istore (L' := [(0, v_r 50), (1, v_i t), (2, v_i b), (3, v_i hour), (4, v_i (nowM M b hour (M 78 (Int.toNat (t + 1))).toNat)), (5, v_i 0)]) (mm_dc od_X10_isSo_1 2 rfl) (by decide) rfl ?_
        refine mm_iload (mm_dc od_X10_isSo_1 3 rfl) rfl ?_
        refine mm_aload_n (mm_dc od_X10_isSo_1 4 rfl) rfl ?_
        refine mm_getR (ci := 10) (k := 35) (mm_dc od_X10_isSo_1 5 rfl) rfl in_X10 (by decide) wd_4_147 rfl rfl ?_
        refine mm_iload_n (mm_dc od_X10_isSo_1 6 rfl) rfl ?_
        refine mm_iald (mm_dc od_X10_isSo_1 7 rfl) rfl (by first | assumption | omega | exact hr _ _ rfl | exact nowM_r hr hh hb hJbm hJwm _) (by first | assumption | omega | exact hr _ _ rfl | exact nowM_r hr hh hb hJbm hJwm _) (by decide) ?_
        refine mm_iconst (mm_dc od_X10_isSo_1 8 rfl) ?_
        refine mm_icmp_ne 120 (mm_dc od_X10_isSo_1 9 rfl) (by omega) (by first | assumption | omega | exact hr _ _ rfl | exact nowM_r hr hh hb hJbm hJwm _) (by first | assumption | omega | exact hr _ _ rfl | exact nowM_r hr hh hb hJbm hJwm _) (fun c7 => ?_) (fun c7 => ?_)
        · refine mm_iconst (mm_dc od_X10_isSo_1 12 rfl) ?_
          refine mm_icmp_eq 128 (mm_dc od_X10_isSo_1 13 rfl) (by omega) (by first | assumption | omega | exact hr _ _ rfl | exact nowM_r hr hh hb hJbm hJwm _) (by first | assumption | omega | exact hr _ _ rfl | exact nowM_r hr hh hb hJbm hJwm _) (fun _ => ?_) (fun h => absurd h (by decide))
          refine mm_iconst (mm_dc od_X10_isSo_1 16 rfl) ?_
          refine mm_zret .boolean (mm_dc od_X10_isSo_1 17 rfl) rfl rfl ?_
          exact kf (by unfold tstM soM; rw [← et1, ← et2, ← et3]; omega)
        · refine mm_iconst (mm_dc od_X10_isSo_1 10 rfl) ?_
          refine mm_goto 121 (mm_dc od_X10_isSo_1 11 rfl) (by omega) ?_
          refine mm_icmp_eq 128 (mm_dc od_X10_isSo_1 13 rfl) (by omega) (by first | assumption | omega | exact hr _ _ rfl | exact nowM_r hr hh hb hJbm hJwm _) (by first | assumption | omega | exact hr _ _ rfl | exact nowM_r hr hh hb hJbm hJwm _) (fun h => absurd h (by decide)) (fun _ => ?_)
          refine mm_iconst (mm_dc od_X10_isSo_1 14 rfl) ?_
          refine mm_goto 129 (mm_dc od_X10_isSo_1 15 rfl) (by omega) ?_
          refine mm_zret .boolean (mm_dc od_X10_isSo_1 17 rfl) rfl rfl ?_
          exact kt (by unfold tstM soM; rw [← et1, ← et2, ← et3]; omega)
      · refine mm_iconst (mm_dc od_X10_isSo_0 47 rfl) ?_
        refine mm_goto 102 (mm_dc od_X10_isSo_0 48 rfl) (by omega) ?_
        refine mm_istore (L' := [(0, v_r 50), (1, v_i t), (2, v_i b), (3, v_i hour), (4, v_i (nowM M b hour (M 78 (Int.toNat (t + 1))).toNat)), (5, v_i 1)]) (mm_dc od_X10_isSo_1 2 rfl) (by decide) rfl ?_
        refine mm_iload (mm_dc od_X10_isSo_1 3 rfl) rfl ?_
        refine mm_aload_n (mm_dc od_X10_isSo_1 4 rfl) rfl ?_
        refine mm_getR (ci := 10) (k := 35) (mm_dc od_X10_isSo_1 5 rfl) rfl in_X10 (by decide) wd_4_147 rfl rfl ?_
        refine mm_iload_n (mm_dc od_X10_isSo_1 6 rfl) rfl ?_
        refine mm_iald (mm_dc od_X10_isSo_1 7 rfl) rfl (by first | assumption | omega | exact hr _ _ rfl | exact nowM_r hr hh hb hJbm hJwm _) (by first | assumption | omega | exact hr _ _ rfl | exact nowM_r hr hh hb hJbm hJwm _) (by decide) ?_
        refine mm_iconst (mm_dc od_X10_isSo_1 8 rfl) ?_
        refine mm_icmp_ne 120 (mm_dc od_X10_isSo_1 9 rfl) (by omega) (by first | assumption | omega | exact hr _ _ rfl | exact nowM_r hr hh hb hJbm hJwm _) (by first | assumption | omega | exact hr _ _ rfl | exact nowM_r hr hh hb hJbm hJwm _) (fun c8 => ?_) (fun c8 => ?_)
        · refine mm_iconst (mm_dc od_X10_isSo_1 12 rfl) ?_
          refine mm_icmp_eq 128 (mm_dc od_X10_isSo_1 13 rfl) (by omega) (by first | assumption | omega | exact hr _ _ rfl | exact nowM_r hr hh hb hJbm hJwm _) (by first | assumption | omega | exact hr _ _ rfl | exact nowM_r hr hh hb hJbm hJwm _) (fun h => absurd h (by decide)) (fun _ => ?_)
          refine mm_iconst (mm_dc od_X10_isSo_1 14 rfl) ?_
          refine mm_goto 129 (mm_dc od_X10_isSo_1 15 rfl) (by omega) ?_
          refine mm_zret .boolean (mm_dc od_X10_isSo_1 17 rfl) rfl rfl ?_
          exact kt (by unfold tstM soM; rw [← et1, ← et2, ← et3]; omega)
        · refine mm_iconst (mm_dc od_X10_isSo_1 10 rfl) ?_
          refine mm_goto 121 (mm_dc od_X10_isSo_1 11 rfl) (by omega) ?_
          refine mm_icmp_eq 128 (mm_dc od_X10_isSo_1 13 rfl) (by omega) (by first | assumption | omega | exact hr _ _ rfl | exact nowM_r hr hh hb hJbm hJwm _) (by first | assumption | omega | exact hr _ _ rfl | exact nowM_r hr hh hb hJbm hJwm _) (fun _ => ?_) (fun h => absurd h (by decide))
          refine mm_iconst (mm_dc od_X10_isSo_1 16 rfl) ?_
          refine mm_zret .boolean (mm_dc od_X10_isSo_1 17 rfl) rfl rfl ?_
          exact kf (by unfold tstM soM; rw [← et1, ← et2, ← et3]; omega)
  · refine mm_iload (mm_dc od_X10_isSo_0 19 rfl) rfl ?_
    refine mm_aload_n (mm_dc od_X10_isSo_0 20 rfl) rfl ?_
    refine mm_getR (ci := 10) (k := 35) (mm_dc od_X10_isSo_0 21 rfl) rfl in_X10 (by decide) wd_4_147 rfl rfl ?_
    refine mm_iload_n (mm_dc od_X10_isSo_0 22 rfl) rfl ?_
    refine mm_iconst (mm_dc od_X10_isSo_0 23 rfl) ?_
    refine mm_iadd (mm_dc od_X10_isSo_0 24 rfl) ?_
    refine mm_iald (mm_dc od_X10_isSo_0 25 rfl) rfl (by first | assumption | omega | exact hr _ _ rfl | exact nowM_r hr hh hb hJbm hJwm _) (by first | assumption | omega | exact hr _ _ rfl | exact nowM_r hr hh hb hJbm hJwm _) (by decide) ?_
    refine mm_icmp_ne 46 (mm_dc od_X10_isSo_0 26 rfl) (by omega) (by first | assumption | omega | exact hr _ _ rfl | exact nowM_r hr hh hb hJbm hJwm _) (by first | assumption | omega | exact hr _ _ rfl | exact nowM_r hr hh hb hJbm hJwm _) (fun c9 => ?_) (fun c9 => ?_)
    · refine mm_iconst (mm_dc od_X10_isSo_0 29 rfl) ?_
      refine mm_goto 102 (mm_dc od_X10_isSo_0 30 rfl) (by omega) ?_
      refine mm_istore (L' := [(0, v_r 50), (1, v_i t), (2, v_i b), (3, v_i hour), (4, v_i (nowM M b hour (M 78 (Int.toNat (t + 1))).toNat)), (5, v_i 0)]) (mm_dc od_X10_isSo_1 2 rfl) (by decide) rfl ?_
      refine mm_iload (mm_dc od_X10_isSo_1 3 rfl) rfl ?_
      refine mm_aload_n (mm_dc od_X10_isSo_1 4 rfl) rfl ?_
      refine mm_getR (ci := 10) (k := 35) (mm_dc od_X10_isSo_1 5 rfl) rfl in_X10 (by decide) wd_4_147 rfl rfl ?_
      refine mm_iload_n (mm_dc od_X10_isSo_1 6 rfl) rfl ?_
      refine mm_iald (mm_dc od_X10_isSo_1 7 rfl) rfl (by first | assumption | omega | exact hr _ _ rfl | exact nowM_r hr hh hb hJbm hJwm _) (by first | assumption | omega | exact hr _ _ rfl | exact nowM_r hr hh hb hJbm hJwm _) (by decide) ?_
      refine mm_iconst (mm_dc od_X10_isSo_1 8 rfl) ?_
      refine mm_icmp_ne 120 (mm_dc od_X10_isSo_1 9 rfl) (by omega) (by first | assumption | omega | exact hr _ _ rfl | exact nowM_r hr hh hb hJbm hJwm _) (by first | assumption | omega | exact hr _ _ rfl | exact nowM_r hr hh hb hJbm hJwm _) (fun c10 => ?_) (fun c10 => ?_)
      · refine mm_iconst (mm_dc od_X10_isSo_1 12 rfl) ?_
        refine mm_icmp_eq 128 (mm_dc od_X10_isSo_1 13 rfl) (by omega) (by first | assumption | omega | exact hr _ _ rfl | exact nowM_r hr hh hb hJbm hJwm _) (by first | assumption | omega | exact hr _ _ rfl | exact nowM_r hr hh hb hJbm hJwm _) (fun _ => ?_) (fun h => absurd h (by decide))
        refine mm_iconst (mm_dc od_X10_isSo_1 16 rfl) ?_
        refine mm_zret .boolean (mm_dc od_X10_isSo_1 17 rfl) rfl rfl ?_
        exact kf (by unfold tstM soM; rw [← et1, ← et2, ← et3]; omega)
      · refine mm_iconst (mm_dc od_X10_isSo_1 10 rfl) ?_
        refine mm_goto 121 (mm_dc od_X10_isSo_1 11 rfl) (by omega) ?_
        refine mm_icmp_eq 128 (mm_dc od_X10_isSo_1 13 rfl) (by omega) (by first | assumption | omega | exact hr _ _ rfl | exact nowM_r hr hh hb hJbm hJwm _) (by first | assumption | omega | exact hr _ _ rfl | exact nowM_r hr hh hb hJbm hJwm _) (fun h => absurd h (by decide)) (fun _ => ?_)
        refine mm_iconst (mm_dc od_X10_isSo_1 14 rfl) ?_
        refine mm_goto 129 (mm_dc od_X10_isSo_1 15 rfl) (by omega) ?_
        refine mm_zret .boolean (mm_dc od_X10_isSo_1 17 rfl) rfl rfl ?_
        exact kt (by unfold tstM soM; rw [← et1, ← et2, ← et3]; omega)
    · refine mm_iconst (mm_dc od_X10_isSo_0 27 rfl) ?_
      refine mm_goto 102 (mm_dc od_X10_isSo_0 28 rfl) (by omega) ?_
      refine mm_istore (L' := [(0, v_r 50), (1, v_i t), (2, v_i b), (3, v_i hour), (4, v_i (nowM M b hour (M 78 (Int.toNat (t + 1))).toNat)), (5, v_i 1)]) (mm_dc od_X10_isSo_1 2 rfl) (by decide) rfl ?_
      refine mm_iload (mm_dc od_X10_isSo_1 3 rfl) rfl ?_
      refine mm_aload_n (mm_dc od_X10_isSo_1 4 rfl) rfl ?_
      refine mm_getR (ci := 10) (k := 35) (mm_dc od_X10_isSo_1 5 rfl) rfl in_X10 (by decide) wd_4_147 rfl rfl ?_
      refine mm_iload_n (mm_dc od_X10_isSo_1 6 rfl) rfl ?_
      refine mm_iald (mm_dc od_X10_isSo_1 7 rfl) rfl (by first | assumption | omega | exact hr _ _ rfl | exact nowM_r hr hh hb hJbm hJwm _) (by first | assumption | omega | exact hr _ _ rfl | exact nowM_r hr hh hb hJbm hJwm _) (by decide) ?_
      refine mm_iconst (mm_dc od_X10_isSo_1 8 rfl) ?_
      refine mm_icmp_ne 120 (mm_dc od_X10_isSo_1 9 rfl) (by omega) (by first | assumption | omega | exact hr _ _ rfl | exact nowM_r hr hh hb hJbm hJwm _) (by first | assumption | omega | exact hr _ _ rfl | exact nowM_r hr hh hb hJbm hJwm _) (fun c11 => ?_) (fun c11 => ?_)
      · refine mm_iconst (mm_dc od_X10_isSo_1 12 rfl) ?_
        refine mm_icmp_eq 128 (mm_dc od_X10_isSo_1 13 rfl) (by omega) (by first | assumption | omega | exact hr _ _ rfl | exact nowM_r hr hh hb hJbm hJwm _) (by first | assumption | omega | exact hr _ _ rfl | exact nowM_r hr hh hb hJbm hJwm _) (fun h => absurd h (by decide)) (fun _ => ?_)
        refine mm_iconst (mm_dc od_X10_isSo_1 14 rfl) ?_
        refine mm_goto 129 (mm_dc od_X10_isSo_1 15 rfl) (by omega) ?_
        refine mm_zret .boolean (mm_dc od_X10_isSo_1 17 rfl) rfl rfl ?_
        exact kt (by unfold tstM soM; rw [← et1, ← et2, ← et3]; omega)
      · refine mm_iconst (mm_dc od_X10_isSo_1 10 rfl) ?_
        refine mm_goto 121 (mm_dc od_X10_isSo_1 11 rfl) (by omega) ?_
        refine mm_icmp_eq 128 (mm_dc od_X10_isSo_1 13 rfl) (by omega) (by first | assumption | omega | exact hr _ _ rfl | exact nowM_r hr hh hb hJbm hJwm _) (by first | assumption | omega | exact hr _ _ rfl | exact nowM_r hr hh hb hJbm hJwm _) (fun _ => ?_) (fun h => absurd h (by decide))
        refine mm_iconst (mm_dc od_X10_isSo_1 16 rfl) ?_
        refine mm_zret .boolean (mm_dc od_X10_isSo_1 17 rfl) rfl rfl ?_
        exact kf (by unfold tstM soM; rw [← et1, ← et2, ← et3]; omega)
theorem L_askI {X : Nat × (Nat → Int)} {d : Nat} {Po : mm_Po} {M : mm_M} (b hour : Int) (hb : 0 ≤ b ∧ b < M 50 11) (hh : 0 ≤ hour ∧ hour ≤ 23) (hJom : JOm M) (hJbm : JBm M) (hJwm : JWm M) (hJrum : JRum M) (hr : R32 M) (f : Int) (j : Nat) (hj : (j : Int) < M 50 30) (K : ∀ y : Int, ((y = 1 ∧ rulM M (nowM M b hour) (M 57 b.toNat) j) ∨ (y = 0 ∧ ¬ rulM M (nowM M b hour) (M 57 b.toNat) j)) → mm_G X (d + 3) 0 0 mi_X10_asked Po 100 [(0, v_r 50), (1, v_i b), (2, v_i hour), (3, v_i f), (4, v_i (j : Int)), (5, v_i y)] [] Lam M 0 0) (y : Int) (i : Nat) (hy : (y = 1 ∧ (M 76 j = M 57 b.toNat ∨ M 76 j = 5) ∧ ∀ t : Nat, t < i → tstM M (nowM M b hour) (12 * j + 4 * t)) ∨ (y = 0 ∧ ¬ ((M 76 j = M 57 b.toNat ∨ M 76 j = 5) ∧ ∀ t : Nat, t < i → tstM M (nowM M b hour) (12 * j + 4 * t)))) (hi : (i : Int) ≤ M 77 j) : mm_G X (d + 3) 0 0 mi_X10_asked Po 51 [(0, v_r 50), (1, v_i b), (2, v_i hour), (3, v_i f), (4, v_i (j : Int)), (5, v_i y), (6, v_i (i : Int))] [] Lam M 0 0 := by
  have hJru2 := hJrum
  obtain ⟨hu0, hu10, hU⟩ := hJru2
  have hJbm2 := hJbm
  obtain ⟨hb0, hb8, hB⟩ := hJbm2
  have hB1 := hB b.toNat
  have hU1 := hU j
  have hij : (12 * (j : Int) + 4 * (i : Int)).toNat = 12 * j + 4 * i := (by omega)
  have hU2 := (hU1 hj).2.2.2 i
  rw [← hij] at hU2
  have hy2 : y = 0 ∨ y = 1 := (by omega)
  refine mm_iload (mm_dc od_X10_asked_0 29 rfl) rfl ?_
  refine mm_aload_n (mm_dc od_X10_asked_0 30 rfl) rfl ?_
  refine mm_getR (ci := 10) (k := 34) (mm_dc od_X10_asked_0 31 rfl) rfl in_X10 (by decide) wd_4_146 rfl rfl ?_
  refine mm_iload (mm_dc od_X10_asked_0 32 rfl) rfl ?_
  refine mm_iald (mm_dc od_X10_asked_0 33 rfl) rfl (by first | assumption | omega | exact hr _ _ rfl | exact mm_ti _ | exact mm_r3264 (hr _ _ rfl)) (by first | assumption | omega | exact hr _ _ rfl | exact mm_ti _ | exact mm_r3264 (hr _ _ rfl)) (by decide) ?_
  refine mm_cst (st' := [v_i (M 77 j), v_i (i : Int)]) rfl ?_
  refine mm_icmp_ge 100 (mm_dc od_X10_asked_0 34 rfl) (by omega) (by first | assumption | omega | exact hr _ _ rfl | exact mm_ti _ | exact mm_r3264 (hr _ _ rfl)) (by first | assumption | omega | exact hr _ _ rfl | exact mm_ti _ | exact mm_r3264 (hr _ _ rfl)) (fun c1 => ?_) (fun c1 => ?_)
  · exact mm_less [0, 1, 2, 3, 4, 5] rfl (K y (by rcases hy with ⟨e, hK, hA⟩ | ⟨e, hno⟩; exact Or.inl ⟨e, hK, fun t ht => hA t (by omega)⟩; exact Or.inr ⟨e, fun q => hno ⟨q.1, fun t ht => q.2 t (by omega)⟩⟩))
  · refine mm_iload (mm_dc od_X10_asked_0 35 rfl) rfl ?_
    refine mm_if_eq 91 (mm_dc od_X10_asked_0 36 rfl) (by omega) (by first | assumption | omega | exact hr _ _ rfl | exact mm_ti _ | exact mm_r3264 (hr _ _ rfl)) (fun c2 => ?_) (fun c2 => ?_)
    · refine mm_iconst (mm_dc od_X10_asked_0 51 rfl) ?_
      refine mm_istore (L' := [(0, v_r 50), (1, v_i b), (2, v_i hour), (3, v_i f), (4, v_i (j : Int)), (5, v_i 0), (6, v_i (i : Int))]) (mm_dc od_X10_asked_0 52 rfl) (by decide) rfl ?_
      refine mm_iinc (L' := [(0, v_r 50), (1, v_i b), (2, v_i hour), (3, v_i f), (4, v_i (j : Int)), (5, v_i 0), (6, v_i ((i : Int) + 1))]) (mm_dc od_X10_asked_0 53 rfl) rfl (by decide) rfl ?_
      refine mm_goto 51 (mm_dc od_X10_asked_0 54 rfl) (by omega) ?_
      rcases hy with ⟨e, hK, hA⟩ | ⟨e, hno⟩
      · exact L_askI b hour hb hh hJom hJbm hJwm hJrum hr f j hj K 0 (i + 1) (Or.inr ⟨rfl, fun q => by have q2 := q.2 i (by omega); rw [← hij] at q2; first | contradiction | omega⟩) (by omega)
      · exact L_askI b hour hb hh hJom hJbm hJwm hJrum hr f j hj K 0 (i + 1) (Or.inr ⟨rfl, fun q => hno ⟨q.1, fun t ht => q.2 t (by omega)⟩⟩) (by omega)
    · refine mm_aload_n (mm_dc od_X10_asked_0 37 rfl) rfl ?_
      refine mm_bipush (mm_dc od_X10_asked_0 38 rfl) (by decide) ?_
      refine mm_iload (mm_dc od_X10_asked_0 39 rfl) rfl ?_
      refine mm_imul (mm_dc od_X10_asked_0 40 rfl) ?_
      refine mm_iconst (mm_dc od_X10_asked_0 41 rfl) ?_
      refine mm_iload (mm_dc od_X10_asked_0 42 rfl) rfl ?_
      refine mm_imul (mm_dc od_X10_asked_0 43 rfl) ?_
      refine mm_iadd (mm_dc od_X10_asked_0 44 rfl) ?_
      refine mm_iload_n (mm_dc od_X10_asked_0 45 rfl) rfl ?_
      refine mm_iload_n (mm_dc od_X10_asked_0 46 rfl) rfl ?_
      refine mm_callV (b := 50) (mi' := mi_X10_isSo) [v_i ((12 * (j : Int)) + (4 * (i : Int))), v_i b, v_i hour] [] (mm_dc od_X10_asked_0 47 rfl) rfl wd_5_232 wd_5_234 wd_p_43 wd_1_12 wd_5_235 yk_X10_isSo rfl rfl rfl (Nat.le_of_ble_eq_true rfl) rfl (by decide) (c_X10_isSo ((12 * (j : Int)) + (4 * (i : Int))) b hour (by first | assumption | omega | exact hr _ _ rfl | exact mm_ti _ | exact mm_r3264 (hr _ _ rfl)) (by first | assumption | omega | exact hr _ _ rfl | exact mm_ti _ | exact mm_r3264 (hr _ _ rfl)) (by first | assumption | omega | exact hr _ _ rfl | exact mm_ti _ | exact mm_r3264 (hr _ _ rfl)) (by first | assumption | omega | exact hr _ _ rfl | exact mm_ti _ | exact mm_r3264 (hr _ _ rfl)) hJom hJbm hJwm (by first | assumption | omega | exact hr _ _ rfl | exact mm_ti _ | exact mm_r3264 (hr _ _ rfl)) (fun c3 => ⟨Nat.le_refl _, ?_⟩) (fun c3 => ⟨Nat.le_refl _, ?_⟩))
      · refine mm_if_eq 91 (mm_dc od_X10_asked_0 48 rfl) (by omega) (by first | assumption | omega | exact hr _ _ rfl | exact mm_ti _ | exact mm_r3264 (hr _ _ rfl)) (fun h => absurd h (by decide)) (fun _ => ?_)
        refine mm_iconst (mm_dc od_X10_asked_0 49 rfl) ?_
        refine mm_goto 92 (mm_dc od_X10_asked_0 50 rfl) (by omega) ?_
        refine mm_istore (L' := [(0, v_r 50), (1, v_i b), (2, v_i hour), (3, v_i f), (4, v_i (j : Int)), (5, v_i 1), (6, v_i (i : Int))]) (mm_dc od_X10_asked_0 52 rfl) (by decide) rfl ?_
        refine mm_iinc (L' := [(0, v_r 50), (1, v_i b), (2, v_i hour), (3, v_i f), (4, v_i (j : Int)), (5, v_i 1), (6, v_i ((i : Int) + 1))]) (mm_dc od_X10_asked_0 53 rfl) rfl (by decide) rfl ?_
        refine mm_goto 51 (mm_dc od_X10_asked_0 54 rfl) (by omega) ?_
        rcases hy with ⟨e, hK, hA⟩ | ⟨e, hno⟩
        · exact L_askI b hour hb hh hJom hJbm hJwm hJrum hr f j hj K 1 (i + 1) (Or.inl ⟨rfl, hK, fun t ht => by by_cases q : t = i; subst q; rw [← hij]; assumption; exact hA t (by omega)⟩) (by omega)
        · exfalso; omega
      · refine mm_if_eq 91 (mm_dc od_X10_asked_0 48 rfl) (by omega) (by first | assumption | omega | exact hr _ _ rfl | exact mm_ti _ | exact mm_r3264 (hr _ _ rfl)) (fun _ => ?_) (fun h => absurd h (by decide))
        refine mm_iconst (mm_dc od_X10_asked_0 51 rfl) ?_
        refine mm_istore (L' := [(0, v_r 50), (1, v_i b), (2, v_i hour), (3, v_i f), (4, v_i (j : Int)), (5, v_i 0), (6, v_i (i : Int))]) (mm_dc od_X10_asked_0 52 rfl) (by decide) rfl ?_
        refine mm_iinc (L' := [(0, v_r 50), (1, v_i b), (2, v_i hour), (3, v_i f), (4, v_i (j : Int)), (5, v_i 0), (6, v_i ((i : Int) + 1))]) (mm_dc od_X10_asked_0 53 rfl) rfl (by decide) rfl ?_
        refine mm_goto 51 (mm_dc od_X10_asked_0 54 rfl) (by omega) ?_
        rcases hy with ⟨e, hK, hA⟩ | ⟨e, hno⟩
        · exact L_askI b hour hb hh hJom hJbm hJwm hJrum hr f j hj K 0 (i + 1) (Or.inr ⟨rfl, fun q => by have q2 := q.2 i (by omega); rw [← hij] at q2; first | contradiction | omega⟩) (by omega)
        · exact L_askI b hour hb hh hJom hJbm hJwm hJrum hr f j hj K 0 (i + 1) (Or.inr ⟨rfl, fun q => hno ⟨q.1, fun t ht => q.2 t (by omega)⟩⟩) (by omega)
termination_by 4 - i
decreasing_by all_goals (first | omega | (simp_wf; omega))
theorem L_askT {X : Nat × (Nat → Int)} {d : Nat} {Po : mm_Po} {M : mm_M} (b hour : Int) (hb : 0 ≤ b ∧ b < M 50 11) (hh : 0 ≤ hour ∧ hour ≤ 23) (hJom : JOm M) (hJbm : JBm M) (hJwm : JWm M) (hJrum : JRum M) (hr : R32 M) (f : Int) (j : Nat) (y : Int) (hj : (j : Int) < M 50 30) (hy2 : y = 0 ∨ y = 1) (K1 : y = 1 → mm_G X (d + 3) 0 0 mi_X10_asked Po 5 [(0, v_r 50), (1, v_i b), (2, v_i hour), (3, v_i (j : Int)), (4, v_i ((j : Int) + 1))] [] Lam M 0 0) (K2 : y = 0 → mm_G X (d + 3) 0 0 mi_X10_asked Po 5 [(0, v_r 50), (1, v_i b), (2, v_i hour), (3, v_i f), (4, v_i ((j : Int) + 1))] [] Lam M 0 0) : mm_G X (d + 3) 0 0 mi_X10_asked Po 100 [(0, v_r 50), (1, v_i b), (2, v_i hour), (3, v_i f), (4, v_i (j : Int)), (5, v_i y)] [] Lam M 0 0 := by
  have hJru2 := hJrum
  obtain ⟨hu0, hu10, hU⟩ := hJru2
  refine mm_iload (mm_dc od_X10_asked_0 55 rfl) rfl ?_
  refine mm_if_eq 110 (mm_dc od_X10_asked_0 56 rfl) (by omega) (by first | assumption | omega | exact hr _ _ rfl | exact mm_ti _ | exact mm_r3264 (hr _ _ rfl)) (fun c1 => ?_) (fun c1 => ?_)
  · refine mm_iload_n (mm_dc od_X10_asked_0 59 rfl) rfl ?_
    refine mm_istore_n (L' := [(0, v_r 50), (1, v_i b), (2, v_i hour), (3, v_i f), (4, v_i (j : Int)), (5, v_i y)]) (mm_dc od_X10_asked_1 0 rfl) (by decide) rfl ?_
    refine mm_iinc (L' := [(0, v_r 50), (1, v_i b), (2, v_i hour), (3, v_i f), (4, v_i ((j : Int) + 1)), (5, v_i y)]) (mm_dc od_X10_asked_1 1 rfl) rfl (by decide) rfl ?_
    refine mm_goto 5 (mm_dc od_X10_asked_1 2 rfl) (by omega) ?_
    exact mm_less [0, 1, 2, 3, 4] rfl (K2 (by omega))
  · refine mm_iload (mm_dc od_X10_asked_0 57 rfl) rfl ?_
    refine mm_goto 111 (mm_dc od_X10_asked_0 58 rfl) (by omega) ?_
    refine mm_istore_n (L' := [(0, v_r 50), (1, v_i b), (2, v_i hour), (3, v_i (j : Int)), (4, v_i (j : Int)), (5, v_i y)]) (mm_dc od_X10_asked_1 0 rfl) (by decide) rfl ?_
    refine mm_iinc (L' := [(0, v_r 50), (1, v_i b), (2, v_i hour), (3, v_i (j : Int)), (4, v_i ((j : Int) + 1)), (5, v_i y)]) (mm_dc od_X10_asked_1 1 rfl) rfl (by decide) rfl ?_
    refine mm_goto 5 (mm_dc od_X10_asked_1 2 rfl) (by omega) ?_
    exact mm_less [0, 1, 2, 3, 4] rfl (K1 (by omega))
theorem L_askO {X : Nat × (Nat → Int)} {d : Nat} {Po : mm_Po} {M : mm_M} (b hour : Int) (hb : 0 ≤ b ∧ b < M 50 11) (hh : 0 ≤ hour ∧ hour ≤ 23) (hJom : JOm M) (hJbm : JBm M) (hJwm : JWm M) (hJrum : JRum M) (hr : R32 M) (k : ∀ r : Int, lastP (rulM M (nowM M b hour) (M 57 b.toNat)) r (M 50 30).toNat → Po (some (v_i r)) Lam M) (f : Int) (j : Nat) (hf : lastP (rulM M (nowM M b hour) (M 57 b.toNat)) f j) (hj : (j : Int) ≤ M 50 30) : mm_G X (d + 3) 0 0 mi_X10_asked Po 5 [(0, v_r 50), (1, v_i b), (2, v_i hour), (3, v_i f), (4, v_i (j : Int))] [] Lam M 0 0 := by
  have hJru2 := hJrum
  obtain ⟨hu0, hu10, hU⟩ := hJru2
  have hJbm2 := hJbm
  obtain ⟨hb0, hb8, hB⟩ := hJbm2
  have hB1 := hB b.toNat
  have hU1 := hU j
  have hfr := lastP_rng hf
  refine mm_iload (mm_dc od_X10_asked_0 4 rfl) rfl ?_
  refine mm_aload_n (mm_dc od_X10_asked_0 5 rfl) rfl ?_
  refine mm_getI (ci := 10) (k := 30) (mm_dc od_X10_asked_0 6 rfl) rfl in_X10 (by decide) wd_4_142 rfl rfl ?_
  refine mm_icmp_ge 118 (mm_dc od_X10_asked_0 7 rfl) (by omega) (by first | assumption | omega | exact hr _ _ rfl | exact mm_ti _ | exact mm_r3264 (hr _ _ rfl)) (by first | assumption | omega | exact hr _ _ rfl | exact mm_ti _ | exact mm_r3264 (hr _ _ rfl)) (fun c1 => ?_) (fun c1 => ?_)
  · refine mm_iload_n (mm_dc od_X10_asked_1 3 rfl) rfl ?_
    refine mm_iret (mm_dc od_X10_asked_1 4 rfl) rfl ?_
    have e : j = (M 50 30).toNat := by omega
    exact k _ (e ▸ hf)
  · refine mm_aload_n (mm_dc od_X10_asked_0 8 rfl) rfl ?_
    refine mm_getR (ci := 10) (k := 33) (mm_dc od_X10_asked_0 9 rfl) rfl in_X10 (by decide) wd_4_145 rfl rfl ?_
    refine mm_iload (mm_dc od_X10_asked_0 10 rfl) rfl ?_
    refine mm_iald (mm_dc od_X10_asked_0 11 rfl) rfl (by first | assumption | omega | exact hr _ _ rfl | exact mm_ti _ | exact mm_r3264 (hr _ _ rfl)) (by first | assumption | omega | exact hr _ _ rfl | exact mm_ti _ | exact mm_r3264 (hr _ _ rfl)) (by decide) ?_
    refine mm_cst (st' := [v_i (M 76 j)]) rfl ?_
    refine mm_iconst (mm_dc od_X10_asked_0 12 rfl) ?_
    refine mm_icmp_eq 41 (mm_dc od_X10_asked_0 13 rfl) (by omega) (by first | assumption | omega | exact hr _ _ rfl | exact mm_ti _ | exact mm_r3264 (hr _ _ rfl)) (by first | assumption | omega | exact hr _ _ rfl | exact mm_ti _ | exact mm_r3264 (hr _ _ rfl)) (fun c2 => ?_) (fun c2 => ?_)
    · refine mm_iconst (mm_dc od_X10_asked_0 23 rfl) ?_
      refine mm_goto 46 (mm_dc od_X10_asked_0 24 rfl) (by omega) ?_
      refine mm_istore (L' := [(0, v_r 50), (1, v_i b), (2, v_i hour), (3, v_i f), (4, v_i (j : Int)), (5, v_i 1)]) (mm_dc od_X10_asked_0 26 rfl) (by decide) rfl ?_
      refine mm_iconst (mm_dc od_X10_asked_0 27 rfl) ?_
      refine mm_istore (L' := [(0, v_r 50), (1, v_i b), (2, v_i hour), (3, v_i f), (4, v_i (j : Int)), (5, v_i 1), (6, v_i 0)]) (mm_dc od_X10_asked_0 28 rfl) (by decide) rfl ?_
      refine mm_less [0, 1, 2, 3, 4, 5, 6] rfl (L_askI b hour hb hh hJom hJbm hJwm hJrum hr f j (by omega) (fun y hy => L_askT b hour hb hh hJom hJbm hJwm hJrum hr f j y (by omega) (by omega) (fun e => L_askO b hour hb hh hJom hJbm hJwm hJrum hr k (j : Int) (j + 1) (lastP_new (by rcases hy with q | q; exact q.2; omega)) (by omega)) (fun e => L_askO b hour hb hh hJom hJbm hJwm hJrum hr k f (j + 1) (lastP_old hf (by rcases hy with q | q; omega; exact q.2)) (by omega))) 1 0 (Or.inl ⟨rfl, by omega, fun t ht => by omega⟩) (by have := (hU1 (by omega)).2.2.1.1; omega))
    · refine mm_aload_n (mm_dc od_X10_asked_0 14 rfl) rfl ?_
      refine mm_getR (ci := 10) (k := 33) (mm_dc od_X10_asked_0 15 rfl) rfl in_X10 (by decide) wd_4_145 rfl rfl ?_
      refine mm_iload (mm_dc od_X10_asked_0 16 rfl) rfl ?_
      refine mm_iald (mm_dc od_X10_asked_0 17 rfl) rfl (by first | assumption | omega | exact hr _ _ rfl | exact mm_ti _ | exact mm_r3264 (hr _ _ rfl)) (by first | assumption | omega | exact hr _ _ rfl | exact mm_ti _ | exact mm_r3264 (hr _ _ rfl)) (by decide) ?_
      refine mm_cst (st' := [v_i (M 76 j)]) rfl ?_
      refine mm_aload_n (mm_dc od_X10_asked_0 18 rfl) rfl ?_
      refine mm_getR (ci := 10) (k := 6) (mm_dc od_X10_asked_0 19 rfl) rfl in_X10 (by decide) wd_4_118 rfl rfl ?_
      refine mm_iload_n (mm_dc od_X10_asked_0 20 rfl) rfl ?_
      refine mm_iald (mm_dc od_X10_asked_0 21 rfl) rfl (by first | assumption | omega | exact hr _ _ rfl | exact mm_ti _ | exact mm_r3264 (hr _ _ rfl)) (by first | assumption | omega | exact hr _ _ rfl | exact mm_ti _ | exact mm_r3264 (hr _ _ rfl)) (by decide) ?_
      refine mm_icmp_ne 45 (mm_dc od_X10_asked_0 22 rfl) (by omega) (by first | assumption | omega | exact hr _ _ rfl | exact mm_ti _ | exact mm_r3264 (hr _ _ rfl)) (by first | assumption | omega | exact hr _ _ rfl | exact mm_ti _ | exact mm_r3264 (hr _ _ rfl)) (fun c3 => ?_) (fun c3 => ?_)
      · refine mm_iconst (mm_dc od_X10_asked_0 25 rfl) ?_
        refine mm_istore (L' := [(0, v_r 50), (1, v_i b), (2, v_i hour), (3, v_i f), (4, v_i (j : Int)), (5, v_i 0)]) (mm_dc od_X10_asked_0 26 rfl) (by decide) rfl ?_
        refine mm_iconst (mm_dc od_X10_asked_0 27 rfl) ?_
        refine mm_istore (L' := [(0, v_r 50), (1, v_i b), (2, v_i hour), (3, v_i f), (4, v_i (j : Int)), (5, v_i 0), (6, v_i 0)]) (mm_dc od_X10_asked_0 28 rfl) (by decide) rfl ?_
        refine mm_less [0, 1, 2, 3, 4, 5, 6] rfl (L_askI b hour hb hh hJom hJbm hJwm hJrum hr f j (by omega) (fun y hy => L_askT b hour hb hh hJom hJbm hJwm hJrum hr f j y (by omega) (by omega) (fun e => L_askO b hour hb hh hJom hJbm hJwm hJrum hr k (j : Int) (j + 1) (lastP_new (by rcases hy with q | q; exact q.2; omega)) (by omega)) (fun e => L_askO b hour hb hh hJom hJbm hJwm hJrum hr k f (j + 1) (lastP_old hf (by rcases hy with q | q; omega; exact q.2)) (by omega))) 0 0 (Or.inr ⟨rfl, fun q => by have := q.1; omega⟩) (by have := (hU1 (by omega)).2.2.1.1; omega))
      · refine mm_iconst (mm_dc od_X10_asked_0 23 rfl) ?_
        refine mm_goto 46 (mm_dc od_X10_asked_0 24 rfl) (by omega) ?_
        refine mm_istore (L' := [(0, v_r 50), (1, v_i b), (2, v_i hour), (3, v_i f), (4, v_i (j : Int)), (5, v_i 1)]) (mm_dc od_X10_asked_0 26 rfl) (by decide) rfl ?_
        refine mm_iconst (mm_dc od_X10_asked_0 27 rfl) ?_
        refine mm_istore (L' := [(0, v_r 50), (1, v_i b), (2, v_i hour), (3, v_i f), (4, v_i (j : Int)), (5, v_i 1), (6, v_i 0)]) (mm_dc od_X10_asked_0 28 rfl) (by decide) rfl ?_
        refine mm_less [0, 1, 2, 3, 4, 5, 6] rfl (L_askI b hour hb hh hJom hJbm hJwm hJrum hr f j (by omega) (fun y hy => L_askT b hour hb hh hJom hJbm hJwm hJrum hr f j y (by omega) (by omega) (fun e => L_askO b hour hb hh hJom hJbm hJwm hJrum hr k (j : Int) (j + 1) (lastP_new (by rcases hy with q | q; exact q.2; omega)) (by omega)) (fun e => L_askO b hour hb hh hJom hJbm hJwm hJrum hr k f (j + 1) (lastP_old hf (by rcases hy with q | q; omega; exact q.2)) (by omega))) 1 0 (Or.inl ⟨rfl, by omega, fun t ht => by omega⟩) (by have := (hU1 (by omega)).2.2.1.1; omega))
termination_by (M 50 30).toNat - j
decreasing_by all_goals (first | omega | (simp_wf; omega))
theorem c_X10_asked {X : Nat × (Nat → Int)} {d : Nat} {Po : mm_Po} {M : mm_M} (b : Int) (hour : Int) (hb : 0 ≤ b ∧ b < M 50 11) (hh : 0 ≤ hour ∧ hour ≤ 23) (hJom : JOm M) (hJbm : JBm M) (hJwm : JWm M) (hJrum : JRum M) (hr : R32 M) (k : ∀ r : Int, (lastP (rulM M (nowM M b hour) (M 57 b.toNat)) r (M 50 30).toNat) → Po (some (v_i r)) Lam M) : mm_E X (d + 3) 0 0 mi_X10_asked [v_r 50, v_i b, v_i hour] Po Lam M := by
  show mm_G X (d + 3) 0 0 mi_X10_asked Po 0 [(0, v_r 50), (1, v_i b), (2, v_i hour)] [] Lam M 0 0
  refine mm_iconst (mm_dc od_X10_asked_0 0 rfl) ?_
  refine mm_istore_n (L' := [(0, v_r 50), (1, v_i b), (2, v_i hour), (3, v_i (-1))]) (mm_dc od_X10_asked_0 1 rfl) (by decide) rfl ?_
  refine mm_iconst (mm_dc od_X10_asked_0 2 rfl) ?_
  refine mm_istore (L' := [(0, v_r 50), (1, v_i b), (2, v_i hour), (3, v_i (-1)), (4, v_i 0)]) (mm_dc od_X10_asked_0 3 rfl) (by decide) rfl ?_
  exact L_askO b hour hb hh hJom hJbm hJwm hJrum hr k (-1) 0 lastP_0 (by have := hJrum.1; omega)
