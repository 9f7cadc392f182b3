/-! where a boat broke -/
def JL (M : mm_M) : Prop := 0 ≤ M 35 0 ∧ M 35 0 ≤ 30 ∧ 0 ≤ M 35 5 ∧ M 35 5 ≤ 60 ∧ ∀ i : Nat, (i : Int) < M 35 5 → (0 ≤ M 40 i ∧ M 40 i < 8) ∧ (M 41 i = 0 ∨ M 41 i = 1) ∧ 0 ≤ M 42 i ∧ M 42 i ≤ M 35 0
def JLm (M : mm_M) : Prop := 0 ≤ M 50 44 ∧ M 50 44 ≤ 30 ∧ 0 ≤ M 50 45 ∧ M 50 45 ≤ 60 ∧ ∀ i : Nat, (i : Int) < M 50 45 → (0 ≤ M 83 i ∧ M 83 i < 8) ∧ (M 85 i = 0 ∨ M 85 i = 1) ∧ 0 ≤ M 84 i ∧ M 84 i ≤ M 50 44
theorem inv_JL {M : mm_M} (hI : inv M) : JL M ∧ JLm M := by
  have hI0 := hI
  obtain ⟨hr, hJo, hJb, hJr, hJom, hJbm, v0, v1, v2, v3, v4, v5, v6, v7, v8, v9⟩ := hI0
  have jo := hJo; have jb := hJb; have jr := hJr; have jom := hJom; have jbm := hJbm
  obtain ⟨ho0, ho16, hO⟩ := jo
  obtain ⟨hb0, hb8, hB⟩ := jb
  obtain ⟨hr0, hr40, hRr⟩ := jr
  obtain ⟨go0, go16, gO⟩ := jom
  obtain ⟨gb0, gb8, gB⟩ := jbm
  have w1 := v1.1; have w2 := v2.1; have w3 := v3.1; have w4 := v4.1; have w5 := v5.1; have w6 := v6.1; have w7 := v7.1.1; have w7b := v7.2.1.1; have w8 := v8.1; have w8b := v8.2.2.2.1
  obtain ⟨⟨x1, x2, x3, x4⟩, ⟨y1, y2, y3, y4⟩, _⟩ := v7
  refine ⟨⟨x2, x3, y2, y3, fun i hi => ?_⟩, ⟨by omega, by omega, by omega, by omega, fun i hi => ?_⟩⟩
  · have h := y4 i hi
    omega
  · have h := y4 i (by omega)
    omega
/-- the first of a stretch -/
def midP (P : Nat → Prop) (f : Int) (a b : Int) : Prop := (f = -1 ∧ ∀ i : Nat, a ≤ i → (i : Int) < b → ¬ P i) ∨ (a ≤ f ∧ f < b ∧ P f.toNat ∧ ∀ i : Nat, a ≤ i → (i : Int) < f → ¬ P i)
theorem midP_one {P : Nat → Prop} {f g a b : Int} (ha : 0 ≤ a) (h : midP P f a b) (h2 : midP P g a b) : f = g := by
  rcases h with ⟨h1, x⟩ | ⟨h1, b1, c1, d1⟩ <;> rcases h2 with ⟨g1, e⟩ | ⟨g1, b2, c2, d2⟩
  · omega
  · exact absurd c2 (x g.toNat (by omega) (by omega))
  · exact absurd c1 (e f.toNat (by omega) (by omega))
  · rcases Int.lt_or_le f g with q | q
    · exact absurd c1 (d2 f.toNat (by omega) (by omega))
    · rcases Int.lt_or_le g f with q2 | q2
      · exact absurd c2 (d1 g.toNat (by omega) (by omega))
      · omega
theorem midP_cong {P Q : Nat → Prop} {f a b : Int} (ha : 0 ≤ a) (h : midP P f a b) (he : ∀ i : Nat, (i : Int) < b → (P i ↔ Q i)) : midP Q f a b := by
  rcases h with ⟨h1, h2⟩ | ⟨h1, h2, h3, h4⟩
  · exact Or.inl ⟨h1, fun i hi hb hq => h2 i hi hb ((he i hb).mpr hq)⟩
  · exact Or.inr ⟨h1, h2, (he _ (by omega)).mp h3, fun i hi hb hq => h4 i hi hb ((he i (by omega)).mpr hq)⟩
theorem midP_ex {P : Nat → Prop} (a : Int) (ha : 0 ≤ a) : ∀ n : Nat, ∃ f, midP P f a (a + n)
  | 0 => ⟨-1, Or.inl ⟨rfl, fun i h1 h2 => by omega⟩⟩
  | n + 1 => by
    obtain ⟨f, h⟩ := midP_ex a ha n
    rcases h with ⟨h1, h2⟩ | ⟨h1, h2, h3, h4⟩
    · by_cases hp : P (a.toNat + n)
      · exact ⟨a + n, Or.inr ⟨by omega, by omega, by rw [show (a + (n : Int)).toNat = a.toNat + n by omega]; exact hp, fun i hi hb => h2 i hi hb⟩⟩
      · refine ⟨-1, Or.inl ⟨rfl, fun i hi hb => ?_⟩⟩
        by_cases e : (i : Int) < a + n
        · exact h2 i hi e
        · rw [show i = a.toNat + n by omega]; exact hp
    · exact ⟨f, Or.inr ⟨h1, by omega, h3, h4⟩⟩
theorem midP_rng {P : Nat → Prop} {f a b : Int} (h : midP P f a b) : f = -1 ∨ (a ≤ f ∧ f < b) := by
  rcases h with ⟨h1, h2⟩ | ⟨h1, h2, h3, h4⟩ <;> omega
/-- how many of a stretch -/
def midc (C : Nat → Bool) (a b : Int) : Int := rowc (fun k => C (a.toNat + k)) (b - a).toNat
def begQ (ah : Nat → Int) (f : Int) : Int := if f = -1 then 0 else ah f.toNat
def brokenQ (M : mm_M) (b : Int) : Prop := ∃ f : Int, lastP (fun i => M 40 i = b) f (M 35 5).toNat ∧ f ≠ -1 ∧ M 41 f.toNat = 0
def brkQ (ww : Nat → Int) (l f : Int) : Prop := ww l.toNat = 0 ∧ (f = -1 ∨ ww f.toNat = 1)
theorem L_latest {X : Nat × (Nat → Int)} {d : Nat} {Po : mm_Po} {M : mm_M} (b : Int) (hb : mm_r32 b) (e : Int) (he : 0 ≤ e ∧ e ≤ M 35 5) (hJl : JL M) (hr : R32 M) (k : ∀ r : Int, lastP (fun i => M 40 i = b) r e.toNat → Po (some (v_i r)) Lam M) (j : Nat) (hj : ∀ i : Nat, j ≤ i → i < e.toNat → ¬ M 40 i = b) (hj2 : (j : Int) ≤ e) : mm_G X d 0 0 mi_X3_latestLook Po 4 [(0, v_r 35), (1, v_i b), (2, v_i e), (3, v_i ((j : Int) - 1))] [] Lam M 0 0 := by
  have hJl2 := hJl
  obtain ⟨hu0, hu30, hl0, hl60, hL⟩ := hJl2
  refine mm_iload_n (mm_dc od_X3_latestLook_0 4 rfl) rfl ?_
  refine mm_if_lt 26 (mm_dc od_X3_latestLook_0 5 rfl) (by omega) (by first | assumption | omega | exact hr _ _ rfl | exact mm_ti _ | exact mm_r3264 (hr _ _ rfl)) (fun c1 => ?_) (fun c1 => ?_)
  · refine mm_iconst (mm_dc od_X3_latestLook_0 16 rfl) ?_
    refine mm_iret (mm_dc od_X3_latestLook_0 17 rfl) rfl ?_
    exact k _ (Or.inl ⟨rfl, fun i hi => hj i (by omega) hi⟩)
  · refine mm_aload_n (mm_dc od_X3_latestLook_0 6 rfl) rfl ?_
    refine mm_getR (ci := 3) (k := 6) (mm_dc od_X3_latestLook_0 7 rfl) rfl in_X3 (by decide) wd_1_219 rfl rfl ?_
    refine mm_iload_n (mm_dc od_X3_latestLook_0 8 rfl) rfl ?_
    refine mm_iald (mm_dc od_X3_latestLook_0 9 rfl) rfl (by first | assumption | omega | exact hr _ _ rfl | exact mm_ti _ | exact mm_r3264 (hr _ _ rfl)) (by first | assumption | omega | exact hr _ _ rfl | exact mm_ti _ | exact mm_r3264 (hr _ _ rfl)) (by decide) ?_
    refine mm_iload_n (mm_dc od_X3_latestLook_0 10 rfl) rfl ?_
    refine mm_icmp_ne 20 (mm_dc od_X3_latestLook_0 11 rfl) (by omega) (by first | assumption | omega | exact hr _ _ rfl | exact mm_ti _ | exact mm_r3264 (hr _ _ rfl)) (by first | assumption | omega | exact hr _ _ rfl | exact mm_ti _ | exact mm_r3264 (hr _ _ rfl)) (fun c2 => ?_) (fun c2 => ?_)
    · refine mm_iinc (L' := [(0, v_r 35), (1, v_i b), (2, v_i e), (3, v_i (((j : Int) - 1) + (-1)))]) (mm_dc od_X3_latestLook_0 14 rfl) rfl (by decide) rfl ?_
      refine mm_goto 4 (mm_dc od_X3_latestLook_0 15 rfl) (by omega) ?_
      refine mm_cL (L' := [(0, v_r 35), (1, v_i b), (2, v_i e), (3, v_i (((j - 1 : Nat) : Int) - 1))]) (by rw [show (j : Int) - 1 + (-1) = ((j - 1 : Nat) : Int) - 1 by omega]) ?_
      exact L_latest b hb e he hJl hr k (j - 1) (fun i h1 h2 => by by_cases q : i = j - 1; rw [q]; have q2 : ((j : Int) - 1).toNat = j - 1 := (by omega); rw [← q2]; assumption; exact hj i (by omega) h2) (by omega)
    · refine mm_iload_n (mm_dc od_X3_latestLook_0 12 rfl) rfl ?_
      refine mm_iret (mm_dc od_X3_latestLook_0 13 rfl) rfl ?_
      exact k _ (Or.inr ⟨by omega, by omega, by assumption, fun i h1 h2 => hj i (by omega) h2⟩)
termination_by j
decreasing_by all_goals (first | omega | (simp_wf; omega))
theorem c_X3_latestLook {X : Nat × (Nat → Int)} {d : Nat} {Po : mm_Po} {M : mm_M} (b : Int) (e : Int) (hb : mm_r32 b) (he : 0 ≤ e ∧ e ≤ M 35 5) (hJl : JL M) (hr : R32 M) (k : ∀ r : Int, (lastP (fun i => M 40 i = b) r e.toNat) → Po (some (v_i r)) Lam M) : mm_E X d 0 0 mi_X3_latestLook [v_r 35, v_i b, v_i e] Po Lam M := by
  show mm_G X d 0 0 mi_X3_latestLook Po 0 [(0, v_r 35), (1, v_i b), (2, v_i e)] [] Lam M 0 0
  have hJl2 := hJl
  obtain ⟨hu0, hu30, hl0, hl60, hL⟩ := hJl2
  refine mm_iload_n (mm_dc od_X3_latestLook_0 0 rfl) rfl ?_
  refine mm_iconst (mm_dc od_X3_latestLook_0 1 rfl) ?_
  refine mm_isub (mm_dc od_X3_latestLook_0 2 rfl) ?_
  refine mm_istore_n (L' := [(0, v_r 35), (1, v_i b), (2, v_i e), (3, v_i (e - 1))]) (mm_dc od_X3_latestLook_0 3 rfl) (by decide) rfl ?_
  refine mm_cL (L' := [(0, v_r 35), (1, v_i b), (2, v_i e), (3, v_i ((e.toNat : Int) - 1))]) (by rw [show (e.toNat : Int) = e by omega]) ?_
  exact L_latest b hb e he hJl hr k e.toNat (fun i h1 h2 => by omega) (by omega)
theorem c_X3_isBroken {X : Nat × (Nat → Int)} {d : Nat} {Po : mm_Po} {M : mm_M} (b : Int) (hb : 0 ≤ b ∧ b < 8) (hJl : JL M) (hr : R32 M) (kt : brokenQ M b → Po (some (v_i 1)) Lam M) (kf : ¬ (brokenQ M b) → Po (some (v_i 0)) Lam M) : mm_E X (d + 1) 0 0 mi_X3_isBroken [v_r 35, v_i b] Po Lam M := by
  show mm_G X (d + 1) 0 0 mi_X3_isBroken Po 0 [(0, v_r 35), (1, v_i b)] [] Lam M 0 0
  have hJl2 := hJl
  obtain ⟨hu0, hu30, hl0, hl60, hL⟩ := hJl2
  refine mm_aload_n (mm_dc od_X3_isBroken_0 0 rfl) rfl ?_
  refine mm_iload_n (mm_dc od_X3_isBroken_0 1 rfl) rfl ?_
  refine mm_aload_n (mm_dc od_X3_isBroken_0 2 rfl) rfl ?_
  refine mm_getI (ci := 3) (k := 5) (mm_dc od_X3_isBroken_0 3 rfl) rfl in_X3 (by decide) wd_1_217 rfl rfl ?_
  refine mm_callV (b := 35) (mi' := mi_X3_latestLook) [v_i b, v_i (M 35 5)] [] (mm_dc od_X3_isBroken_0 4 rfl) rfl wd_3_213 wd_3_215 wd_p_16 wd_1_8 wd_3_216 yk_X3_latestLook rfl rfl rfl (Nat.le_of_ble_eq_true rfl) rfl (by decide) (c_X3_latestLook b (M 35 5) (by first | assumption | omega | exact hr _ _ rfl | exact mm_ti _ | exact mm_r3264 (hr _ _ rfl)) (by first | assumption | omega | exact hr _ _ rfl | exact mm_ti _ | exact mm_r3264 (hr _ _ rfl)) hJl (by first | assumption | omega | exact hr _ _ rfl | exact mm_ti _ | exact mm_r3264 (hr _ _ rfl)) (fun r1 hq2 => ⟨Nat.le_refl _, ?_⟩))
  have hq2_r := lastP_rng hq2
  refine mm_istore_n (L' := [(0, v_r 35), (1, v_i b), (2, v_i r1)]) (mm_dc od_X3_isBroken_0 5 rfl) (by decide) rfl ?_
  refine mm_iload_n (mm_dc od_X3_isBroken_0 6 rfl) rfl ?_
  refine mm_iconst (mm_dc od_X3_isBroken_0 7 rfl) ?_
  refine mm_icmp_eq 28 (mm_dc od_X3_isBroken_0 8 rfl) (by omega) (by first | assumption | omega | exact hr _ _ rfl | exact mm_ti _ | exact mm_r3264 (hr _ _ rfl)) (by first | assumption | omega | exact hr _ _ rfl | exact mm_ti _ | exact mm_r3264 (hr _ _ rfl)) (fun c3 => ?_) (fun c3 => ?_)
  · refine mm_iconst (mm_dc od_X3_isBroken_0 16 rfl) ?_
    refine mm_zret .boolean (mm_dc od_X3_isBroken_0 17 rfl) rfl rfl ?_
    exact kf (fun ⟨f, q1, q2, q3⟩ => by have e := lastP_one q1 hq2; subst e; contradiction)
  · refine mm_aload_n (mm_dc od_X3_isBroken_0 9 rfl) rfl ?_
    refine mm_getR (ci := 3) (k := 7) (mm_dc od_X3_isBroken_0 10 rfl) rfl in_X3 (by decide) wd_1_220 rfl rfl ?_
    refine mm_iload_n (mm_dc od_X3_isBroken_0 11 rfl) rfl ?_
    refine mm_iald (mm_dc od_X3_isBroken_0 12 rfl) rfl (by first | assumption | omega | exact hr _ _ rfl | exact mm_ti _ | exact mm_r3264 (hr _ _ rfl)) (by first | assumption | omega | exact hr _ _ rfl | exact mm_ti _ | exact mm_r3264 (hr _ _ rfl)) (by decide) ?_
    refine mm_if_ne 28 (mm_dc od_X3_isBroken_0 13 rfl) (by omega) (by first | assumption | omega | exact hr _ _ rfl | exact mm_ti _ | exact mm_r3264 (hr _ _ rfl)) (fun c4 => ?_) (fun c4 => ?_)
    · refine mm_iconst (mm_dc od_X3_isBroken_0 16 rfl) ?_
      refine mm_zret .boolean (mm_dc od_X3_isBroken_0 17 rfl) rfl rfl ?_
      exact kf (fun ⟨f, q1, q2, q3⟩ => by have e := lastP_one q1 hq2; subst e; contradiction)
    · refine mm_iconst (mm_dc od_X3_isBroken_0 14 rfl) ?_
      refine mm_goto 29 (mm_dc od_X3_isBroken_0 15 rfl) (by omega) ?_
      refine mm_zret .boolean (mm_dc od_X3_isBroken_0 17 rfl) rfl rfl ?_
      exact kt ⟨_, by assumption, by assumption, by assumption⟩
theorem c_X3_brokeAt {X : Nat × (Nat → Int)} {d : Nat} {Po : mm_Po} {M : mm_M} (l : Int) (hl : 0 ≤ l ∧ l < M 35 5) (hJl : JL M) (hr : R32 M) (k : ∀ r : Int, (∃ f : Int, lastP (fun i => M 40 i = M 40 l.toNat) f l.toNat ∧ ((r = 1 ∧ brkQ (M 41) l f) ∨ (r = 0 ∧ ¬ brkQ (M 41) l f))) → Po (some (v_i r)) Lam M) : mm_E X (d + 1) 0 0 mi_X3_brokeAt [v_r 35, v_i l] Po Lam M := by
  show mm_G X (d + 1) 0 0 mi_X3_brokeAt Po 0 [(0, v_r 35), (1, v_i l)] [] Lam M 0 0
  have hJl2 := hJl
  obtain ⟨hu0, hu30, hl0, hl60, hL⟩ := hJl2
  have hLl := hL l.toNat (by omega)
  refine mm_aload_n (mm_dc od_X3_brokeAt_0 0 rfl) rfl ?_
  refine mm_aload_n (mm_dc od_X3_brokeAt_0 1 rfl) rfl ?_
  refine mm_getR (ci := 3) (k := 6) (mm_dc od_X3_brokeAt_0 2 rfl) rfl in_X3 (by decide) wd_1_219 rfl rfl ?_
  refine mm_iload_n (mm_dc od_X3_brokeAt_0 3 rfl) rfl ?_
  refine mm_iald (mm_dc od_X3_brokeAt_0 4 rfl) rfl (by first | assumption | omega | exact hr _ _ rfl | exact mm_ti _ | exact mm_r3264 (hr _ _ rfl)) (by first | assumption | omega | exact hr _ _ rfl | exact mm_ti _ | exact mm_r3264 (hr _ _ rfl)) (by decide) ?_
  refine mm_iload_n (mm_dc od_X3_brokeAt_0 5 rfl) rfl ?_
  refine mm_callV (b := 35) (mi' := mi_X3_latestLook) [v_i (M 40 (Int.toNat l)), v_i l] [] (mm_dc od_X3_brokeAt_0 6 rfl) rfl wd_3_213 wd_3_215 wd_p_16 wd_1_8 wd_3_216 yk_X3_latestLook rfl rfl rfl (Nat.le_of_ble_eq_true rfl) rfl (by decide) (c_X3_latestLook (M 40 (Int.toNat l)) l (by first | assumption | omega | exact hr _ _ rfl | exact mm_ti _ | exact mm_r3264 (hr _ _ rfl)) (by first | assumption | omega | exact hr _ _ rfl | exact mm_ti _ | exact mm_r3264 (hr _ _ rfl)) hJl (by first | assumption | omega | exact hr _ _ rfl | exact mm_ti _ | exact mm_r3264 (hr _ _ rfl)) (fun r1 hq2 => ⟨Nat.le_refl _, ?_⟩))
  have hq2_r := lastP_rng hq2
  refine mm_istore_n (L' := [(0, v_r 35), (1, v_i l), (2, v_i r1)]) (mm_dc od_X3_brokeAt_0 7 rfl) (by decide) rfl ?_
  refine mm_aload_n (mm_dc od_X3_brokeAt_0 8 rfl) rfl ?_
  refine mm_getR (ci := 3) (k := 7) (mm_dc od_X3_brokeAt_0 9 rfl) rfl in_X3 (by decide) wd_1_220 rfl rfl ?_
  refine mm_iload_n (mm_dc od_X3_brokeAt_0 10 rfl) rfl ?_
  refine mm_iald (mm_dc od_X3_brokeAt_0 11 rfl) rfl (by first | assumption | omega | exact hr _ _ rfl | exact mm_ti _ | exact mm_r3264 (hr _ _ rfl)) (by first | assumption | omega | exact hr _ _ rfl | exact mm_ti _ | exact mm_r3264 (hr _ _ rfl)) (by decide) ?_
  refine mm_if_ne 40 (mm_dc od_X3_brokeAt_0 12 rfl) (by omega) (by first | assumption | omega | exact hr _ _ rfl | exact mm_ti _ | exact mm_r3264 (hr _ _ rfl)) (fun c3 => ?_) (fun c3 => ?_)
  · refine mm_iconst (mm_dc od_X3_brokeAt_0 24 rfl) ?_
    refine mm_zret .boolean (mm_dc od_X3_brokeAt_0 25 rfl) rfl rfl ?_
    exact k _ ⟨r1, hq2, Or.inr ⟨rfl, by unfold brkQ; omega⟩⟩
  · refine mm_iload_n (mm_dc od_X3_brokeAt_0 13 rfl) rfl ?_
    refine mm_iconst (mm_dc od_X3_brokeAt_0 14 rfl) ?_
    refine mm_icmp_eq 36 (mm_dc od_X3_brokeAt_0 15 rfl) (by omega) (by first | assumption | omega | exact hr _ _ rfl | exact mm_ti _ | exact mm_r3264 (hr _ _ rfl)) (by first | assumption | omega | exact hr _ _ rfl | exact mm_ti _ | exact mm_r3264 (hr _ _ rfl)) (fun c4 => ?_) (fun c4 => ?_)
    · refine mm_iconst (mm_dc od_X3_brokeAt_0 22 rfl) ?_
      refine mm_goto 41 (mm_dc od_X3_brokeAt_0 23 rfl) (by omega) ?_
      refine mm_zret .boolean (mm_dc od_X3_brokeAt_0 25 rfl) rfl rfl ?_
      exact k _ ⟨r1, hq2, Or.inl ⟨rfl, by unfold brkQ; omega⟩⟩
    · refine mm_aload_n (mm_dc od_X3_brokeAt_0 16 rfl) rfl ?_
      refine mm_getR (ci := 3) (k := 7) (mm_dc od_X3_brokeAt_0 17 rfl) rfl in_X3 (by decide) wd_1_220 rfl rfl ?_
      refine mm_iload_n (mm_dc od_X3_brokeAt_0 18 rfl) rfl ?_
      refine mm_iald (mm_dc od_X3_brokeAt_0 19 rfl) rfl (by first | assumption | omega | exact hr _ _ rfl | exact mm_ti _ | exact mm_r3264 (hr _ _ rfl)) (by first | assumption | omega | exact hr _ _ rfl | exact mm_ti _ | exact mm_r3264 (hr _ _ rfl)) (by decide) ?_
      refine mm_iconst (mm_dc od_X3_brokeAt_0 20 rfl) ?_
      refine mm_icmp_ne 40 (mm_dc od_X3_brokeAt_0 21 rfl) (by omega) (by first | assumption | omega | exact hr _ _ rfl | exact mm_ti _ | exact mm_r3264 (hr _ _ rfl)) (by first | assumption | omega | exact hr _ _ rfl | exact mm_ti _ | exact mm_r3264 (hr _ _ rfl)) (fun c5 => ?_) (fun c5 => ?_)
      · refine mm_iconst (mm_dc od_X3_brokeAt_0 24 rfl) ?_
        refine mm_zret .boolean (mm_dc od_X3_brokeAt_0 25 rfl) rfl rfl ?_
        exact k _ ⟨r1, hq2, Or.inr ⟨rfl, by unfold brkQ; omega⟩⟩
      · refine mm_iconst (mm_dc od_X3_brokeAt_0 22 rfl) ?_
        refine mm_goto 41 (mm_dc od_X3_brokeAt_0 23 rfl) (by omega) ?_
        refine mm_zret .boolean (mm_dc od_X3_brokeAt_0 25 rfl) rfl rfl ?_
        exact k _ ⟨r1, hq2, Or.inl ⟨rfl, by unfold brkQ; omega⟩⟩
theorem brokeAt_r {P : Int → Prop} {Q : Int → Prop} {r : Int} (h : ∃ f : Int, P f ∧ ((r = 1 ∧ Q f) ∨ (r = 0 ∧ ¬ Q f))) : r = 0 ∨ r = 1 := by
  obtain ⟨f, _, h | h⟩ := h <;> omega
theorem c_X3_firstBehind {X : Nat × (Nat → Int)} {d : Nat} {Po : mm_Po} {M : mm_M} (l : Int) (hl : 0 ≤ l ∧ l < M 35 5) (hJl : JL M) (hr : R32 M) (k : ∀ r : Int, ((∃ f : Int, lastP (fun i => M 40 i = M 40 l.toNat) f l.toNat ∧ r = begQ (M 42) f) ∧ 0 ≤ r ∧ r ≤ M 35 0) → Po (some (v_i r)) Lam M) : mm_E X (d + 1) 0 0 mi_X3_firstBehind [v_r 35, v_i l] Po Lam M := by
  show mm_G X (d + 1) 0 0 mi_X3_firstBehind Po 0 [(0, v_r 35), (1, v_i l)] [] Lam M 0 0
  have hJl2 := hJl
  obtain ⟨hu0, hu30, hl0, hl60, hL⟩ := hJl2
  have hLl := hL l.toNat (by omega)
  refine mm_aload_n (mm_dc od_X3_firstBehind_0 0 rfl) rfl ?_
  refine mm_aload_n (mm_dc od_X3_firstBehind_0 1 rfl) rfl ?_
  refine mm_getR (ci := 3) (k := 6) (mm_dc od_X3_firstBehind_0 2 rfl) rfl in_X3 (by decide) wd_1_219 rfl rfl ?_
  refine mm_iload_n (mm_dc od_X3_firstBehind_0 3 rfl) rfl ?_
  refine mm_iald (mm_dc od_X3_firstBehind_0 4 rfl) rfl (by first | assumption | omega | exact hr _ _ rfl | exact mm_ti _ | exact mm_r3264 (hr _ _ rfl)) (by first | assumption | omega | exact hr _ _ rfl | exact mm_ti _ | exact mm_r3264 (hr _ _ rfl)) (by decide) ?_
  refine mm_iload_n (mm_dc od_X3_firstBehind_0 5 rfl) rfl ?_
  refine mm_callV (b := 35) (mi' := mi_X3_latestLook) [v_i (M 40 (Int.toNat l)), v_i l] [] (mm_dc od_X3_firstBehind_0 6 rfl) rfl wd_3_213 wd_3_215 wd_p_16 wd_1_8 wd_3_216 yk_X3_latestLook rfl rfl rfl (Nat.le_of_ble_eq_true rfl) rfl (by decide) (c_X3_latestLook (M 40 (Int.toNat l)) l (by first | assumption | omega | exact hr _ _ rfl | exact mm_ti _ | exact mm_r3264 (hr _ _ rfl)) (by first | assumption | omega | exact hr _ _ rfl | exact mm_ti _ | exact mm_r3264 (hr _ _ rfl)) hJl (by first | assumption | omega | exact hr _ _ rfl | exact mm_ti _ | exact mm_r3264 (hr _ _ rfl)) (fun r1 hq2 => ⟨Nat.le_refl _, ?_⟩))
  have hq2_r := lastP_rng hq2
  refine mm_istore_n (L' := [(0, v_r 35), (1, v_i l), (2, v_i r1)]) (mm_dc od_X3_firstBehind_0 7 rfl) (by decide) rfl ?_
  refine mm_iload_n (mm_dc od_X3_firstBehind_0 8 rfl) rfl ?_
  refine mm_iconst (mm_dc od_X3_firstBehind_0 9 rfl) ?_
  refine mm_icmp_ne 21 (mm_dc od_X3_firstBehind_0 10 rfl) (by omega) (by first | assumption | omega | exact hr _ _ rfl | exact mm_ti _ | exact mm_r3264 (hr _ _ rfl)) (by first | assumption | omega | exact hr _ _ rfl | exact mm_ti _ | exact mm_r3264 (hr _ _ rfl)) (fun c3 => ?_) (fun c3 => ?_)
  · refine mm_aload_n (mm_dc od_X3_firstBehind_0 13 rfl) rfl ?_
    refine mm_getR (ci := 3) (k := 8) (mm_dc od_X3_firstBehind_0 14 rfl) rfl in_X3 (by decide) wd_1_221 rfl rfl ?_
    refine mm_iload_n (mm_dc od_X3_firstBehind_0 15 rfl) rfl ?_
    refine mm_iald (mm_dc od_X3_firstBehind_0 16 rfl) rfl (by first | assumption | omega | exact hr _ _ rfl | exact mm_ti _ | exact mm_r3264 (hr _ _ rfl)) (by first | assumption | omega | exact hr _ _ rfl | exact mm_ti _ | exact mm_r3264 (hr _ _ rfl)) (by decide) ?_
    refine mm_iret (mm_dc od_X3_firstBehind_0 17 rfl) rfl ?_
    exact k _ ⟨⟨r1, hq2, by unfold begQ; first | rw [if_pos (show r1 = -1 by omega)] | rw [if_neg (show ¬ r1 = -1 by omega)]⟩, by first | omega | (have q := hL r1.toNat (by omega); omega)⟩
  · refine mm_iconst (mm_dc od_X3_firstBehind_0 11 rfl) ?_
    refine mm_goto 27 (mm_dc od_X3_firstBehind_0 12 rfl) (by omega) ?_
    refine mm_iret (mm_dc od_X3_firstBehind_0 17 rfl) rfl ?_
    exact k _ ⟨⟨r1, hq2, by unfold begQ; first | rw [if_pos (show r1 = -1 by omega)] | rw [if_neg (show ¬ r1 = -1 by omega)]⟩, by first | omega | (have q := hL r1.toNat (by omega); omega)⟩
theorem behind_r {P : Int → Prop} {r o : Int} (h : (∃ f : Int, P f) ∧ 0 ≤ r ∧ r ≤ o) : 0 ≤ r ∧ r ≤ o := h.2
theorem L_sus {X : Nat × (Nat → Int)} {d : Nat} {Po : mm_Po} {M : mm_M} (l : Int) (hl : 0 ≤ l ∧ l < M 35 5) (hJl : JL M) (hr : R32 M) (a : Int) (ha : 0 ≤ a ∧ a ≤ M 35 0) (k : Po (some (v_i (midc (fun i => decide (M 36 i = M 40 l.toNat)) a (M 42 l.toNat)))) Lam M) (j : Nat) (hj : (j : Int) ≤ (M 42 l.toNat - a).toNat) : mm_G X (d + 2) 0 0 mi_X3_suspects Po 8 [(0, v_r 35), (1, v_i l), (2, v_i (0 + rowc (fun k => decide (M 36 (a.toNat + k) = M 40 l.toNat)) j)), (3, v_i (a + (j : Int)))] [] Lam M 0 0 := by
  have hJl2 := hJl
  obtain ⟨hu0, hu30, hl0, hl60, hL⟩ := hJl2
  have hLl := hL l.toNat (by omega)
  have haj : (a + (j : Int)).toNat = a.toNat + j := (by omega)
  have hrc := rowc_r (fun k => decide (M 36 (a.toNat + k) = M 40 l.toNat)) j
  refine mm_iload_n (mm_dc od_X3_suspects_0 6 rfl) rfl ?_
  refine mm_aload_n (mm_dc od_X3_suspects_0 7 rfl) rfl ?_
  refine mm_getR (ci := 3) (k := 8) (mm_dc od_X3_suspects_0 8 rfl) rfl in_X3 (by decide) wd_1_221 rfl rfl ?_
  refine mm_iload_n (mm_dc od_X3_suspects_0 9 rfl) rfl ?_
  refine mm_iald (mm_dc od_X3_suspects_0 10 rfl) rfl (by first | assumption | omega | exact hr _ _ rfl | exact mm_ti _ | exact mm_r3264 (hr _ _ rfl)) (by first | assumption | omega | exact hr _ _ rfl | exact mm_ti _ | exact mm_r3264 (hr _ _ rfl)) (by decide) ?_
  refine mm_icmp_ge 42 (mm_dc od_X3_suspects_0 11 rfl) (by omega) (by first | assumption | omega | exact hr _ _ rfl | exact mm_ti _ | exact mm_r3264 (hr _ _ rfl)) (by first | assumption | omega | exact hr _ _ rfl | exact mm_ti _ | exact mm_r3264 (hr _ _ rfl)) (fun c1 => ?_) (fun c1 => ?_)
  · refine mm_iload_n (mm_dc od_X3_suspects_0 24 rfl) rfl ?_
    refine mm_iret (mm_dc od_X3_suspects_0 25 rfl) rfl ?_
    exact mm_pi (by unfold midc; rw [show (M 42 l.toNat - a).toNat = j by omega, Int.zero_add]) k
  · refine mm_aload_n (mm_dc od_X3_suspects_0 12 rfl) rfl ?_
    refine mm_getR (ci := 3) (k := 1) (mm_dc od_X3_suspects_0 13 rfl) rfl in_X3 (by decide) wd_1_209 rfl rfl ?_
    refine mm_iload_n (mm_dc od_X3_suspects_0 14 rfl) rfl ?_
    refine mm_iald (mm_dc od_X3_suspects_0 15 rfl) rfl (by first | assumption | omega | exact hr _ _ rfl | exact mm_ti _ | exact mm_r3264 (hr _ _ rfl)) (by first | assumption | omega | exact hr _ _ rfl | exact mm_ti _ | exact mm_r3264 (hr _ _ rfl)) (by decide) ?_
    refine mm_aload_n (mm_dc od_X3_suspects_0 16 rfl) rfl ?_
    refine mm_getR (ci := 3) (k := 6) (mm_dc od_X3_suspects_0 17 rfl) rfl in_X3 (by decide) wd_1_219 rfl rfl ?_
    refine mm_iload_n (mm_dc od_X3_suspects_0 18 rfl) rfl ?_
    refine mm_iald (mm_dc od_X3_suspects_0 19 rfl) rfl (by first | assumption | omega | exact hr _ _ rfl | exact mm_ti _ | exact mm_r3264 (hr _ _ rfl)) (by first | assumption | omega | exact hr _ _ rfl | exact mm_ti _ | exact mm_r3264 (hr _ _ rfl)) (by decide) ?_
    refine mm_icmp_ne 36 (mm_dc od_X3_suspects_0 20 rfl) (by omega) (by first | assumption | omega | exact hr _ _ rfl | exact mm_ti _ | exact mm_r3264 (hr _ _ rfl)) (by first | assumption | omega | exact hr _ _ rfl | exact mm_ti _ | exact mm_r3264 (hr _ _ rfl)) (fun c2 => ?_) (fun c2 => ?_)
    · refine mm_iinc (L' := [(0, v_r 35), (1, v_i l), (2, v_i (0 + rowc (fun k => decide (M 36 (a.toNat + k) = M 40 l.toNat)) j)), (3, v_i ((a + (j : Int)) + 1))]) (mm_dc od_X3_suspects_0 22 rfl) rfl (by decide) rfl ?_
      refine mm_goto 8 (mm_dc od_X3_suspects_0 23 rfl) (by omega) ?_
      refine mm_cL (L' := [(0, v_r 35), (1, v_i l), (2, v_i (0 + rowc (fun k => decide (M 36 (a.toNat + k) = M 40 l.toNat)) (j + 1))), (3, v_i (a + ((j + 1 : Nat) : Int)))]) (by rw [← rowc_f (by simp only [decide_eq_false_iff_not]; rw [← haj]; assumption), show a + (j : Int) + 1 = a + ((j + 1 : Nat) : Int) by omega]) ?_
      exact L_sus l hl hJl hr a ha k (j + 1) (by omega)
    · refine mm_iinc (L' := [(0, v_r 35), (1, v_i l), (2, v_i ((0 + rowc (fun k => decide (M 36 (a.toNat + k) = M 40 l.toNat)) j) + 1)), (3, v_i (a + (j : Int)))]) (mm_dc od_X3_suspects_0 21 rfl) rfl (by decide) rfl ?_
      refine mm_iinc (L' := [(0, v_r 35), (1, v_i l), (2, v_i ((0 + rowc (fun k => decide (M 36 (a.toNat + k) = M 40 l.toNat)) j) + 1)), (3, v_i ((a + (j : Int)) + 1))]) (mm_dc od_X3_suspects_0 22 rfl) rfl (by decide) rfl ?_
      refine mm_goto 8 (mm_dc od_X3_suspects_0 23 rfl) (by omega) ?_
      refine mm_cL (L' := [(0, v_r 35), (1, v_i l), (2, v_i (0 + rowc (fun k => decide (M 36 (a.toNat + k) = M 40 l.toNat)) (j + 1))), (3, v_i (a + ((j + 1 : Nat) : Int)))]) (by rw [← rowc_t (by simp only [decide_eq_true_eq]; rw [← haj]; assumption), show a + (j : Int) + 1 = a + ((j + 1 : Nat) : Int) by omega]) ?_
      exact L_sus l hl hJl hr a ha k (j + 1) (by omega)
termination_by (M 42 l.toNat - a).toNat - j
decreasing_by all_goals (first | omega | (simp_wf; omega))
theorem c_X3_suspects {X : Nat × (Nat → Int)} {d : Nat} {Po : mm_Po} {M : mm_M} (l : Int) (hl : 0 ≤ l ∧ l < M 35 5) (hJl : JL M) (hr : R32 M) (k : ∀ r : Int, (∃ f : Int, lastP (fun i => M 40 i = M 40 l.toNat) f l.toNat ∧ r = midc (fun i => decide (M 36 i = M 40 l.toNat)) (begQ (M 42) f) (M 42 l.toNat)) → Po (some (v_i r)) Lam M) : mm_E X (d + 2) 0 0 mi_X3_suspects [v_r 35, v_i l] Po Lam M := by
  show mm_G X (d + 2) 0 0 mi_X3_suspects Po 0 [(0, v_r 35), (1, v_i l)] [] Lam M 0 0
  have hJl2 := hJl
  obtain ⟨hu0, hu30, hl0, hl60, hL⟩ := hJl2
  have hLl := hL l.toNat (by omega)
  refine mm_iconst (mm_dc od_X3_suspects_0 0 rfl) ?_
  refine mm_istore_n (L' := [(0, v_r 35), (1, v_i l), (2, v_i 0)]) (mm_dc od_X3_suspects_0 1 rfl) (by decide) rfl ?_
  refine mm_aload_n (mm_dc od_X3_suspects_0 2 rfl) rfl ?_
  refine mm_iload_n (mm_dc od_X3_suspects_0 3 rfl) rfl ?_
  refine mm_callV (b := 35) (mi' := mi_X3_firstBehind) [v_i l] [] (mm_dc od_X3_suspects_0 4 rfl) rfl wd_4_29 wd_4_31 wd_p_17 wd_1_8 wd_4_32 yk_X3_firstBehind rfl rfl rfl (Nat.le_of_ble_eq_true rfl) rfl (by decide) (c_X3_firstBehind l (by first | assumption | omega | exact hr _ _ rfl | exact mm_ti _ | exact mm_r3264 (hr _ _ rfl)) hJl (by first | assumption | omega | exact hr _ _ rfl | exact mm_ti _ | exact mm_r3264 (hr _ _ rfl)) (fun r1 hq2 => ⟨Nat.le_refl _, ?_⟩))
  have hq2_r := And.right hq2
  refine mm_istore_n (L' := [(0, v_r 35), (1, v_i l), (2, v_i 0), (3, v_i r1)]) (mm_dc od_X3_suspects_0 5 rfl) (by decide) rfl ?_
  obtain ⟨⟨f, q1, q2⟩, q3⟩ := hq2
  refine mm_cL (L' := [(0, v_r 35), (1, v_i l), (2, v_i (0 + rowc (fun k => decide (M 36 (r1.toNat + k) = M 40 l.toNat)) 0)), (3, v_i (r1 + ((0 : Nat) : Int)))]) (by simp [rowc]) ?_
  exact L_sus l hl hJl hr r1 q3 (k _ ⟨f, q1, by rw [q2]⟩) 0 (by omega)
theorem L_fsus {X : Nat × (Nat → Int)} {d : Nat} {Po : mm_Po} {M : mm_M} (l : Int) (hl : 0 ≤ l ∧ l < M 35 5) (hJl : JL M) (hr : R32 M) (a : Int) (ha : 0 ≤ a ∧ a ≤ M 35 0) (k : ∀ r : Int, midP (fun i => M 36 i = M 40 l.toNat) r a (M 42 l.toNat) → Po (some (v_i r)) Lam M) (j : Nat) (hj1 : a ≤ j) (hj : ∀ i : Nat, a ≤ i → i < j → ¬ M 36 i = M 40 l.toNat) (hj2 : (j : Int) ≤ 30) : mm_G X (d + 2) 0 0 mi_X3_firstSuspect Po 6 [(0, v_r 35), (1, v_i l), (2, v_i (j : Int))] [] Lam M 0 0 := by
  have hJl2 := hJl
  obtain ⟨hu0, hu30, hl0, hl60, hL⟩ := hJl2
  have hLl := hL l.toNat (by omega)
  refine mm_iload_n (mm_dc od_X3_firstSuspect_0 4 rfl) rfl ?_
  refine mm_aload_n (mm_dc od_X3_firstSuspect_0 5 rfl) rfl ?_
  refine mm_getR (ci := 3) (k := 8) (mm_dc od_X3_firstSuspect_0 6 rfl) rfl in_X3 (by decide) wd_1_221 rfl rfl ?_
  refine mm_iload_n (mm_dc od_X3_firstSuspect_0 7 rfl) rfl ?_
  refine mm_iald (mm_dc od_X3_firstSuspect_0 8 rfl) rfl (by first | assumption | omega | exact hr _ _ rfl | exact mm_ti _ | exact mm_r3264 (hr _ _ rfl)) (by first | assumption | omega | exact hr _ _ rfl | exact mm_ti _ | exact mm_r3264 (hr _ _ rfl)) (by decide) ?_
  refine mm_icmp_ge 39 (mm_dc od_X3_firstSuspect_0 9 rfl) (by omega) (by first | assumption | omega | exact hr _ _ rfl | exact mm_ti _ | exact mm_r3264 (hr _ _ rfl)) (by first | assumption | omega | exact hr _ _ rfl | exact mm_ti _ | exact mm_r3264 (hr _ _ rfl)) (fun c1 => ?_) (fun c1 => ?_)
  · refine mm_iconst (mm_dc od_X3_firstSuspect_0 23 rfl) ?_
    refine mm_iret (mm_dc od_X3_firstSuspect_0 24 rfl) rfl ?_
    exact k _ (Or.inl ⟨rfl, fun i h1 h2 => hj i h1 (by omega)⟩)
  · refine mm_aload_n (mm_dc od_X3_firstSuspect_0 10 rfl) rfl ?_
    refine mm_getR (ci := 3) (k := 1) (mm_dc od_X3_firstSuspect_0 11 rfl) rfl in_X3 (by decide) wd_1_209 rfl rfl ?_
    refine mm_iload_n (mm_dc od_X3_firstSuspect_0 12 rfl) rfl ?_
    refine mm_iald (mm_dc od_X3_firstSuspect_0 13 rfl) rfl (by first | assumption | omega | exact hr _ _ rfl | exact mm_ti _ | exact mm_r3264 (hr _ _ rfl)) (by first | assumption | omega | exact hr _ _ rfl | exact mm_ti _ | exact mm_r3264 (hr _ _ rfl)) (by decide) ?_
    refine mm_cst (st' := [v_i (M 36 j)]) rfl ?_
    refine mm_aload_n (mm_dc od_X3_firstSuspect_0 14 rfl) rfl ?_
    refine mm_getR (ci := 3) (k := 6) (mm_dc od_X3_firstSuspect_0 15 rfl) rfl in_X3 (by decide) wd_1_219 rfl rfl ?_
    refine mm_iload_n (mm_dc od_X3_firstSuspect_0 16 rfl) rfl ?_
    refine mm_iald (mm_dc od_X3_firstSuspect_0 17 rfl) rfl (by first | assumption | omega | exact hr _ _ rfl | exact mm_ti _ | exact mm_r3264 (hr _ _ rfl)) (by first | assumption | omega | exact hr _ _ rfl | exact mm_ti _ | exact mm_r3264 (hr _ _ rfl)) (by decide) ?_
    refine mm_icmp_ne 33 (mm_dc od_X3_firstSuspect_0 18 rfl) (by omega) (by first | assumption | omega | exact hr _ _ rfl | exact mm_ti _ | exact mm_r3264 (hr _ _ rfl)) (by first | assumption | omega | exact hr _ _ rfl | exact mm_ti _ | exact mm_r3264 (hr _ _ rfl)) (fun c2 => ?_) (fun c2 => ?_)
    · refine mm_iinc (L' := [(0, v_r 35), (1, v_i l), (2, v_i ((j : Int) + 1))]) (mm_dc od_X3_firstSuspect_0 21 rfl) rfl (by decide) rfl ?_
      refine mm_goto 6 (mm_dc od_X3_firstSuspect_0 22 rfl) (by omega) ?_
      refine mm_cL (L' := [(0, v_r 35), (1, v_i l), (2, v_i ((j + 1 : Nat) : Int))]) rfl ?_
      exact L_fsus l hl hJl hr a ha k (j + 1) (by omega) (fun i h1 h2 => by by_cases q : i = j; rw [q]; assumption; exact hj i h1 (by omega)) (by omega)
    · refine mm_iload_n (mm_dc od_X3_firstSuspect_0 19 rfl) rfl ?_
      refine mm_iret (mm_dc od_X3_firstSuspect_0 20 rfl) rfl ?_
      exact k _ (Or.inr ⟨by omega, by omega, by rw [Int.toNat_natCast]; assumption, fun i h1 h2 => hj i h1 (by omega)⟩)
termination_by 31 - j
decreasing_by all_goals (first | omega | (simp_wf; omega))
theorem c_X3_firstSuspect {X : Nat × (Nat → Int)} {d : Nat} {Po : mm_Po} {M : mm_M} (l : Int) (hl : 0 ≤ l ∧ l < M 35 5) (hJl : JL M) (hr : R32 M) (k : ∀ r : Int, ((∃ f : Int, lastP (fun i => M 40 i = M 40 l.toNat) f l.toNat ∧ midP (fun i => M 36 i = M 40 l.toNat) r (begQ (M 42) f) (M 42 l.toNat)) ∧ (r = -1 ∨ (0 ≤ r ∧ r < 30))) → Po (some (v_i r)) Lam M) : mm_E X (d + 2) 0 0 mi_X3_firstSuspect [v_r 35, v_i l] Po Lam M := by
  show mm_G X (d + 2) 0 0 mi_X3_firstSuspect Po 0 [(0, v_r 35), (1, v_i l)] [] Lam M 0 0
  have hJl2 := hJl
  obtain ⟨hu0, hu30, hl0, hl60, hL⟩ := hJl2
  have hLl := hL l.toNat (by omega)
  refine mm_aload_n (mm_dc od_X3_firstSuspect_0 0 rfl) rfl ?_
  refine mm_iload_n (mm_dc od_X3_firstSuspect_0 1 rfl) rfl ?_
  refine mm_callV (b := 35) (mi' := mi_X3_firstBehind) [v_i l] [] (mm_dc od_X3_firstSuspect_0 2 rfl) rfl wd_4_29 wd_4_31 wd_p_17 wd_1_8 wd_4_32 yk_X3_firstBehind rfl rfl rfl (Nat.le_of_ble_eq_true rfl) rfl (by decide) (c_X3_firstBehind l (by first | assumption | omega | exact hr _ _ rfl | exact mm_ti _ | exact mm_r3264 (hr _ _ rfl)) hJl (by first | assumption | omega | exact hr _ _ rfl | exact mm_ti _ | exact mm_r3264 (hr _ _ rfl)) (fun r1 hq2 => ⟨Nat.le_refl _, ?_⟩))
  have hq2_r := And.right hq2
  refine mm_istore_n (L' := [(0, v_r 35), (1, v_i l), (2, v_i r1)]) (mm_dc od_X3_firstSuspect_0 3 rfl) (by decide) rfl ?_
  obtain ⟨⟨f, q1, q2⟩, q3⟩ := hq2
  refine mm_cL (L' := [(0, v_r 35), (1, v_i l), (2, v_i ((r1.toNat : Nat) : Int))]) (by rw [show ((r1.toNat : Nat) : Int) = r1 by omega]) ?_
  exact L_fsus l hl hJl hr r1 q3 (fun r hr2 => k r ⟨⟨f, q1, by rw [← q2]; exact hr2⟩, by have := midP_rng hr2; omega⟩) r1.toNat (by omega) (fun i h1 h2 => by omega) (by omega)
def BrkR (lb ww ah ob wh : Nat → Int) (l q r : Int) : Prop := ∃ f, lastP (fun i => lb i = lb l.toNat) f l.toNat ∧ ((¬ brkQ ww l f ∧ r = -3) ∨ (brkQ ww l f ∧ ((q = 0 ∧ r = midc (fun i => decide (ob i = lb l.toNat)) (begQ ah f) (ah l.toNat)) ∨ (q = 1 ∧ midP (fun i => ob i = lb l.toNat) r (begQ ah f) (ah l.toNat)) ∨ (q = 2 ∧ ∃ g, midP (fun i => ob i = lb l.toNat) g (begQ ah f) (ah l.toNat) ∧ ((g = -1 ∧ r = -1) ∨ (g ≠ -1 ∧ r = wh g.toNat))))))
theorem c_X9_broke {X : Nat × (Nat → Int)} {d : Nat} {Po : mm_Po} {M : mm_M} (l : Int) (q : Int) (hl0 : mm_r32 l) (hq0 : mm_r32 q) (hJl : JL M) (hr : R32 M) (k1 : (¬ ((0 ≤ l ∧ l ≤ M 35 5 - 1) ∧ (0 ≤ q ∧ q ≤ 2))) → Po (some (v_i (-1))) Lam M) (k2 : ((0 ≤ l ∧ l ≤ M 35 5 - 1) ∧ (0 ≤ q ∧ q ≤ 2)) → ∀ (r : Int), BrkR (M 40) (M 41) (M 42) (M 36) (M 39) l q r → Po (some (v_i r)) Lam M) : mm_E X (d + 3) 0 0 mi_X9_broke [v_r 0, v_i l, v_i q] Po Lam M := by
  show mm_G X (d + 3) 0 0 mi_X9_broke Po 0 [(0, v_r 0), (1, v_i l), (2, v_i q)] [] Lam M 0 0
  have hJl2 := hJl
  obtain ⟨hu0, hu30, hl0, hl60, hL⟩ := hJl2
  refine mm_iload_n (mm_dc od_X9_broke_0 0 rfl) rfl ?_
  refine mm_iconst (mm_dc od_X9_broke_0 1 rfl) ?_
  refine mm_aload_n (mm_dc od_X9_broke_0 2 rfl) rfl ?_
  refine mm_getR (ci := 9) (k := 6) (mm_dc od_X9_broke_0 3 rfl) rfl in_X9 (by decide) wd_2_51 rfl rfl ?_
  refine mm_getI (ci := 3) (k := 5) (mm_dc od_X9_broke_0 4 rfl) rfl in_X3 (by decide) wd_1_218 rfl rfl ?_
  refine mm_iconst (mm_dc od_X9_broke_0 5 rfl) ?_
  refine mm_isub (mm_dc od_X9_broke_0 6 rfl) ?_
  refine mm_callS (mi' := mi_X9_within) [v_i l, v_i 0, v_i ((M 35 5) - 1)] [] (mm_dc od_X9_broke_0 7 rfl) rfl wd_2_80 wd_2_81 wd_1_1 wd_2_82 yk_X9_within (Nat.le_of_ble_eq_true rfl) rfl (by decide) (c_X9_within l 0 ((M 35 5) - 1) (by first | assumption | omega | exact hr _ _ rfl | exact mm_ti _ | exact mm_r3264 (hr _ _ rfl)) (by first | assumption | omega | exact hr _ _ rfl | exact mm_ti _ | exact mm_r3264 (hr _ _ rfl)) (by first | assumption | omega | exact hr _ _ rfl | exact mm_ti _ | exact mm_r3264 (hr _ _ rfl)) (fun c1 => ⟨Nat.le_refl _, ?_⟩) (fun c1 => ⟨Nat.le_refl _, ?_⟩))
  · refine mm_if_eq 26 (mm_dc od_X9_broke_0 8 rfl) (by omega) (by first | assumption | omega | exact hr _ _ rfl | exact mm_ti _ | exact mm_r3264 (hr _ _ rfl)) (fun h => absurd h (by decide)) (fun _ => ?_)
    refine mm_iload_n (mm_dc od_X9_broke_0 9 rfl) rfl ?_
    refine mm_iconst (mm_dc od_X9_broke_0 10 rfl) ?_
    refine mm_iconst (mm_dc od_X9_broke_0 11 rfl) ?_
    refine mm_callS (mi' := mi_X9_within) [v_i q, v_i 0, v_i 2] [] (mm_dc od_X9_broke_0 12 rfl) rfl wd_2_80 wd_2_81 wd_1_1 wd_2_82 yk_X9_within (Nat.le_of_ble_eq_true rfl) rfl (by decide) (c_X9_within q 0 2 (by first | assumption | omega | exact hr _ _ rfl | exact mm_ti _ | exact mm_r3264 (hr _ _ rfl)) (by first | assumption | omega | exact hr _ _ rfl | exact mm_ti _ | exact mm_r3264 (hr _ _ rfl)) (by first | assumption | omega | exact hr _ _ rfl | exact mm_ti _ | exact mm_r3264 (hr _ _ rfl)) (fun c2 => ⟨Nat.le_refl _, ?_⟩) (fun c2 => ⟨Nat.le_refl _, ?_⟩))
    · refine mm_if_ne 28 (mm_dc od_X9_broke_0 13 rfl) (by omega) (by first | assumption | omega | exact hr _ _ rfl | exact mm_ti _ | exact mm_r3264 (hr _ _ rfl)) (fun _ => ?_) (fun h => absurd h (by decide))
      refine mm_aload_n (mm_dc od_X9_broke_0 16 rfl) rfl ?_
      refine mm_getR (ci := 9) (k := 6) (mm_dc od_X9_broke_0 17 rfl) rfl in_X9 (by decide) wd_2_51 rfl rfl ?_
      refine mm_iload_n (mm_dc od_X9_broke_0 18 rfl) rfl ?_
      refine mm_callV (b := 35) (mi' := mi_X3_brokeAt) [v_i l] [] (mm_dc od_X9_broke_0 19 rfl) rfl wd_4_21 wd_4_22 wd_4_23 wd_1_8 wd_4_24 yk_X3_brokeAt rfl rfl rfl (Nat.le_of_ble_eq_true rfl) rfl (by decide) (c_X3_brokeAt l (by first | assumption | omega | exact hr _ _ rfl | exact mm_ti _ | exact mm_r3264 (hr _ _ rfl)) hJl (by first | assumption | omega | exact hr _ _ rfl | exact mm_ti _ | exact mm_r3264 (hr _ _ rfl)) (fun r3 hq4 => ⟨Nat.le_refl _, ?_⟩))
      have hq4_r := brokeAt_r hq4
      refine mm_if_ne 42 (mm_dc od_X9_broke_0 20 rfl) (by omega) (by first | assumption | omega | exact hr _ _ rfl | exact mm_ti _ | exact mm_r3264 (hr _ _ rfl)) (fun c5 => ?_) (fun c5 => ?_)
      · refine mm_iload_n (mm_dc od_X9_broke_0 23 rfl) rfl ?_
        refine mm_if_ne 55 (mm_dc od_X9_broke_0 24 rfl) (by omega) (by first | assumption | omega | exact hr _ _ rfl | exact mm_ti _ | exact mm_r3264 (hr _ _ rfl)) (fun c6 => ?_) (fun c6 => ?_)
        · refine mm_aload_n (mm_dc od_X9_broke_0 30 rfl) rfl ?_
          refine mm_getR (ci := 9) (k := 6) (mm_dc od_X9_broke_0 31 rfl) rfl in_X9 (by decide) wd_2_51 rfl rfl ?_
          refine mm_iload_n (mm_dc od_X9_broke_0 32 rfl) rfl ?_
          refine mm_callV (b := 35) (mi' := mi_X3_firstSuspect) [v_i l] [] (mm_dc od_X9_broke_0 33 rfl) rfl wd_4_33 wd_4_34 wd_4_35 wd_1_8 wd_4_36 yk_X3_firstSuspect rfl rfl rfl (Nat.le_of_ble_eq_true rfl) rfl (by decide) (c_X3_firstSuspect l (by first | assumption | omega | exact hr _ _ rfl | exact mm_ti _ | exact mm_r3264 (hr _ _ rfl)) hJl (by first | assumption | omega | exact hr _ _ rfl | exact mm_ti _ | exact mm_r3264 (hr _ _ rfl)) (fun r7 hq8 => ⟨Nat.le_refl _, ?_⟩))
          have hq8_r := And.right hq8
          refine mm_istore_n (L' := [(0, v_r 0), (1, v_i l), (2, v_i q), (3, v_i r7)]) (mm_dc od_X9_broke_0 34 rfl) (by decide) rfl ?_
          refine mm_iload_n (mm_dc od_X9_broke_0 35 rfl) rfl ?_
          refine mm_iconst (mm_dc od_X9_broke_0 36 rfl) ?_
          refine mm_icmp_eq 74 (mm_dc od_X9_broke_0 37 rfl) (by omega) (by first | assumption | omega | exact hr _ _ rfl | exact mm_ti _ | exact mm_r3264 (hr _ _ rfl)) (by first | assumption | omega | exact hr _ _ rfl | exact mm_ti _ | exact mm_r3264 (hr _ _ rfl)) (fun c9 => ?_) (fun c9 => ?_)
          · refine mm_iload_n (mm_dc od_X9_broke_0 41 rfl) rfl ?_
            refine mm_goto 87 (mm_dc od_X9_broke_0 42 rfl) (by omega) ?_
            refine mm_iret (mm_dc od_X9_broke_0 48 rfl) rfl ?_
            obtain ⟨f, q1, q2⟩ := hq4
            have q3 : brkQ (M 41) l f := by rcases q2 with q2 | q2 <;> first | exact q2.2 | (exfalso; omega)
            obtain ⟨⟨g, p1, p2⟩, p3⟩ := hq8
            have e := lastP_one q1 p1
            subst e
            exact k2 (by omega) _ ⟨f, q1, Or.inr ⟨q3, by by_cases q1 : q = 1; exact Or.inr (Or.inl ⟨q1, p2⟩); exact Or.inr (Or.inr ⟨by omega, _, p2, Or.inl ⟨by omega, by omega⟩⟩)⟩⟩
          · refine mm_iload_n (mm_dc od_X9_broke_0 38 rfl) rfl ?_
            refine mm_iconst (mm_dc od_X9_broke_0 39 rfl) ?_
            refine mm_icmp_ne 78 (mm_dc od_X9_broke_0 40 rfl) (by omega) (by first | assumption | omega | exact hr _ _ rfl | exact mm_ti _ | exact mm_r3264 (hr _ _ rfl)) (by first | assumption | omega | exact hr _ _ rfl | exact mm_ti _ | exact mm_r3264 (hr _ _ rfl)) (fun c10 => ?_) (fun c10 => ?_)
            · refine mm_aload_n (mm_dc od_X9_broke_0 43 rfl) rfl ?_
              refine mm_getR (ci := 9) (k := 6) (mm_dc od_X9_broke_0 44 rfl) rfl in_X9 (by decide) wd_2_51 rfl rfl ?_
              refine mm_getR (ci := 3) (k := 4) (mm_dc od_X9_broke_0 45 rfl) rfl in_X3 (by decide) wd_1_216 rfl rfl ?_
              refine mm_iload_n (mm_dc od_X9_broke_0 46 rfl) rfl ?_
              refine mm_iald (mm_dc od_X9_broke_0 47 rfl) rfl (by first | assumption | omega | exact hr _ _ rfl | exact mm_ti _ | exact mm_r3264 (hr _ _ rfl)) (by first | assumption | omega | exact hr _ _ rfl | exact mm_ti _ | exact mm_r3264 (hr _ _ rfl)) (by decide) ?_
              refine mm_iret (mm_dc od_X9_broke_0 48 rfl) rfl ?_
              obtain ⟨f, q1, q2⟩ := hq4
              have q3 : brkQ (M 41) l f := by rcases q2 with q2 | q2 <;> first | exact q2.2 | (exfalso; omega)
              obtain ⟨⟨g, p1, p2⟩, p3⟩ := hq8
              have e := lastP_one q1 p1
              subst e
              exact k2 (by omega) _ ⟨f, q1, Or.inr ⟨q3, Or.inr (Or.inr ⟨by omega, _, p2, Or.inr ⟨by omega, rfl⟩⟩)⟩⟩
            · refine mm_iload_n (mm_dc od_X9_broke_0 41 rfl) rfl ?_
              refine mm_goto 87 (mm_dc od_X9_broke_0 42 rfl) (by omega) ?_
              refine mm_iret (mm_dc od_X9_broke_0 48 rfl) rfl ?_
              obtain ⟨f, q1, q2⟩ := hq4
              have q3 : brkQ (M 41) l f := by rcases q2 with q2 | q2 <;> first | exact q2.2 | (exfalso; omega)
              obtain ⟨⟨g, p1, p2⟩, p3⟩ := hq8
              have e := lastP_one q1 p1
              subst e
              exact k2 (by omega) _ ⟨f, q1, Or.inr ⟨q3, by by_cases q1 : q = 1; exact Or.inr (Or.inl ⟨q1, p2⟩); exact Or.inr (Or.inr ⟨by omega, _, p2, Or.inl ⟨by omega, by omega⟩⟩)⟩⟩
        · refine mm_aload_n (mm_dc od_X9_broke_0 25 rfl) rfl ?_
          refine mm_getR (ci := 9) (k := 6) (mm_dc od_X9_broke_0 26 rfl) rfl in_X9 (by decide) wd_2_51 rfl rfl ?_
          refine mm_iload_n (mm_dc od_X9_broke_0 27 rfl) rfl ?_
          refine mm_callV (b := 35) (mi' := mi_X3_suspects) [v_i l] [] (mm_dc od_X9_broke_0 28 rfl) rfl wd_4_25 wd_4_26 wd_4_27 wd_1_8 wd_4_28 yk_X3_suspects rfl rfl rfl (Nat.le_of_ble_eq_true rfl) rfl (by decide) (c_X3_suspects l (by first | assumption | omega | exact hr _ _ rfl | exact mm_ti _ | exact mm_r3264 (hr _ _ rfl)) hJl (by first | assumption | omega | exact hr _ _ rfl | exact mm_ti _ | exact mm_r3264 (hr _ _ rfl)) (fun r11 hq12 => ⟨Nat.le_refl _, ?_⟩))
          refine mm_iret (mm_dc od_X9_broke_0 29 rfl) rfl ?_
          obtain ⟨f, q1, q2⟩ := hq4
          have q3 : brkQ (M 41) l f := by rcases q2 with q2 | q2 <;> first | exact q2.2 | (exfalso; omega)
          obtain ⟨g, p1, p2⟩ := hq12
          have e := lastP_one q1 p1
          subst e
          exact k2 (by omega) _ ⟨f, q1, Or.inr ⟨q3, Or.inl ⟨by omega, p2⟩⟩⟩
      · refine mm_bipush (mm_dc od_X9_broke_0 21 rfl) (by decide) ?_
        refine mm_iret (mm_dc od_X9_broke_0 22 rfl) rfl ?_
        obtain ⟨f, q1, q2⟩ := hq4
        exact k2 (by omega) _ ⟨f, q1, Or.inl ⟨by rcases q2 with q2 | q2 <;> first | exact q2.2 | (exfalso; omega), rfl⟩⟩
    · refine mm_if_ne 28 (mm_dc od_X9_broke_0 13 rfl) (by omega) (by first | assumption | omega | exact hr _ _ rfl | exact mm_ti _ | exact mm_r3264 (hr _ _ rfl)) (fun h => absurd h (by decide)) (fun _ => ?_)
      refine mm_iconst (mm_dc od_X9_broke_0 14 rfl) ?_
      refine mm_iret (mm_dc od_X9_broke_0 15 rfl) rfl ?_
      exact k1 (by omega)
  · refine mm_if_eq 26 (mm_dc od_X9_broke_0 8 rfl) (by omega) (by first | assumption | omega | exact hr _ _ rfl | exact mm_ti _ | exact mm_r3264 (hr _ _ rfl)) (fun _ => ?_) (fun h => absurd h (by decide))
    refine mm_iconst (mm_dc od_X9_broke_0 14 rfl) ?_
    refine mm_iret (mm_dc od_X9_broke_0 15 rfl) rfl ?_
    exact k1 (by omega)
theorem midP_more {P : Nat → Prop} {g a : Int} {j : Nat} (h : midP P g a (a + j)) (hg : g ≠ -1) : midP P g a (a + ((j + 1 : Nat) : Int)) := by
  rcases h with ⟨h1, h2⟩ | ⟨h1, h2, h3, h4⟩
  · omega
  · exact Or.inr ⟨h1, by omega, h3, h4⟩
theorem midP_no {P : Nat → Prop} {g a : Int} {j : Nat} (h : midP P g a (a + j)) (hn : ¬ P (a.toNat + j)) (ha : 0 ≤ a) : midP P g a (a + ((j + 1 : Nat) : Int)) := by
  rcases h with ⟨h1, h2⟩ | ⟨h1, h2, h3, h4⟩
  · refine Or.inl ⟨h1, fun i hi hb => ?_⟩
    by_cases e : (i : Int) < a + j
    · exact h2 i hi e
    · rw [show i = a.toNat + j by omega]; exact hn
  · exact Or.inr ⟨h1, by omega, h3, h4⟩
theorem midP_end {P : Nat → Prop} {g a b : Int} {j : Nat} (h : midP P g a (a + j)) (e : j = (b - a).toNat) : midP P g a b := by
  by_cases q : a ≤ b
  · rw [show b = a + j by omega]; exact h
  · have := midP_rng h
    exact Or.inl ⟨by omega, fun i h1 h2 => by omega⟩
theorem midP_neg {P : Nat → Prop} {g a b : Int} (h : midP P g a b) (ha : 0 ≤ a) (hg : g = -1) : ∀ i : Nat, a ≤ i → (i : Int) < b → ¬ P i := by
  rcases h with ⟨h1, h2⟩ | ⟨h1, h2, h3, h4⟩
  · exact h2
  · omega
theorem L_brkM2 {X : Nat × (Nat → Int)} {d : Nat} {Po : mm_Po} {M : mm_M} (l q : Int) (hv : (0 ≤ l ∧ l ≤ M 50 45 - 1) ∧ (0 ≤ q ∧ q ≤ 2)) (hJlm : JLm M) (hr : R32 M) (f : Int) (hf : lastP (fun i => M 83 i = M 83 l.toNat) f l.toNat) (hb : brkQ (M 85) l f) (a : Int) (ha : a = begQ (M 84) f ∧ 0 ≤ a ∧ a ≤ M 50 44) (k2 : ∀ r : Int, BrkR (M 83) (M 85) (M 84) (M 79) (M 82) l q r → Po (some (v_i r)) Lam M) (g : Int) (j : Nat) (hg : midP (fun i => M 79 i = M 83 l.toNat) g a (a + j)) (hg1 : rowc (fun k => decide (M 79 (a.toNat + k) = M 83 l.toNat)) j = 0 ↔ g = -1) (hj : j ≤ (M 84 l.toNat - a).toNat) : mm_G X (d + 1) 0 0 mi_X10_broke Po 115 [(0, v_r 50), (1, v_i l), (2, v_i q), (3, v_i (M 83 l.toNat)), (4, v_i f), (5, v_i (0 + rowc (fun k => decide (M 79 (a.toNat + k) = M 83 l.toNat)) j)), (6, v_i g), (7, v_i (a + (j : Int)))] [] Lam M 0 0 := by
  have hJl2 := hJlm
  obtain ⟨hu0, hu30, hl0, hl60, hL⟩ := hJl2
  have hLl := hL l.toNat (by omega)
  have haj : (a + (j : Int)).toNat = a.toNat + j := (by omega)
  have hrc := rowc_r (fun k => decide (M 79 (a.toNat + k) = M 83 l.toNat)) j
  have hg0 := midP_neg hg (by omega)
  have hgr := midP_rng hg
  refine mm_iload (mm_dc od_X10_broke_1 4 rfl) rfl ?_
  refine mm_aload_n (mm_dc od_X10_broke_1 5 rfl) rfl ?_
  refine mm_getR (ci := 10) (k := 42) (mm_dc od_X10_broke_1 6 rfl) rfl in_X10 (by decide) wd_4_154 rfl rfl ?_
  refine mm_iload_n (mm_dc od_X10_broke_1 7 rfl) rfl ?_
  refine mm_iald (mm_dc od_X10_broke_1 8 rfl) rfl (by first | assumption | omega | exact hr _ _ rfl | exact mm_ti _ | exact mm_r3264 (hr _ _ rfl)) (by first | assumption | omega | exact hr _ _ rfl | exact mm_ti _ | exact mm_r3264 (hr _ _ rfl)) (by decide) ?_
  refine mm_icmp_ge 158 (mm_dc od_X10_broke_1 9 rfl) (by omega) (by first | assumption | omega | exact hr _ _ rfl | exact mm_ti _ | exact mm_r3264 (hr _ _ rfl)) (by first | assumption | omega | exact hr _ _ rfl | exact mm_ti _ | exact mm_r3264 (hr _ _ rfl)) (fun c1 => ?_) (fun c1 => ?_)
  · refine mm_iload_n (mm_dc od_X10_broke_1 24 rfl) rfl ?_
    refine mm_if_ne 167 (mm_dc od_X10_broke_1 25 rfl) (by omega) (by first | assumption | omega | exact hr _ _ rfl | exact mm_ti _ | exact mm_r3264 (hr _ _ rfl)) (fun c2 => ?_) (fun c2 => ?_)
    · refine mm_iload_n (mm_dc od_X10_broke_1 28 rfl) rfl ?_
      refine mm_iconst (mm_dc od_X10_broke_1 29 rfl) ?_
      refine mm_icmp_ne 177 (mm_dc od_X10_broke_1 30 rfl) (by omega) (by first | assumption | omega | exact hr _ _ rfl | exact mm_ti _ | exact mm_r3264 (hr _ _ rfl)) (by first | assumption | omega | exact hr _ _ rfl | exact mm_ti _ | exact mm_r3264 (hr _ _ rfl)) (fun c3 => ?_) (fun c3 => ?_)
      · refine mm_iload (mm_dc od_X10_broke_1 33 rfl) rfl ?_
        refine mm_if_ge 186 (mm_dc od_X10_broke_1 34 rfl) (by omega) (by first | assumption | omega | exact hr _ _ rfl | exact mm_ti _ | exact mm_r3264 (hr _ _ rfl)) (fun c4 => ?_) (fun c4 => ?_)
        · refine mm_aload_n (mm_dc od_X10_broke_1 37 rfl) rfl ?_
          refine mm_getR (ci := 10) (k := 40) (mm_dc od_X10_broke_1 38 rfl) rfl in_X10 (by decide) wd_4_152 rfl rfl ?_
          refine mm_iload (mm_dc od_X10_broke_1 39 rfl) rfl ?_
          refine mm_iald (mm_dc od_X10_broke_1 40 rfl) rfl (by first | assumption | omega | exact hr _ _ rfl | exact mm_ti _ | exact mm_r3264 (hr _ _ rfl)) (by first | assumption | omega | exact hr _ _ rfl | exact mm_ti _ | exact mm_r3264 (hr _ _ rfl)) (by decide) ?_
          refine mm_iret (mm_dc od_X10_broke_1 41 rfl) rfl ?_
          have ej : j = (M 84 l.toNat - a).toNat := by omega
          have hg := midP_end hg ej
          rw [ha.1] at hg
          exact k2 _ ⟨f, hf, Or.inr ⟨hb, Or.inr (Or.inr ⟨by omega, g, hg, Or.inr ⟨by omega, rfl⟩⟩)⟩⟩
        · refine mm_iconst (mm_dc od_X10_broke_1 35 rfl) ?_
          refine mm_goto 193 (mm_dc od_X10_broke_1 36 rfl) (by omega) ?_
          refine mm_iret (mm_dc od_X10_broke_1 41 rfl) rfl ?_
          have ej : j = (M 84 l.toNat - a).toNat := by omega
          have hg := midP_end hg ej
          rw [ha.1] at hg
          exact k2 _ ⟨f, hf, Or.inr ⟨hb, Or.inr (Or.inr ⟨by omega, g, hg, Or.inl ⟨by omega, rfl⟩⟩)⟩⟩
      · refine mm_iload (mm_dc od_X10_broke_1 31 rfl) rfl ?_
        refine mm_goto 193 (mm_dc od_X10_broke_1 32 rfl) (by omega) ?_
        refine mm_iret (mm_dc od_X10_broke_1 41 rfl) rfl ?_
        have ej : j = (M 84 l.toNat - a).toNat := by omega
        have hg := midP_end hg ej
        rw [ha.1] at hg
        exact k2 _ ⟨f, hf, Or.inr ⟨hb, Or.inr (Or.inl ⟨by omega, hg⟩)⟩⟩
    · refine mm_iload (mm_dc od_X10_broke_1 26 rfl) rfl ?_
      refine mm_goto 193 (mm_dc od_X10_broke_1 27 rfl) (by omega) ?_
      refine mm_iret (mm_dc od_X10_broke_1 41 rfl) rfl ?_
      exact k2 _ ⟨f, hf, Or.inr ⟨hb, Or.inl ⟨by omega, by rw [← ha.1]; unfold midc; rw [show (M 84 l.toNat - a).toNat = j by omega, Int.zero_add]⟩⟩⟩
  · refine mm_aload_n (mm_dc od_X10_broke_1 10 rfl) rfl ?_
    refine mm_getR (ci := 10) (k := 37) (mm_dc od_X10_broke_1 11 rfl) rfl in_X10 (by decide) wd_4_149 rfl rfl ?_
    refine mm_iload (mm_dc od_X10_broke_1 12 rfl) rfl ?_
    refine mm_iald (mm_dc od_X10_broke_1 13 rfl) rfl (by first | assumption | omega | exact hr _ _ rfl | exact mm_ti _ | exact mm_r3264 (hr _ _ rfl)) (by first | assumption | omega | exact hr _ _ rfl | exact mm_ti _ | exact mm_r3264 (hr _ _ rfl)) (by decide) ?_
    refine mm_iload_n (mm_dc od_X10_broke_1 14 rfl) rfl ?_
    refine mm_icmp_eq 140 (mm_dc od_X10_broke_1 15 rfl) (by omega) (by first | assumption | omega | exact hr _ _ rfl | exact mm_ti _ | exact mm_r3264 (hr _ _ rfl)) (by first | assumption | omega | exact hr _ _ rfl | exact mm_ti _ | exact mm_r3264 (hr _ _ rfl)) (fun c5 => ?_) (fun c5 => ?_)
    · refine mm_iload (mm_dc od_X10_broke_1 17 rfl) rfl ?_
      refine mm_if_ne 149 (mm_dc od_X10_broke_1 18 rfl) (by omega) (by first | assumption | omega | exact hr _ _ rfl | exact mm_ti _ | exact mm_r3264 (hr _ _ rfl)) (fun c6 => ?_) (fun c6 => ?_)
      · refine mm_iinc (L' := [(0, v_r 50), (1, v_i l), (2, v_i q), (3, v_i (M 83 l.toNat)), (4, v_i f), (5, v_i ((0 + rowc (fun k => decide (M 79 (a.toNat + k) = M 83 l.toNat)) j) + 1)), (6, v_i g), (7, v_i (a + (j : Int)))]) (mm_dc od_X10_broke_1 21 rfl) rfl (by decide) rfl ?_
        refine mm_iinc (L' := [(0, v_r 50), (1, v_i l), (2, v_i q), (3, v_i (M 83 l.toNat)), (4, v_i f), (5, v_i ((0 + rowc (fun k => decide (M 79 (a.toNat + k) = M 83 l.toNat)) j) + 1)), (6, v_i g), (7, v_i ((a + (j : Int)) + 1))]) (mm_dc od_X10_broke_1 22 rfl) rfl (by decide) rfl ?_
        refine mm_goto 115 (mm_dc od_X10_broke_1 23 rfl) (by omega) ?_
        refine mm_cL (L' := [(0, v_r 50), (1, v_i l), (2, v_i q), (3, v_i (M 83 l.toNat)), (4, v_i f), (5, v_i (0 + rowc (fun k => decide (M 79 (a.toNat + k) = M 83 l.toNat)) (j + 1))), (6, v_i g), (7, v_i (a + ((j + 1 : Nat) : Int)))]) (by rw [← rowc_t (by simp only [decide_eq_true_eq]; rw [← haj]; assumption), show a + (j : Int) + 1 = a + ((j + 1 : Nat) : Int) by omega]) ?_
        refine L_brkM2 l q hv hJlm hr f hf hb a ha k2 g (j + 1) ?_ ?_ (by omega)
        · exact midP_more hg (by omega)
        · have q := rowc_t (C := (fun k => decide (M 79 (a.toNat + k) = M 83 l.toNat))) (t := 0) (j := j) (by simp only [decide_eq_true_eq]; rw [← haj]; assumption); constructor <;> intro <;> omega
      · refine mm_iload (mm_dc od_X10_broke_1 19 rfl) rfl ?_
        refine mm_istore (L' := [(0, v_r 50), (1, v_i l), (2, v_i q), (3, v_i (M 83 l.toNat)), (4, v_i f), (5, v_i (0 + rowc (fun k => decide (M 79 (a.toNat + k) = M 83 l.toNat)) j)), (6, v_i (a + (j : Int))), (7, v_i (a + (j : Int)))]) (mm_dc od_X10_broke_1 20 rfl) (by decide) rfl ?_
        refine mm_iinc (L' := [(0, v_r 50), (1, v_i l), (2, v_i q), (3, v_i (M 83 l.toNat)), (4, v_i f), (5, v_i ((0 + rowc (fun k => decide (M 79 (a.toNat + k) = M 83 l.toNat)) j) + 1)), (6, v_i (a + (j : Int))), (7, v_i (a + (j : Int)))]) (mm_dc od_X10_broke_1 21 rfl) rfl (by decide) rfl ?_
        refine mm_iinc (L' := [(0, v_r 50), (1, v_i l), (2, v_i q), (3, v_i (M 83 l.toNat)), (4, v_i f), (5, v_i ((0 + rowc (fun k => decide (M 79 (a.toNat + k) = M 83 l.toNat)) j) + 1)), (6, v_i (a + (j : Int))), (7, v_i ((a + (j : Int)) + 1))]) (mm_dc od_X10_broke_1 22 rfl) rfl (by decide) rfl ?_
        refine mm_goto 115 (mm_dc od_X10_broke_1 23 rfl) (by omega) ?_
        refine mm_cL (L' := [(0, v_r 50), (1, v_i l), (2, v_i q), (3, v_i (M 83 l.toNat)), (4, v_i f), (5, v_i (0 + rowc (fun k => decide (M 79 (a.toNat + k) = M 83 l.toNat)) (j + 1))), (6, v_i (a + (j : Int))), (7, v_i (a + ((j + 1 : Nat) : Int)))]) (by rw [← rowc_t (by simp only [decide_eq_true_eq]; rw [← haj]; assumption), show a + (j : Int) + 1 = a + ((j + 1 : Nat) : Int) by omega]) ?_
        refine L_brkM2 l q hv hJlm hr f hf hb a ha k2 (a + (j : Int)) (j + 1) ?_ ?_ (by omega)
        · exact Or.inr ⟨by omega, by omega, by assumption, fun i h1 h2 => (hg0 (by omega)) i h1 (by omega)⟩
        · have q := rowc_t (C := (fun k => decide (M 79 (a.toNat + k) = M 83 l.toNat))) (t := 0) (j := j) (by simp only [decide_eq_true_eq]; rw [← haj]; assumption); constructor <;> intro <;> omega
    · refine mm_goto 152 (mm_dc od_X10_broke_1 16 rfl) (by omega) ?_
      refine mm_iinc (L' := [(0, v_r 50), (1, v_i l), (2, v_i q), (3, v_i (M 83 l.toNat)), (4, v_i f), (5, v_i (0 + rowc (fun k => decide (M 79 (a.toNat + k) = M 83 l.toNat)) j)), (6, v_i g), (7, v_i ((a + (j : Int)) + 1))]) (mm_dc od_X10_broke_1 22 rfl) rfl (by decide) rfl ?_
      refine mm_goto 115 (mm_dc od_X10_broke_1 23 rfl) (by omega) ?_
      refine mm_cL (L' := [(0, v_r 50), (1, v_i l), (2, v_i q), (3, v_i (M 83 l.toNat)), (4, v_i f), (5, v_i (0 + rowc (fun k => decide (M 79 (a.toNat + k) = M 83 l.toNat)) (j + 1))), (6, v_i g), (7, v_i (a + ((j + 1 : Nat) : Int)))]) (by rw [← rowc_f (by simp only [decide_eq_false_iff_not]; rw [← haj]; assumption), show a + (j : Int) + 1 = a + ((j + 1 : Nat) : Int) by omega]) ?_
      refine L_brkM2 l q hv hJlm hr f hf hb a ha k2 g (j + 1) ?_ ?_ (by omega)
      · exact midP_no hg (by rw [show (a + (j : Int)).toNat = a.toNat + j by omega] at *; assumption) (by omega)
      · have q := rowc_f (C := (fun k => decide (M 79 (a.toNat + k) = M 83 l.toNat))) (t := 0) (j := j) (by simp only [decide_eq_false_iff_not]; rw [← haj]; assumption); omega
termination_by (M 84 l.toNat - a).toNat - j
decreasing_by all_goals (first | omega | (simp_wf; omega))
theorem L_brkM1 {X : Nat × (Nat → Int)} {d : Nat} {Po : mm_Po} {M : mm_M} (l q : Int) (hv : (0 ≤ l ∧ l ≤ M 50 45 - 1) ∧ (0 ≤ q ∧ q ≤ 2)) (hJlm : JLm M) (hr : R32 M) (f : Int) (hf : lastP (fun i => M 83 i = M 83 l.toNat) f l.toNat) (k2 : ∀ r : Int, BrkR (M 83) (M 85) (M 84) (M 79) (M 82) l q r → Po (some (v_i r)) Lam M) : mm_G X (d + 1) 0 0 mi_X10_broke Po 64 [(0, v_r 50), (1, v_i l), (2, v_i q), (3, v_i (M 83 l.toNat)), (4, v_i f)] [] Lam M 0 0 := by
  have hJl2 := hJlm
  obtain ⟨hu0, hu30, hl0, hl60, hL⟩ := hJl2
  have hLl := hL l.toNat (by omega)
  have hfr := lastP_rng hf
  have hLf1 := hL f.toNat
  refine mm_aload_n (mm_dc od_X10_broke_0 37 rfl) rfl ?_
  refine mm_getR (ci := 10) (k := 43) (mm_dc od_X10_broke_0 38 rfl) rfl in_X10 (by decide) wd_4_155 rfl rfl ?_
  refine mm_iload_n (mm_dc od_X10_broke_0 39 rfl) rfl ?_
  refine mm_zald (mm_dc od_X10_broke_0 40 rfl) rfl (by first | assumption | omega | exact hr _ _ rfl | exact mm_ti _ | exact mm_r3264 (hr _ _ rfl)) (by first | assumption | omega | exact hr _ _ rfl | exact mm_ti _ | exact mm_r3264 (hr _ _ rfl)) (by decide) ?_
  refine mm_if_ne 88 (mm_dc od_X10_broke_0 41 rfl) (by omega) (by first | assumption | omega | exact hr _ _ rfl | exact mm_ti _ | exact mm_r3264 (hr _ _ rfl)) (fun c1 => ?_) (fun c1 => ?_)
  · refine mm_bipush (mm_dc od_X10_broke_0 49 rfl) (by decide) ?_
    refine mm_iret (mm_dc od_X10_broke_0 50 rfl) rfl ?_
    exact k2 _ ⟨f, hf, Or.inl ⟨by unfold brkQ; omega, rfl⟩⟩
  · refine mm_iload (mm_dc od_X10_broke_0 42 rfl) rfl ?_
    refine mm_if_lt 91 (mm_dc od_X10_broke_0 43 rfl) (by omega) (by first | assumption | omega | exact hr _ _ rfl | exact mm_ti _ | exact mm_r3264 (hr _ _ rfl)) (fun c2 => ?_) (fun c2 => ?_)
    · refine mm_iconst (mm_dc od_X10_broke_0 51 rfl) ?_
      refine mm_istore (L' := [(0, v_r 50), (1, v_i l), (2, v_i q), (3, v_i (M 83 l.toNat)), (4, v_i f), (5, v_i 0)]) (mm_dc od_X10_broke_0 52 rfl) (by decide) rfl ?_
      refine mm_iconst (mm_dc od_X10_broke_0 53 rfl) ?_
      refine mm_istore (L' := [(0, v_r 50), (1, v_i l), (2, v_i q), (3, v_i (M 83 l.toNat)), (4, v_i f), (5, v_i 0), (6, v_i (-1))]) (mm_dc od_X10_broke_0 54 rfl) (by decide) rfl ?_
      refine mm_iload (mm_dc od_X10_broke_0 55 rfl) rfl ?_
      refine mm_if_ge 106 (mm_dc od_X10_broke_0 56 rfl) (by omega) (by first | assumption | omega | exact hr _ _ rfl | exact mm_ti _ | exact mm_r3264 (hr _ _ rfl)) (fun c3 => ?_) (fun c3 => ?_)
      · refine mm_aload_n (mm_dc od_X10_broke_0 59 rfl) rfl ?_
        refine mm_getR (ci := 10) (k := 42) (mm_dc od_X10_broke_1 0 rfl) rfl in_X10 (by decide) wd_4_154 rfl rfl ?_
        refine mm_iload (mm_dc od_X10_broke_1 1 rfl) rfl ?_
        refine mm_iald (mm_dc od_X10_broke_1 2 rfl) rfl (by first | assumption | omega | exact hr _ _ rfl | exact mm_ti _ | exact mm_r3264 (hr _ _ rfl)) (by first | assumption | omega | exact hr _ _ rfl | exact mm_ti _ | exact mm_r3264 (hr _ _ rfl)) (by decide) ?_
        refine mm_istore (L' := [(0, v_r 50), (1, v_i l), (2, v_i q), (3, v_i (M 83 l.toNat)), (4, v_i f), (5, v_i 0), (6, v_i (-1)), (7, v_i (M 84 (Int.toNat f)))]) (mm_dc od_X10_broke_1 3 rfl) (by decide) rfl ?_
        have ea : begQ (M 84) f = M 84 f.toNat := by unfold begQ; rw [if_neg (show ¬ f = -1 by omega)]
        have hLf := hL f.toNat (by omega)
        refine mm_cL (L' := [(0, v_r 50), (1, v_i l), (2, v_i q), (3, v_i (M 83 l.toNat)), (4, v_i f), (5, v_i (0 + rowc (fun k => decide (M 79 ((M 84 f.toNat).toNat + k) = M 83 l.toNat)) 0)), (6, v_i (-1)), (7, v_i (M 84 f.toNat + ((0 : Nat) : Int)))]) (by simp [rowc]) ?_
        exact L_brkM2 l q hv hJlm hr f hf (by unfold brkQ; omega) (M 84 f.toNat) ⟨ea.symm, by omega, by omega⟩ k2 (-1) 0 (Or.inl ⟨rfl, fun i h1 h2 => by omega⟩) (by simp [rowc]) (by omega)
      · refine mm_iconst (mm_dc od_X10_broke_0 57 rfl) ?_
        refine mm_goto 113 (mm_dc od_X10_broke_0 58 rfl) (by omega) ?_
        refine mm_istore (L' := [(0, v_r 50), (1, v_i l), (2, v_i q), (3, v_i (M 83 l.toNat)), (4, v_i f), (5, v_i 0), (6, v_i (-1)), (7, v_i 0)]) (mm_dc od_X10_broke_1 3 rfl) (by decide) rfl ?_
        have ea : begQ (M 84) f = 0 := by unfold begQ; rw [if_pos (show f = -1 by omega)]
        refine mm_cL (L' := [(0, v_r 50), (1, v_i l), (2, v_i q), (3, v_i (M 83 l.toNat)), (4, v_i f), (5, v_i (0 + rowc (fun k => decide (M 79 ((0:Int).toNat + k) = M 83 l.toNat)) 0)), (6, v_i (-1)), (7, v_i (0 + ((0 : Nat) : Int)))]) (by simp [rowc]) ?_
        exact L_brkM2 l q hv hJlm hr f hf (by unfold brkQ; omega) (0) ⟨ea.symm, by omega, by omega⟩ k2 (-1) 0 (Or.inl ⟨rfl, fun i h1 h2 => by omega⟩) (by simp [rowc]) (by omega)
    · refine mm_aload_n (mm_dc od_X10_broke_0 44 rfl) rfl ?_
      refine mm_getR (ci := 10) (k := 43) (mm_dc od_X10_broke_0 45 rfl) rfl in_X10 (by decide) wd_4_155 rfl rfl ?_
      refine mm_iload (mm_dc od_X10_broke_0 46 rfl) rfl ?_
      refine mm_zald (mm_dc od_X10_broke_0 47 rfl) rfl (by first | assumption | omega | exact hr _ _ rfl | exact mm_ti _ | exact mm_r3264 (hr _ _ rfl)) (by first | assumption | omega | exact hr _ _ rfl | exact mm_ti _ | exact mm_r3264 (hr _ _ rfl)) (by decide) ?_
      refine mm_if_ne 91 (mm_dc od_X10_broke_0 48 rfl) (by omega) (by first | assumption | omega | exact hr _ _ rfl | exact mm_ti _ | exact mm_r3264 (hr _ _ rfl)) (fun c4 => ?_) (fun c4 => ?_)
      · refine mm_iconst (mm_dc od_X10_broke_0 51 rfl) ?_
        refine mm_istore (L' := [(0, v_r 50), (1, v_i l), (2, v_i q), (3, v_i (M 83 l.toNat)), (4, v_i f), (5, v_i 0)]) (mm_dc od_X10_broke_0 52 rfl) (by decide) rfl ?_
        refine mm_iconst (mm_dc od_X10_broke_0 53 rfl) ?_
        refine mm_istore (L' := [(0, v_r 50), (1, v_i l), (2, v_i q), (3, v_i (M 83 l.toNat)), (4, v_i f), (5, v_i 0), (6, v_i (-1))]) (mm_dc od_X10_broke_0 54 rfl) (by decide) rfl ?_
        refine mm_iload (mm_dc od_X10_broke_0 55 rfl) rfl ?_
        refine mm_if_ge 106 (mm_dc od_X10_broke_0 56 rfl) (by omega) (by first | assumption | omega | exact hr _ _ rfl | exact mm_ti _ | exact mm_r3264 (hr _ _ rfl)) (fun c5 => ?_) (fun c5 => ?_)
        · refine mm_aload_n (mm_dc od_X10_broke_0 59 rfl) rfl ?_
          refine mm_getR (ci := 10) (k := 42) (mm_dc od_X10_broke_1 0 rfl) rfl in_X10 (by decide) wd_4_154 rfl rfl ?_
          refine mm_iload (mm_dc od_X10_broke_1 1 rfl) rfl ?_
          refine mm_iald (mm_dc od_X10_broke_1 2 rfl) rfl (by first | assumption | omega | exact hr _ _ rfl | exact mm_ti _ | exact mm_r3264 (hr _ _ rfl)) (by first | assumption | omega | exact hr _ _ rfl | exact mm_ti _ | exact mm_r3264 (hr _ _ rfl)) (by decide) ?_
          refine mm_istore (L' := [(0, v_r 50), (1, v_i l), (2, v_i q), (3, v_i (M 83 l.toNat)), (4, v_i f), (5, v_i 0), (6, v_i (-1)), (7, v_i (M 84 (Int.toNat f)))]) (mm_dc od_X10_broke_1 3 rfl) (by decide) rfl ?_
          have ea : begQ (M 84) f = M 84 f.toNat := by unfold begQ; rw [if_neg (show ¬ f = -1 by omega)]
          have hLf := hL f.toNat (by omega)
          refine mm_cL (L' := [(0, v_r 50), (1, v_i l), (2, v_i q), (3, v_i (M 83 l.toNat)), (4, v_i f), (5, v_i (0 + rowc (fun k => decide (M 79 ((M 84 f.toNat).toNat + k) = M 83 l.toNat)) 0)), (6, v_i (-1)), (7, v_i (M 84 f.toNat + ((0 : Nat) : Int)))]) (by simp [rowc]) ?_
          exact L_brkM2 l q hv hJlm hr f hf (by unfold brkQ; omega) (M 84 f.toNat) ⟨ea.symm, by omega, by omega⟩ k2 (-1) 0 (Or.inl ⟨rfl, fun i h1 h2 => by omega⟩) (by simp [rowc]) (by omega)
        · refine mm_iconst (mm_dc od_X10_broke_0 57 rfl) ?_
          refine mm_goto 113 (mm_dc od_X10_broke_0 58 rfl) (by omega) ?_
          refine mm_istore (L' := [(0, v_r 50), (1, v_i l), (2, v_i q), (3, v_i (M 83 l.toNat)), (4, v_i f), (5, v_i 0), (6, v_i (-1)), (7, v_i 0)]) (mm_dc od_X10_broke_1 3 rfl) (by decide) rfl ?_
          have ea : begQ (M 84) f = 0 := by unfold begQ; rw [if_pos (show f = -1 by omega)]
          refine mm_cL (L' := [(0, v_r 50), (1, v_i l), (2, v_i q), (3, v_i (M 83 l.toNat)), (4, v_i f), (5, v_i (0 + rowc (fun k => decide (M 79 ((0:Int).toNat + k) = M 83 l.toNat)) 0)), (6, v_i (-1)), (7, v_i (0 + ((0 : Nat) : Int)))]) (by simp [rowc]) ?_
          exact L_brkM2 l q hv hJlm hr f hf (by unfold brkQ; omega) (0) ⟨ea.symm, by omega, by omega⟩ k2 (-1) 0 (Or.inl ⟨rfl, fun i h1 h2 => by omega⟩) (by simp [rowc]) (by omega)
      · refine mm_bipush (mm_dc od_X10_broke_0 49 rfl) (by decide) ?_
        refine mm_iret (mm_dc od_X10_broke_0 50 rfl) rfl ?_
        exact k2 _ ⟨f, hf, Or.inl ⟨by unfold brkQ; omega, rfl⟩⟩
theorem L_brkM0 {X : Nat × (Nat → Int)} {d : Nat} {Po : mm_Po} {M : mm_M} (l q : Int) (hv : (0 ≤ l ∧ l ≤ M 50 45 - 1) ∧ (0 ≤ q ∧ q ≤ 2)) (hJlm : JLm M) (hr : R32 M) (k2 : ∀ r : Int, BrkR (M 83) (M 85) (M 84) (M 79) (M 82) l q r → Po (some (v_i r)) Lam M) (j : Nat) (hj : ∀ i : Nat, j ≤ i → i < l.toNat → ¬ M 83 i = M 83 l.toNat) (hj2 : (j : Int) ≤ l) : mm_G X (d + 1) 0 0 mi_X10_broke Po 42 [(0, v_r 50), (1, v_i l), (2, v_i q), (3, v_i (M 83 l.toNat)), (4, v_i ((j : Int) - 1))] [] Lam M 0 0 := by
  have hJl2 := hJlm
  obtain ⟨hu0, hu30, hl0, hl60, hL⟩ := hJl2
  have hLl := hL l.toNat (by omega)
  refine mm_iload (mm_dc od_X10_broke_0 27 rfl) rfl ?_
  refine mm_if_lt 64 (mm_dc od_X10_broke_0 28 rfl) (by omega) (by first | assumption | omega | exact hr _ _ rfl | exact mm_ti _ | exact mm_r3264 (hr _ _ rfl)) (fun c1 => ?_) (fun c1 => ?_)
  · exact L_brkM1 l q hv hJlm hr _ (by first | exact Or.inl ⟨by omega, fun i hi => hj i (by omega) hi⟩ | exact Or.inr ⟨by omega, by omega, by assumption, fun i h1 h2 => hj i (by omega) h2⟩) k2
  · refine mm_aload_n (mm_dc od_X10_broke_0 29 rfl) rfl ?_
    refine mm_getR (ci := 10) (k := 41) (mm_dc od_X10_broke_0 30 rfl) rfl in_X10 (by decide) wd_4_153 rfl rfl ?_
    refine mm_iload (mm_dc od_X10_broke_0 31 rfl) rfl ?_
    refine mm_iald (mm_dc od_X10_broke_0 32 rfl) rfl (by first | assumption | omega | exact hr _ _ rfl | exact mm_ti _ | exact mm_r3264 (hr _ _ rfl)) (by first | assumption | omega | exact hr _ _ rfl | exact mm_ti _ | exact mm_r3264 (hr _ _ rfl)) (by decide) ?_
    refine mm_iload_n (mm_dc od_X10_broke_0 33 rfl) rfl ?_
    refine mm_icmp_eq 64 (mm_dc od_X10_broke_0 34 rfl) (by omega) (by first | assumption | omega | exact hr _ _ rfl | exact mm_ti _ | exact mm_r3264 (hr _ _ rfl)) (by first | assumption | omega | exact hr _ _ rfl | exact mm_ti _ | exact mm_r3264 (hr _ _ rfl)) (fun c2 => ?_) (fun c2 => ?_)
    · exact L_brkM1 l q hv hJlm hr _ (by first | exact Or.inl ⟨by omega, fun i hi => hj i (by omega) hi⟩ | exact Or.inr ⟨by omega, by omega, by assumption, fun i h1 h2 => hj i (by omega) h2⟩) k2
    · refine mm_iinc (L' := [(0, v_r 50), (1, v_i l), (2, v_i q), (3, v_i (M 83 l.toNat)), (4, v_i (((j : Int) - 1) + (-1)))]) (mm_dc od_X10_broke_0 35 rfl) rfl (by decide) rfl ?_
      refine mm_goto 42 (mm_dc od_X10_broke_0 36 rfl) (by omega) ?_
      refine mm_cL (L' := [(0, v_r 50), (1, v_i l), (2, v_i q), (3, v_i (M 83 l.toNat)), (4, v_i (((j - 1 : Nat) : Int) - 1))]) (by rw [show (j : Int) - 1 + (-1) = ((j - 1 : Nat) : Int) - 1 by omega]) ?_
      exact L_brkM0 l q hv hJlm hr k2 (j - 1) (fun i h1 h2 => by by_cases q : i = j - 1; rw [q]; have q2 : ((j : Int) - 1).toNat = j - 1 := (by omega); rw [← q2]; assumption; exact hj i (by omega) h2) (by omega)
termination_by j
decreasing_by all_goals (first | omega | (simp_wf; omega))
theorem c_X10_broke {X : Nat × (Nat → Int)} {d : Nat} {Po : mm_Po} {M : mm_M} (l : Int) (q : Int) (hl0 : mm_r32 l) (hq0 : mm_r32 q) (hJlm : JLm M) (hr : R32 M) (k1 : (¬ ((0 ≤ l ∧ l ≤ M 50 45 - 1) ∧ (0 ≤ q ∧ q ≤ 2))) → Po (some (v_i (-1))) Lam M) (k2 : ((0 ≤ l ∧ l ≤ M 50 45 - 1) ∧ (0 ≤ q ∧ q ≤ 2)) → ∀ (r : Int), BrkR (M 83) (M 85) (M 84) (M 79) (M 82) l q r → Po (some (v_i r)) Lam M) : mm_E X (d + 1) 0 0 mi_X10_broke [v_r 50, v_i l, v_i q] Po Lam M := by
  show mm_G X (d + 1) 0 0 mi_X10_broke Po 0 [(0, v_r 50), (1, v_i l), (2, v_i q)] [] Lam M 0 0
  have hJl2 := hJlm
  obtain ⟨hu0, hu30, hl0, hl60, hL⟩ := hJl2
  refine mm_iload_n (mm_dc od_X10_broke_0 0 rfl) rfl ?_
  refine mm_i2l (mm_dc od_X10_broke_0 1 rfl) (by first | assumption | omega | exact hr _ _ rfl | exact mm_ti _ | exact mm_r3264 (hr _ _ rfl)) ?_
  refine mm_lconst (mm_dc od_X10_broke_0 2 rfl) ?_
  refine mm_aload_n (mm_dc od_X10_broke_0 3 rfl) rfl ?_
  refine mm_getI (ci := 10) (k := 45) (mm_dc od_X10_broke_0 4 rfl) rfl in_X10 (by decide) wd_4_157 rfl rfl ?_
  refine mm_iconst (mm_dc od_X10_broke_0 5 rfl) ?_
  refine mm_isub (mm_dc od_X10_broke_0 6 rfl) ?_
  refine mm_i2l (mm_dc od_X10_broke_0 7 rfl) (by first | assumption | omega | exact hr _ _ rfl | exact mm_ti _ | exact mm_r3264 (hr _ _ rfl)) ?_
  refine mm_callS (mi' := mi_X10_isIn) [v_l l, v_l 0, v_l ((M 50 45) - 1)] [] (mm_dc od_X10_broke_0 8 rfl) rfl wd_5_37 wd_5_38 wd_1_12 wd_5_39 yk_X10_isIn (Nat.le_of_ble_eq_true rfl) rfl (by decide) (c_X10_isIn l 0 ((M 50 45) - 1) (by first | assumption | omega | exact hr _ _ rfl | exact mm_ti _ | exact mm_r3264 (hr _ _ rfl)) (by first | assumption | omega | exact hr _ _ rfl | exact mm_ti _ | exact mm_r3264 (hr _ _ rfl)) (by first | assumption | omega | exact hr _ _ rfl | exact mm_ti _ | exact mm_r3264 (hr _ _ rfl)) (fun c1 => ⟨Nat.le_refl _, ?_⟩) (fun c1 => ⟨Nat.le_refl _, ?_⟩))
  · refine mm_if_eq 28 (mm_dc od_X10_broke_0 9 rfl) (by omega) (by first | assumption | omega | exact hr _ _ rfl | exact mm_ti _ | exact mm_r3264 (hr _ _ rfl)) (fun h => absurd h (by decide)) (fun _ => ?_)
    refine mm_iload_n (mm_dc od_X10_broke_0 10 rfl) rfl ?_
    refine mm_i2l (mm_dc od_X10_broke_0 11 rfl) (by first | assumption | omega | exact hr _ _ rfl | exact mm_ti _ | exact mm_r3264 (hr _ _ rfl)) ?_
    refine mm_lconst (mm_dc od_X10_broke_0 12 rfl) ?_
    refine mm_ldc2 (z := 2) (mm_dc od_X10_broke_0 13 rfl) wd_6_28 ?_
    refine mm_callS (mi' := mi_X10_isIn) [v_l q, v_l 0, v_l 2] [] (mm_dc od_X10_broke_0 14 rfl) rfl wd_5_37 wd_5_38 wd_1_12 wd_5_39 yk_X10_isIn (Nat.le_of_ble_eq_true rfl) rfl (by decide) (c_X10_isIn q 0 2 (by first | assumption | omega | exact hr _ _ rfl | exact mm_ti _ | exact mm_r3264 (hr _ _ rfl)) (by first | assumption | omega | exact hr _ _ rfl | exact mm_ti _ | exact mm_r3264 (hr _ _ rfl)) (by first | assumption | omega | exact hr _ _ rfl | exact mm_ti _ | exact mm_r3264 (hr _ _ rfl)) (fun c2 => ⟨Nat.le_refl _, ?_⟩) (fun c2 => ⟨Nat.le_refl _, ?_⟩))
    · refine mm_if_ne 30 (mm_dc od_X10_broke_0 15 rfl) (by omega) (by first | assumption | omega | exact hr _ _ rfl | exact mm_ti _ | exact mm_r3264 (hr _ _ rfl)) (fun _ => ?_) (fun h => absurd h (by decide))
      refine mm_aload_n (mm_dc od_X10_broke_0 18 rfl) rfl ?_
      refine mm_getR (ci := 10) (k := 41) (mm_dc od_X10_broke_0 19 rfl) rfl in_X10 (by decide) wd_4_153 rfl rfl ?_
      refine mm_iload_n (mm_dc od_X10_broke_0 20 rfl) rfl ?_
      refine mm_iald (mm_dc od_X10_broke_0 21 rfl) rfl (by first | assumption | omega | exact hr _ _ rfl | exact mm_ti _ | exact mm_r3264 (hr _ _ rfl)) (by first | assumption | omega | exact hr _ _ rfl | exact mm_ti _ | exact mm_r3264 (hr _ _ rfl)) (by decide) ?_
      refine mm_istore_n (L' := [(0, v_r 50), (1, v_i l), (2, v_i q), (3, v_i (M 83 (Int.toNat l)))]) (mm_dc od_X10_broke_0 22 rfl) (by decide) rfl ?_
      refine mm_iload_n (mm_dc od_X10_broke_0 23 rfl) rfl ?_
      refine mm_iconst (mm_dc od_X10_broke_0 24 rfl) ?_
      refine mm_isub (mm_dc od_X10_broke_0 25 rfl) ?_
      refine mm_istore (L' := [(0, v_r 50), (1, v_i l), (2, v_i q), (3, v_i (M 83 (Int.toNat l))), (4, v_i (l - 1))]) (mm_dc od_X10_broke_0 26 rfl) (by decide) rfl ?_
      refine mm_cL (L' := [(0, v_r 50), (1, v_i l), (2, v_i q), (3, v_i (M 83 l.toNat)), (4, v_i ((l.toNat : Int) - 1))]) (by rw [show (l.toNat : Int) = l by omega]) ?_
      exact L_brkM0 l q (by omega) hJlm hr (k2 (by omega)) l.toNat (fun i h1 h2 => by omega) (by omega)
    · refine mm_if_ne 30 (mm_dc od_X10_broke_0 15 rfl) (by omega) (by first | assumption | omega | exact hr _ _ rfl | exact mm_ti _ | exact mm_r3264 (hr _ _ rfl)) (fun h => absurd h (by decide)) (fun _ => ?_)
      refine mm_iconst (mm_dc od_X10_broke_0 16 rfl) ?_
      refine mm_iret (mm_dc od_X10_broke_0 17 rfl) rfl ?_
      exact k1 (by omega)
  · refine mm_if_eq 28 (mm_dc od_X10_broke_0 9 rfl) (by omega) (by first | assumption | omega | exact hr _ _ rfl | exact mm_ti _ | exact mm_r3264 (hr _ _ rfl)) (fun _ => ?_) (fun h => absurd h (by decide))
    refine mm_iconst (mm_dc od_X10_broke_0 16 rfl) ?_
    refine mm_iret (mm_dc od_X10_broke_0 17 rfl) rfl ?_
    exact k1 (by omega)
theorem BrkR_one {lb ww ah ob wh : Nat → Int} {l q r s : Int} (hah : ∀ i : Nat, i < l.toNat → 0 ≤ ah i) (h : BrkR lb ww ah ob wh l q r) (h2 : BrkR lb ww ah ob wh l q s) : r = s := by
  obtain ⟨f, a1, a2⟩ := h
  obtain ⟨g, b1, b2⟩ := h2
  have e := lastP_one a1 b1
  subst e
  have hbeg : 0 ≤ begQ ah f := by
    unfold begQ
    split
    · omega
    · have := lastP_rng a1
      exact hah _ (by omega)
  rcases a2 with ⟨a3, a4⟩ | ⟨a3, a4⟩ <;> rcases b2 with ⟨b3, b4⟩ | ⟨b3, b4⟩
  · omega
  · exact absurd b3 a3
  · exact absurd a3 b3
  · rcases a4 with ⟨x1, x2⟩ | ⟨x1, x2⟩ | ⟨x1, y, x2, x3⟩ <;> rcases b4 with ⟨z1, z2⟩ | ⟨z1, z2⟩ | ⟨z1, t, z2, z3⟩ <;> first | omega | skip
    · exact midP_one hbeg x2 z2
    · have e := midP_one hbeg x2 z2
      subst e
      omega
theorem BrkR_cong {lb ww ah ob wh lb2 ww2 ah2 ob2 wh2 : Nat → Int} {l q r o : Int} (h0 : 0 ≤ l) (hl : ∀ i : Nat, i ≤ l.toNat → lb i = lb2 i ∧ ww i = ww2 i ∧ ah i = ah2 i ∧ 0 ≤ ah i ∧ ah i ≤ o) (ho : ∀ i : Nat, (i : Int) < o → ob i = ob2 i ∧ wh i = wh2 i) (h : BrkR lb ww ah ob wh l q r) : BrkR lb2 ww2 ah2 ob2 wh2 l q r := by
  obtain ⟨f, a1, a2⟩ := h
  have el := hl l.toNat (Nat.le_refl _)
  have hr := lastP_rng a1
  have ew : brkQ ww l f ↔ brkQ ww2 l f := by
    unfold brkQ
    rw [el.2.1]
    by_cases q : f = -1
    · simp [q]
    · rw [(hl f.toNat (by omega)).2.1]
  have eb : begQ ah f = begQ ah2 f ∧ 0 ≤ begQ ah2 f := by
    unfold begQ
    by_cases q : f = -1
    · simp [q]
    · have := hl f.toNat (by omega)
      rw [if_neg q, if_neg q]; omega
  have em : ∀ g, midP (fun i => ob i = lb l.toNat) g (begQ ah f) (ah l.toNat) → midP (fun i => ob2 i = lb2 l.toNat) g (begQ ah2 f) (ah2 l.toNat) := fun g hg => by
    rw [← eb.1, ← el.2.2.1, ← el.1]
    refine midP_cong (by omega) hg (fun i hi => ?_)
    rw [(ho i (by omega)).1]
  refine ⟨f, lastP_cong a1 (fun i hi => by rw [el.1, (hl i (by omega)).1]), ?_⟩
  rw [← ew]
  rcases a2 with ⟨a3, a4⟩ | ⟨a3, a4⟩
  · exact Or.inl ⟨a3, a4⟩
  · refine Or.inr ⟨a3, ?_⟩
    rcases a4 with ⟨x1, x2⟩ | ⟨x1, x2⟩ | ⟨x1, y, x2, x3⟩
    · refine Or.inl ⟨x1, ?_⟩
      rw [x2, ← eb.1, ← el.2.2.1, ← el.1]
      unfold midc
      refine rowc_cong (fun i hi => ?_)
      dsimp only
      rw [(ho ((begQ ah f).toNat + i) (by omega)).1]
    · exact Or.inr (Or.inl ⟨x1, em _ x2⟩)
    · refine Or.inr (Or.inr ⟨x1, y, em _ x2, ?_⟩)
      rcases x3 with x3 | ⟨x3, x4⟩
      · exact Or.inl x3
      · have := midP_rng x2
        exact Or.inr ⟨x3, by rw [x4, (ho _ (by omega)).2]⟩
theorem BrkR_ex (lb ww ah ob wh : Nat → Int) (l q : Int) (hah : ∀ i : Nat, i ≤ l.toNat → 0 ≤ ah i) (hq : 0 ≤ q ∧ q ≤ 2) : ∃ r, BrkR lb ww ah ob wh l q r := by
  obtain ⟨f, hf⟩ := lastP_ex (P := fun i => lb i = lb l.toNat) l.toNat
  by_cases hb : brkQ ww l f
  · have hbeg : 0 ≤ begQ ah f := by
      unfold begQ
      split
      · omega
      · have := lastP_rng hf
        exact hah _ (by omega)
    obtain ⟨g, hg⟩ := midP_ex (P := fun i => ob i = lb l.toNat) (begQ ah f) hbeg (ah l.toNat - begQ ah f).toNat
    have hg := midP_end hg rfl
    rcases (show q = 0 ∨ q = 1 ∨ q = 2 by omega) with e | e | e
    · exact ⟨_, f, hf, Or.inr ⟨hb, Or.inl ⟨e, rfl⟩⟩⟩
    · exact ⟨g, f, hf, Or.inr ⟨hb, Or.inr (Or.inl ⟨e, hg⟩)⟩⟩
    · by_cases e2 : g = -1
      · exact ⟨_, f, hf, Or.inr ⟨hb, Or.inr (Or.inr ⟨e, g, hg, Or.inl ⟨e2, rfl⟩⟩)⟩⟩
      · exact ⟨_, f, hf, Or.inr ⟨hb, Or.inr (Or.inr ⟨e, g, hg, Or.inr ⟨e2, rfl⟩⟩)⟩⟩
  · exact ⟨_, f, hf, Or.inl ⟨hb, rfl⟩⟩
theorem BrkR_rng {lb ww ah ob wh : Nat → Int} {l q r : Int} (hah : ∀ i : Nat, i ≤ l.toNat → 0 ≤ ah i ∧ ah i ≤ 30) (hwh : ∀ i, mm_r32 (wh i)) (h : BrkR lb ww ah ob wh l q r) : mm_r32 r := by
  obtain ⟨f, a1, a2⟩ := h
  have hbeg : 0 ≤ begQ ah f := by
    unfold begQ
    split
    · omega
    · have := lastP_rng a1
      exact (hah _ (by omega)).1
  have hl := hah l.toNat (Nat.le_refl _)
  rcases a2 with ⟨a3, a4⟩ | ⟨a3, ⟨x1, x2⟩ | ⟨x1, x2⟩ | ⟨x1, y, x2, x3⟩⟩
  · omega
  · unfold midc at x2
    have := rowc_r (fun k => (fun i => decide (ob i = lb l.toNat)) ((begQ ah f).toNat + k)) (ah l.toNat - begQ ah f).toNat
    omega
  · have := midP_rng x2
    omega
  · rcases x3 with x3 | ⟨x3, x4⟩
    · omega
    · rw [x4]; exact hwh _
theorem pair_broke {M : mm_M} (hI : inv M) (l q : Int) (hl : mm_r32 l) (hq : mm_r32 q) : Pair mi_X9_broke mi_X10_broke v_i [v_i l, v_i q] M := by
  have hI0 := hI
  obtain ⟨hr, hJo, hJb, hJr, hJom, hJbm, v0, v1, v2, v3, v4, v5, v6, v7, v8, v9⟩ := hI0
  have jo := hJo; have jb := hJb; have jr := hJr; have jom := hJom; have jbm := hJbm
  obtain ⟨ho0, ho16, hO⟩ := jo
  obtain ⟨hb0, hb8, hB⟩ := jb
  obtain ⟨hr0, hr40, hRr⟩ := jr
  obtain ⟨go0, go16, gO⟩ := jom
  obtain ⟨gb0, gb8, gB⟩ := jbm
  have w1 := v1.1; have w2 := v2.1; have w3 := v3.1; have w4 := v4.1; have w5 := v5.1; have w6 := v6.1; have w7 := v7.1.1; have w7b := v7.2.1.1; have w8 := v8.1; have w8b := v8.2.2.2.1
  obtain ⟨hJl, hJlm⟩ := inv_JL hI
  have hJl2 := hJl
  obtain ⟨hu0, hu30, hl0, hl60, hL⟩ := hJl2
  by_cases hv : (0 ≤ l ∧ l ≤ M 35 5 - 1) ∧ (0 ≤ q ∧ q ≤ 2)
  · obtain ⟨a, ha⟩ := BrkR_ex (M 40) (M 41) (M 42) (M 36) (M 39) l q (fun i hi => (hL i (by omega)).2.2.1) hv.2
    have hc := BrkR_cong (o := M 35 0) (lb2 := M 83) (ww2 := M 85) (ah2 := M 84) (ob2 := M 79) (wh2 := M 82) hv.1.1 (fun i hi => by have h := v7.2.1.2.2.2 i (by omega); omega) (fun i hi => by have h := v7.1.2.2.2 i (by omega); omega) ha
    refine Pair_i a M M (fun X d Po k => c_X9_broke (d := d + 9) l q hl hq hJl hr (fun q => absurd hv q) (fun _ r hr2 => ?_)) (fun X d Po k => c_X10_broke (d := d + 11) l q hl hq hJlm hr (fun q => by exfalso; omega) (fun _ r hr2 => ?_)) (BrkR_rng (fun i hi => by have h := (hL i (by omega)).2.2; omega) (fun i => hr _ _ rfl) ha) hI
    · rw [BrkR_one (fun i hi => (hL i (by omega)).2.2.1) hr2 ha]; exact k
    · rw [BrkR_one (fun i hi => by have h := hJlm.2.2.2.2 i (by omega); omega) hr2 hc]; exact k
  · refine Pair_i (-1) M M (fun X d Po k => c_X9_broke (d := d + 9) l q hl hq hJl hr (fun q => k) (fun q => absurd q hv)) (fun X d Po k => c_X10_broke (d := d + 11) l q hl hq hJlm hr (fun q => k) (fun q => by exfalso; omega)) (by decide) hI
