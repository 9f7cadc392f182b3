theorem c_X10_mayBeOut {X : Nat × (Nat → Int)} {d : Nat} {Po : mm_Po} {M : mm_M} (o : Int) (hour : Int) (h0 : 0 ≤ o ∧ o < M 50 10) (hs1 : mm_r32 hour) (hJom : JOm M) (hr : R32 M) (kt : M 55 o.toNat = 0 ∧ (M 51 o.toNat ≠ 4 ∨ 7 ≤ hour) → Po (some (v_i 1)) Lam M) (kf : ¬ (M 55 o.toNat = 0 ∧ (M 51 o.toNat ≠ 4 ∨ 7 ≤ hour)) → Po (some (v_i 0)) Lam M) : mm_E X d 0 0 mi_X10_mayBeOut [v_r 50, v_i o, v_i hour] Po Lam M := by
  show mm_G X d 0 0 mi_X10_mayBeOut Po 0 [(0, v_r 50), (1, v_i o), (2, v_i hour)] [] Lam M 0 0
  have hJom2 := hJom
  obtain ⟨ho0, ho16, hO⟩ := hJom2
  have hO1 := hO o.toNat
  refine mm_aload_n (mm_dc od_X10_mayBeOut_0 0 rfl) rfl ?_
  refine mm_getR (ci := 10) (k := 4) (mm_dc od_X10_mayBeOut_0 1 rfl) rfl in_X10 (by decide) wd_4_116 rfl rfl ?_
  refine mm_iload_n (mm_dc od_X10_mayBeOut_0 2 rfl) rfl ?_
  refine mm_zald (mm_dc od_X10_mayBeOut_0 3 rfl) rfl (by first | assumption | omega | exact hr _ _ rfl | exact mm_ti _ | exact mm_r3264 (hr _ _ rfl)) (by first | assumption | omega | exact hr _ _ rfl | exact mm_ti _ | exact mm_r3264 (hr _ _ rfl)) (by decide) ?_
  refine mm_if_ne 29 (mm_dc od_X10_mayBeOut_0 4 rfl) (by omega) (by first | assumption | omega | exact hr _ _ rfl | exact mm_ti _ | exact mm_r3264 (hr _ _ rfl)) (fun c1 => ?_) (fun c1 => ?_)
  · refine mm_iconst (mm_dc od_X10_mayBeOut_0 16 rfl) ?_
    refine mm_zret .boolean (mm_dc od_X10_mayBeOut_0 17 rfl) rfl rfl ?_
    exact kf (by first | assumption | omega)
  · refine mm_aload_n (mm_dc od_X10_mayBeOut_0 5 rfl) rfl ?_
    refine mm_getR (ci := 10) (k := 0) (mm_dc od_X10_mayBeOut_0 6 rfl) rfl in_X10 (by decide) wd_4_112 rfl rfl ?_
    refine mm_iload_n (mm_dc od_X10_mayBeOut_0 7 rfl) rfl ?_
    refine mm_iald (mm_dc od_X10_mayBeOut_0 8 rfl) rfl (by first | assumption | omega | exact hr _ _ rfl | exact mm_ti _ | exact mm_r3264 (hr _ _ rfl)) (by first | assumption | omega | exact hr _ _ rfl | exact mm_ti _ | exact mm_r3264 (hr _ _ rfl)) (by decide) ?_
    refine mm_iconst (mm_dc od_X10_mayBeOut_0 9 rfl) ?_
    refine mm_icmp_ne 25 (mm_dc od_X10_mayBeOut_0 10 rfl) (by omega) (by first | assumption | omega | exact hr _ _ rfl | exact mm_ti _ | exact mm_r3264 (hr _ _ rfl)) (by first | assumption | omega | exact hr _ _ rfl | exact mm_ti _ | exact mm_r3264 (hr _ _ rfl)) (fun c2 => ?_) (fun c2 => ?_)
    · refine mm_iconst (mm_dc od_X10_mayBeOut_0 14 rfl) ?_
      refine mm_goto 30 (mm_dc od_X10_mayBeOut_0 15 rfl) (by omega) ?_
      refine mm_zret .boolean (mm_dc od_X10_mayBeOut_0 17 rfl) rfl rfl ?_
      exact kt (by first | assumption | omega)
    · refine mm_iload_n (mm_dc od_X10_mayBeOut_0 11 rfl) rfl ?_
      refine mm_bipush (mm_dc od_X10_mayBeOut_0 12 rfl) (by decide) ?_
      refine mm_icmp_lt 29 (mm_dc od_X10_mayBeOut_0 13 rfl) (by omega) (by first | assumption | omega | exact hr _ _ rfl | exact mm_ti _ | exact mm_r3264 (hr _ _ rfl)) (by first | assumption | omega | exact hr _ _ rfl | exact mm_ti _ | exact mm_r3264 (hr _ _ rfl)) (fun c3 => ?_) (fun c3 => ?_)
      · refine mm_iconst (mm_dc od_X10_mayBeOut_0 16 rfl) ?_
        refine mm_zret .boolean (mm_dc od_X10_mayBeOut_0 17 rfl) rfl rfl ?_
        exact kf (by first | assumption | omega)
      · refine mm_iconst (mm_dc od_X10_mayBeOut_0 14 rfl) ?_
        refine mm_goto 30 (mm_dc od_X10_mayBeOut_0 15 rfl) (by omega) ?_
        refine mm_zret .boolean (mm_dc od_X10_mayBeOut_0 17 rfl) rfl rfl ?_
        exact kt (by first | assumption | omega)
theorem sumI_one {f : Nat → Int} : ∀ {n r : Nat}, r < n → (∀ i, i < n → i ≠ r → f i = 0) → sumI f n = f r
  | 0, _, h, _ => by omega
  | n + 1, r, h, hz => by
    simp only [sumI]
    by_cases e : r = n
    · subst e
      have h0 : sumI f r = 0 := by
        have h1 := sumI_r (f := f) (c := 0) r (fun i hi => by rw [hz i (by omega) (by omega)]; omega)
        omega
      omega
    · have h1 := sumI_one (r := r) (n := n) (by omega) (fun i hi hne => hz i (by omega) hne)
      rw [h1, hz n (by omega) (by omega)]; omega
theorem sumI_zero {f : Nat → Int} {n : Nat} (h : ∀ i, i < n → f i = 0) : sumI f n = 0 := by
  have h1 := sumI_r (f := f) (c := 0) n (fun i hi => by rw [h i hi]; omega)
  omega
theorem sumI_cong {f g : Nat → Int} : ∀ {n : Nat}, (∀ i, i < n → f i = g i) → sumI f n = sumI g n
  | 0, _ => rfl
  | n + 1, h => by simp only [sumI]; rw [sumI_cong (fun i hi => h i (by omega)), h n (by omega)]
def onQ (M : mm_M) (b : Int) (s o : Nat) : Prop := M 53 o = b ∧ M 54 o = s
def siW (M : mm_M) (b : Int) (s : Nat) : Int := sumI (fun o => if M 53 o = b ∧ M 54 o = s then M 52 o else 0) (M 50 10).toNat
def ocQ (M : mm_M) (b : Int) (s : Nat) : Prop := ∃ o : Nat, (o : Int) < M 50 10 ∧ M 53 o = b ∧ M 54 o = s
def manM (M : mm_M) (b : Int) : Prop := (∀ s : Nat, (s : Int) < mm_seats (M 57 b.toNat).toNat → ocQ M b s) ∧ ((M 57 b.toNat = 1 ∨ M 57 b.toNat = 2) → ocQ M b 8)
def meanM (M : mm_M) (b : Int) : Int := Int.tdiv (sumI (siW M b) (mm_seats (M 57 b.toNat).toNat).toNat) (mm_seats (M 57 b.toNat).toNat)
def okM (M : mm_M) (b hour : Int) : Prop := ∀ o : Nat, (o : Int) < M 50 10 → M 53 o = b → M 55 o = 0 ∧ (M 51 o ≠ 4 ∨ 7 ≤ hour)
theorem siW_is {M : mm_M} {b r : Int} {s : Nat} (hb : 0 ≤ b) (h0 : V0 M) (h : lastP (fun i => M 53 i = b ∧ M 54 i = (s : Int)) r (M 50 10).toNat) (hr : 0 ≤ r) : siW M b s = M 52 r.toNat ∧ ocQ M b s := by
  rcases h with ⟨e, _⟩ | ⟨h1, h2, h3, _⟩
  · omega
  · refine ⟨?_, ⟨r.toNat, by omega, h3⟩⟩
    have h4 := sumI_one (f := fun o => if M 53 o = b ∧ M 54 o = s then M 52 o else 0) (n := (M 50 10).toNat) (r := r.toNat) (by omega) (fun i hi hne => by
      rw [if_neg]
      intro q
      exact hne (h0.2 i r.toNat (by omega) (by omega) (by omega) (by omega) (by omega)))
    unfold siW
    rw [h4]
    rw [if_pos h3]
theorem siW_no {M : mm_M} {b r : Int} {s : Nat} (h : lastP (fun i => M 53 i = b ∧ M 54 i = (s : Int)) r (M 50 10).toNat) (hr : r < 0) : ¬ ocQ M b s := by
  rintro ⟨o, h1, h2⟩
  rcases h with ⟨_, e⟩ | ⟨e, _⟩
  · exact e o (by omega) h2
  · omega
theorem L_ashC {X : Nat × (Nat → Int)} {d : Nat} {Po : mm_Po} {M : mm_M} (b hour : Int) (hb : 0 ≤ b ∧ b < M 50 11) (hh : 0 ≤ hour ∧ hour ≤ 23) (hJom : JOm M) (hJbm : JBm M) (hJwm : JWm M) (hJrum : JRum M) (hJ0 : V0 M) (hr : R32 M) (k : ∀ r : Int, WhyQ (M 56 b.toNat = 1) (manM M b) (M 58 b.toNat ≤ meanM M b ∧ meanM M b ≤ M 59 b.toNat) (okM M b hour) (fun q => lastP (rulM M (nowM M b hour) (M 57 b.toNat)) q (M 50 30).toNat) (M 75) r → Po (some (v_i r)) Lam M) (hnb : ¬ M 56 b.toNat = 1) (hman : manM M b) (hmean : M 58 b.toNat ≤ meanM M b ∧ meanM M b ≤ M 59 b.toNat) (x y : Int) (j : Nat) (hj : ∀ o : Nat, o < j → M 53 o = b → M 55 o = 0 ∧ (M 51 o ≠ 4 ∨ 7 ≤ hour)) (hj2 : (j : Int) ≤ M 50 10) : mm_G X (d + 4) 0 0 mi_X10_ashore Po 114 [(0, v_r 50), (1, v_i b), (2, v_i hour), (3, v_i x), (4, v_i y), (5, v_i (j : Int))] [] Lam M 0 0 := by
  have hJbm2 := hJbm
  obtain ⟨hb0, hb8, hB⟩ := hJbm2
  have hJom2 := hJom
  obtain ⟨ho0, ho16, hO⟩ := hJom2
  have hB1 := hB b.toNat (by omega)
  have hse := mm_seats_le (M 57 b.toNat).toNat (by omega)
  have hO1 := hO j
  have hJru2 := hJrum
  obtain ⟨hu0, hu10, hU⟩ := hJru2
  refine mm_iload (mm_dc od_X10_ashore_1 7 rfl) rfl ?_
  refine mm_aload_n (mm_dc od_X10_ashore_1 8 rfl) rfl ?_
  refine mm_getI (ci := 10) (k := 10) (mm_dc od_X10_ashore_1 9 rfl) rfl in_X10 (by decide) wd_4_122 rfl rfl ?_
  refine mm_icmp_ge 152 (mm_dc od_X10_ashore_1 10 rfl) (by omega) (by first | assumption | omega | exact hr _ _ rfl | exact mm_ti _ | exact mm_r3264 (hr _ _ rfl)) (by first | assumption | omega | exact hr _ _ rfl | exact mm_ti _ | exact mm_r3264 (hr _ _ rfl)) (fun c1 => ?_) (fun c1 => ?_)
  · refine mm_aload_n (mm_dc od_X10_ashore_1 26 rfl) rfl ?_
    refine mm_iload_n (mm_dc od_X10_ashore_1 27 rfl) rfl ?_
    refine mm_iload_n (mm_dc od_X10_ashore_1 28 rfl) rfl ?_
    refine mm_callV (b := 50) (mi' := mi_X10_asked) [v_i b, v_i hour] [] (mm_dc od_X10_ashore_1 29 rfl) rfl wd_5_228 wd_5_230 wd_p_42 wd_1_12 wd_5_231 yk_X10_asked rfl rfl rfl (Nat.le_of_ble_eq_true rfl) rfl (by decide) (c_X10_asked b hour (by first | assumption | omega | exact hr _ _ rfl | exact mm_ti _ | exact mm_r3264 (hr _ _ rfl)) (by first | assumption | omega | exact hr _ _ rfl | exact mm_ti _ | exact mm_r3264 (hr _ _ rfl)) hJom hJbm hJwm hJrum (by first | assumption | omega | exact hr _ _ rfl | exact mm_ti _ | exact mm_r3264 (hr _ _ rfl)) (fun r2 hq3 => ⟨Nat.le_refl _, ?_⟩))
    have hq3_r := lastP_rng hq3
    have hU9 := hU r2.toNat
    refine mm_istore (L' := [(0, v_r 50), (1, v_i b), (2, v_i hour), (3, v_i x), (4, v_i y), (5, v_i r2)]) (mm_dc od_X10_ashore_1 30 rfl) (by decide) rfl ?_
    refine mm_iload (mm_dc od_X10_ashore_1 31 rfl) rfl ?_
    refine mm_if_lt 179 (mm_dc od_X10_ashore_1 32 rfl) (by omega) (by first | assumption | omega | exact hr _ _ rfl | exact mm_ti _ | exact mm_r3264 (hr _ _ rfl)) (fun c4 => ?_) (fun c4 => ?_)
    · refine mm_iconst (mm_dc od_X10_ashore_1 40 rfl) ?_
      refine mm_iret (mm_dc od_X10_ashore_1 41 rfl) rfl ?_
      have hok : okM M b hour := fun o ho => hj o (by omega)
      have hU9 := hU r2.toNat
      exact k _ (Or.inr (Or.inr (Or.inr (Or.inr ⟨hnb, hman, hmean, hok, _, hq3, Or.inr ⟨by omega, rfl⟩⟩))))
    · refine mm_aload_n (mm_dc od_X10_ashore_1 33 rfl) rfl ?_
      refine mm_getR (ci := 10) (k := 32) (mm_dc od_X10_ashore_1 34 rfl) rfl in_X10 (by decide) wd_4_144 rfl rfl ?_
      refine mm_iload (mm_dc od_X10_ashore_1 35 rfl) rfl ?_
      refine mm_zald (mm_dc od_X10_ashore_1 36 rfl) rfl (by first | assumption | omega | exact hr _ _ rfl | exact mm_ti _ | exact mm_r3264 (hr _ _ rfl)) (by first | assumption | omega | exact hr _ _ rfl | exact mm_ti _ | exact mm_r3264 (hr _ _ rfl)) (by decide) ?_
      refine mm_if_eq 179 (mm_dc od_X10_ashore_1 37 rfl) (by omega) (by first | assumption | omega | exact hr _ _ rfl | exact mm_ti _ | exact mm_r3264 (hr _ _ rfl)) (fun c5 => ?_) (fun c5 => ?_)
      · refine mm_iconst (mm_dc od_X10_ashore_1 40 rfl) ?_
        refine mm_iret (mm_dc od_X10_ashore_1 41 rfl) rfl ?_
        have hok : okM M b hour := fun o ho => hj o (by omega)
        have hU9 := hU r2.toNat
        exact k _ (Or.inr (Or.inr (Or.inr (Or.inr ⟨hnb, hman, hmean, hok, _, hq3, Or.inr ⟨by omega, rfl⟩⟩))))
      · refine mm_iconst (mm_dc od_X10_ashore_1 38 rfl) ?_
        refine mm_goto 180 (mm_dc od_X10_ashore_1 39 rfl) (by omega) ?_
        refine mm_iret (mm_dc od_X10_ashore_1 41 rfl) rfl ?_
        have hok : okM M b hour := fun o ho => hj o (by omega)
        have hU9 := hU r2.toNat
        exact k _ (Or.inr (Or.inr (Or.inr (Or.inr ⟨hnb, hman, hmean, hok, _, hq3, Or.inl ⟨by omega, by omega, rfl⟩⟩))))
  · refine mm_aload_n (mm_dc od_X10_ashore_1 11 rfl) rfl ?_
    refine mm_getR (ci := 10) (k := 2) (mm_dc od_X10_ashore_1 12 rfl) rfl in_X10 (by decide) wd_4_114 rfl rfl ?_
    refine mm_iload (mm_dc od_X10_ashore_1 13 rfl) rfl ?_
    refine mm_iald (mm_dc od_X10_ashore_1 14 rfl) rfl (by first | assumption | omega | exact hr _ _ rfl | exact mm_ti _ | exact mm_r3264 (hr _ _ rfl)) (by first | assumption | omega | exact hr _ _ rfl | exact mm_ti _ | exact mm_r3264 (hr _ _ rfl)) (by decide) ?_
    refine mm_cst (st' := [v_i (M 53 j)]) rfl ?_
    refine mm_iload_n (mm_dc od_X10_ashore_1 15 rfl) rfl ?_
    refine mm_icmp_ne 146 (mm_dc od_X10_ashore_1 16 rfl) (by omega) (by first | assumption | omega | exact hr _ _ rfl | exact mm_ti _ | exact mm_r3264 (hr _ _ rfl)) (by first | assumption | omega | exact hr _ _ rfl | exact mm_ti _ | exact mm_r3264 (hr _ _ rfl)) (fun c6 => ?_) (fun c6 => ?_)
    · refine mm_iinc (L' := [(0, v_r 50), (1, v_i b), (2, v_i hour), (3, v_i x), (4, v_i y), (5, v_i ((j : Int) + 1))]) (mm_dc od_X10_ashore_1 24 rfl) rfl (by decide) rfl ?_
      refine mm_goto 114 (mm_dc od_X10_ashore_1 25 rfl) (by omega) ?_
      exact L_ashC b hour hb hh hJom hJbm hJwm hJrum hJ0 hr k hnb hman hmean x y (j + 1) (lt_s hj (fun q => by first | assumption | contradiction)) (by omega)
    · refine mm_aload_n (mm_dc od_X10_ashore_1 17 rfl) rfl ?_
      refine mm_iload (mm_dc od_X10_ashore_1 18 rfl) rfl ?_
      refine mm_iload_n (mm_dc od_X10_ashore_1 19 rfl) rfl ?_
      refine mm_callV (b := 50) (mi' := mi_X10_mayBeOut) [v_i (j : Int), v_i hour] [] (mm_dc od_X10_ashore_1 20 rfl) rfl wd_5_157 wd_5_159 wd_p_33 wd_1_12 wd_5_160 yk_X10_mayBeOut rfl rfl rfl (Nat.le_of_ble_eq_true rfl) rfl (by decide) (c_X10_mayBeOut (j : Int) hour (by first | assumption | omega | exact hr _ _ rfl | exact mm_ti _ | exact mm_r3264 (hr _ _ rfl)) (by first | assumption | omega | exact hr _ _ rfl | exact mm_ti _ | exact mm_r3264 (hr _ _ rfl)) hJom (by first | assumption | omega | exact hr _ _ rfl | exact mm_ti _ | exact mm_r3264 (hr _ _ rfl)) (fun c7 => ⟨Nat.le_refl _, ?_⟩) (fun c7 => ⟨Nat.le_refl _, ?_⟩))
      · simp only [Int.toNat_natCast] at c7
        refine mm_if_ne 146 (mm_dc od_X10_ashore_1 21 rfl) (by omega) (by first | assumption | omega | exact hr _ _ rfl | exact mm_ti _ | exact mm_r3264 (hr _ _ rfl)) (fun _ => ?_) (fun h => absurd h (by decide))
        refine mm_iinc (L' := [(0, v_r 50), (1, v_i b), (2, v_i hour), (3, v_i x), (4, v_i y), (5, v_i ((j : Int) + 1))]) (mm_dc od_X10_ashore_1 24 rfl) rfl (by decide) rfl ?_
        refine mm_goto 114 (mm_dc od_X10_ashore_1 25 rfl) (by omega) ?_
        exact L_ashC b hour hb hh hJom hJbm hJwm hJrum hJ0 hr k hnb hman hmean x y (j + 1) (lt_s hj (fun q => by first | assumption | contradiction)) (by omega)
      · simp only [Int.toNat_natCast] at c7
        refine mm_if_ne 146 (mm_dc od_X10_ashore_1 21 rfl) (by omega) (by first | assumption | omega | exact hr _ _ rfl | exact mm_ti _ | exact mm_r3264 (hr _ _ rfl)) (fun h => absurd h (by decide)) (fun _ => ?_)
        refine mm_iconst (mm_dc od_X10_ashore_1 22 rfl) ?_
        refine mm_iret (mm_dc od_X10_ashore_1 23 rfl) rfl ?_
        exact k _ (Or.inr (Or.inr (Or.inr (Or.inl ⟨hnb, hman, hmean, fun q => absurd (q j (by omega) (by assumption)) (by assumption), rfl⟩))))
termination_by (M 50 10).toNat - j
decreasing_by all_goals (first | omega | (simp_wf; omega))
theorem L_ashB {X : Nat × (Nat → Int)} {d : Nat} {Po : mm_Po} {M : mm_M} (b hour : Int) (hb : 0 ≤ b ∧ b < M 50 11) (hh : 0 ≤ hour ∧ hour ≤ 23) (hJom : JOm M) (hJbm : JBm M) (hJwm : JWm M) (hJrum : JRum M) (hJ0 : V0 M) (hr : R32 M) (k : ∀ r : Int, WhyQ (M 56 b.toNat = 1) (manM M b) (M 58 b.toNat ≤ meanM M b ∧ meanM M b ≤ M 59 b.toNat) (okM M b hour) (fun q => lastP (rulM M (nowM M b hour) (M 57 b.toNat)) q (M 50 30).toNat) (M 75) r → Po (some (v_i r)) Lam M) (hnb : ¬ M 56 b.toNat = 1) (hj : ∀ s : Nat, (s : Int) < (mm_seats (M 57 b.toNat).toNat) → ocQ M b s) (hsum : 0 ≤ sumI (siW M b) (mm_seats (M 57 b.toNat).toNat).toNat ∧ sumI (siW M b) (mm_seats (M 57 b.toNat).toNat).toNat ≤ 2000) (y : Int) : mm_G X (d + 4) 0 0 mi_X10_ashore Po 58 [(0, v_r 50), (1, v_i b), (2, v_i hour), (3, v_i (sumI (siW M b) (mm_seats (M 57 b.toNat).toNat).toNat)), (4, v_i y)] [] Lam M 0 0 := by
  have hJbm2 := hJbm
  obtain ⟨hb0, hb8, hB⟩ := hJbm2
  have hJom2 := hJom
  obtain ⟨ho0, ho16, hO⟩ := hJom2
  have hB1 := hB b.toNat (by omega)
  have hse := mm_seats_le (M 57 b.toNat).toNat (by omega)
  have hmr : 0 ≤ Int.tdiv (sumI (siW M b) (mm_seats (M 57 b.toNat).toNat).toNat) (mm_seats (M 57 b.toNat).toNat) ∧ Int.tdiv (sumI (siW M b) (mm_seats (M 57 b.toNat).toNat).toNat) (mm_seats (M 57 b.toNat).toNat) ≤ 2000 := (by rw [Int.tdiv_eq_ediv_of_nonneg hsum.1]; exact ⟨Int.ediv_nonneg hsum.1 (by omega), Int.le_trans (Int.ediv_le_self _ hsum.1) hsum.2⟩)
  refine mm_aload_n (mm_dc od_X10_ashore_0 34 rfl) rfl ?_
  refine mm_iload_n (mm_dc od_X10_ashore_0 35 rfl) rfl ?_
  refine mm_callV (b := 50) (mi' := mi_X10_hasCox) [v_i b] [] (mm_dc od_X10_ashore_0 36 rfl) rfl wd_5_71 wd_5_73 wd_p_25 wd_1_12 wd_5_74 yk_X10_hasCox rfl rfl rfl (Nat.le_of_ble_eq_true rfl) rfl (by decide) (c_X10_hasCox b (by first | assumption | omega | exact hr _ _ rfl | exact mm_ti _ | exact mm_r3264 (hr _ _ rfl)) hJbm (by first | assumption | omega | exact hr _ _ rfl | exact mm_ti _ | exact mm_r3264 (hr _ _ rfl)) (fun c1 => ⟨Nat.le_refl _, ?_⟩) (fun c1 => ⟨Nat.le_refl _, ?_⟩))
  · refine mm_if_eq 78 (mm_dc od_X10_ashore_0 37 rfl) (by omega) (by first | assumption | omega | exact hr _ _ rfl | exact mm_ti _ | exact mm_r3264 (hr _ _ rfl)) (fun h => absurd h (by decide)) (fun _ => ?_)
    refine mm_aload_n (mm_dc od_X10_ashore_0 38 rfl) rfl ?_
    refine mm_iload_n (mm_dc od_X10_ashore_0 39 rfl) rfl ?_
    refine mm_bipush (mm_dc od_X10_ashore_0 40 rfl) (by decide) ?_
    refine mm_callV (b := 50) (mi' := mi_X10_sitter) [v_i b, v_i 8] [] (mm_dc od_X10_ashore_0 41 rfl) rfl wd_5_75 wd_5_77 wd_p_26 wd_1_12 wd_5_78 yk_X10_sitter rfl rfl rfl (Nat.le_of_ble_eq_true rfl) rfl (by decide) (c_X10_sitter b 8 (by first | assumption | omega | exact hr _ _ rfl | exact mm_ti _ | exact mm_r3264 (hr _ _ rfl)) (by first | assumption | omega | exact hr _ _ rfl | exact mm_ti _ | exact mm_r3264 (hr _ _ rfl)) hJom (by first | assumption | omega | exact hr _ _ rfl | exact mm_ti _ | exact mm_r3264 (hr _ _ rfl)) (fun r2 hq3 => ⟨Nat.le_refl _, ?_⟩))
    have hq3_r := lastP_rng hq3
    refine mm_if_ge 78 (mm_dc od_X10_ashore_0 42 rfl) (by omega) (by first | assumption | omega | exact hr _ _ rfl | exact mm_ti _ | exact mm_r3264 (hr _ _ rfl)) (fun c4 => ?_) (fun c4 => ?_)
    · refine mm_iload_n (mm_dc od_X10_ashore_0 45 rfl) rfl ?_
      refine mm_aload_n (mm_dc od_X10_ashore_0 46 rfl) rfl ?_
      refine mm_iload_n (mm_dc od_X10_ashore_0 47 rfl) rfl ?_
      refine mm_callV (b := 50) (mi' := mi_X10_seatsOf) [v_i b] [v_i (sumI (siW M b) (mm_seats (M 57 b.toNat).toNat).toNat)] (mm_dc od_X10_ashore_0 48 rfl) rfl wd_5_67 wd_5_69 wd_p_24 wd_1_12 wd_5_70 yk_X10_seatsOf rfl rfl rfl (Nat.le_of_ble_eq_true rfl) rfl (by decide) (c_X10_seatsOf b (by first | assumption | omega | exact hr _ _ rfl | exact mm_ti _ | exact mm_r3264 (hr _ _ rfl)) hJbm (by first | assumption | omega | exact hr _ _ rfl | exact mm_ti _ | exact mm_r3264 (hr _ _ rfl)) ⟨Nat.le_refl _, ?_⟩)
      refine mm_idiv (mm_dc od_X10_ashore_0 49 rfl) (by first | assumption | omega | exact hr _ _ rfl | exact mm_ti _ | exact mm_r3264 (hr _ _ rfl)) (by first | assumption | omega | exact hr _ _ rfl | exact mm_ti _ | exact mm_r3264 (hr _ _ rfl)) (by first | assumption | omega | exact hr _ _ rfl | exact mm_ti _ | exact mm_r3264 (hr _ _ rfl)) ?_
      refine mm_istore (L' := [(0, v_r 50), (1, v_i b), (2, v_i hour), (3, v_i (sumI (siW M b) (mm_seats (M 57 b.toNat).toNat).toNat)), (4, v_i (Int.tdiv (sumI (siW M b) (mm_seats (M 57 b.toNat).toNat).toNat) (mm_seats (M 57 b.toNat).toNat)))]) (mm_dc od_X10_ashore_0 50 rfl) (by decide) rfl ?_
      refine mm_iload (mm_dc od_X10_ashore_0 51 rfl) rfl ?_
      refine mm_aload_n (mm_dc od_X10_ashore_0 52 rfl) rfl ?_
      refine mm_getR (ci := 10) (k := 7) (mm_dc od_X10_ashore_0 53 rfl) rfl in_X10 (by decide) wd_4_119 rfl rfl ?_
      refine mm_iload_n (mm_dc od_X10_ashore_0 54 rfl) rfl ?_
      refine mm_iald (mm_dc od_X10_ashore_0 55 rfl) rfl (by first | assumption | omega | exact hr _ _ rfl | exact mm_ti _ | exact mm_r3264 (hr _ _ rfl)) (by first | assumption | omega | exact hr _ _ rfl | exact mm_ti _ | exact mm_r3264 (hr _ _ rfl)) (by decide) ?_
      refine mm_icmp_lt 109 (mm_dc od_X10_ashore_0 56 rfl) (by omega) (by first | assumption | omega | exact hr _ _ rfl | exact mm_ti _ | exact mm_r3264 (hr _ _ rfl)) (by first | assumption | omega | exact hr _ _ rfl | exact mm_ti _ | exact mm_r3264 (hr _ _ rfl)) (fun c5 => ?_) (fun c5 => ?_)
      · refine mm_iconst (mm_dc od_X10_ashore_1 3 rfl) ?_
        refine mm_iret (mm_dc od_X10_ashore_1 4 rfl) rfl ?_
        exact k _ (Or.inr (Or.inr (Or.inl ⟨hnb, ⟨hj, fun _ => by first | exact (siW_is (s := 8) (by omega) hJ0 hq3 (by omega)).2 | contradiction⟩, by unfold meanM; omega, rfl⟩)))
      · refine mm_iload (mm_dc od_X10_ashore_0 57 rfl) rfl ?_
        refine mm_aload_n (mm_dc od_X10_ashore_0 58 rfl) rfl ?_
        refine mm_getR (ci := 10) (k := 8) (mm_dc od_X10_ashore_0 59 rfl) rfl in_X10 (by decide) wd_4_120 rfl rfl ?_
        refine mm_iload_n (mm_dc od_X10_ashore_1 0 rfl) rfl ?_
        refine mm_iald (mm_dc od_X10_ashore_1 1 rfl) rfl (by first | assumption | omega | exact hr _ _ rfl | exact mm_ti _ | exact mm_r3264 (hr _ _ rfl)) (by first | assumption | omega | exact hr _ _ rfl | exact mm_ti _ | exact mm_r3264 (hr _ _ rfl)) (by decide) ?_
        refine mm_icmp_le 111 (mm_dc od_X10_ashore_1 2 rfl) (by omega) (by first | assumption | omega | exact hr _ _ rfl | exact mm_ti _ | exact mm_r3264 (hr _ _ rfl)) (by first | assumption | omega | exact hr _ _ rfl | exact mm_ti _ | exact mm_r3264 (hr _ _ rfl)) (fun c6 => ?_) (fun c6 => ?_)
        · refine mm_iconst (mm_dc od_X10_ashore_1 5 rfl) ?_
          refine mm_istore (L' := [(0, v_r 50), (1, v_i b), (2, v_i hour), (3, v_i (sumI (siW M b) (mm_seats (M 57 b.toNat).toNat).toNat)), (4, v_i (Int.tdiv (sumI (siW M b) (mm_seats (M 57 b.toNat).toNat).toNat) (mm_seats (M 57 b.toNat).toNat))), (5, v_i 0)]) (mm_dc od_X10_ashore_1 6 rfl) (by decide) rfl ?_
          exact L_ashC b hour hb hh hJom hJbm hJwm hJrum hJ0 hr k hnb ⟨hj, fun _ => by first | exact (siW_is (s := 8) (by omega) hJ0 hq3 (by omega)).2 | contradiction⟩ (by unfold meanM; omega) _ _ 0 (fun o ho => by omega) (by omega)
        · refine mm_iconst (mm_dc od_X10_ashore_1 3 rfl) ?_
          refine mm_iret (mm_dc od_X10_ashore_1 4 rfl) rfl ?_
          exact k _ (Or.inr (Or.inr (Or.inl ⟨hnb, ⟨hj, fun _ => by first | exact (siW_is (s := 8) (by omega) hJ0 hq3 (by omega)).2 | contradiction⟩, by unfold meanM; omega, rfl⟩)))
    · refine mm_iconst (mm_dc od_X10_ashore_0 43 rfl) ?_
      refine mm_iret (mm_dc od_X10_ashore_0 44 rfl) rfl ?_
      exact k _ (Or.inr (Or.inl ⟨hnb, fun q => absurd (q.2 (by assumption)) (siW_no (s := 8) hq3 (by omega)), rfl⟩))
  · refine mm_if_eq 78 (mm_dc od_X10_ashore_0 37 rfl) (by omega) (by first | assumption | omega | exact hr _ _ rfl | exact mm_ti _ | exact mm_r3264 (hr _ _ rfl)) (fun _ => ?_) (fun h => absurd h (by decide))
    refine mm_iload_n (mm_dc od_X10_ashore_0 45 rfl) rfl ?_
    refine mm_aload_n (mm_dc od_X10_ashore_0 46 rfl) rfl ?_
    refine mm_iload_n (mm_dc od_X10_ashore_0 47 rfl) rfl ?_
    refine mm_callV (b := 50) (mi' := mi_X10_seatsOf) [v_i b] [v_i (sumI (siW M b) (mm_seats (M 57 b.toNat).toNat).toNat)] (mm_dc od_X10_ashore_0 48 rfl) rfl wd_5_67 wd_5_69 wd_p_24 wd_1_12 wd_5_70 yk_X10_seatsOf rfl rfl rfl (Nat.le_of_ble_eq_true rfl) rfl (by decide) (c_X10_seatsOf b (by first | assumption | omega | exact hr _ _ rfl | exact mm_ti _ | exact mm_r3264 (hr _ _ rfl)) hJbm (by first | assumption | omega | exact hr _ _ rfl | exact mm_ti _ | exact mm_r3264 (hr _ _ rfl)) ⟨Nat.le_refl _, ?_⟩)
    refine mm_idiv (mm_dc od_X10_ashore_0 49 rfl) (by first | assumption | omega | exact hr _ _ rfl | exact mm_ti _ | exact mm_r3264 (hr _ _ rfl)) (by first | assumption | omega | exact hr _ _ rfl | exact mm_ti _ | exact mm_r3264 (hr _ _ rfl)) (by first | assumption | omega | exact hr _ _ rfl | exact mm_ti _ | exact mm_r3264 (hr _ _ rfl)) ?_
    refine mm_istore (L' := [(0, v_r 50), (1, v_i b), (2, v_i hour), (3, v_i (sumI (siW M b) (mm_seats (M 57 b.toNat).toNat).toNat)), (4, v_i (Int.tdiv (sumI (siW M b) (mm_seats (M 57 b.toNat).toNat).toNat) (mm_seats (M 57 b.toNat).toNat)))]) (mm_dc od_X10_ashore_0 50 rfl) (by decide) rfl ?_
    refine mm_iload (mm_dc od_X10_ashore_0 51 rfl) rfl ?_
    refine mm_aload_n (mm_dc od_X10_ashore_0 52 rfl) rfl ?_
    refine mm_getR (ci := 10) (k := 7) (mm_dc od_X10_ashore_0 53 rfl) rfl in_X10 (by decide) wd_4_119 rfl rfl ?_
    refine mm_iload_n (mm_dc od_X10_ashore_0 54 rfl) rfl ?_
    refine mm_iald (mm_dc od_X10_ashore_0 55 rfl) rfl (by first | assumption | omega | exact hr _ _ rfl | exact mm_ti _ | exact mm_r3264 (hr _ _ rfl)) (by first | assumption | omega | exact hr _ _ rfl | exact mm_ti _ | exact mm_r3264 (hr _ _ rfl)) (by decide) ?_
    refine mm_icmp_lt 109 (mm_dc od_X10_ashore_0 56 rfl) (by omega) (by first | assumption | omega | exact hr _ _ rfl | exact mm_ti _ | exact mm_r3264 (hr _ _ rfl)) (by first | assumption | omega | exact hr _ _ rfl | exact mm_ti _ | exact mm_r3264 (hr _ _ rfl)) (fun c7 => ?_) (fun c7 => ?_)
    · refine mm_iconst (mm_dc od_X10_ashore_1 3 rfl) ?_
      refine mm_iret (mm_dc od_X10_ashore_1 4 rfl) rfl ?_
      exact k _ (Or.inr (Or.inr (Or.inl ⟨hnb, ⟨hj, fun _ => by first | exact (siW_is (s := 8) (by omega) hJ0 hq3 (by omega)).2 | contradiction⟩, by unfold meanM; omega, rfl⟩)))
    · refine mm_iload (mm_dc od_X10_ashore_0 57 rfl) rfl ?_
      refine mm_aload_n (mm_dc od_X10_ashore_0 58 rfl) rfl ?_
      refine mm_getR (ci := 10) (k := 8) (mm_dc od_X10_ashore_0 59 rfl) rfl in_X10 (by decide) wd_4_120 rfl rfl ?_
      refine mm_iload_n (mm_dc od_X10_ashore_1 0 rfl) rfl ?_
      refine mm_iald (mm_dc od_X10_ashore_1 1 rfl) rfl (by first | assumption | omega | exact hr _ _ rfl | exact mm_ti _ | exact mm_r3264 (hr _ _ rfl)) (by first | assumption | omega | exact hr _ _ rfl | exact mm_ti _ | exact mm_r3264 (hr _ _ rfl)) (by decide) ?_
      refine mm_icmp_le 111 (mm_dc od_X10_ashore_1 2 rfl) (by omega) (by first | assumption | omega | exact hr _ _ rfl | exact mm_ti _ | exact mm_r3264 (hr _ _ rfl)) (by first | assumption | omega | exact hr _ _ rfl | exact mm_ti _ | exact mm_r3264 (hr _ _ rfl)) (fun c8 => ?_) (fun c8 => ?_)
      · refine mm_iconst (mm_dc od_X10_ashore_1 5 rfl) ?_
        refine mm_istore (L' := [(0, v_r 50), (1, v_i b), (2, v_i hour), (3, v_i (sumI (siW M b) (mm_seats (M 57 b.toNat).toNat).toNat)), (4, v_i (Int.tdiv (sumI (siW M b) (mm_seats (M 57 b.toNat).toNat).toNat) (mm_seats (M 57 b.toNat).toNat))), (5, v_i 0)]) (mm_dc od_X10_ashore_1 6 rfl) (by decide) rfl ?_
        exact L_ashC b hour hb hh hJom hJbm hJwm hJrum hJ0 hr k hnb ⟨hj, fun _ => by first | exact (siW_is (s := 8) (by omega) hJ0 hq3 (by omega)).2 | contradiction⟩ (by unfold meanM; omega) _ _ 0 (fun o ho => by omega) (by omega)
      · refine mm_iconst (mm_dc od_X10_ashore_1 3 rfl) ?_
        refine mm_iret (mm_dc od_X10_ashore_1 4 rfl) rfl ?_
        exact k _ (Or.inr (Or.inr (Or.inl ⟨hnb, ⟨hj, fun _ => by first | exact (siW_is (s := 8) (by omega) hJ0 hq3 (by omega)).2 | contradiction⟩, by unfold meanM; omega, rfl⟩)))
theorem L_ashA {X : Nat × (Nat → Int)} {d : Nat} {Po : mm_Po} {M : mm_M} (b hour : Int) (hb : 0 ≤ b ∧ b < M 50 11) (hh : 0 ≤ hour ∧ hour ≤ 23) (hJom : JOm M) (hJbm : JBm M) (hJwm : JWm M) (hJrum : JRum M) (hJ0 : V0 M) (hr : R32 M) (k : ∀ r : Int, WhyQ (M 56 b.toNat = 1) (manM M b) (M 58 b.toNat ≤ meanM M b ∧ meanM M b ≤ M 59 b.toNat) (okM M b hour) (fun q => lastP (rulM M (nowM M b hour) (M 57 b.toNat)) q (M 50 30).toNat) (M 75) r → Po (some (v_i r)) Lam M) (hnb : ¬ M 56 b.toNat = 1) (j : Nat) (hj : ∀ s : Nat, s < j → ocQ M b s) (hsum : 0 ≤ sumI (siW M b) j ∧ sumI (siW M b) j ≤ 200 * j) (hj2 : (j : Int) ≤ (mm_seats (M 57 b.toNat).toNat)) : mm_G X (d + 4) 0 0 mi_X10_ashore Po 16 [(0, v_r 50), (1, v_i b), (2, v_i hour), (3, v_i (sumI (siW M b) j)), (4, v_i (j : Int))] [] Lam M 0 0 := by
  have hJbm2 := hJbm
  obtain ⟨hb0, hb8, hB⟩ := hJbm2
  have hJom2 := hJom
  obtain ⟨ho0, ho16, hO⟩ := hJom2
  have hB1 := hB b.toNat (by omega)
  have hse := mm_seats_le (M 57 b.toNat).toNat (by omega)
  refine mm_iload (mm_dc od_X10_ashore_0 11 rfl) rfl ?_
  refine mm_aload_n (mm_dc od_X10_ashore_0 12 rfl) rfl ?_
  refine mm_iload_n (mm_dc od_X10_ashore_0 13 rfl) rfl ?_
  refine mm_callV (b := 50) (mi' := mi_X10_seatsOf) [v_i b] [v_i (j : Int)] (mm_dc od_X10_ashore_0 14 rfl) rfl wd_5_67 wd_5_69 wd_p_24 wd_1_12 wd_5_70 yk_X10_seatsOf rfl rfl rfl (Nat.le_of_ble_eq_true rfl) rfl (by decide) (c_X10_seatsOf b (by first | assumption | omega | exact hr _ _ rfl | exact mm_ti _ | exact mm_r3264 (hr _ _ rfl)) hJbm (by first | assumption | omega | exact hr _ _ rfl | exact mm_ti _ | exact mm_r3264 (hr _ _ rfl)) ⟨Nat.le_refl _, ?_⟩)
  refine mm_icmp_ge 58 (mm_dc od_X10_ashore_0 15 rfl) (by omega) (by first | assumption | omega | exact hr _ _ rfl | exact mm_ti _ | exact mm_r3264 (hr _ _ rfl)) (by first | assumption | omega | exact hr _ _ rfl | exact mm_ti _ | exact mm_r3264 (hr _ _ rfl)) (fun c1 => ?_) (fun c1 => ?_)
  · have e : j = (mm_seats (M 57 b.toNat).toNat).toNat := by omega
    subst e
    exact L_ashB b hour hb hh hJom hJbm hJwm hJrum hJ0 hr k hnb (fun s hs => hj s (by omega)) (by omega) _
  · refine mm_aload_n (mm_dc od_X10_ashore_0 16 rfl) rfl ?_
    refine mm_iload_n (mm_dc od_X10_ashore_0 17 rfl) rfl ?_
    refine mm_iload (mm_dc od_X10_ashore_0 18 rfl) rfl ?_
    refine mm_callV (b := 50) (mi' := mi_X10_sitter) [v_i b, v_i (j : Int)] [] (mm_dc od_X10_ashore_0 19 rfl) rfl wd_5_75 wd_5_77 wd_p_26 wd_1_12 wd_5_78 yk_X10_sitter rfl rfl rfl (Nat.le_of_ble_eq_true rfl) rfl (by decide) (c_X10_sitter b (j : Int) (by first | assumption | omega | exact hr _ _ rfl | exact mm_ti _ | exact mm_r3264 (hr _ _ rfl)) (by first | assumption | omega | exact hr _ _ rfl | exact mm_ti _ | exact mm_r3264 (hr _ _ rfl)) hJom (by first | assumption | omega | exact hr _ _ rfl | exact mm_ti _ | exact mm_r3264 (hr _ _ rfl)) (fun r2 hq3 => ⟨Nat.le_refl _, ?_⟩))
    have hq3_r := lastP_rng hq3
    refine mm_istore (L' := [(0, v_r 50), (1, v_i b), (2, v_i hour), (3, v_i (sumI (siW M b) j)), (4, v_i (j : Int)), (5, v_i r2)]) (mm_dc od_X10_ashore_0 20 rfl) (by decide) rfl ?_
    refine mm_iload (mm_dc od_X10_ashore_0 21 rfl) rfl ?_
    refine mm_if_ge 42 (mm_dc od_X10_ashore_0 22 rfl) (by omega) (by first | assumption | omega | exact hr _ _ rfl | exact mm_ti _ | exact mm_r3264 (hr _ _ rfl)) (fun c4 => ?_) (fun c4 => ?_)
    · refine mm_iload_n (mm_dc od_X10_ashore_0 25 rfl) rfl ?_
      refine mm_aload_n (mm_dc od_X10_ashore_0 26 rfl) rfl ?_
      refine mm_getR (ci := 10) (k := 1) (mm_dc od_X10_ashore_0 27 rfl) rfl in_X10 (by decide) wd_4_113 rfl rfl ?_
      refine mm_iload (mm_dc od_X10_ashore_0 28 rfl) rfl ?_
      refine mm_iald (mm_dc od_X10_ashore_0 29 rfl) rfl (by first | assumption | omega | exact hr _ _ rfl | exact mm_ti _ | exact mm_r3264 (hr _ _ rfl)) (by first | assumption | omega | exact hr _ _ rfl | exact mm_ti _ | exact mm_r3264 (hr _ _ rfl)) (by decide) ?_
      refine mm_iadd (mm_dc od_X10_ashore_0 30 rfl) ?_
      refine mm_istore_n (L' := [(0, v_r 50), (1, v_i b), (2, v_i hour), (3, v_i ((sumI (siW M b) j) + (M 52 (Int.toNat r2)))), (4, v_i (j : Int)), (5, v_i r2)]) (mm_dc od_X10_ashore_0 31 rfl) (by decide) rfl ?_
      refine mm_iinc (L' := [(0, v_r 50), (1, v_i b), (2, v_i hour), (3, v_i ((sumI (siW M b) j) + (M 52 (Int.toNat r2)))), (4, v_i ((j : Int) + 1)), (5, v_i r2)]) (mm_dc od_X10_ashore_0 32 rfl) rfl (by decide) rfl ?_
      refine mm_goto 16 (mm_dc od_X10_ashore_0 33 rfl) (by omega) ?_
      have hsi := siW_is (s := j) (by omega) hJ0 hq3 (by omega)
      have hsw := hO r2.toNat (by omega)
      refine mm_cL (L' := [(0, v_r 50), (1, v_i b), (2, v_i hour), (3, v_i (sumI (siW M b) (j + 1))), (4, v_i ((j + 1 : Nat) : Int)), (5, v_i r2)]) (by simp only [sumI]; rw [hsi.1]; rfl) ?_
      exact mm_less [0, 1, 2, 3, 4] rfl (L_ashA b hour hb hh hJom hJbm hJwm hJrum hJ0 hr k hnb (j + 1) (fun s hs => by by_cases q : s = j; rw [q]; exact hsi.2; exact hj s (by omega)) (by simp only [sumI]; rw [hsi.1]; omega) (by omega))
    · refine mm_iconst (mm_dc od_X10_ashore_0 23 rfl) ?_
      refine mm_iret (mm_dc od_X10_ashore_0 24 rfl) rfl ?_
      exact k _ (Or.inr (Or.inl ⟨hnb, fun q => absurd (q.1 j (by omega)) (siW_no (s := j) hq3 (by omega)), rfl⟩))
termination_by 9 - j
decreasing_by all_goals (first | omega | (simp_wf; omega))
theorem c_X10_ashore {X : Nat × (Nat → Int)} {d : Nat} {Po : mm_Po} {M : mm_M} (b : Int) (hour : Int) (hb : 0 ≤ b ∧ b < M 50 11) (hh : 0 ≤ hour ∧ hour ≤ 23) (hJom : JOm M) (hJbm : JBm M) (hJwm : JWm M) (hJrum : JRum M) (hJ0 : V0 M) (hbr : M 56 b.toNat = 0 ∨ M 56 b.toNat = 1) (hr : R32 M) (k : ∀ r : Int, (WhyQ (M 56 b.toNat = 1) (manM M b) (M 58 b.toNat ≤ meanM M b ∧ meanM M b ≤ M 59 b.toNat) (okM M b hour) (fun q => lastP (rulM M (nowM M b hour) (M 57 b.toNat)) q (M 50 30).toNat) (M 75) r) → Po (some (v_i r)) Lam M) : mm_E X (d + 4) 0 0 mi_X10_ashore [v_r 50, v_i b, v_i hour] Po Lam M := by
  show mm_G X (d + 4) 0 0 mi_X10_ashore Po 0 [(0, v_r 50), (1, v_i b), (2, v_i hour)] [] Lam M 0 0
  have hJbm2 := hJbm
  obtain ⟨hb0, hb8, hB⟩ := hJbm2
  have hJom2 := hJom
  obtain ⟨ho0, ho16, hO⟩ := hJom2
  have hB1 := hB b.toNat (by omega)
  have hse := mm_seats_le (M 57 b.toNat).toNat (by omega)
  refine mm_aload_n (mm_dc od_X10_ashore_0 0 rfl) rfl ?_
  refine mm_getR (ci := 10) (k := 5) (mm_dc od_X10_ashore_0 1 rfl) rfl in_X10 (by decide) wd_4_117 rfl rfl ?_
  refine mm_iload_n (mm_dc od_X10_ashore_0 2 rfl) rfl ?_
  refine mm_zald (mm_dc od_X10_ashore_0 3 rfl) rfl (by first | assumption | omega | exact hr _ _ rfl | exact mm_ti _ | exact mm_r3264 (hr _ _ rfl)) (by first | assumption | omega | exact hr _ _ rfl | exact mm_ti _ | exact mm_r3264 (hr _ _ rfl)) (by decide) ?_
  refine mm_if_eq 11 (mm_dc od_X10_ashore_0 4 rfl) (by omega) (by first | assumption | omega | exact hr _ _ rfl | exact mm_ti _ | exact mm_r3264 (hr _ _ rfl)) (fun c1 => ?_) (fun c1 => ?_)
  · refine mm_iconst (mm_dc od_X10_ashore_0 7 rfl) ?_
    refine mm_istore_n (L' := [(0, v_r 50), (1, v_i b), (2, v_i hour), (3, v_i 0)]) (mm_dc od_X10_ashore_0 8 rfl) (by decide) rfl ?_
    refine mm_iconst (mm_dc od_X10_ashore_0 9 rfl) ?_
    refine mm_istore (L' := [(0, v_r 50), (1, v_i b), (2, v_i hour), (3, v_i 0), (4, v_i 0)]) (mm_dc od_X10_ashore_0 10 rfl) (by decide) rfl ?_
    exact L_ashA b hour hb hh hJom hJbm hJwm hJrum hJ0 hr k (by omega) 0 (fun s hs => by omega) (by simp [sumI]) (by omega)
  · refine mm_iconst (mm_dc od_X10_ashore_0 5 rfl) ?_
    refine mm_iret (mm_dc od_X10_ashore_0 6 rfl) rfl ?_
    exact k _ (Or.inl ⟨by omega, rfl⟩)
