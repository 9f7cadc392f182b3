theorem c_X9_ruled {X : Nat × (Nat → Int)} {d : Nat} {Po : mm_Po} {M : mm_M} (b : Int) (hour : Int) (hb0 : mm_r32 b) (hh0 : mm_r32 hour) (hJo : JO M) (hJb : JB M) (hJru : JRu M) (hJw : JW M) (hr : R32 M) (k : ∀ (N : mm_M) (r : Int), ((¬ (0 ≤ b ∧ b < M 1 5) ∧ r = -1 ∧ N = M) ∨ ((0 ≤ b ∧ b < M 1 5) ∧ ¬ (0 ≤ hour ∧ hour ≤ 23) ∧ r = -2 ∧ N = M) ∨ ((0 ≤ b ∧ b < M 1 5) ∧ (0 ≤ hour ∧ hour ≤ 23) ∧ frm 34 M N ∧ lastP (rulX M (nowX M b hour) (M 6 b.toNat)) r (M 26 0).toNat)) → Po (some (v_i r)) Lam N) : mm_E X (d + 4) 0 0 mi_X9_ruled [v_r 0, v_i b, v_i hour] Po Lam M := by
  show mm_G X (d + 4) 0 0 mi_X9_ruled Po 0 [(0, v_r 0), (1, v_i b), (2, v_i hour)] [] Lam M 0 0
  refine mm_aload_n (mm_dc od_X9_ruled_0 0 rfl) rfl ?_
  refine mm_getR (ci := 9) (k := 0) (mm_dc od_X9_ruled_0 1 rfl) rfl in_X9 (by decide) wd_2_45 rfl rfl ?_
  refine mm_iload_n (mm_dc od_X9_ruled_0 2 rfl) rfl ?_
  refine mm_callV (b := 1) (mi' := mi_X0_hasBoat) [v_i b] [] (mm_dc od_X9_ruled_0 3 rfl) rfl wd_3_10 wd_2_112 wd_2_113 wd_1_2 wd_2_114 yk_X0_hasBoat rfl rfl rfl (Nat.le_of_ble_eq_true rfl) rfl (by decide) (c_X0_hasBoat b (by first | assumption | omega | exact hr _ _ rfl | exact mm_ti _ | exact mm_r3264 (hr _ _ rfl)) (by first | assumption | omega | exact hr _ _ rfl | exact mm_ti _ | exact mm_r3264 (hr _ _ rfl)) (fun c1 => ⟨Nat.le_refl _, ?_⟩) (fun c1 => ⟨Nat.le_refl _, ?_⟩))
  · refine mm_if_ne 13 (mm_dc od_X9_ruled_0 4 rfl) (by omega) (by first | assumption | omega | exact hr _ _ rfl | exact mm_ti _ | exact mm_r3264 (hr _ _ rfl)) (fun _ => ?_) (fun h => absurd h (by decide))
    refine mm_iload_n (mm_dc od_X9_ruled_0 7 rfl) rfl ?_
    refine mm_callS (mi' := mi_X9_isHour) [v_i hour] [] (mm_dc od_X9_ruled_0 8 rfl) rfl wd_3_11 wd_3_12 wd_1_1 wd_3_13 yk_X9_isHour (Nat.le_of_ble_eq_true rfl) rfl (by decide) (c_X9_isHour hour (by first | assumption | omega | exact hr _ _ rfl | exact mm_ti _ | exact mm_r3264 (hr _ _ rfl)) (fun c2 => ⟨Nat.le_refl _, ?_⟩) (fun c2 => ⟨Nat.le_refl _, ?_⟩))
    · refine mm_if_eq 29 (mm_dc od_X9_ruled_0 9 rfl) (by omega) (by first | assumption | omega | exact hr _ _ rfl | exact mm_ti _ | exact mm_r3264 (hr _ _ rfl)) (fun h => absurd h (by decide)) (fun _ => ?_)
      refine mm_aload_n (mm_dc od_X9_ruled_0 10 rfl) rfl ?_
      refine mm_iload_n (mm_dc od_X9_ruled_0 11 rfl) rfl ?_
      refine mm_iload_n (mm_dc od_X9_ruled_0 12 rfl) rfl ?_
      refine mm_callV (b := 0) (mi' := mi_X9_askedRule) [v_i b, v_i hour] [] (mm_dc od_X9_ruled_0 13 rfl) rfl wd_3_179 wd_3_181 wd_p_12 wd_1_1 wd_3_182 yk_X9_askedRule rfl rfl rfl (Nat.le_of_ble_eq_true rfl) rfl (by decide) (c_X9_askedRule b hour (by first | assumption | omega | exact hr _ _ rfl | exact mm_ti _ | exact mm_r3264 (hr _ _ rfl)) (by first | assumption | omega | exact hr _ _ rfl | exact mm_ti _ | exact mm_r3264 (hr _ _ rfl)) hJo hJb hJru hJw (by first | assumption | omega | exact hr _ _ rfl | exact mm_ti _ | exact mm_r3264 (hr _ _ rfl)) (fun N4 r3 hq5 => ⟨Nat.le_refl _, ?_⟩))
      refine mm_goto 31 (mm_dc od_X9_ruled_0 14 rfl) (by omega) ?_
      refine mm_iret (mm_dc od_X9_ruled_0 16 rfl) rfl ?_
      exact k _ _ (Or.inr (Or.inr ⟨by omega, by omega, hq5⟩))
    · refine mm_if_eq 29 (mm_dc od_X9_ruled_0 9 rfl) (by omega) (by first | assumption | omega | exact hr _ _ rfl | exact mm_ti _ | exact mm_r3264 (hr _ _ rfl)) (fun _ => ?_) (fun h => absurd h (by decide))
      refine mm_bipush (mm_dc od_X9_ruled_0 15 rfl) (by decide) ?_
      refine mm_iret (mm_dc od_X9_ruled_0 16 rfl) rfl ?_
      exact k _ _ (Or.inr (Or.inl ⟨by omega, by omega, rfl, rfl⟩))
  · refine mm_if_ne 13 (mm_dc od_X9_ruled_0 4 rfl) (by omega) (by first | assumption | omega | exact hr _ _ rfl | exact mm_ti _ | exact mm_r3264 (hr _ _ rfl)) (fun h => absurd h (by decide)) (fun _ => ?_)
    refine mm_iconst (mm_dc od_X9_ruled_0 5 rfl) ?_
    refine mm_iret (mm_dc od_X9_ruled_0 6 rfl) rfl ?_
    exact k _ _ (Or.inl ⟨by omega, rfl, rfl⟩)
theorem c_X10_ruled {X : Nat × (Nat → Int)} {d : Nat} {Po : mm_Po} {M : mm_M} (b : Int) (hour : Int) (hb0 : mm_r32 b) (hh0 : mm_r32 hour) (hJom : JOm M) (hJbm : JBm M) (hJwm : JWm M) (hJrum : JRum M) (hr : R32 M) (k1 : (¬ (0 ≤ b ∧ b < M 50 11)) → Po (some (v_i (-1))) Lam M) (k2 : (0 ≤ b ∧ b < M 50 11) → (¬ (0 ≤ hour ∧ hour ≤ 23)) → Po (some (v_i (-2))) Lam M) (k3 : (0 ≤ b ∧ b < M 50 11) → (0 ≤ hour ∧ hour ≤ 23) → ∀ (r : Int), lastP (rulM M (nowM M b hour) (M 57 b.toNat)) r (M 50 30).toNat → Po (some (v_i r)) Lam M) : mm_E X (d + 4) 0 0 mi_X10_ruled [v_r 50, v_i b, v_i hour] Po Lam M := by
  show mm_G X (d + 4) 0 0 mi_X10_ruled Po 0 [(0, v_r 50), (1, v_i b), (2, v_i hour)] [] Lam M 0 0
  refine mm_aload_n (mm_dc od_X10_ruled_0 0 rfl) rfl ?_
  refine mm_iload_n (mm_dc od_X10_ruled_0 1 rfl) rfl ?_
  refine mm_callV (b := 50) (mi' := mi_X10_isBoat) [v_i b] [] (mm_dc od_X10_ruled_0 2 rfl) rfl wd_5_63 wd_5_65 wd_p_23 wd_1_12 wd_5_66 yk_X10_isBoat rfl rfl rfl (Nat.le_of_ble_eq_true rfl) rfl (by decide) (c_X10_isBoat b (by first | assumption | omega | exact hr _ _ rfl | exact mm_ti _ | exact mm_r3264 (hr _ _ rfl)) (by first | assumption | omega | exact hr _ _ rfl | exact mm_ti _ | exact mm_r3264 (hr _ _ rfl)) (fun c1 => ⟨Nat.le_refl _, ?_⟩) (fun c1 => ⟨Nat.le_refl _, ?_⟩))
  · refine mm_if_ne 10 (mm_dc od_X10_ruled_0 3 rfl) (by omega) (by first | assumption | omega | exact hr _ _ rfl | exact mm_ti _ | exact mm_r3264 (hr _ _ rfl)) (fun _ => ?_) (fun h => absurd h (by decide))
    refine mm_iload_n (mm_dc od_X10_ruled_0 6 rfl) rfl ?_
    refine mm_i2l (mm_dc od_X10_ruled_0 7 rfl) (by first | assumption | omega | exact hr _ _ rfl | exact mm_ti _ | exact mm_r3264 (hr _ _ rfl)) ?_
    refine mm_lconst (mm_dc od_X10_ruled_0 8 rfl) ?_
    refine mm_ldc2 (z := 23) (mm_dc od_X10_ruled_0 9 rfl) wd_5_147 ?_
    refine mm_callS (mi' := mi_X10_isIn) [v_l hour, v_l 0, v_l 23] [] (mm_dc od_X10_ruled_0 10 rfl) rfl wd_5_37 wd_5_38 wd_1_12 wd_5_39 yk_X10_isIn (Nat.le_of_ble_eq_true rfl) rfl (by decide) (c_X10_isIn hour 0 23 (by first | assumption | omega | exact hr _ _ rfl | exact mm_ti _ | exact mm_r3264 (hr _ _ rfl)) (by first | assumption | omega | exact hr _ _ rfl | exact mm_ti _ | exact mm_r3264 (hr _ _ rfl)) (by first | assumption | omega | exact hr _ _ rfl | exact mm_ti _ | exact mm_r3264 (hr _ _ rfl)) (fun c2 => ⟨Nat.le_refl _, ?_⟩) (fun c2 => ⟨Nat.le_refl _, ?_⟩))
    · refine mm_if_eq 31 (mm_dc od_X10_ruled_0 11 rfl) (by omega) (by first | assumption | omega | exact hr _ _ rfl | exact mm_ti _ | exact mm_r3264 (hr _ _ rfl)) (fun h => absurd h (by decide)) (fun _ => ?_)
      refine mm_aload_n (mm_dc od_X10_ruled_0 12 rfl) rfl ?_
      refine mm_iload_n (mm_dc od_X10_ruled_0 13 rfl) rfl ?_
      refine mm_iload_n (mm_dc od_X10_ruled_0 14 rfl) rfl ?_
      refine mm_callV (b := 50) (mi' := mi_X10_asked) [v_i b, v_i hour] [] (mm_dc od_X10_ruled_0 15 rfl) rfl wd_5_228 wd_5_230 wd_p_42 wd_1_12 wd_5_231 yk_X10_asked rfl rfl rfl (Nat.le_of_ble_eq_true rfl) rfl (by decide) (c_X10_asked b hour (by first | assumption | omega | exact hr _ _ rfl | exact mm_ti _ | exact mm_r3264 (hr _ _ rfl)) (by first | assumption | omega | exact hr _ _ rfl | exact mm_ti _ | exact mm_r3264 (hr _ _ rfl)) hJom hJbm hJwm hJrum (by first | assumption | omega | exact hr _ _ rfl | exact mm_ti _ | exact mm_r3264 (hr _ _ rfl)) (fun r3 hq4 => ⟨Nat.le_refl _, ?_⟩))
      have hq4_r := lastP_rng hq4
      refine mm_goto 33 (mm_dc od_X10_ruled_0 16 rfl) (by omega) ?_
      refine mm_iret (mm_dc od_X10_ruled_0 18 rfl) rfl ?_
      exact k3 (by omega) (by omega) _ hq4
    · refine mm_if_eq 31 (mm_dc od_X10_ruled_0 11 rfl) (by omega) (by first | assumption | omega | exact hr _ _ rfl | exact mm_ti _ | exact mm_r3264 (hr _ _ rfl)) (fun _ => ?_) (fun h => absurd h (by decide))
      refine mm_bipush (mm_dc od_X10_ruled_0 17 rfl) (by decide) ?_
      refine mm_iret (mm_dc od_X10_ruled_0 18 rfl) rfl ?_
      exact k2 (by omega) (by omega)
  · refine mm_if_ne 10 (mm_dc od_X10_ruled_0 3 rfl) (by omega) (by first | assumption | omega | exact hr _ _ rfl | exact mm_ti _ | exact mm_r3264 (hr _ _ rfl)) (fun h => absurd h (by decide)) (fun _ => ?_)
    refine mm_iconst (mm_dc od_X10_ruled_0 4 rfl) ?_
    refine mm_iret (mm_dc od_X10_ruled_0 5 rfl) rfl ?_
    exact k1 (by omega)
theorem rul_same {M : mm_M} (hI : inv M) {b hour : Int} (hb : 0 ≤ b ∧ b < M 1 5) : ∀ i : Nat, i < (M 26 0).toNat → (rulX M (nowX M b hour) (M 6 b.toNat) i ↔ rulM M (nowM M b hour) (M 57 b.toNat) i) := by
  have hI0 := hI
  obtain ⟨hr, hJo, hJb, hJr, hJom, hJbm, v0, v1, v2, v3, v4, v5, v6, v7, v8, v9⟩ := hI0
  have jo := hJo; have jb := hJb; have jr := hJr; have jom := hJom; have jbm := hJbm
  obtain ⟨ho0, ho16, hO⟩ := jo
  obtain ⟨hb0, hb8, hB⟩ := jb
  obtain ⟨hr0, hr40, hRr⟩ := jr
  obtain ⟨go0, go16, gO⟩ := jom
  obtain ⟨gb0, gb8, gB⟩ := jbm
  have w1 := v1.1; have w2 := v2.1; have w3 := v3.1; have w4 := v4.1; have w5 := v5.1; have w6 := v6.1; have w7 := v7.1.1; have w7b := v7.2.1.1; have w8 := v8.1; have w8b := v8.2.2.2.1
  intro i hi
  have hb57 := (v2.2 b.toNat (by omega)).1
  have hnow : nowM M b hour = nowX M b hour := by
    unfold nowM nowX
    have hd : Int.tmod (M 0 9) 30 = M 0 9 % 30 := Int.tmod_eq_emod_of_nonneg v4.2.1
    have hdd := v4.2.1
    have hs := v4.2.2.2 (Int.toNat (Int.tmod (M 0 9) 30)) (by omega)
    have hy : anyN (yngM M b) (M 1 0).toNat = anyN (yngX M b) (M 1 0).toNat := by
      refine anyN_cong (fun o ho => ?_)
      have h1 := v1.2.1 o (by omega)
      have h2 := gO o (by omega)
      unfold yngM yngX
      rw [Bool.eq_iff_iff, decide_eq_true_eq, decide_eq_true_eq, h1.1]
      omega
    rw [w4, w1, hs.1, hs.2.1, hb57, hy]
  obtain ⟨a1, a2, a3, a4, a5, a6, a7⟩ := v6.2.2.2 i (by omega)
  unfold rulX rulM
  rw [hb57, a3, a5, hnow]
  refine and_congr Iff.rfl (forall_congr' fun t => ?_)
  constructor
  · intro q ht
    obtain ⟨c1, c2, c3, c4, c5, c6, c7⟩ := a7 t ht
    have q2 := q ht
    unfold tstX soQ at q2
    unfold tstM soM
    rw [c1, c3, c6]
    omega
  · intro q ht
    obtain ⟨c1, c2, c3, c4, c5, c6, c7⟩ := a7 t ht
    have q2 := q ht
    unfold tstM soM at q2
    unfold tstX soQ
    rw [c1, c3, c6] at q2
    omega
theorem askM_frm {M N : mm_M} {b hour : Int} (hN : ∀ i, i ≠ 34 → N i = M i) : rulM N (nowM N b hour) (N 57 b.toNat) = rulM M (nowM M b hour) (M 57 b.toNat) := by
  have hy : yngM N b = yngM M b := by
    funext o
    unfold yngM
    rw [hN 53 (by decide), hN 51 (by decide)]
  have hn : nowM N b hour = nowM M b hour := by
    unfold nowM
    rw [hy, hN 72 (by decide), hN 73 (by decide), hN 57 (by decide), hN 50 (by decide)]
  rw [hn, hN 57 (by decide)]
  funext r
  unfold rulM tstM
  rw [hN 76 (by decide), hN 77 (by decide), hN 78 (by decide)]
theorem pair_ruled {M : mm_M} (hI : inv M) (b hour : Int) (hb : mm_r32 b) (hh : mm_r32 hour) : Pair2 mi_X9_ruled mi_X10_ruled v_i [v_i b, v_i hour] M := by
  have hI0 := hI
  obtain ⟨hr, hJo, hJb, hJr, hJom, hJbm, v0, v1, v2, v3, v4, v5, v6, v7, v8, v9⟩ := hI0
  have jo := hJo; have jb := hJb; have jr := hJr; have jom := hJom; have jbm := hJbm
  obtain ⟨ho0, ho16, hO⟩ := jo
  obtain ⟨hb0, hb8, hB⟩ := jb
  obtain ⟨hr0, hr40, hRr⟩ := jr
  obtain ⟨go0, go16, gO⟩ := jom
  obtain ⟨gb0, gb8, gB⟩ := jbm
  have w1 := v1.1; have w2 := v2.1; have w3 := v3.1; have w4 := v4.1; have w5 := v5.1; have w6 := v6.1; have w7 := v7.1.1; have w7b := v7.2.1.1; have w8 := v8.1; have w8b := v8.2.2.2.1
  obtain ⟨hJru, hJrum, hJw, hJwm⟩ := inv_JRu hI
  refine Pair2_i _ (fun X d Po k => c_X9_ruled (d := d + 8) b hour hb hh hJo hJb hJru hJw hr (fun N r h => k r N h)) (fun a N h => ?_)
  rcases h with ⟨h1, rfl, rfl⟩ | ⟨h1, h2, rfl, rfl⟩ | ⟨h1, h2, h3, h4⟩
  · exact ⟨by decide, fun X d Po k => c_X10_ruled (d := d + 8) b hour hb hh hJom hJbm hJwm hJrum hr (fun _ => k _ hI) (fun q => by exfalso; omega) (fun q => by exfalso; omega)⟩
  · exact ⟨by decide, fun X d Po k => c_X10_ruled (d := d + 8) b hour hb hh hJom hJbm hJwm hJrum hr (fun q => by exfalso; omega) (fun _ _ => k _ hI) (fun _ q => absurd q h2)⟩
  · have hI2 : inv N := inv_frm hI h3 (by decide) (by decide)
    have hI3 := hI2
    obtain ⟨gr, _, _, _, gJom, gJbm, _⟩ := hI3
    obtain ⟨gJru, gJrum, gJw, gJwm⟩ := inv_JRu hI2
    have h4r := lastP_rng h4
    have h5 := hJru.2.1
    have h50 := h3.2 50 (by decide)
    refine ⟨by omega, fun X d Po k => c_X10_ruled (d := d + 8) b hour hb hh gJom gJbm gJwm gJrum gr (fun q => by exfalso; rw [h50] at q; omega) (fun _ q => absurd h2 q) (fun _ _ r q => ?_)⟩
    rw [askM_frm h3.2, h50, w6] at q
    have h6 := lastP_cong h4 (rul_same hI h1)
    rw [lastP_one q h6]
    exact k _ hI2
