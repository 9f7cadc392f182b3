theorem c_rts {X : Nat × (Nat → Int)} {d : Nat} {Po : mm_Po} {M : mm_M} (c : Nat) (hc10 : c < 10) (hc : M 26 0 = (c : Int)) (hJ : JTp M) (hr : R32 M) (k : ∀ (N : mm_M) (ok : Int) (T : Nat), PB M N c (3 * c + 0) → JTp N → TL (M 24 0) (M 25) (fun u => N 30 (3 * c + u)) (fun u => N 31 (3 * c + u)) (fun u => N 32 (3 * c + u)) (fun u => N 33 (3 * c + u)) 3 0 (M 24 1).toNat ok (N 24 1).toNat T → (ok = 0 ∨ ok = 1) → (ok = 1 → N 29 c = T ∧ 0 < T ∧ T ≤ 3 ∧ ∀ u, 0 ≤ u → u < T → rgQ N (3 * c + u)) → Po (some (v_i ok)) Lam N) : mm_G X (d + 7) 0 0 mi_X7_readTests Po 0 [(0, v_r 26), (1, v_r 24)] [] Lam M 0 0 := by
  refine mm_iconst (mm_dc od_X7_readTests_0 0 rfl) ?_
  refine mm_istore_n (L' := [(0, v_r 26), (1, v_r 24), (2, v_i 0)]) (mm_dc od_X7_readTests_0 1 rfl) (by decide) rfl ?_
  exact L_rt2 0 2 c (by omega) hc10 hc hJ hr k
/-! a rule read -/
theorem TW_r2 {i K : Nat} {len : Int} {tp : Nat → Int} {p : Nat} {r : Int} {adv : Nat} (h : TW i K len tp p r adv) (hp : (p : Int) ≤ len) : ((p + adv : Nat) : Int) ≤ len ∧ -1 ≤ r ∧ r < K := by
  have := TW_r h hp
  omega
def RDQ (len : Int) (tp : Nat → Int) (ok : Int) (q : Nat) (bar kind : Int) (T : Nat) (ra rb rc rd : Nat → Int) : Prop := ∃ (r1 : Int) (v1 : Nat), TW 0 2 len tp 0 r1 v1 ∧ ((r1 = -1 ∧ ok = 0 ∧ q = v1) ∨ (r1 ≠ -1 ∧ bar = r1 ∧ ∃ (r2 : Int) (v2 : Nat), TW 1 6 len tp v1 r2 v2 ∧ ((r2 = -1 ∧ ok = 0 ∧ q = v1 + v2) ∨ (r2 ≠ -1 ∧ kind = r2 ∧ ((len ≤ ((v1 + v2 : Nat) : Int) ∧ ok = 1 ∧ q = v1 + v2 ∧ T = 0) ∨ (((v1 + v2 : Nat) : Int) < len ∧ ∃ (r3 : Int) (v3 : Nat), TW 2 1 len tp (v1 + v2) r3 v3 ∧ ((r3 = -1 ∧ ok = 0 ∧ q = v1 + v2 + v3) ∨ (r3 ≠ -1 ∧ TL len tp ra rb rc rd 3 0 (v1 + v2 + v3) ok q T))))))))
theorem RDQ_4 {len : Int} {tp : Nat → Int} {ok : Int} {q : Nat} {bar kind : Int} {T : Nat} {ra rb rc rd : Nat → Int} {r1 r2 r3 : Int} {v1 v2 v3 : Nat} (h1 : TW 0 2 len tp 0 r1 v1) (z1 : r1 ≠ -1) (e1 : bar = r1) (h2 : TW 1 6 len tp v1 r2 v2) (z2 : r2 ≠ -1) (e2 : kind = r2) (hl : ((v1 + v2 : Nat) : Int) < len) (h3 : TW 2 1 len tp (v1 + v2) r3 v3) (z3 : r3 ≠ -1) (h : TL len tp ra rb rc rd 3 0 (v1 + v2 + v3) ok q T) : RDQ len tp ok q bar kind T ra rb rc rd :=
  ⟨r1, v1, h1, Or.inr ⟨z1, e1, r2, v2, h2, Or.inr ⟨z2, e2, Or.inr ⟨hl, r3, v3, h3, Or.inr ⟨z3, h⟩⟩⟩⟩⟩
def PA (B N : mm_M) (c : Nat) : Prop := R32 N ∧ (∀ j, j ≠ 24 → ¬ (27 ≤ j ∧ j ≤ 33) → N j = B j) ∧ N 24 0 = B 24 0 ∧ (∀ k, k ≠ c → N 27 k = B 27 k ∧ N 28 k = B 28 k ∧ N 29 k = B 29 k) ∧ ∀ k, k < 3 * c → N 30 k = B 30 k ∧ N 31 k = B 31 k ∧ N 32 k = B 32 k ∧ N 33 k = B 33 k
theorem PA_0 {B : mm_M} {c : Nat} (h : R32 B) : PA B B c := ⟨h, fun _ _ _ => rfl, rfl, fun _ _ => ⟨rfl, rfl, rfl⟩, fun _ _ => ⟨rfl, rfl, rfl, rfl⟩⟩
theorem PA_fA {B N N2 : mm_M} {c : Nat} {a : Int} (h : PA B N c) (h2 : fA N N2 a) : PA B N2 c := by
  obtain ⟨a1, a2, a3, a4, a5⟩ := h
  obtain ⟨b1, b2, b3, b4⟩ := h2
  exact ⟨b1, fun j q1 q2 => by rw [b2 j q1, a2 j q1 q2], by rw [b3, a3], fun k hk => by rw [b2 27 (by decide), b2 28 (by decide), b2 29 (by decide)]; exact a4 k hk, fun k hk => by rw [b2 30 (by decide), b2 31 (by decide), b2 32 (by decide), b2 33 (by decide)]; exact a5 k hk⟩
theorem PA_w {B N : mm_M} {c j : Nat} {v : Int} (h : PA B N c) (hj : 27 ≤ j ∧ j ≤ 29) (hv : mm_r32 v) : PA B (mm_up N j c v) c := by
  obtain ⟨a1, a2, a3, a4, a5⟩ := h
  refine ⟨R32_up a1 hv, fun i q1 q2 => by rw [mm_up_ne (by omega)]; exact a2 i q1 q2, by rw [mm_up_ne (by omega)]; exact a3, fun k hk => ?_, fun k hk => ?_⟩
  · have ne : ∀ i, mm_up N j c v i k = N i k := fun i => by unfold mm_up; rw [if_neg (fun q => hk q.2)]
    rw [ne, ne, ne]; exact a4 k hk
  · rw [mm_up_ne (by omega), mm_up_ne (by omega), mm_up_ne (by omega), mm_up_ne (by omega)]; exact a5 k hk
theorem PA_PB {B N N2 : mm_M} {c lo : Nat} (h : PA B N c) (h2 : PB N N2 c lo) (hl : 3 * c ≤ lo) : PA B N2 c := by
  obtain ⟨a1, a2, a3, a4, a5⟩ := h
  obtain ⟨b1, b2, b3, b4, b5⟩ := h2
  refine ⟨b1, fun j q1 q2 => by rw [b2 j q1 (by omega) (by omega), a2 j q1 q2], by rw [b3, a3], fun k hk => ?_, fun k hk => ?_⟩
  · rw [b2 27 (by decide) (by decide) (by decide), b2 28 (by decide) (by decide) (by decide), b4 k hk]; exact a4 k hk
  · obtain ⟨c1, c2, c3, c4⟩ := b5 k (by omega)
    rw [c1, c2, c3, c4]; exact a5 k hk
set_option maxHeartbeats 8000000 in
theorem c_X7_read {X : Nat × (Nat → Int)} {d : Nat} {Po : mm_Po} {M : mm_M}  (h26 : 0 ≤ M 26 0 ∧ M 26 0 < 10) (h24 : 0 ≤ M 24 0 ∧ M 24 0 ≤ 120) (hr : R32 M) (k : ∀ (N : mm_M) (r : Int), (∃ T : Nat, PA M N (M 26 0).toNat ∧ JTp N ∧ RDQ (M 24 0) (M 25) r (N 24 1).toNat (N 27 (M 26 0).toNat) (N 28 (M 26 0).toNat) T (fun u => N 30 (3 * (M 26 0).toNat + u)) (fun u => N 31 (3 * (M 26 0).toNat + u)) (fun u => N 32 (3 * (M 26 0).toNat + u)) (fun u => N 33 (3 * (M 26 0).toNat + u)) ∧ (r = 0 ∨ r = 1) ∧ (r = 1 → N 29 (M 26 0).toNat = T ∧ T ≤ 3 ∧ (0 ≤ N 27 (M 26 0).toNat ∧ N 27 (M 26 0).toNat ≤ 1) ∧ (0 ≤ N 28 (M 26 0).toNat ∧ N 28 (M 26 0).toNat ≤ 5) ∧ ∀ u, u < T → rgQ N (3 * (M 26 0).toNat + u))) → Po (some (v_i r)) Lam N) : mm_E X (d + 8) 0 0 mi_X7_read [v_r 26, v_r 24] Po Lam M := by
  show mm_G X (d + 8) 0 0 mi_X7_read Po 0 [(0, v_r 26), (1, v_r 24)] [] Lam M 0 0
  obtain ⟨c, hc⟩ : ∃ c : Nat, (M 26 0).toNat = c := ⟨_, rfl⟩
  rw [hc] at k
  have hc0 : Int.toNat (M 26 0) = c := hc
  have hcI : M 26 0 = (c : Int) := (by omega)
  refine mm_aload_n (mm_dc od_X7_read_0 0 rfl) rfl ?_
  refine mm_iconst (mm_dc od_X7_read_0 1 rfl) ?_
  refine mm_putI (ci := 8) (k := 1) (mm_dc od_X7_read_0 2 rfl) rfl in_X8 tyX8_ok nmX8 (by decide) wd_1_153 rfl rfl rfl rfl ?_
  refine mm_aload_n (mm_dc od_X7_read_0 3 rfl) rfl ?_
  refine mm_getR (ci := 7) (k := 3) (mm_dc od_X7_read_0 4 rfl) rfl in_X7 (by decide) wd_1_174 rfl rfl ?_
  refine mm_aload_n (mm_dc od_X7_read_0 5 rfl) rfl ?_
  refine mm_getI (ci := 7) (k := 0) (mm_dc od_X7_read_0 6 rfl) rfl in_X7 (by decide) wd_1_169 rfl rfl ?_
  refine mm_cst (st' := [v_i (M 26 0), v_r 29]) rfl ?_
  refine mm_iconst (mm_dc od_X7_read_0 7 rfl) ?_
  refine mm_iast (mm_dc od_X7_read_0 8 rfl) rfl (by first | assumption | omega | exact hr _ _ rfl) (by first | assumption | omega | exact hr _ _ rfl) (by decide) ?_
  obtain ⟨Q0, hQ0⟩ : ∃ Q0 : mm_M, Q0 = mm_up (mm_up M 24 1 0) 29 (Int.toNat (M 26 0)) 0 := ⟨_, rfl⟩
  rw [← hQ0]
  rw [hc0] at hQ0
  have pQ0 : PA M Q0 c := by rw [hQ0]; exact PA_w (PA_fA (PA_0 hr) (fA_up hr (by decide))) (by decide) (by decide)
  have eQ00 : Q0 24 0 = M 24 0 := pQ0.2.2.1
  have eQ01 : Q0 24 1 = 0 := by rw [hQ0, mm_up_ne (by decide), mm_up_eq]
  have eQ025 : Q0 25 = M 25 := pQ0.2.1 25 (by decide) (by decide)
  have eQ026 : Int.toNat (Q0 26 0) = c := by rw [pQ0.2.1 26 (by decide) (by decide)]; exact hc
  have eQ026i : Q0 26 0 = M 26 0 := by rw [pQ0.2.1 26 (by decide) (by decide)]
  have hr := pQ0.1
  have hJ : JTp Q0 := by unfold JTp; rw [eQ00, eQ01]; omega
  have q29 : Q0 29 c = 0 := by rw [hQ0, mm_up_eq]
  refine mm_aload_n (mm_dc od_X7_read_0 9 rfl) rfl ?_
  refine mm_getR (ci := 7) (k := 1) (mm_dc od_X7_read_0 10 rfl) rfl in_X7 (by decide) wd_1_171 rfl rfl ?_
  refine mm_aload_n (mm_dc od_X7_read_0 11 rfl) rfl ?_
  refine mm_getI (ci := 7) (k := 0) (mm_dc od_X7_read_0 12 rfl) rfl in_X7 (by decide) wd_1_169 rfl rfl ?_
  refine mm_aload_n (mm_dc od_X7_read_0 13 rfl) rfl ?_
  refine mm_ldcS (i := 0) (mm_dc od_X7_read_0 14 rfl) rfl rfl ?_
  refine mm_callV (b := 24) (mi' := mi_X8_takeWord) [v_r 1002] [v_i (Q0 26 0), v_r 27] (mm_dc od_X7_read_0 15 rfl) rfl wd_3_85 wd_3_86 wd_3_87 wd_1_6 wd_3_88 yk_X8_takeWord rfl rfl rfl (Nat.le_of_ble_eq_true rfl) rfl (by decide) (c_tw0 hJ hr (fun N1 r1 v1 hf1 hT1 => ⟨Nat.le_refl _, ?_⟩))
  rw [eQ00, eQ01, eQ025] at hT1
  rw [show (0 : Int).toNat = 0 from by first | rfl | omega] at hT1
  have hb1 := TW_r2 hT1 (by omega)
  rw [eQ01] at hf1
  rw [show (0 : Int) + (v1 : Int) = (v1 : Int) by omega] at hf1
  have hr := hf1.1
  have hc1 : Int.toNat (N1 26 0) = c := by rw [hf1.2.1 26 (by decide), eQ026]
  have hc1i : N1 26 0 = M 26 0 := by rw [hf1.2.1 26 (by decide), eQ026i]
  refine mm_iast (mm_dc od_X7_read_0 16 rfl) rfl (by first | assumption | omega | exact hr _ _ rfl) (by first | assumption | omega | exact hr _ _ rfl) (by decide) ?_
  obtain ⟨Q1, hQ1⟩ : ∃ Q1 : mm_M, Q1 = mm_up N1 27 (Int.toNat (Q0 26 0)) r1 := ⟨_, rfl⟩
  rw [← hQ1]
  rw [eQ026] at hQ1
  have pQ1 : PA M Q1 c := by rw [hQ1]; exact PA_w (PA_fA pQ0 hf1) (by decide) (by omega)
  have eQ10 : Q1 24 0 = M 24 0 := pQ1.2.2.1
  have eQ11 : Q1 24 1 = (v1 : Int) := by rw [hQ1, mm_up_ne (by decide), hf1.2.2.2]
  have eQ125 : Q1 25 = M 25 := pQ1.2.1 25 (by decide) (by decide)
  have eQ126 : Int.toNat (Q1 26 0) = c := by rw [pQ1.2.1 26 (by decide) (by decide)]; exact hc
  have eQ126i : Q1 26 0 = M 26 0 := by rw [pQ1.2.1 26 (by decide) (by decide)]
  have hr := pQ1.1
  have hJ : JTp Q1 := by unfold JTp; rw [eQ10, eQ11]; omega
  have q27 : Q1 27 c = r1 := by rw [hQ1, mm_up_eq]
  have q29 : Q1 29 c = 0 := by rw [hQ1, mm_up_ne (by decide), hf1.2.1 29 (by decide)]; exact q29
  have qv : Q1 27 (Int.toNat (Q1 26 0)) = r1 := by rw [eQ126]; exact q27
  refine mm_aload_n (mm_dc od_X7_read_0 17 rfl) rfl ?_
  refine mm_getR (ci := 7) (k := 1) (mm_dc od_X7_read_0 18 rfl) rfl in_X7 (by decide) wd_1_171 rfl rfl ?_
  refine mm_aload_n (mm_dc od_X7_read_0 19 rfl) rfl ?_
  refine mm_getI (ci := 7) (k := 0) (mm_dc od_X7_read_0 20 rfl) rfl in_X7 (by decide) wd_1_169 rfl rfl ?_
  refine mm_iald (mm_dc od_X7_read_0 21 rfl) rfl (by first | assumption | omega | exact hr _ _ rfl) (by first | assumption | omega | exact hr _ _ rfl) (by decide) ?_
  refine mm_iconst (mm_dc od_X7_read_0 22 rfl) ?_
  refine mm_icmp_ne 45 (mm_dc od_X7_read_0 23 rfl) (by omega) (by first | assumption | omega | exact hr _ _ rfl) (by first | assumption | omega | exact hr _ _ rfl) (fun c1 => ?_) (fun c1 => ?_)
  · refine mm_aload_n (mm_dc od_X7_read_0 26 rfl) rfl ?_
    refine mm_getR (ci := 7) (k := 2) (mm_dc od_X7_read_0 27 rfl) rfl in_X7 (by decide) wd_1_173 rfl rfl ?_
    refine mm_aload_n (mm_dc od_X7_read_0 28 rfl) rfl ?_
    refine mm_getI (ci := 7) (k := 0) (mm_dc od_X7_read_0 29 rfl) rfl in_X7 (by decide) wd_1_169 rfl rfl ?_
    refine mm_aload_n (mm_dc od_X7_read_0 30 rfl) rfl ?_
    refine mm_ldcS (i := 1) (mm_dc od_X7_read_0 31 rfl) rfl rfl ?_
    refine mm_callV (b := 24) (mi' := mi_X8_takeWord) [v_r 1003] [v_i (Q1 26 0), v_r 28] (mm_dc od_X7_read_0 32 rfl) rfl wd_3_85 wd_3_86 wd_3_87 wd_1_6 wd_3_88 yk_X8_takeWord rfl rfl rfl (Nat.le_of_ble_eq_true rfl) rfl (by decide) (c_tw1 hJ hr (fun N2 r2 v2 hf2 hT2 => ⟨Nat.le_refl _, ?_⟩))
    rw [eQ10, eQ11, eQ125] at hT2
    rw [show ((v1 : Nat) : Int).toNat = v1 from by first | rfl | omega] at hT2
    have hb2 := TW_r2 hT2 (by omega)
    rw [eQ11] at hf2
    rw [show (v1 : Int) + (v2 : Int) = ((v1 + v2 : Nat) : Int) by omega] at hf2
    have hr := hf2.1
    have hc2 : Int.toNat (N2 26 0) = c := by rw [hf2.2.1 26 (by decide), eQ126]
    have hc2i : N2 26 0 = M 26 0 := by rw [hf2.2.1 26 (by decide), eQ126i]
    refine mm_iast (mm_dc od_X7_read_0 33 rfl) rfl (by first | assumption | omega | exact hr _ _ rfl) (by first | assumption | omega | exact hr _ _ rfl) (by decide) ?_
    obtain ⟨Q2, hQ2⟩ : ∃ Q2 : mm_M, Q2 = mm_up N2 28 (Int.toNat (Q1 26 0)) r2 := ⟨_, rfl⟩
    rw [← hQ2]
    rw [eQ126] at hQ2
    have pQ2 : PA M Q2 c := by rw [hQ2]; exact PA_w (PA_fA pQ1 hf2) (by decide) (by omega)
    have eQ20 : Q2 24 0 = M 24 0 := pQ2.2.2.1
    have eQ21 : Q2 24 1 = ((v1 + v2 : Nat) : Int) := by rw [hQ2, mm_up_ne (by decide), hf2.2.2.2]
    have eQ225 : Q2 25 = M 25 := pQ2.2.1 25 (by decide) (by decide)
    have eQ226 : Int.toNat (Q2 26 0) = c := by rw [pQ2.2.1 26 (by decide) (by decide)]; exact hc
    have eQ226i : Q2 26 0 = M 26 0 := by rw [pQ2.2.1 26 (by decide) (by decide)]
    have hr := pQ2.1
    have hJ : JTp Q2 := by unfold JTp; rw [eQ20, eQ21]; omega
    have q28 : Q2 28 c = r2 := by rw [hQ2, mm_up_eq]
    have q27 : Q2 27 c = r1 := by rw [hQ2, mm_up_ne (by decide), hf2.2.1 27 (by decide)]; exact q27
    have q29 : Q2 29 c = 0 := by rw [hQ2, mm_up_ne (by decide), hf2.2.1 29 (by decide)]; exact q29
    have qv : Q2 28 (Int.toNat (Q2 26 0)) = r2 := by rw [eQ226]; exact q28
    refine mm_aload_n (mm_dc od_X7_read_0 34 rfl) rfl ?_
    refine mm_getR (ci := 7) (k := 2) (mm_dc od_X7_read_0 35 rfl) rfl in_X7 (by decide) wd_1_173 rfl rfl ?_
    refine mm_aload_n (mm_dc od_X7_read_0 36 rfl) rfl ?_
    refine mm_getI (ci := 7) (k := 0) (mm_dc od_X7_read_0 37 rfl) rfl in_X7 (by decide) wd_1_169 rfl rfl ?_
    refine mm_iald (mm_dc od_X7_read_0 38 rfl) rfl (by first | assumption | omega | exact hr _ _ rfl) (by first | assumption | omega | exact hr _ _ rfl) (by decide) ?_
    refine mm_iconst (mm_dc od_X7_read_0 39 rfl) ?_
    refine mm_icmp_ne 75 (mm_dc od_X7_read_0 40 rfl) (by omega) (by first | assumption | omega | exact hr _ _ rfl) (by first | assumption | omega | exact hr _ _ rfl) (fun c2 => ?_) (fun c2 => ?_)
    · refine mm_aload_n (mm_dc od_X7_read_0 43 rfl) rfl ?_
      refine mm_callV (b := 24) (mi' := mi_X8_isAtEnd) [] [] (mm_dc od_X7_read_0 44 rfl) rfl wd_3_145 wd_3_146 wd_3_147 wd_1_6 wd_3_148 yk_X8_isAtEnd rfl rfl rfl (Nat.le_of_ble_eq_true rfl) rfl (by decide) (c_X8_isAtEnd  (by first | assumption | omega | exact hr _ _ rfl) (fun c3 => ⟨Nat.le_refl _, ?_⟩) (fun c3 => ⟨Nat.le_refl _, ?_⟩))
      · refine mm_if_eq 84 (mm_dc od_X7_read_0 45 rfl) (by omega) (by first | assumption | omega | exact hr _ _ rfl) (fun h => absurd h (by decide)) (fun _ => ?_)
        refine mm_iconst (mm_dc od_X7_read_0 46 rfl) ?_
        refine mm_zret .boolean (mm_dc od_X7_read_0 47 rfl) rfl rfl ?_
        exact k Q2 _ ⟨0, pQ2, hJ, ⟨r1, v1, hT1, Or.inr ⟨by omega, q27, r2, v2, hT2, Or.inr ⟨by omega, q28, Or.inl ⟨by omega, rfl, by rw [eQ21]; omega, rfl⟩⟩⟩⟩, Or.inr rfl, fun _ => ⟨q29, by omega, by rw [q27]; omega, by rw [q28]; omega, fun u hu => by omega⟩⟩
      · refine mm_if_eq 84 (mm_dc od_X7_read_0 45 rfl) (by omega) (by first | assumption | omega | exact hr _ _ rfl) (fun _ => ?_) (fun h => absurd h (by decide))
        refine mm_aload_n (mm_dc od_X7_read_0 48 rfl) rfl ?_
        refine mm_ldcS (i := 2) (mm_dc od_X7_read_0 49 rfl) rfl rfl ?_
        refine mm_callV (b := 24) (mi' := mi_X8_takeWord) [v_r 1004] [] (mm_dc od_X7_read_0 50 rfl) rfl wd_3_85 wd_3_86 wd_3_87 wd_1_6 wd_3_88 yk_X8_takeWord rfl rfl rfl (Nat.le_of_ble_eq_true rfl) rfl (by decide) (c_tw2 hJ hr (fun N3 r3 v3 hf3 hT3 => ⟨Nat.le_refl _, ?_⟩))
        rw [eQ20, eQ21, eQ225] at hT3
        rw [show (((v1 + v2 : Nat) : Int)).toNat = v1 + v2 from by first | rfl | omega] at hT3
        have hb3 := TW_r2 hT3 (by omega)
        rw [eQ21] at hf3
        rw [show ((v1 + v2 : Nat) : Int) + (v3 : Int) = ((v1 + v2 + v3 : Nat) : Int) by omega] at hf3
        have hr := hf3.1
        have hc3 : Int.toNat (N3 26 0) = c := by rw [hf3.2.1 26 (by decide), eQ226]
        have hc3i : N3 26 0 = M 26 0 := by rw [hf3.2.1 26 (by decide), eQ226i]
        refine mm_iconst (mm_dc od_X7_read_0 51 rfl) ?_
        refine mm_icmp_eq 106 (mm_dc od_X7_read_0 52 rfl) (by omega) (by first | assumption | omega | exact hr _ _ rfl) (by first | assumption | omega | exact hr _ _ rfl) (fun c4 => ?_) (fun c4 => ?_)
        · refine mm_iconst (mm_dc od_X7_read_0 59 rfl) ?_
          refine mm_zret .boolean (mm_dc od_X7_read_1 0 rfl) rfl rfl ?_
          have pN3 := PA_fA pQ2 hf3
          exact k N3 _ ⟨0, pN3, by unfold JTp; rw [hf3.2.2.2, pN3.2.2.1]; omega, ⟨r1, v1, hT1, Or.inr ⟨by omega, by rw [hf3.2.1 27 (by decide)]; exact q27, r2, v2, hT2, Or.inr ⟨by omega, by rw [hf3.2.1 28 (by decide)]; exact q28, Or.inr ⟨by omega, r3, v3, hT3, Or.inl ⟨by omega, rfl, by rw [hf3.2.2.2]; omega⟩⟩⟩⟩⟩, Or.inl rfl, fun q => by cases q⟩
        · refine mm_aload_n (mm_dc od_X7_read_0 53 rfl) rfl ?_
          refine mm_aload_n (mm_dc od_X7_read_0 54 rfl) rfl ?_
          have pN3 := PA_fA pQ2 hf3
          have e30 : N3 24 0 = M 24 0 := pN3.2.2.1
          have e31 : N3 24 1 = ((v1 + v2 + v3 : Nat) : Int) := hf3.2.2.2
          have e325 : N3 25 = M 25 := pN3.2.1 25 (by decide) (by decide)
          have z1 : r1 ≠ -1 := by omega
          have z2 : r2 ≠ -1 := by omega
          have z3 : r3 ≠ -1 := by omega
          have zl : ((v1 + v2 : Nat) : Int) < M 24 0 := by omega
          have zb : 0 ≤ r1 ∧ r1 ≤ 1 := by omega
          have zk : 0 ≤ r2 ∧ r2 ≤ 5 := by omega
          have z5 : (((v1 + v2 + v3 : Nat) : Int)).toNat = v1 + v2 + v3 := by omega
          have zc : c < 10 := by omega
          have zc3 : N3 26 0 = (c : Int) := by rw [hc3i]; exact hcI
          have zJ : JTp N3 := by unfold JTp; omega
          refine mm_callV (b := 26) (mi' := mi_X7_readTests) [v_r 24] [] (mm_dc od_X7_read_0 55 rfl) rfl wd_3_150 wd_3_152 wd_p_10 wd_1_7 wd_3_153 yk_X7_readTests rfl rfl rfl (Nat.le_of_ble_eq_true rfl) rfl (by decide) (c_rts c zc zc3 zJ hr (fun N4 ok T h1 h2 h3 h4 h5 => ⟨Nat.le_refl _, ?_⟩))
          rw [e30, e31, e325, z5] at h3
          have pN4 := PA_PB pN3 h1 (Nat.le_refl _)
          have okr : mm_r32 ok := by rcases h4 with q | q <;> (rw [q]; decide)
          have g27 : N4 27 c = r1 := by rw [h1.2.1 27 (by decide) (by decide) (by decide), hf3.2.1 27 (by decide)]; exact q27
          have g28 : N4 28 c = r2 := by rw [h1.2.1 28 (by decide) (by decide) (by decide), hf3.2.1 28 (by decide)]; exact q28
          refine mm_if_eq 106 (mm_dc od_X7_read_0 56 rfl) (by omega) (by first | assumption | omega | exact hr _ _ rfl) (fun c5 => ?_) (fun c5 => ?_)
          · refine mm_iconst (mm_dc od_X7_read_0 59 rfl) ?_
            refine mm_zret .boolean (mm_dc od_X7_read_1 0 rfl) rfl rfl ?_
            have eok : ok = 0 := by assumption
            rw [eok] at h3
            exact k N4 0 ⟨T, pN4, h2, RDQ_4 hT1 z1 g27 hT2 z2 g28 zl hT3 z3 h3, Or.inl rfl, fun q => absurd q (by decide)⟩
          · refine mm_iconst (mm_dc od_X7_read_0 57 rfl) ?_
            refine mm_goto 107 (mm_dc od_X7_read_0 58 rfl) (by omega) ?_
            refine mm_zret .boolean (mm_dc od_X7_read_1 0 rfl) rfl rfl ?_
            have eok : ok = 1 := h4.resolve_left (by assumption)
            rw [eok] at h3
            obtain ⟨x1, x2, x3, x4⟩ := h5 eok
            exact k N4 1 ⟨T, pN4, h2, RDQ_4 hT1 z1 g27 hT2 z2 g28 zl hT3 z3 h3, Or.inr rfl, fun _ => ⟨x1, x3, by rw [g27]; exact zb, by rw [g28]; exact zk, fun u hu => x4 u (Nat.zero_le _) hu⟩⟩
    · refine mm_iconst (mm_dc od_X7_read_0 41 rfl) ?_
      refine mm_zret .boolean (mm_dc od_X7_read_0 42 rfl) rfl rfl ?_
      exact k Q2 _ ⟨0, pQ2, hJ, ⟨r1, v1, hT1, Or.inr ⟨by omega, q27, r2, v2, hT2, Or.inl ⟨by omega, rfl, by rw [eQ21]; omega⟩⟩⟩, Or.inl rfl, fun q => by cases q⟩
  · refine mm_iconst (mm_dc od_X7_read_0 24 rfl) ?_
    refine mm_zret .boolean (mm_dc od_X7_read_0 25 rfl) rfl rfl ?_
    exact k Q1 _ ⟨0, pQ1, hJ, ⟨r1, v1, hT1, Or.inl ⟨by omega, rfl, by rw [eQ11]; omega⟩⟩, Or.inl rfl, fun q => by cases q⟩
theorem c_X7_keepRead {X : Nat × (Nat → Int)} {d : Nat} {Po : mm_Po} {M : mm_M}  (hr : R32 M) (k : Po (some (v_i (M 26 0))) Lam (mm_up M 26 0 (M 26 0 + 1))) : mm_E X d 0 0 mi_X7_keepRead [v_r 26] Po Lam M := by
  show mm_G X d 0 0 mi_X7_keepRead Po 0 [(0, v_r 26)] [] Lam M 0 0
  refine mm_aload_n (mm_dc od_X7_keepRead_0 0 rfl) rfl ?_
  refine mm_dup_r (mm_dc od_X7_keepRead_0 1 rfl) ?_
  refine mm_getI (ci := 7) (k := 0) (mm_dc od_X7_keepRead_0 2 rfl) rfl in_X7 (by decide) wd_1_169 rfl rfl ?_
  refine mm_iconst (mm_dc od_X7_keepRead_0 3 rfl) ?_
  refine mm_iadd (mm_dc od_X7_keepRead_0 4 rfl) ?_
  refine mm_putI (ci := 7) (k := 0) (mm_dc od_X7_keepRead_0 5 rfl) rfl in_X7 tyX7_ok nmX7 (by decide) wd_1_169 rfl rfl rfl rfl ?_
  refine mm_aload_n (mm_dc od_X7_keepRead_0 6 rfl) rfl ?_
  refine mm_getI (ci := 7) (k := 0) (mm_dc od_X7_keepRead_0 7 rfl) rfl in_X7 (by decide) wd_1_169 rfl rfl ?_
  refine mm_cst (st' := [v_i ((M 26 0) + 1)]) rfl ?_
  refine mm_iconst (mm_dc od_X7_keepRead_0 8 rfl) ?_
  refine mm_isub (mm_dc od_X7_keepRead_0 9 rfl) ?_
  refine mm_iret (mm_dc od_X7_keepRead_0 10 rfl) rfl ?_
  exact mm_pi (by first | rfl | omega | (split <;> omega) | grind) k
theorem c_X9_rule {X : Nat × (Nat → Int)} {d : Nat} {Po : mm_Po} {M : mm_M}  (h26 : 0 ≤ M 26 0 ∧ M 26 0 ≤ 10) (h24 : 0 ≤ M 24 0 ∧ M 24 0 ≤ 120) (hr : R32 M) (k : ∀ (N : mm_M) (r : Int), ((M 26 0 = 10 ∧ r = -4 ∧ N = M) ∨ (M 26 0 < 10 ∧ ∃ (N0 : mm_M) (T : Nat) (ok : Int), PA M N0 (M 26 0).toNat ∧ RDQ (M 24 0) (M 25) ok (N0 24 1).toNat (N0 27 (M 26 0).toNat) (N0 28 (M 26 0).toNat) T (fun u => N0 30 (3 * (M 26 0).toNat + u)) (fun u => N0 31 (3 * (M 26 0).toNat + u)) (fun u => N0 32 (3 * (M 26 0).toNat + u)) (fun u => N0 33 (3 * (M 26 0).toNat + u)) ∧ ((ok = 0 ∧ r = -10 - N0 24 1 ∧ (0 ≤ N0 24 1 ∧ N0 24 1 ≤ 120) ∧ N = mm_up N0 24 0 0) ∨ (ok = 1 ∧ (N0 29 (M 26 0).toNat = T ∧ T ≤ 3 ∧ (0 ≤ N0 27 (M 26 0).toNat ∧ N0 27 (M 26 0).toNat ≤ 1) ∧ (0 ≤ N0 28 (M 26 0).toNat ∧ N0 28 (M 26 0).toNat ≤ 5) ∧ ∀ u, u < T → rgQ N0 (3 * (M 26 0).toNat + u)) ∧ r = M 26 0 ∧ N = mm_up (mm_up N0 24 0 0) 26 0 (M 26 0 + 1))))) → Po (some (v_i r)) Lam N) : mm_E X (d + 9) 0 0 mi_X9_rule [v_r 0] Po Lam M := by
  show mm_G X (d + 9) 0 0 mi_X9_rule Po 0 [(0, v_r 0)] [] Lam M 0 0
  refine mm_aload_n (mm_dc od_X9_rule_0 0 rfl) rfl ?_
  refine mm_getR (ci := 9) (k := 5) (mm_dc od_X9_rule_0 1 rfl) rfl in_X9 (by decide) wd_2_50 rfl rfl ?_
  refine mm_getI (ci := 7) (k := 0) (mm_dc od_X9_rule_0 2 rfl) rfl in_X7 (by decide) wd_1_170 rfl rfl ?_
  refine mm_bipush (mm_dc od_X9_rule_0 3 rfl) (by decide) ?_
  refine mm_icmp_lt 15 (mm_dc od_X9_rule_0 4 rfl) (by omega) (by first | omega | assumption | exact hr _ _ rfl | exact R32_up hr (by decide)) (by first | omega | assumption | exact hr _ _ rfl | exact R32_up hr (by decide)) (fun c1 => ?_) (fun c1 => ?_)
  · refine mm_aload_n (mm_dc od_X9_rule_0 7 rfl) rfl ?_
    refine mm_getR (ci := 9) (k := 5) (mm_dc od_X9_rule_0 8 rfl) rfl in_X9 (by decide) wd_2_50 rfl rfl ?_
    refine mm_aload_n (mm_dc od_X9_rule_0 9 rfl) rfl ?_
    refine mm_getR (ci := 9) (k := 4) (mm_dc od_X9_rule_0 10 rfl) rfl in_X9 (by decide) wd_2_49 rfl rfl ?_
    refine mm_callV (b := 26) (mi' := mi_X7_read) [v_r 24] [] (mm_dc od_X9_rule_0 11 rfl) rfl wd_3_80 wd_3_81 wd_3_82 wd_1_7 wd_3_83 yk_X7_read rfl rfl rfl (Nat.le_of_ble_eq_true rfl) rfl (by decide) (c_X7_read  (by first | omega | assumption | exact hr _ _ rfl | exact R32_up hr (by decide)) (by first | omega | assumption | exact hr _ _ rfl | exact R32_up hr (by decide)) (by first | omega | assumption | exact hr _ _ rfl | exact R32_up hr (by decide)) (fun N3 r2 hq4 => ⟨Nat.le_refl _, ?_⟩))
    obtain ⟨T, hPA, hJN, hRD, h01, h1⟩ := hq4
    have hr := hPA.1
    obtain ⟨jn1, jn2, jn3⟩ := hJN
    refine mm_istore_n (L' := [(0, v_r 0), (1, v_i r2)]) (mm_dc od_X9_rule_0 12 rfl) (by decide) rfl ?_
    refine mm_aload_n (mm_dc od_X9_rule_0 13 rfl) rfl ?_
    refine mm_getR (ci := 9) (k := 4) (mm_dc od_X9_rule_0 14 rfl) rfl in_X9 (by decide) wd_2_49 rfl rfl ?_
    refine mm_iconst (mm_dc od_X9_rule_0 15 rfl) ?_
    refine mm_putI (ci := 8) (k := 0) (mm_dc od_X9_rule_0 16 rfl) rfl in_X8 tyX8_ok nmX8 (by decide) wd_1_151 rfl rfl rfl rfl ?_
    refine mm_iload_n (mm_dc od_X9_rule_0 17 rfl) rfl ?_
    refine mm_if_eq 49 (mm_dc od_X9_rule_0 18 rfl) (by omega) (by first | omega | assumption | exact hr _ _ rfl | exact R32_up hr (by decide)) (fun c5 => ?_) (fun c5 => ?_)
    · refine mm_bipush (mm_dc od_X9_rule_0 23 rfl) (by decide) ?_
      refine mm_aload_n (mm_dc od_X9_rule_0 24 rfl) rfl ?_
      refine mm_getR (ci := 9) (k := 4) (mm_dc od_X9_rule_0 25 rfl) rfl in_X9 (by decide) wd_2_49 rfl rfl ?_
      refine mm_getI (ci := 8) (k := 1) (mm_dc od_X9_rule_0 26 rfl) rfl in_X8 (by decide) wd_1_154 rfl rfl ?_
      refine mm_cst (st' := [v_i (N3 24 1), v_i (-10)]) rfl ?_
      refine mm_isub (mm_dc od_X9_rule_0 27 rfl) ?_
      refine mm_iret (mm_dc od_X9_rule_0 28 rfl) rfl ?_
      have e26 : N3 26 0 = M 26 0 := by rw [hPA.2.1 26 (by decide) (by decide)]
      exact k _ _ (Or.inr ⟨by omega, N3, T, r2, hPA, hRD, Or.inl ⟨by omega, rfl, ⟨jn1, by omega⟩, rfl⟩⟩)
    · refine mm_aload_n (mm_dc od_X9_rule_0 19 rfl) rfl ?_
      refine mm_getR (ci := 9) (k := 5) (mm_dc od_X9_rule_0 20 rfl) rfl in_X9 (by decide) wd_2_50 rfl rfl ?_
      refine mm_callV (b := 26) (mi' := mi_X7_keepRead) [] [] (mm_dc od_X9_rule_0 21 rfl) rfl wd_3_170 wd_3_171 wd_3_172 wd_1_7 wd_3_173 yk_X7_keepRead rfl rfl rfl (Nat.le_of_ble_eq_true rfl) rfl (by decide) (c_X7_keepRead  (by first | omega | assumption | exact hr _ _ rfl | exact R32_up hr (by decide)) ⟨Nat.le_refl _, ?_⟩)
      refine mm_cst (st' := [v_i (N3 26 0)]) rfl ?_
      refine mm_goto 59 (mm_dc od_X9_rule_0 22 rfl) (by omega) ?_
      refine mm_iret (mm_dc od_X9_rule_0 28 rfl) rfl ?_
      have e26 : N3 26 0 = M 26 0 := by rw [hPA.2.1 26 (by decide) (by decide)]
      exact k _ _ (Or.inr ⟨by omega, N3, T, r2, hPA, hRD, Or.inr ⟨by omega, h1 (by omega), e26, by rw [mm_up_ne (j := 26) (by decide), e26]⟩⟩)
  · refine mm_bipush (mm_dc od_X9_rule_0 5 rfl) (by decide) ?_
    refine mm_iret (mm_dc od_X9_rule_0 6 rfl) rfl ?_
    exact k _ _ (Or.inl ⟨by omega, rfl, rfl⟩)
