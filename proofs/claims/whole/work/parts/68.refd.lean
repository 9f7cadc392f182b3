/-! the reference reads a test -/
def tM (B N : mm_M) (kk : Nat) (a : Int) : Prop := R32 N ∧ (∀ j, j ≠ 50 → j ≠ 78 → N j = B j) ∧ (∀ q, q ≠ 36 → N 50 q = B 50 q) ∧ N 50 36 = a ∧ ∀ x, (x < kk ∨ kk + 4 ≤ x) → N 78 x = B 78 x
theorem tM_f {B N : mm_M} {kk : Nat} {a : Int} (h : fM B N a) : tM B N kk a := ⟨h.1, fun j q1 _ => h.2.1 j q1, h.2.2.1, h.2.2.2, fun x _ => by rw [h.2.1 78 (by decide)]⟩
theorem tM_w {B N : mm_M} {kk i : Nat} {a v : Int} (h : tM B N kk a) (hi : kk ≤ i ∧ i < kk + 4) (hv : mm_r32 v) : tM B (mm_up N 78 i v) kk a := by
  obtain ⟨h1, h2, h3, h4, h5⟩ := h
  refine ⟨R32_up h1 hv, fun j q1 q2 => by rw [mm_up_ne q2]; exact h2 j q1 q2, fun q hq => by rw [mm_up_ne (by decide)]; exact h3 q hq, by rw [mm_up_ne (by decide)]; exact h4, fun x hx => ?_⟩
  rw [mm_upa, if_neg (by omega)]; exact h5 x hx
theorem L_ts126 {X : Nat × (Nat → Int)} {d : Nat} {Po : mm_Po} {M : mm_M} {B : mm_M} (kk : Nat) (q : Nat) (ok dn fd sg nu : Int) (hkk : kk + 3 < 120) (hdn : dn = 0 ∨ dn = 1) (hfd : 0 ≤ fd ∧ fd < 7) (hok : ok = 1) (hnu : 0 ≤ nu ∧ nu ≤ 999) (hfM : fM B M (q : Int)) (k : ∀ N : mm_M, tM B N kk (q : Int) → (ok = 1 → N 78 kk = dn ∧ N 78 (kk + 1) = fd ∧ N 78 (kk + 2) = opc sg ∧ N 78 (kk + 3) = nu) → Po (some (v_i ok)) Lam N) (x : Int) : mm_G X (d + 5) 0 0 mi_X10_test Po 126 [(0, v_r 50), (1, v_i (kk : Int)), (2, v_i dn), (3, v_i (fd + 8)), (4, v_i (opc sg)), (5, v_i nu), (6, v_i x)] [] Lam M 0 0 := by
  have hr := hfM.1
  have hop : mm_r32 (opc sg) := (by unfold opc; split; decide; split <;> decide)
  refine mm_aload_n (mm_dc od_X10_test_1 7 rfl) rfl ?_
  refine mm_getR (ci := 10) (k := 35) (mm_dc od_X10_test_1 8 rfl) rfl in_X10 (by decide) wd_4_147 rfl rfl ?_
  refine mm_iload_n (mm_dc od_X10_test_1 9 rfl) rfl ?_
  refine mm_iload_n (mm_dc od_X10_test_1 10 rfl) rfl ?_
  refine mm_if_eq 139 (mm_dc od_X10_test_1 11 rfl) (by omega) (by first | omega | assumption | exact hr _ _ rfl) (fun c1 => ?_) (fun c1 => ?_)
  · refine mm_iconst (mm_dc od_X10_test_1 14 rfl) ?_
    refine mm_iast (mm_dc od_X10_test_1 15 rfl) rfl (by first | omega | assumption | exact hr _ _ rfl) (by first | omega | assumption | exact hr _ _ rfl) (by decide) ?_
    refine mm_eqM (M' := mm_up M 78 kk 0) rfl ?_
    refine mm_aload_n (mm_dc od_X10_test_1 16 rfl) rfl ?_
    refine mm_getR (ci := 10) (k := 35) (mm_dc od_X10_test_1 17 rfl) rfl in_X10 (by decide) wd_4_147 rfl rfl ?_
    refine mm_iload_n (mm_dc od_X10_test_1 18 rfl) rfl ?_
    refine mm_iconst (mm_dc od_X10_test_1 19 rfl) ?_
    refine mm_iadd (mm_dc od_X10_test_1 20 rfl) ?_
    refine mm_iload_n (mm_dc od_X10_test_1 21 rfl) rfl ?_
    refine mm_bipush (mm_dc od_X10_test_1 22 rfl) (by decide) ?_
    refine mm_isub (mm_dc od_X10_test_1 23 rfl) ?_
    refine mm_iast (mm_dc od_X10_test_1 24 rfl) rfl (by first | omega | assumption | exact hr _ _ rfl) (by first | omega | assumption | exact hr _ _ rfl) (by decide) ?_
    refine mm_aload_n (mm_dc od_X10_test_1 25 rfl) rfl ?_
    refine mm_getR (ci := 10) (k := 35) (mm_dc od_X10_test_1 26 rfl) rfl in_X10 (by decide) wd_4_147 rfl rfl ?_
    refine mm_iload_n (mm_dc od_X10_test_1 27 rfl) rfl ?_
    refine mm_iconst (mm_dc od_X10_test_1 28 rfl) ?_
    refine mm_iadd (mm_dc od_X10_test_1 29 rfl) ?_
    refine mm_iload (mm_dc od_X10_test_1 30 rfl) rfl ?_
    refine mm_iast (mm_dc od_X10_test_1 31 rfl) rfl (by first | omega | assumption | exact hr _ _ rfl) (by first | omega | assumption | exact hr _ _ rfl) (by decide) ?_
    refine mm_aload_n (mm_dc od_X10_test_1 32 rfl) rfl ?_
    refine mm_getR (ci := 10) (k := 35) (mm_dc od_X10_test_1 33 rfl) rfl in_X10 (by decide) wd_4_147 rfl rfl ?_
    refine mm_iload_n (mm_dc od_X10_test_1 34 rfl) rfl ?_
    refine mm_iconst (mm_dc od_X10_test_1 35 rfl) ?_
    refine mm_iadd (mm_dc od_X10_test_1 36 rfl) ?_
    refine mm_iload (mm_dc od_X10_test_1 37 rfl) rfl ?_
    refine mm_iast (mm_dc od_X10_test_1 38 rfl) rfl (by first | omega | assumption | exact hr _ _ rfl) (by first | omega | assumption | exact hr _ _ rfl) (by decide) ?_
    refine mm_iconst (mm_dc od_X10_test_1 39 rfl) ?_
    refine mm_zret .boolean (mm_dc od_X10_test_1 40 rfl) rfl rfl ?_
    subst hok
    have hdz : dn = 0 := by omega
    obtain ⟨F, hF⟩ : ∃ F : mm_M, F = mm_up (mm_up (mm_up (mm_up M 78 kk dn) 78 (kk + 1) fd) 78 (kk + 2) (opc sg)) 78 (kk + 3) nu := ⟨_, rfl⟩
    have hFe : mm_up (mm_up (mm_up (mm_up M 78 kk 0) 78 (Int.toNat ((kk : Int) + 1)) ((fd + 8) - 8)) 78 (Int.toNat ((kk : Int) + 2)) (opc sg)) 78 (Int.toNat ((kk : Int) + 3)) nu = F := by
      rw [hF, hdz, show ((kk : Int) + 1).toNat = kk + 1 by omega, show ((kk : Int) + 2).toNat = kk + 2 by omega, show ((kk : Int) + 3).toNat = kk + 3 by omega, show fd + 8 - 8 = fd by omega]
    rw [hFe]
    have hb := tM_w (tM_w (tM_w (tM_w (tM_f (kk := kk) hfM) (i := kk) (v := dn) (by omega) (by omega)) (i := kk + 1) (v := fd) (by omega) (by omega)) (i := kk + 2) (v := opc sg) (by omega) (by omega)) (i := kk + 3) (v := nu) (by omega) (by omega)
    rw [← hF] at hb
    refine k F hb (fun _ => ?_)
    rw [hF]
    refine ⟨?_, ?_, ?_, ?_⟩
    · rw [mm_upa, if_neg (by omega), mm_upa, if_neg (by omega), mm_upa, if_neg (by omega), mm_up_eq]
    · rw [mm_upa, if_neg (by omega), mm_upa, if_neg (by omega), mm_up_eq]
    · rw [mm_upa, if_neg (by omega), mm_up_eq]
    · rw [mm_up_eq]
  · refine mm_iconst (mm_dc od_X10_test_1 12 rfl) ?_
    refine mm_goto 140 (mm_dc od_X10_test_1 13 rfl) (by omega) ?_
    refine mm_iast (mm_dc od_X10_test_1 15 rfl) rfl (by first | omega | assumption | exact hr _ _ rfl) (by first | omega | assumption | exact hr _ _ rfl) (by decide) ?_
    refine mm_eqM (M' := mm_up M 78 kk 1) rfl ?_
    refine mm_aload_n (mm_dc od_X10_test_1 16 rfl) rfl ?_
    refine mm_getR (ci := 10) (k := 35) (mm_dc od_X10_test_1 17 rfl) rfl in_X10 (by decide) wd_4_147 rfl rfl ?_
    refine mm_iload_n (mm_dc od_X10_test_1 18 rfl) rfl ?_
    refine mm_iconst (mm_dc od_X10_test_1 19 rfl) ?_
    refine mm_iadd (mm_dc od_X10_test_1 20 rfl) ?_
    refine mm_iload_n (mm_dc od_X10_test_1 21 rfl) rfl ?_
    refine mm_bipush (mm_dc od_X10_test_1 22 rfl) (by decide) ?_
    refine mm_isub (mm_dc od_X10_test_1 23 rfl) ?_
    refine mm_iast (mm_dc od_X10_test_1 24 rfl) rfl (by first | omega | assumption | exact hr _ _ rfl) (by first | omega | assumption | exact hr _ _ rfl) (by decide) ?_
    refine mm_aload_n (mm_dc od_X10_test_1 25 rfl) rfl ?_
    refine mm_getR (ci := 10) (k := 35) (mm_dc od_X10_test_1 26 rfl) rfl in_X10 (by decide) wd_4_147 rfl rfl ?_
    refine mm_iload_n (mm_dc od_X10_test_1 27 rfl) rfl ?_
    refine mm_iconst (mm_dc od_X10_test_1 28 rfl) ?_
    refine mm_iadd (mm_dc od_X10_test_1 29 rfl) ?_
    refine mm_iload (mm_dc od_X10_test_1 30 rfl) rfl ?_
    refine mm_iast (mm_dc od_X10_test_1 31 rfl) rfl (by first | omega | assumption | exact hr _ _ rfl) (by first | omega | assumption | exact hr _ _ rfl) (by decide) ?_
    refine mm_aload_n (mm_dc od_X10_test_1 32 rfl) rfl ?_
    refine mm_getR (ci := 10) (k := 35) (mm_dc od_X10_test_1 33 rfl) rfl in_X10 (by decide) wd_4_147 rfl rfl ?_
    refine mm_iload_n (mm_dc od_X10_test_1 34 rfl) rfl ?_
    refine mm_iconst (mm_dc od_X10_test_1 35 rfl) ?_
    refine mm_iadd (mm_dc od_X10_test_1 36 rfl) ?_
    refine mm_iload (mm_dc od_X10_test_1 37 rfl) rfl ?_
    refine mm_iast (mm_dc od_X10_test_1 38 rfl) rfl (by first | omega | assumption | exact hr _ _ rfl) (by first | omega | assumption | exact hr _ _ rfl) (by decide) ?_
    refine mm_iconst (mm_dc od_X10_test_1 39 rfl) ?_
    refine mm_zret .boolean (mm_dc od_X10_test_1 40 rfl) rfl rfl ?_
    subst hok
    have hdz : dn = 1 := by omega
    obtain ⟨F, hF⟩ : ∃ F : mm_M, F = mm_up (mm_up (mm_up (mm_up M 78 kk dn) 78 (kk + 1) fd) 78 (kk + 2) (opc sg)) 78 (kk + 3) nu := ⟨_, rfl⟩
    have hFe : mm_up (mm_up (mm_up (mm_up M 78 kk 1) 78 (Int.toNat ((kk : Int) + 1)) ((fd + 8) - 8)) 78 (Int.toNat ((kk : Int) + 2)) (opc sg)) 78 (Int.toNat ((kk : Int) + 3)) nu = F := by
      rw [hF, hdz, show ((kk : Int) + 1).toNat = kk + 1 by omega, show ((kk : Int) + 2).toNat = kk + 2 by omega, show ((kk : Int) + 3).toNat = kk + 3 by omega, show fd + 8 - 8 = fd by omega]
    rw [hFe]
    have hb := tM_w (tM_w (tM_w (tM_w (tM_f (kk := kk) hfM) (i := kk) (v := dn) (by omega) (by omega)) (i := kk + 1) (v := fd) (by omega) (by omega)) (i := kk + 2) (v := opc sg) (by omega) (by omega)) (i := kk + 3) (v := nu) (by omega) (by omega)
    rw [← hF] at hb
    refine k F hb (fun _ => ?_)
    rw [hF]
    refine ⟨?_, ?_, ?_, ?_⟩
    · rw [mm_upa, if_neg (by omega), mm_upa, if_neg (by omega), mm_upa, if_neg (by omega), mm_up_eq]
    · rw [mm_upa, if_neg (by omega), mm_upa, if_neg (by omega), mm_up_eq]
    · rw [mm_upa, if_neg (by omega), mm_up_eq]
    · rw [mm_up_eq]
theorem L_ts79 {X : Nat × (Nat → Int)} {d : Nat} {Po : mm_Po} {M : mm_M} {B : mm_M} (kk : Nat) (q : Nat) (ok dn fd sg nu : Int) (hkk : kk + 3 < 120) (hdn : dn = 0 ∨ dn = 1) (hfd : 0 ≤ fd ∧ fd < 7) (len : Int) (tp : Nat → Int) (hlen : 0 ≤ len ∧ len ≤ 120) (hl : B 50 29 = len) (htp : ∀ k : Nat, (k : Int) < len → B 74 k = tp k) (p3 c : Nat) (hp3 : (p3 : Int) ≤ len) (hNQ : NQ len tp p3 c) (hc0 : c ≠ 0) (hok : ok = 1) (hnu : nu = nv tp p3 c) (hq : q = p3 + c) (k : ∀ N : mm_M, tM B N kk (q : Int) → (ok = 1 → N 78 kk = dn ∧ N 78 (kk + 1) = fd ∧ N 78 (kk + 2) = opc sg ∧ N 78 (kk + 3) = nu) → Po (some (v_i ok)) Lam N) (j : Nat) (hj : j ≤ c) (hfM : fM B M ((p3 + j : Nat) : Int)) : mm_G X (d + 5) 0 0 mi_X10_test Po 79 [(0, v_r 50), (1, v_i (kk : Int)), (2, v_i dn), (3, v_i (fd + 8)), (4, v_i (opc sg)), (5, v_i (nv tp p3 j)), (6, v_i (j : Int))] [] Lam M 0 0 := by
  have hr := hfM.1
  have e29 : M 50 29 = len := (by rw [hfM.2.2.1 29 (by decide)]; exact hl)
  have e74 : M 74 = B 74 := hfM.2.1 74 (by decide)
  have hat := hfM.2.2.2
  have hsr := sgS_r hr
  have htpM : ∀ k : Nat, (k : Int) < len → M 74 k = tp k := (by rw [e74]; exact htp)
  have hnr := nv_r (tp := tp) (p := p3) c (fun q2 hq2 => (hNQ.2.1 q2 hq2).2)
  have hnj := nv_r (tp := tp) (p := p3) j (fun q2 hq2 => (hNQ.2.1 q2 (by omega)).2)
  have hnB := nvB_r hNQ.1
  have hnJ := nvB_r (show j ≤ 3 by have := hNQ.1; omega)
  have hc3 := hNQ.1
  have hlc : ((p3 + c : Nat) : Int) ≤ len := (by
    have h := (hNQ.2.1 (c - 1) (by omega)).1
    omega)
  have hJt : JTm M := (by unfold JTm; omega)
  refine mm_iload (mm_dc od_X10_test_0 43 rfl) rfl ?_
  refine mm_iconst (mm_dc od_X10_test_0 44 rfl) ?_
  refine mm_icmp_ge 126 (mm_dc od_X10_test_0 45 rfl) (by omega) (by first | omega | assumption | exact hr _ _ rfl) (by first | omega | assumption | exact hr _ _ rfl) (fun c1 => ?_) (fun c1 => ?_)
  · have hjc : j = c := by
      apply Classical.byContradiction
      intro q2
      have hdg := hNQ.2.1 j (by omega)
      have := (sgS_d e29 htpM hat).mpr hdg
      omega
    subst hjc
    rw [← hnu]
    exact L_ts126 kk q ok dn fd sg nu hkk hdn hfd hok (by omega) (by rw [hq]; exact hfM) k _
  · refine mm_aload_n (mm_dc od_X10_test_0 46 rfl) rfl ?_
    refine mm_callV (b := 50) (mi' := mi_X10_sign) [] [] (mm_dc od_X10_test_0 47 rfl) rfl wd_5_209 wd_5_211 wd_p_39 wd_1_12 wd_5_212 yk_X10_sign rfl rfl rfl (Nat.le_of_ble_eq_true rfl) rfl (by decide) (c_X10_sign  hJt (by first | omega | assumption | exact hr _ _ rfl) ⟨Nat.le_refl _, ?_⟩)
    refine mm_callS (mi' := mi_X10_isDigit) [v_i (sgS M)] [] (mm_dc od_X10_test_0 48 rfl) rfl wd_5_221 wd_5_222 wd_1_12 wd_5_223 yk_X10_isDigit (Nat.le_of_ble_eq_true rfl) rfl (by decide) (c_X10_isDigit (sgS M) (by first | omega | assumption | exact hr _ _ rfl) (fun c2 => ⟨Nat.le_refl _, ?_⟩) (fun c2 => ⟨Nat.le_refl _, ?_⟩))
    · refine mm_if_eq 126 (mm_dc od_X10_test_0 49 rfl) (by omega) (by first | omega | assumption | exact hr _ _ rfl) (fun h => absurd h (by decide)) (fun _ => ?_)
      refine mm_bipush (mm_dc od_X10_test_0 50 rfl) (by decide) ?_
      refine mm_iload (mm_dc od_X10_test_0 51 rfl) rfl ?_
      refine mm_imul (mm_dc od_X10_test_0 52 rfl) ?_
      refine mm_aload_n (mm_dc od_X10_test_0 53 rfl) rfl ?_
      refine mm_callV (b := 50) (mi' := mi_X10_sign) [] [v_i (10 * (nv tp p3 j))] (mm_dc od_X10_test_0 54 rfl) rfl wd_5_209 wd_5_211 wd_p_39 wd_1_12 wd_5_212 yk_X10_sign rfl rfl rfl (Nat.le_of_ble_eq_true rfl) rfl (by decide) (c_X10_sign  hJt (by first | omega | assumption | exact hr _ _ rfl) ⟨Nat.le_refl _, ?_⟩)
      refine mm_iadd (mm_dc od_X10_test_0 55 rfl) ?_
      refine mm_bipush (mm_dc od_X10_test_0 56 rfl) (by decide) ?_
      refine mm_isub (mm_dc od_X10_test_0 57 rfl) ?_
      refine mm_istore (L' := [(0, v_r 50), (1, v_i (kk : Int)), (2, v_i dn), (3, v_i (fd + 8)), (4, v_i (opc sg)), (5, v_i (((10 * (nv tp p3 j)) + (sgS M)) - 48)), (6, v_i (j : Int))]) (mm_dc od_X10_test_0 58 rfl) (by decide) rfl ?_
      refine mm_aload_n (mm_dc od_X10_test_0 59 rfl) rfl ?_
      refine mm_dup_r (mm_dc od_X10_test_1 0 rfl) ?_
      refine mm_getI (ci := 10) (k := 36) (mm_dc od_X10_test_1 1 rfl) rfl in_X10 (by decide) wd_4_148 rfl rfl ?_
      refine mm_iconst (mm_dc od_X10_test_1 2 rfl) ?_
      refine mm_iadd (mm_dc od_X10_test_1 3 rfl) ?_
      refine mm_putI (ci := 10) (k := 36) (mm_dc od_X10_test_1 4 rfl) rfl in_X10 tyX10_ok nmX10 (by decide) wd_4_148 rfl rfl rfl rfl ?_
      refine mm_iinc (L' := [(0, v_r 50), (1, v_i (kk : Int)), (2, v_i dn), (3, v_i (fd + 8)), (4, v_i (opc sg)), (5, v_i (((10 * (nv tp p3 j)) + (sgS M)) - 48)), (6, v_i ((j : Int) + 1))]) (mm_dc od_X10_test_1 5 rfl) rfl (by decide) rfl ?_
      refine mm_goto 79 (mm_dc od_X10_test_1 6 rfl) (by omega) ?_
      have hdg := (sgS_d e29 htpM hat).mp (by omega)
      have hjc : j < c := Classical.byContradiction (fun q2 => hNQ.2.2 (by omega) (by rw [show p3 + c = p3 + j by omega]; exact hdg))
      have hsv := sgS_v e29 htpM hat hdg.1
      refine mm_cL (L' := [(0, v_r 50), (1, v_i (kk : Int)), (2, v_i dn), (3, v_i (fd + 8)), (4, v_i (opc sg)), (5, v_i (nv tp p3 (j + 1))), (6, v_i ((j + 1 : Nat) : Int))]) (by rw [hsv]; rfl) ?_
      exact L_ts79 kk q ok dn fd sg nu hkk hdn hfd len tp hlen hl htp p3 c hp3 hNQ hc0 hok hnu hq k (j + 1) (by omega) (by
        have h := fM_up (b := M 50 36 + 1) hfM (by omega)
        rw [show ((p3 + (j + 1) : Nat) : Int) = M 50 36 + 1 by omega]
        exact h)
    · refine mm_if_eq 126 (mm_dc od_X10_test_0 49 rfl) (by omega) (by first | omega | assumption | exact hr _ _ rfl) (fun _ => ?_) (fun h => absurd h (by decide))
      have hjc : j = c := by
        apply Classical.byContradiction
        intro q2
        have hdg := hNQ.2.1 j (by omega)
        have := (sgS_d e29 htpM hat).mpr hdg
        omega
      subst hjc
      rw [← hnu]
      exact L_ts126 kk q ok dn fd sg nu hkk hdn hfd hok (by omega) (by rw [hq]; exact hfM) k _
termination_by 4 - j
decreasing_by all_goals (first | omega | (simp_wf; omega))
theorem L_ts51 {X : Nat × (Nat → Int)} {d : Nat} {Po : mm_Po} {M : mm_M} {B : mm_M} (kk : Nat) (q : Nat) (ok dn fd sg nu : Int) (hkk : kk + 3 < 120) (hdn : dn = 0 ∨ dn = 1) (hfd : 0 ≤ fd ∧ fd < 7) (len : Int) (tp : Nat → Int) (hlen : 0 ≤ len ∧ len ≤ 120) (hl : B 50 29 = len) (htp : ∀ k : Nat, (k : Int) < len → B 74 k = tp k) (p3 c : Nat) (hp3 : (p3 : Int) ≤ len) (hNQ : NQ len tp p3 c) (hres : (c = 0 ∧ ok = 0 ∧ q = p3) ∨ (c ≠ 0 ∧ ok = 1 ∧ nu = nv tp p3 c ∧ q = p3 + c)) (k : ∀ N : mm_M, tM B N kk (q : Int) → (ok = 1 → N 78 kk = dn ∧ N 78 (kk + 1) = fd ∧ N 78 (kk + 2) = opc sg ∧ N 78 (kk + 3) = nu) → Po (some (v_i ok)) Lam N) (hp0 : 1 ≤ p3) (hfM : fM B M ((p3 : Int) - 1)) : mm_G X (d + 5) 0 0 mi_X10_test Po 51 [(0, v_r 50), (1, v_i (kk : Int)), (2, v_i dn), (3, v_i (fd + 8)), (4, v_i (opc sg))] [] Lam M 0 0 := by
  have hr := hfM.1
  have hat := hfM.2.2.2
  refine mm_aload_n (mm_dc od_X10_test_0 27 rfl) rfl ?_
  refine mm_dup_r (mm_dc od_X10_test_0 28 rfl) ?_
  refine mm_getI (ci := 10) (k := 36) (mm_dc od_X10_test_0 29 rfl) rfl in_X10 (by decide) wd_4_148 rfl rfl ?_
  refine mm_iconst (mm_dc od_X10_test_0 30 rfl) ?_
  refine mm_iadd (mm_dc od_X10_test_0 31 rfl) ?_
  refine mm_putI (ci := 10) (k := 36) (mm_dc od_X10_test_0 32 rfl) rfl in_X10 tyX10_ok nmX10 (by decide) wd_4_148 rfl rfl rfl rfl ?_
  obtain ⟨Q, hQ⟩ : ∃ Q : mm_M, Q = mm_up M 50 36 ((M 50 36) + 1) := ⟨_, rfl⟩
  rw [← hQ]
  have hfQ : fM B Q ((p3 + 0 : Nat) : Int) := by
    have h := fM_up (b := M 50 36 + 1) hfM (by omega)
    rw [← hQ] at h
    rw [show ((p3 + 0 : Nat) : Int) = M 50 36 + 1 by omega]
    exact h
  have hfM := hfQ
  have hr := hfM.1
  have e29 : Q 50 29 = len := by rw [hfM.2.2.1 29 (by decide)]; exact hl
  have e74 : Q 74 = B 74 := hfM.2.1 74 (by decide)
  have hat := hfM.2.2.2
  have hsr := sgS_r hr
  have htpM : ∀ k : Nat, (k : Int) < len → Q 74 k = tp k := by rw [e74]; exact htp
  have hJt : JTm Q := by unfold JTm; omega
  refine mm_aload_n (mm_dc od_X10_test_0 33 rfl) rfl ?_
  refine mm_callV (b := 50) (mi' := mi_X10_sign) [] [] (mm_dc od_X10_test_0 34 rfl) rfl wd_5_209 wd_5_211 wd_p_39 wd_1_12 wd_5_212 yk_X10_sign rfl rfl rfl (Nat.le_of_ble_eq_true rfl) rfl (by decide) (c_X10_sign  hJt (by first | omega | assumption | exact hr _ _ rfl) ⟨Nat.le_refl _, ?_⟩)
  refine mm_callS (mi' := mi_X10_isDigit) [v_i (sgS Q)] [] (mm_dc od_X10_test_0 35 rfl) rfl wd_5_221 wd_5_222 wd_1_12 wd_5_223 yk_X10_isDigit (Nat.le_of_ble_eq_true rfl) rfl (by decide) (c_X10_isDigit (sgS Q) (by first | omega | assumption | exact hr _ _ rfl) (fun c1 => ⟨Nat.le_refl _, ?_⟩) (fun c1 => ⟨Nat.le_refl _, ?_⟩))
  · refine mm_if_ne 73 (mm_dc od_X10_test_0 36 rfl) (by omega) (by first | omega | assumption | exact hr _ _ rfl) (fun _ => ?_) (fun h => absurd h (by decide))
    refine mm_iconst (mm_dc od_X10_test_0 39 rfl) ?_
    refine mm_istore (L' := [(0, v_r 50), (1, v_i (kk : Int)), (2, v_i dn), (3, v_i (fd + 8)), (4, v_i (opc sg)), (5, v_i 0)]) (mm_dc od_X10_test_0 40 rfl) (by decide) rfl ?_
    refine mm_iconst (mm_dc od_X10_test_0 41 rfl) ?_
    refine mm_istore (L' := [(0, v_r 50), (1, v_i (kk : Int)), (2, v_i dn), (3, v_i (fd + 8)), (4, v_i (opc sg)), (5, v_i 0), (6, v_i 0)]) (mm_dc od_X10_test_0 42 rfl) (by decide) rfl ?_
    rcases hres with ⟨h0, _⟩ | ⟨h1, h2, h3, h4⟩
    · exfalso
      subst h0
      exact hNQ.2.2 (by decide) ((sgS_d e29 htpM hat).mp (by omega))
    · exact L_ts79 kk q ok dn fd sg nu hkk hdn hfd len tp hlen hl htp p3 c hp3 hNQ h1 h2 h3 h4 k 0 (by omega) hfM
  · refine mm_if_ne 73 (mm_dc od_X10_test_0 36 rfl) (by omega) (by first | omega | assumption | exact hr _ _ rfl) (fun h => absurd h (by decide)) (fun _ => ?_)
    refine mm_iconst (mm_dc od_X10_test_0 37 rfl) ?_
    refine mm_zret .boolean (mm_dc od_X10_test_0 38 rfl) rfl rfl ?_
    rcases hres with ⟨h0, rfl, rfl⟩ | ⟨h1, _⟩
    · exact k _ (tM_f hfM) (fun q2 => by cases q2)
    · exfalso
      have hdg := hNQ.2.1 0 (by omega)
      have := (sgS_d e29 htpM hat).mpr hdg
      omega
theorem c_ts {X : Nat × (Nat → Int)} {d : Nat} {Po : mm_Po} {M : mm_M} (kk : Nat) (p q : Nat) (ok dn fd sg nu : Int) (hkk : kk + 3 < 120) (len : Int) (tp : Nat → Int) (hlen : 0 ≤ len ∧ len ≤ 120) (hl : M 50 29 = len) (htp : ∀ k : Nat, (k : Int) < len → M 74 k = tp k) (hJt : JTm M) (hr : R32 M) (hp : M 50 36 = (p : Int)) (hTS : TSQ len tp p ok q dn fd sg nu) (k : ∀ N : mm_M, tM M N kk (q : Int) → (ok = 1 → N 78 kk = dn ∧ N 78 (kk + 1) = fd ∧ N 78 (kk + 2) = opc sg ∧ N 78 (kk + 3) = nu) → Po (some (v_i ok)) Lam N) : mm_G X (d + 5) 0 0 mi_X10_test Po 0 [(0, v_r 50), (1, v_i (kk : Int))] [] Lam M 0 0 := by
  have hJt2 := hJt
  obtain ⟨j1, j2, j3⟩ := hJt2
  obtain ⟨a1, hd, r1, v1, hT1, hrest⟩ := hTS
  have hs33 := sgS_t (b := 33) hl htp hp (by decide)
  have hl2 := hl
  refine mm_aload_n (mm_dc od_X10_test_0 0 rfl) rfl ?_
  refine mm_bipush (mm_dc od_X10_test_0 1 rfl) (by decide) ?_
  refine mm_callV (b := 50) (mi' := mi_X10_takes) [v_i 33] [] (mm_dc od_X10_test_0 2 rfl) rfl wd_5_213 wd_5_215 wd_p_40 wd_1_12 wd_5_216 yk_X10_takes rfl rfl rfl (Nat.le_of_ble_eq_true rfl) rfl (by decide) (c_X10_takes 33 (by decide) hJt hr (fun ht => ⟨Nat.le_refl _, ?_⟩) (fun ht => ⟨Nat.le_refl _, ?_⟩))
  · have hd2 : dn = 1 ∧ a1 = p + 1 := by
      rcases hd with ⟨h1, h2, _⟩ | ⟨_, _, h3⟩
      · exact ⟨h1, h2⟩
      · exact absurd (hs33.mp ht) h3
    have hlt := (hs33.mp ht).1
    refine mm_cst (st' := [v_i dn]) (by rw [hd2.1]; rfl) ?_
    obtain ⟨Q1, hQ1⟩ : ∃ Q1 : mm_M, Q1 = mm_up M 50 36 (M 50 36 + 1) := ⟨_, rfl⟩
    rw [← hQ1]
    have hf1 : fM M Q1 (a1 : Int) := by rw [hQ1, show (a1 : Int) = M 50 36 + 1 by omega]; exact fM_up (fM_0 hr) (by omega)
    have hdn01 : dn = 0 ∨ dn = 1 := by omega
    have ha1 : (a1 : Int) ≤ len := by omega
    have ht2 := ht
    refine mm_istore_n (L' := [(0, v_r 50), (1, v_i (kk : Int)), (2, v_i dn)]) (mm_dc od_X10_test_0 3 rfl) (by decide) rfl ?_
    refine mm_aload_n (mm_dc od_X10_test_0 4 rfl) rfl ?_
    refine mm_bipush (mm_dc od_X10_test_0 5 rfl) (by decide) ?_
    refine mm_bipush (mm_dc od_X10_test_0 6 rfl) (by decide) ?_
    have e29 : Q1 50 29 = len := by rw [hf1.2.2.1 29 (by decide)]; exact hl
    have e74 : Q1 74 = M 74 := hf1.2.1 74 (by decide)
    have hat1 := hf1.2.2.2
    refine mm_callV (b := 50) (mi' := mi_X10_word) [v_i 8, v_i 14] [] (mm_dc od_X10_test_0 7 rfl) rfl wd_5_190 wd_5_192 wd_p_37 wd_1_12 wd_5_193 yk_X10_word rfl rfl rfl (Nat.le_of_ble_eq_true rfl) rfl (by decide) (c_wd 8 14 (by decide) (by decide) (by unfold JTm; omega) hf1.1 (fun N1 rr vv hf2 hWR => ⟨Nat.le_refl _, ?_⟩))
    rw [hat1, e29, e74, Int.toNat_natCast] at hWR
    have hlk := link tabF pfF (by decide) hT1 (WR_tp hWR htp)
    have hb1 := TW_r hT1 ha1
    have hfN : fM M N1 ((a1 + v1 : Nat) : Int) := by
      have h := fM_tr hf1 hf2
      rw [hat1, hlk.1] at h
      rw [show ((a1 + v1 : Nat) : Int) = (a1 : Int) + (v1 : Int) by omega]
      exact h
    have hr := hfN.1
    have hrr : mm_r32 rr := by omega
    have f29 : N1 50 29 = len := by rw [hfN.2.2.1 29 (by decide)]; exact hl
    have f74 : ∀ k : Nat, (k : Int) < len → N1 74 k = tp k := by rw [hfN.2.1 74 (by decide)]; exact htp
    have fat := hfN.2.2.2
    have hJ1 : JTm N1 := by unfold JTm; omega
    refine mm_istore_n (L' := [(0, v_r 50), (1, v_i (kk : Int)), (2, v_i dn), (3, v_i rr)]) (mm_dc od_X10_test_0 8 rfl) (by decide) rfl ?_
    refine mm_iload_n (mm_dc od_X10_test_0 9 rfl) rfl ?_
    refine mm_if_ge 22 (mm_dc od_X10_test_0 10 rfl) (by omega) (by first | omega | assumption | exact hr _ _ rfl) (fun c1 => ?_) (fun c1 => ?_)
    · refine mm_aload_n (mm_dc od_X10_test_0 13 rfl) rfl ?_
      rcases hrest with ⟨h1, _⟩ | ⟨hn1, hfd, hre⟩
      · exfalso; omega
      have hrf : rr = fd + 8 := by clear hre; omega
      have hfd7 : 0 ≤ fd ∧ fd < 7 := by clear hre; omega
      obtain ⟨r2, v2, hT2, hrest2⟩ := hre
      have h4 := TW4 hT2
      have q61 := sgS_t (b := 61) f29 f74 fat (by decide)
      have q60 := sgS_t (b := 60) f29 f74 fat (by decide)
      have q62 := sgS_t (b := 62) f29 f74 fat (by decide)
      have hsr := sgS_r hr
      refine mm_callV (b := 50) (mi' := mi_X10_sign) [] [] (mm_dc od_X10_test_0 14 rfl) rfl wd_5_209 wd_5_211 wd_p_39 wd_1_12 wd_5_212 yk_X10_sign rfl rfl rfl (Nat.le_of_ble_eq_true rfl) rfl (by decide) (c_X10_sign hJ1 hr ⟨Nat.le_refl _, ?_⟩)
      refine mm_istore (L' := [(0, v_r 50), (1, v_i (kk : Int)), (2, v_i dn), (3, v_i rr), (4, v_i (sgS N1))]) (mm_dc od_X10_test_0 15 rfl) (by decide) rfl ?_
      refine mm_iload (mm_dc od_X10_test_0 16 rfl) rfl ?_
      refine mm_bipush (mm_dc od_X10_test_0 17 rfl) (by decide) ?_
      refine mm_icmp_eq 51 (mm_dc od_X10_test_0 18 rfl) (by omega) (by first | omega | assumption | exact hr _ _ rfl) (by first | omega | assumption | exact hr _ _ rfl) (fun c2 => ?_) (fun c2 => ?_)
      · have hop3 : sgS N1 = 61 ∨ sgS N1 = 60 ∨ sgS N1 = 62 := by omega
        have h5 : 0 ≤ r2 ∧ r2 < 3 ∧ v2 = 1 ∧ ((a1 + v1 : Nat) : Int) < len ∧ tp (a1 + v1) = opc r2 := by
          rcases h4 with ⟨_, _, h6⟩ | h6
          · exfalso
            apply h6
            rcases hop3 with h7 | h7 | h7
            · have := q61.mp h7; exact ⟨this.1, Or.inl this.2⟩
            · have := q60.mp h7; exact ⟨this.1, Or.inr (Or.inl this.2)⟩
            · have := q62.mp h7; exact ⟨this.1, Or.inr (Or.inr this.2)⟩
          · exact h6
        have hsv := sgS_v f29 f74 fat h5.2.2.2.1
        rcases hrest2 with ⟨h6, _⟩ | ⟨_, hsg, c, hNQ, hres⟩
        · exfalso; omega
        refine mm_cL (L' := [(0, v_r 50), (1, v_i (kk : Int)), (2, v_i dn), (3, v_i (fd + 8)), (4, v_i (opc sg))]) (by rw [hrf, hsv, h5.2.2.2.2, hsg]) ?_
        exact L_ts51 (B := M) kk q ok dn fd sg nu hkk hdn01 hfd7 len tp hlen hl htp (a1 + v1 + v2) c (by omega) hNQ hres k (by omega) (by rw [show ((a1 + v1 + v2 : Nat) : Int) - 1 = ((a1 + v1 : Nat) : Int) by omega]; exact hfN)
      · refine mm_iload (mm_dc od_X10_test_0 19 rfl) rfl ?_
        refine mm_bipush (mm_dc od_X10_test_0 20 rfl) (by decide) ?_
        refine mm_icmp_eq 51 (mm_dc od_X10_test_0 21 rfl) (by omega) (by first | omega | assumption | exact hr _ _ rfl) (by first | omega | assumption | exact hr _ _ rfl) (fun c3 => ?_) (fun c3 => ?_)
        · have hop3 : sgS N1 = 61 ∨ sgS N1 = 60 ∨ sgS N1 = 62 := by omega
          have h5 : 0 ≤ r2 ∧ r2 < 3 ∧ v2 = 1 ∧ ((a1 + v1 : Nat) : Int) < len ∧ tp (a1 + v1) = opc r2 := by
            rcases h4 with ⟨_, _, h6⟩ | h6
            · exfalso
              apply h6
              rcases hop3 with h7 | h7 | h7
              · have := q61.mp h7; exact ⟨this.1, Or.inl this.2⟩
              · have := q60.mp h7; exact ⟨this.1, Or.inr (Or.inl this.2)⟩
              · have := q62.mp h7; exact ⟨this.1, Or.inr (Or.inr this.2)⟩
            · exact h6
          have hsv := sgS_v f29 f74 fat h5.2.2.2.1
          rcases hrest2 with ⟨h6, _⟩ | ⟨_, hsg, c, hNQ, hres⟩
          · exfalso; omega
          refine mm_cL (L' := [(0, v_r 50), (1, v_i (kk : Int)), (2, v_i dn), (3, v_i (fd + 8)), (4, v_i (opc sg))]) (by rw [hrf, hsv, h5.2.2.2.2, hsg]) ?_
          exact L_ts51 (B := M) kk q ok dn fd sg nu hkk hdn01 hfd7 len tp hlen hl htp (a1 + v1 + v2) c (by omega) hNQ hres k (by omega) (by rw [show ((a1 + v1 + v2 : Nat) : Int) - 1 = ((a1 + v1 : Nat) : Int) by omega]; exact hfN)
        · refine mm_iload (mm_dc od_X10_test_0 22 rfl) rfl ?_
          refine mm_bipush (mm_dc od_X10_test_0 23 rfl) (by decide) ?_
          refine mm_icmp_eq 51 (mm_dc od_X10_test_0 24 rfl) (by omega) (by first | omega | assumption | exact hr _ _ rfl) (by first | omega | assumption | exact hr _ _ rfl) (fun c4 => ?_) (fun c4 => ?_)
          · have hop3 : sgS N1 = 61 ∨ sgS N1 = 60 ∨ sgS N1 = 62 := by omega
            have h5 : 0 ≤ r2 ∧ r2 < 3 ∧ v2 = 1 ∧ ((a1 + v1 : Nat) : Int) < len ∧ tp (a1 + v1) = opc r2 := by
              rcases h4 with ⟨_, _, h6⟩ | h6
              · exfalso
                apply h6
                rcases hop3 with h7 | h7 | h7
                · have := q61.mp h7; exact ⟨this.1, Or.inl this.2⟩
                · have := q60.mp h7; exact ⟨this.1, Or.inr (Or.inl this.2)⟩
                · have := q62.mp h7; exact ⟨this.1, Or.inr (Or.inr this.2)⟩
              · exact h6
            have hsv := sgS_v f29 f74 fat h5.2.2.2.1
            rcases hrest2 with ⟨h6, _⟩ | ⟨_, hsg, c, hNQ, hres⟩
            · exfalso; omega
            refine mm_cL (L' := [(0, v_r 50), (1, v_i (kk : Int)), (2, v_i dn), (3, v_i (fd + 8)), (4, v_i (opc sg))]) (by rw [hrf, hsv, h5.2.2.2.2, hsg]) ?_
            exact L_ts51 (B := M) kk q ok dn fd sg nu hkk hdn01 hfd7 len tp hlen hl htp (a1 + v1 + v2) c (by omega) hNQ hres k (by omega) (by rw [show ((a1 + v1 + v2 : Nat) : Int) - 1 = ((a1 + v1 : Nat) : Int) by omega]; exact hfN)
          · refine mm_iconst (mm_dc od_X10_test_0 25 rfl) ?_
            refine mm_zret .boolean (mm_dc od_X10_test_0 26 rfl) rfl rfl ?_
            have hr2 : r2 = -1 ∧ v2 = 0 := by
              rcases h4 with ⟨h5, h6, _⟩ | ⟨h5, h6, h7, h8, h9⟩
              · exact ⟨h5, h6⟩
              · exfalso
                have hsv := sgS_v f29 f74 fat h8
                rw [h9] at hsv
                unfold opc at hsv
                split at hsv
                · omega
                · split at hsv <;> omega
            rcases hrest2 with ⟨_, rfl, rfl⟩ | ⟨h6, _⟩
            · exact k N1 (tM_f (by rw [hr2.2, Nat.add_zero]; exact hfN)) (fun q2 => by cases q2)
            · exact absurd hr2.1 h6
    · refine mm_iconst (mm_dc od_X10_test_0 11 rfl) ?_
      refine mm_zret .boolean (mm_dc od_X10_test_0 12 rfl) rfl rfl ?_
      rcases hrest with ⟨_, rfl, rfl⟩ | ⟨h1, _⟩
      · exact k N1 (tM_f hfN) (fun q2 => by cases q2)
      · exfalso; omega
  · have hd2 : dn = 0 ∧ a1 = p := by
      rcases hd with ⟨_, _, h3⟩ | ⟨h1, h2, _⟩
      · exact absurd (hs33.mpr h3) ht
      · exact ⟨h1, h2⟩
    refine mm_cst (st' := [v_i dn]) (by rw [hd2.1]; rfl) ?_
    obtain ⟨Q1, hQ1⟩ : ∃ Q1 : mm_M, Q1 = M := ⟨_, rfl⟩
    refine mm_eqM (M' := Q1) hQ1.symm ?_
    have hf1 : fM M Q1 (a1 : Int) := by rw [hQ1, show (a1 : Int) = M 50 36 by omega]; exact fM_0 hr
    have hdn01 : dn = 0 ∨ dn = 1 := by omega
    have ha1 : (a1 : Int) ≤ len := by omega
    have ht2 := ht
    refine mm_istore_n (L' := [(0, v_r 50), (1, v_i (kk : Int)), (2, v_i dn)]) (mm_dc od_X10_test_0 3 rfl) (by decide) rfl ?_
    refine mm_aload_n (mm_dc od_X10_test_0 4 rfl) rfl ?_
    refine mm_bipush (mm_dc od_X10_test_0 5 rfl) (by decide) ?_
    refine mm_bipush (mm_dc od_X10_test_0 6 rfl) (by decide) ?_
    have e29 : Q1 50 29 = len := by rw [hf1.2.2.1 29 (by decide)]; exact hl
    have e74 : Q1 74 = M 74 := hf1.2.1 74 (by decide)
    have hat1 := hf1.2.2.2
    refine mm_callV (b := 50) (mi' := mi_X10_word) [v_i 8, v_i 14] [] (mm_dc od_X10_test_0 7 rfl) rfl wd_5_190 wd_5_192 wd_p_37 wd_1_12 wd_5_193 yk_X10_word rfl rfl rfl (Nat.le_of_ble_eq_true rfl) rfl (by decide) (c_wd 8 14 (by decide) (by decide) (by unfold JTm; omega) hf1.1 (fun N1 rr vv hf2 hWR => ⟨Nat.le_refl _, ?_⟩))
    rw [hat1, e29, e74, Int.toNat_natCast] at hWR
    have hlk := link tabF pfF (by decide) hT1 (WR_tp hWR htp)
    have hb1 := TW_r hT1 ha1
    have hfN : fM M N1 ((a1 + v1 : Nat) : Int) := by
      have h := fM_tr hf1 hf2
      rw [hat1, hlk.1] at h
      rw [show ((a1 + v1 : Nat) : Int) = (a1 : Int) + (v1 : Int) by omega]
      exact h
    have hr := hfN.1
    have hrr : mm_r32 rr := by omega
    have f29 : N1 50 29 = len := by rw [hfN.2.2.1 29 (by decide)]; exact hl
    have f74 : ∀ k : Nat, (k : Int) < len → N1 74 k = tp k := by rw [hfN.2.1 74 (by decide)]; exact htp
    have fat := hfN.2.2.2
    have hJ1 : JTm N1 := by unfold JTm; omega
    refine mm_istore_n (L' := [(0, v_r 50), (1, v_i (kk : Int)), (2, v_i dn), (3, v_i rr)]) (mm_dc od_X10_test_0 8 rfl) (by decide) rfl ?_
    refine mm_iload_n (mm_dc od_X10_test_0 9 rfl) rfl ?_
    refine mm_if_ge 22 (mm_dc od_X10_test_0 10 rfl) (by omega) (by first | omega | assumption | exact hr _ _ rfl) (fun c5 => ?_) (fun c5 => ?_)
    · refine mm_aload_n (mm_dc od_X10_test_0 13 rfl) rfl ?_
      rcases hrest with ⟨h1, _⟩ | ⟨hn1, hfd, hre⟩
      · exfalso; omega
      have hrf : rr = fd + 8 := by clear hre; omega
      have hfd7 : 0 ≤ fd ∧ fd < 7 := by clear hre; omega
      obtain ⟨r2, v2, hT2, hrest2⟩ := hre
      have h4 := TW4 hT2
      have q61 := sgS_t (b := 61) f29 f74 fat (by decide)
      have q60 := sgS_t (b := 60) f29 f74 fat (by decide)
      have q62 := sgS_t (b := 62) f29 f74 fat (by decide)
      have hsr := sgS_r hr
      refine mm_callV (b := 50) (mi' := mi_X10_sign) [] [] (mm_dc od_X10_test_0 14 rfl) rfl wd_5_209 wd_5_211 wd_p_39 wd_1_12 wd_5_212 yk_X10_sign rfl rfl rfl (Nat.le_of_ble_eq_true rfl) rfl (by decide) (c_X10_sign hJ1 hr ⟨Nat.le_refl _, ?_⟩)
      refine mm_istore (L' := [(0, v_r 50), (1, v_i (kk : Int)), (2, v_i dn), (3, v_i rr), (4, v_i (sgS N1))]) (mm_dc od_X10_test_0 15 rfl) (by decide) rfl ?_
      refine mm_iload (mm_dc od_X10_test_0 16 rfl) rfl ?_
      refine mm_bipush (mm_dc od_X10_test_0 17 rfl) (by decide) ?_
      refine mm_icmp_eq 51 (mm_dc od_X10_test_0 18 rfl) (by omega) (by first | omega | assumption | exact hr _ _ rfl) (by first | omega | assumption | exact hr _ _ rfl) (fun c6 => ?_) (fun c6 => ?_)
      · have hop3 : sgS N1 = 61 ∨ sgS N1 = 60 ∨ sgS N1 = 62 := by omega
        have h5 : 0 ≤ r2 ∧ r2 < 3 ∧ v2 = 1 ∧ ((a1 + v1 : Nat) : Int) < len ∧ tp (a1 + v1) = opc r2 := by
          rcases h4 with ⟨_, _, h6⟩ | h6
          · exfalso
            apply h6
            rcases hop3 with h7 | h7 | h7
            · have := q61.mp h7; exact ⟨this.1, Or.inl this.2⟩
            · have := q60.mp h7; exact ⟨this.1, Or.inr (Or.inl this.2)⟩
            · have := q62.mp h7; exact ⟨this.1, Or.inr (Or.inr this.2)⟩
          · exact h6
        have hsv := sgS_v f29 f74 fat h5.2.2.2.1
        rcases hrest2 with ⟨h6, _⟩ | ⟨_, hsg, c, hNQ, hres⟩
        · exfalso; omega
        refine mm_cL (L' := [(0, v_r 50), (1, v_i (kk : Int)), (2, v_i dn), (3, v_i (fd + 8)), (4, v_i (opc sg))]) (by rw [hrf, hsv, h5.2.2.2.2, hsg]) ?_
        exact L_ts51 (B := M) kk q ok dn fd sg nu hkk hdn01 hfd7 len tp hlen hl htp (a1 + v1 + v2) c (by omega) hNQ hres k (by omega) (by rw [show ((a1 + v1 + v2 : Nat) : Int) - 1 = ((a1 + v1 : Nat) : Int) by omega]; exact hfN)
      · refine mm_iload (mm_dc od_X10_test_0 19 rfl) rfl ?_
        refine mm_bipush (mm_dc od_X10_test_0 20 rfl) (by decide) ?_
        refine mm_icmp_eq 51 (mm_dc od_X10_test_0 21 rfl) (by omega) (by first | omega | assumption | exact hr _ _ rfl) (by first | omega | assumption | exact hr _ _ rfl) (fun c7 => ?_) (fun c7 => ?_)
        · have hop3 : sgS N1 = 61 ∨ sgS N1 = 60 ∨ sgS N1 = 62 := by omega
          have h5 : 0 ≤ r2 ∧ r2 < 3 ∧ v2 = 1 ∧ ((a1 + v1 : Nat) : Int) < len ∧ tp (a1 + v1) = opc r2 := by
            rcases h4 with ⟨_, _, h6⟩ | h6
            · exfalso
              apply h6
              rcases hop3 with h7 | h7 | h7
              · have := q61.mp h7; exact ⟨this.1, Or.inl this.2⟩
              · have := q60.mp h7; exact ⟨this.1, Or.inr (Or.inl this.2)⟩
              · have := q62.mp h7; exact ⟨this.1, Or.inr (Or.inr this.2)⟩
            · exact h6
          have hsv := sgS_v f29 f74 fat h5.2.2.2.1
          rcases hrest2 with ⟨h6, _⟩ | ⟨_, hsg, c, hNQ, hres⟩
          · exfalso; omega
          refine mm_cL (L' := [(0, v_r 50), (1, v_i (kk : Int)), (2, v_i dn), (3, v_i (fd + 8)), (4, v_i (opc sg))]) (by rw [hrf, hsv, h5.2.2.2.2, hsg]) ?_
          exact L_ts51 (B := M) kk q ok dn fd sg nu hkk hdn01 hfd7 len tp hlen hl htp (a1 + v1 + v2) c (by omega) hNQ hres k (by omega) (by rw [show ((a1 + v1 + v2 : Nat) : Int) - 1 = ((a1 + v1 : Nat) : Int) by omega]; exact hfN)
        · refine mm_iload (mm_dc od_X10_test_0 22 rfl) rfl ?_
          refine mm_bipush (mm_dc od_X10_test_0 23 rfl) (by decide) ?_
          refine mm_icmp_eq 51 (mm_dc od_X10_test_0 24 rfl) (by omega) (by first | omega | assumption | exact hr _ _ rfl) (by first | omega | assumption | exact hr _ _ rfl) (fun c8 => ?_) (fun c8 => ?_)
          · have hop3 : sgS N1 = 61 ∨ sgS N1 = 60 ∨ sgS N1 = 62 := by omega
            have h5 : 0 ≤ r2 ∧ r2 < 3 ∧ v2 = 1 ∧ ((a1 + v1 : Nat) : Int) < len ∧ tp (a1 + v1) = opc r2 := by
              rcases h4 with ⟨_, _, h6⟩ | h6
              · exfalso
                apply h6
                rcases hop3 with h7 | h7 | h7
                · have := q61.mp h7; exact ⟨this.1, Or.inl this.2⟩
                · have := q60.mp h7; exact ⟨this.1, Or.inr (Or.inl this.2)⟩
                · have := q62.mp h7; exact ⟨this.1, Or.inr (Or.inr this.2)⟩
              · exact h6
            have hsv := sgS_v f29 f74 fat h5.2.2.2.1
            rcases hrest2 with ⟨h6, _⟩ | ⟨_, hsg, c, hNQ, hres⟩
            · exfalso; omega
            refine mm_cL (L' := [(0, v_r 50), (1, v_i (kk : Int)), (2, v_i dn), (3, v_i (fd + 8)), (4, v_i (opc sg))]) (by rw [hrf, hsv, h5.2.2.2.2, hsg]) ?_
            exact L_ts51 (B := M) kk q ok dn fd sg nu hkk hdn01 hfd7 len tp hlen hl htp (a1 + v1 + v2) c (by omega) hNQ hres k (by omega) (by rw [show ((a1 + v1 + v2 : Nat) : Int) - 1 = ((a1 + v1 : Nat) : Int) by omega]; exact hfN)
          · refine mm_iconst (mm_dc od_X10_test_0 25 rfl) ?_
            refine mm_zret .boolean (mm_dc od_X10_test_0 26 rfl) rfl rfl ?_
            have hr2 : r2 = -1 ∧ v2 = 0 := by
              rcases h4 with ⟨h5, h6, _⟩ | ⟨h5, h6, h7, h8, h9⟩
              · exact ⟨h5, h6⟩
              · exfalso
                have hsv := sgS_v f29 f74 fat h8
                rw [h9] at hsv
                unfold opc at hsv
                split at hsv
                · omega
                · split at hsv <;> omega
            rcases hrest2 with ⟨_, rfl, rfl⟩ | ⟨h6, _⟩
            · exact k N1 (tM_f (by rw [hr2.2, Nat.add_zero]; exact hfN)) (fun q2 => by cases q2)
            · exact absurd hr2.1 h6
    · refine mm_iconst (mm_dc od_X10_test_0 11 rfl) ?_
      refine mm_zret .boolean (mm_dc od_X10_test_0 12 rfl) rfl rfl ?_
      rcases hrest with ⟨_, rfl, rfl⟩ | ⟨h1, _⟩
      · exact k N1 (tM_f hfN) (fun q2 => by cases q2)
      · exfalso; omega
