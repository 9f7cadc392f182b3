/-! the class's public methods that need no search -/
def pm_put (M : mm_M) (b s o r : Int) : mm_M := if o = -1 then (if r = -1 then M else mm_up M 5 r.toNat (-1)) else mm_up (if r = -1 then M else mm_up M 5 r.toNat (-1)) 5 o.toNat (10 * b + s)
def JRc (M : mm_M) : Prop := 0 ≤ M 10 0 ∧ M 10 0 ≤ 40 ∧ ∀ r : Nat, (r : Int) < M 10 0 → (0 ≤ M 11 r ∧ M 11 r < M 1 0) ∧ (0 ≤ M 12 r ∧ M 12 r < M 1 0) ∧ M 11 r ≠ M 12 r ∧ (-999 ≤ M 13 r ∧ M 13 r ≤ 999)
theorem c_X0_putOn {X : Nat × (Nat → Int)} {d : Nat} {Po : mm_Po} {M : mm_M} (b : Int) (s : Int) (o : Int) (hb1 : 0 ≤ b ∧ b < 8) (hs1 : 0 ≤ s ∧ s < 10) (hoo : o = -1 ∨ (0 ≤ o ∧ o < M 1 0)) (hJo : JO M) (hr : R32 M) (k : ∀ r : Int, (firstP (fun i => M 5 i = 10 * b + s) r (M 1 0).toNat) → Po (some (v_i r)) Lam (pm_put M b s o r)) : mm_E X (d + 1) 0 0 mi_X0_putOn [v_r 1, v_i b, v_i s, v_i o] Po Lam M := by
  show mm_G X (d + 1) 0 0 mi_X0_putOn Po 0 [(0, v_r 1), (1, v_i b), (2, v_i s), (3, v_i o)] [] Lam M 0 0
  have hJo2 := hJo
  obtain ⟨ho0, ho16, hO⟩ := hJo2
  refine mm_aload_n (mm_dc od_X0_putOn_0 0 rfl) rfl ?_
  refine mm_iload_n (mm_dc od_X0_putOn_0 1 rfl) rfl ?_
  refine mm_iload_n (mm_dc od_X0_putOn_0 2 rfl) rfl ?_
  refine mm_callV (b := 1) (mi' := mi_X0_whoSits) [v_i b, v_i s] [] (mm_dc od_X0_putOn_0 3 rfl) rfl wd_2_134 wd_2_135 wd_2_136 wd_1_2 wd_2_137 yk_X0_whoSits rfl rfl rfl (Nat.le_of_ble_eq_true rfl) rfl (by decide) (c_X0_whoSits b s (by first | assumption | omega | exact hr _ _ rfl | exact mm_r3264 (hr _ _ rfl)) (by first | assumption | omega | exact hr _ _ rfl | exact mm_r3264 (hr _ _ rfl)) hJo (by first | assumption | omega | exact hr _ _ rfl | exact mm_r3264 (hr _ _ rfl)) (fun r1 hq2 => ⟨Nat.le_refl _, ?_⟩))
  have hq2_r := firstP_rng hq2
  refine mm_istore (L' := [(0, v_r 1), (1, v_i b), (2, v_i s), (3, v_i o), (4, v_i r1)]) (mm_dc od_X0_putOn_0 4 rfl) (by decide) rfl ?_
  refine mm_iload (mm_dc od_X0_putOn_0 5 rfl) rfl ?_
  refine mm_iconst (mm_dc od_X0_putOn_0 6 rfl) ?_
  refine mm_icmp_eq 22 (mm_dc od_X0_putOn_0 7 rfl) (by omega) (by first | assumption | omega | exact hr _ _ rfl | exact mm_r3264 (hr _ _ rfl)) (by first | assumption | omega | exact hr _ _ rfl | exact mm_r3264 (hr _ _ rfl)) (fun c3 => ?_) (fun c3 => ?_)
  · refine mm_iload_n (mm_dc od_X0_putOn_0 13 rfl) rfl ?_
    refine mm_iconst (mm_dc od_X0_putOn_0 14 rfl) ?_
    refine mm_icmp_eq 39 (mm_dc od_X0_putOn_0 15 rfl) (by omega) (by first | assumption | omega | exact hr _ _ rfl | exact mm_r3264 (hr _ _ rfl)) (by first | assumption | omega | exact hr _ _ rfl | exact mm_r3264 (hr _ _ rfl)) (fun c4 => ?_) (fun c4 => ?_)
    · refine mm_iload (mm_dc od_X0_putOn_0 25 rfl) rfl ?_
      refine mm_iret (mm_dc od_X0_putOn_0 26 rfl) rfl ?_
      exact mm_pm rfl (by unfold pm_put; simp [*]) (k _ (by assumption))
    · refine mm_aload_n (mm_dc od_X0_putOn_0 16 rfl) rfl ?_
      refine mm_getR (ci := 0) (k := 4) (mm_dc od_X0_putOn_0 17 rfl) rfl in_X0 (by decide) wd_1_43 rfl rfl ?_
      refine mm_iload_n (mm_dc od_X0_putOn_0 18 rfl) rfl ?_
      refine mm_bipush (mm_dc od_X0_putOn_0 19 rfl) (by decide) ?_
      refine mm_iload_n (mm_dc od_X0_putOn_0 20 rfl) rfl ?_
      refine mm_imul (mm_dc od_X0_putOn_0 21 rfl) ?_
      refine mm_iload_n (mm_dc od_X0_putOn_0 22 rfl) rfl ?_
      refine mm_iadd (mm_dc od_X0_putOn_0 23 rfl) ?_
      refine mm_iast (mm_dc od_X0_putOn_0 24 rfl) rfl (by first | assumption | omega | exact hr _ _ rfl | exact mm_r3264 (hr _ _ rfl)) (by first | assumption | omega | exact hr _ _ rfl | exact mm_r3264 (hr _ _ rfl)) (by decide) ?_
      refine mm_iload (mm_dc od_X0_putOn_0 25 rfl) rfl ?_
      refine mm_iret (mm_dc od_X0_putOn_0 26 rfl) rfl ?_
      exact mm_pm rfl (by unfold pm_put; simp [*]) (k _ (by assumption))
  · refine mm_aload_n (mm_dc od_X0_putOn_0 8 rfl) rfl ?_
    refine mm_getR (ci := 0) (k := 4) (mm_dc od_X0_putOn_0 9 rfl) rfl in_X0 (by decide) wd_1_43 rfl rfl ?_
    refine mm_iload (mm_dc od_X0_putOn_0 10 rfl) rfl ?_
    refine mm_iconst (mm_dc od_X0_putOn_0 11 rfl) ?_
    refine mm_iast (mm_dc od_X0_putOn_0 12 rfl) rfl (by first | assumption | omega | exact hr _ _ rfl | exact mm_r3264 (hr _ _ rfl)) (by first | assumption | omega | exact hr _ _ rfl | exact mm_r3264 (hr _ _ rfl)) (by decide) ?_
    refine mm_iload_n (mm_dc od_X0_putOn_0 13 rfl) rfl ?_
    refine mm_iconst (mm_dc od_X0_putOn_0 14 rfl) ?_
    refine mm_icmp_eq 39 (mm_dc od_X0_putOn_0 15 rfl) (by omega) (by first | assumption | omega | exact hr _ _ rfl | exact mm_r3264 (hr _ _ rfl)) (by first | assumption | omega | exact hr _ _ rfl | exact mm_r3264 (hr _ _ rfl)) (fun c5 => ?_) (fun c5 => ?_)
    · refine mm_iload (mm_dc od_X0_putOn_0 25 rfl) rfl ?_
      refine mm_iret (mm_dc od_X0_putOn_0 26 rfl) rfl ?_
      exact mm_pm rfl (by unfold pm_put; simp [*]) (k _ (by assumption))
    · refine mm_aload_n (mm_dc od_X0_putOn_0 16 rfl) rfl ?_
      refine mm_getR (ci := 0) (k := 4) (mm_dc od_X0_putOn_0 17 rfl) rfl in_X0 (by decide) wd_1_43 rfl rfl ?_
      refine mm_iload_n (mm_dc od_X0_putOn_0 18 rfl) rfl ?_
      refine mm_bipush (mm_dc od_X0_putOn_0 19 rfl) (by decide) ?_
      refine mm_iload_n (mm_dc od_X0_putOn_0 20 rfl) rfl ?_
      refine mm_imul (mm_dc od_X0_putOn_0 21 rfl) ?_
      refine mm_iload_n (mm_dc od_X0_putOn_0 22 rfl) rfl ?_
      refine mm_iadd (mm_dc od_X0_putOn_0 23 rfl) ?_
      refine mm_iast (mm_dc od_X0_putOn_0 24 rfl) rfl (by first | assumption | omega | exact hr _ _ rfl | exact mm_r3264 (hr _ _ rfl)) (by first | assumption | omega | exact hr _ _ rfl | exact mm_r3264 (hr _ _ rfl)) (by decide) ?_
      refine mm_iload (mm_dc od_X0_putOn_0 25 rfl) rfl ?_
      refine mm_iret (mm_dc od_X0_putOn_0 26 rfl) rfl ?_
      exact mm_pm rfl (by unfold pm_put; simp [*]) (k _ (by assumption))
theorem c_X9_oar {X : Nat × (Nat → Int)} {d : Nat} {Po : mm_Po} {M : mm_M} (kind : Int) (w : Int) (hkind : mm_r32 kind) (hw : mm_r32 w) (h0 : 0 ≤ M 1 0) (hr : R32 M) (k1 : (¬ ((0 ≤ kind ∧ kind ≤ 4) ∧ (30 ≤ w ∧ w ≤ 150))) → Po (some (v_i (-2))) Lam M) (k2 : ((0 ≤ kind ∧ kind ≤ 4) ∧ (30 ≤ w ∧ w ≤ 150)) → 16 ≤ M 1 0 → Po (some (v_i (-4))) Lam M) (k3 : ((0 ≤ kind ∧ kind ≤ 4) ∧ (30 ≤ w ∧ w ≤ 150)) → M 1 0 < 16 → Po (some (v_i (M 1 0))) Lam (mm_up (mm_up (mm_up (mm_up (mm_up M 2 (M 1 0).toNat kind) 3 (M 1 0).toNat w) 4 (M 1 0).toNat 0) 5 (M 1 0).toNat (-1)) 1 0 (M 1 0 + 1))) : mm_E X (d + 1) 0 0 mi_X9_oar [v_r 0, v_i kind, v_i w] Po Lam M := by
  show mm_G X (d + 1) 0 0 mi_X9_oar Po 0 [(0, v_r 0), (1, v_i kind), (2, v_i w)] [] Lam M 0 0
  refine mm_iload_n (mm_dc od_X9_oar_0 0 rfl) rfl ?_
  refine mm_iconst (mm_dc od_X9_oar_0 1 rfl) ?_
  refine mm_iconst (mm_dc od_X9_oar_0 2 rfl) ?_
  refine mm_callS (mi' := mi_X9_within) [v_i kind, v_i 0, v_i 4] [] (mm_dc od_X9_oar_0 3 rfl) rfl wd_2_80 wd_2_81 wd_1_1 wd_2_82 yk_X9_within (Nat.le_of_ble_eq_true rfl) rfl (by decide) (c_X9_within kind 0 4 (by first | assumption | omega | exact hr _ _ rfl | exact mm_r3264 (hr _ _ rfl)) (by first | assumption | omega | exact hr _ _ rfl | exact mm_r3264 (hr _ _ rfl)) (by first | assumption | omega | exact hr _ _ rfl | exact mm_r3264 (hr _ _ rfl)) (fun c1 => ⟨Nat.le_refl _, ?_⟩) (fun c1 => ⟨Nat.le_refl _, ?_⟩))
  · refine mm_if_eq 21 (mm_dc od_X9_oar_0 4 rfl) (by omega) (by first | assumption | omega | exact hr _ _ rfl | exact mm_r3264 (hr _ _ rfl)) (fun h => absurd h (by decide)) (fun _ => ?_)
    refine mm_iload_n (mm_dc od_X9_oar_0 5 rfl) rfl ?_
    refine mm_bipush (mm_dc od_X9_oar_0 6 rfl) (by decide) ?_
    refine mm_sipush (mm_dc od_X9_oar_0 7 rfl) (by decide) ?_
    refine mm_callS (mi' := mi_X9_within) [v_i w, v_i 30, v_i 150] [] (mm_dc od_X9_oar_0 8 rfl) rfl wd_2_80 wd_2_81 wd_1_1 wd_2_82 yk_X9_within (Nat.le_of_ble_eq_true rfl) rfl (by decide) (c_X9_within w 30 150 (by first | assumption | omega | exact hr _ _ rfl | exact mm_r3264 (hr _ _ rfl)) (by first | assumption | omega | exact hr _ _ rfl | exact mm_r3264 (hr _ _ rfl)) (by first | assumption | omega | exact hr _ _ rfl | exact mm_r3264 (hr _ _ rfl)) (fun c2 => ⟨Nat.le_refl _, ?_⟩) (fun c2 => ⟨Nat.le_refl _, ?_⟩))
    · refine mm_if_ne 24 (mm_dc od_X9_oar_0 9 rfl) (by omega) (by first | assumption | omega | exact hr _ _ rfl | exact mm_r3264 (hr _ _ rfl)) (fun _ => ?_) (fun h => absurd h (by decide))
      refine mm_aload_n (mm_dc od_X9_oar_0 12 rfl) rfl ?_
      refine mm_getR (ci := 9) (k := 0) (mm_dc od_X9_oar_0 13 rfl) rfl in_X9 (by decide) wd_2_45 rfl rfl ?_
      refine mm_getI (ci := 0) (k := 0) (mm_dc od_X9_oar_0 14 rfl) rfl in_X0 (by decide) wd_1_36 rfl rfl ?_
      refine mm_bipush (mm_dc od_X9_oar_0 15 rfl) (by decide) ?_
      refine mm_icmp_ge 48 (mm_dc od_X9_oar_0 16 rfl) (by omega) (by first | assumption | omega | exact hr _ _ rfl | exact mm_r3264 (hr _ _ rfl)) (by first | assumption | omega | exact hr _ _ rfl | exact mm_r3264 (hr _ _ rfl)) (fun c3 => ?_) (fun c3 => ?_)
      · refine mm_bipush (mm_dc od_X9_oar_0 23 rfl) (by decide) ?_
        refine mm_iret (mm_dc od_X9_oar_0 24 rfl) rfl ?_
        first | exact k2 (by first | assumption | omega) (by first | assumption | omega) | (exfalso; omega)
      · refine mm_aload_n (mm_dc od_X9_oar_0 17 rfl) rfl ?_
        refine mm_getR (ci := 9) (k := 0) (mm_dc od_X9_oar_0 18 rfl) rfl in_X9 (by decide) wd_2_45 rfl rfl ?_
        refine mm_iload_n (mm_dc od_X9_oar_0 19 rfl) rfl ?_
        refine mm_iload_n (mm_dc od_X9_oar_0 20 rfl) rfl ?_
        refine mm_callV (b := 1) (mi' := mi_X0_addOar) [v_i kind, v_i w] [] (mm_dc od_X9_oar_0 21 rfl) rfl wd_2_83 wd_2_84 wd_2_85 wd_1_2 wd_2_86 yk_X0_addOar rfl rfl rfl (Nat.le_of_ble_eq_true rfl) rfl (by decide) (c_X0_addOar kind w (by first | assumption | omega | exact hr _ _ rfl | exact mm_r3264 (hr _ _ rfl)) (by first | assumption | omega | exact hr _ _ rfl | exact mm_r3264 (hr _ _ rfl)) ⟨Nat.le_refl _, ?_⟩)
        refine mm_goto 50 (mm_dc od_X9_oar_0 22 rfl) (by omega) ?_
        refine mm_iret (mm_dc od_X9_oar_0 24 rfl) rfl ?_
        first | exact k3 (by first | assumption | omega) (by first | assumption | omega) | exact mm_pm (by omega) rfl (k3 (by first | assumption | omega) (by first | assumption | omega)) | (exfalso; omega)
    · refine mm_if_ne 24 (mm_dc od_X9_oar_0 9 rfl) (by omega) (by first | assumption | omega | exact hr _ _ rfl | exact mm_r3264 (hr _ _ rfl)) (fun h => absurd h (by decide)) (fun _ => ?_)
      refine mm_bipush (mm_dc od_X9_oar_0 10 rfl) (by decide) ?_
      refine mm_iret (mm_dc od_X9_oar_0 11 rfl) rfl ?_
      first | exact k1 (by first | assumption | omega) | (exfalso; omega)
  · refine mm_if_eq 21 (mm_dc od_X9_oar_0 4 rfl) (by omega) (by first | assumption | omega | exact hr _ _ rfl | exact mm_r3264 (hr _ _ rfl)) (fun _ => ?_) (fun h => absurd h (by decide))
    refine mm_bipush (mm_dc od_X9_oar_0 10 rfl) (by decide) ?_
    refine mm_iret (mm_dc od_X9_oar_0 11 rfl) rfl ?_
    first | exact k1 (by first | assumption | omega) | (exfalso; omega)
theorem c_X9_boat {X : Nat × (Nat → Int)} {d : Nat} {Po : mm_Po} {M : mm_M} (kind : Int) (least : Int) (most : Int) (len : Int) (hkind : mm_r32 kind) (hleast : mm_r32 least) (hmost : mm_r32 most) (hlen : mm_r32 len) (h0 : 0 ≤ M 1 5) (hr : R32 M) (k1 : (¬ ((0 ≤ kind ∧ kind ≤ 4) ∧ (1 ≤ len ∧ len ≤ 99) ∧ (30 ≤ least ∧ least ≤ 150) ∧ (least ≤ most ∧ most ≤ 150))) → Po (some (v_i (-2))) Lam M) (k2 : ((0 ≤ kind ∧ kind ≤ 4) ∧ (1 ≤ len ∧ len ≤ 99) ∧ (30 ≤ least ∧ least ≤ 150) ∧ (least ≤ most ∧ most ≤ 150)) → 8 ≤ M 1 5 → Po (some (v_i (-4))) Lam M) (k3 : ((0 ≤ kind ∧ kind ≤ 4) ∧ (1 ≤ len ∧ len ≤ 99) ∧ (30 ≤ least ∧ least ≤ 150) ∧ (least ≤ most ∧ most ≤ 150)) → M 1 5 < 8 → Po (some (v_i (M 1 5))) Lam (mm_up (mm_up (mm_up (mm_up (mm_up M 6 (M 1 5).toNat kind) 7 (M 1 5).toNat least) 8 (M 1 5).toNat most) 9 (M 1 5).toNat len) 1 5 (M 1 5 + 1))) : mm_E X (d + 1) 0 0 mi_X9_boat [v_r 0, v_i kind, v_i least, v_i most, v_i len] Po Lam M := by
  show mm_G X (d + 1) 0 0 mi_X9_boat Po 0 [(0, v_r 0), (1, v_i kind), (2, v_i least), (3, v_i most), (4, v_i len)] [] Lam M 0 0
  refine mm_iload_n (mm_dc od_X9_boat_0 0 rfl) rfl ?_
  refine mm_iconst (mm_dc od_X9_boat_0 1 rfl) ?_
  refine mm_iconst (mm_dc od_X9_boat_0 2 rfl) ?_
  refine mm_callS (mi' := mi_X9_within) [v_i kind, v_i 0, v_i 4] [] (mm_dc od_X9_boat_0 3 rfl) rfl wd_2_80 wd_2_81 wd_1_1 wd_2_82 yk_X9_within (Nat.le_of_ble_eq_true rfl) rfl (by decide) (c_X9_within kind 0 4 (by first | assumption | omega | exact hr _ _ rfl | exact mm_r3264 (hr _ _ rfl)) (by first | assumption | omega | exact hr _ _ rfl | exact mm_r3264 (hr _ _ rfl)) (by first | assumption | omega | exact hr _ _ rfl | exact mm_r3264 (hr _ _ rfl)) (fun c1 => ⟨Nat.le_refl _, ?_⟩) (fun c1 => ⟨Nat.le_refl _, ?_⟩))
  · refine mm_if_eq 20 (mm_dc od_X9_boat_0 4 rfl) (by omega) (by first | assumption | omega | exact hr _ _ rfl | exact mm_r3264 (hr _ _ rfl)) (fun h => absurd h (by decide)) (fun _ => ?_)
    refine mm_iload (mm_dc od_X9_boat_0 5 rfl) rfl ?_
    refine mm_iconst (mm_dc od_X9_boat_0 6 rfl) ?_
    refine mm_bipush (mm_dc od_X9_boat_0 7 rfl) (by decide) ?_
    refine mm_callS (mi' := mi_X9_within) [v_i len, v_i 1, v_i 99] [] (mm_dc od_X9_boat_0 8 rfl) rfl wd_2_80 wd_2_81 wd_1_1 wd_2_82 yk_X9_within (Nat.le_of_ble_eq_true rfl) rfl (by decide) (c_X9_within len 1 99 (by first | assumption | omega | exact hr _ _ rfl | exact mm_r3264 (hr _ _ rfl)) (by first | assumption | omega | exact hr _ _ rfl | exact mm_r3264 (hr _ _ rfl)) (by first | assumption | omega | exact hr _ _ rfl | exact mm_r3264 (hr _ _ rfl)) (fun c2 => ⟨Nat.le_refl _, ?_⟩) (fun c2 => ⟨Nat.le_refl _, ?_⟩))
    · refine mm_if_ne 23 (mm_dc od_X9_boat_0 9 rfl) (by omega) (by first | assumption | omega | exact hr _ _ rfl | exact mm_r3264 (hr _ _ rfl)) (fun _ => ?_) (fun h => absurd h (by decide))
      refine mm_iload_n (mm_dc od_X9_boat_0 12 rfl) rfl ?_
      refine mm_bipush (mm_dc od_X9_boat_0 13 rfl) (by decide) ?_
      refine mm_sipush (mm_dc od_X9_boat_0 14 rfl) (by decide) ?_
      refine mm_callS (mi' := mi_X9_within) [v_i least, v_i 30, v_i 150] [] (mm_dc od_X9_boat_0 15 rfl) rfl wd_2_80 wd_2_81 wd_1_1 wd_2_82 yk_X9_within (Nat.le_of_ble_eq_true rfl) rfl (by decide) (c_X9_within least 30 150 (by first | assumption | omega | exact hr _ _ rfl | exact mm_r3264 (hr _ _ rfl)) (by first | assumption | omega | exact hr _ _ rfl | exact mm_r3264 (hr _ _ rfl)) (by first | assumption | omega | exact hr _ _ rfl | exact mm_r3264 (hr _ _ rfl)) (fun c3 => ⟨Nat.le_refl _, ?_⟩) (fun c3 => ⟨Nat.le_refl _, ?_⟩))
      · refine mm_if_eq 46 (mm_dc od_X9_boat_0 16 rfl) (by omega) (by first | assumption | omega | exact hr _ _ rfl | exact mm_r3264 (hr _ _ rfl)) (fun h => absurd h (by decide)) (fun _ => ?_)
        refine mm_iload_n (mm_dc od_X9_boat_0 17 rfl) rfl ?_
        refine mm_iload_n (mm_dc od_X9_boat_0 18 rfl) rfl ?_
        refine mm_sipush (mm_dc od_X9_boat_0 19 rfl) (by decide) ?_
        refine mm_callS (mi' := mi_X9_within) [v_i most, v_i least, v_i 150] [] (mm_dc od_X9_boat_0 20 rfl) rfl wd_2_80 wd_2_81 wd_1_1 wd_2_82 yk_X9_within (Nat.le_of_ble_eq_true rfl) rfl (by decide) (c_X9_within most least 150 (by first | assumption | omega | exact hr _ _ rfl | exact mm_r3264 (hr _ _ rfl)) (by first | assumption | omega | exact hr _ _ rfl | exact mm_r3264 (hr _ _ rfl)) (by first | assumption | omega | exact hr _ _ rfl | exact mm_r3264 (hr _ _ rfl)) (fun c4 => ⟨Nat.le_refl _, ?_⟩) (fun c4 => ⟨Nat.le_refl _, ?_⟩))
        · refine mm_if_ne 49 (mm_dc od_X9_boat_0 21 rfl) (by omega) (by first | assumption | omega | exact hr _ _ rfl | exact mm_r3264 (hr _ _ rfl)) (fun _ => ?_) (fun h => absurd h (by decide))
          refine mm_aload_n (mm_dc od_X9_boat_0 24 rfl) rfl ?_
          refine mm_getR (ci := 9) (k := 0) (mm_dc od_X9_boat_0 25 rfl) rfl in_X9 (by decide) wd_2_45 rfl rfl ?_
          refine mm_getI (ci := 0) (k := 5) (mm_dc od_X9_boat_0 26 rfl) rfl in_X0 (by decide) wd_1_47 rfl rfl ?_
          refine mm_bipush (mm_dc od_X9_boat_0 27 rfl) (by decide) ?_
          refine mm_icmp_ge 76 (mm_dc od_X9_boat_0 28 rfl) (by omega) (by first | assumption | omega | exact hr _ _ rfl | exact mm_r3264 (hr _ _ rfl)) (by first | assumption | omega | exact hr _ _ rfl | exact mm_r3264 (hr _ _ rfl)) (fun c5 => ?_) (fun c5 => ?_)
          · refine mm_bipush (mm_dc od_X9_boat_0 37 rfl) (by decide) ?_
            refine mm_iret (mm_dc od_X9_boat_0 38 rfl) rfl ?_
            first | exact k2 (by first | assumption | omega) (by first | assumption | omega) | (exfalso; omega)
          · refine mm_aload_n (mm_dc od_X9_boat_0 29 rfl) rfl ?_
            refine mm_getR (ci := 9) (k := 0) (mm_dc od_X9_boat_0 30 rfl) rfl in_X9 (by decide) wd_2_45 rfl rfl ?_
            refine mm_iload_n (mm_dc od_X9_boat_0 31 rfl) rfl ?_
            refine mm_iload_n (mm_dc od_X9_boat_0 32 rfl) rfl ?_
            refine mm_iload_n (mm_dc od_X9_boat_0 33 rfl) rfl ?_
            refine mm_iload (mm_dc od_X9_boat_0 34 rfl) rfl ?_
            refine mm_callV (b := 1) (mi' := mi_X0_addBoat) [v_i kind, v_i least, v_i most, v_i len] [] (mm_dc od_X9_boat_0 35 rfl) rfl wd_2_91 wd_2_92 wd_2_93 wd_1_2 wd_2_94 yk_X0_addBoat rfl rfl rfl (Nat.le_of_ble_eq_true rfl) rfl (by decide) (c_X0_addBoat kind least most len (by first | assumption | omega | exact hr _ _ rfl | exact mm_r3264 (hr _ _ rfl)) (by first | assumption | omega | exact hr _ _ rfl | exact mm_r3264 (hr _ _ rfl)) ⟨Nat.le_refl _, ?_⟩)
            refine mm_goto 78 (mm_dc od_X9_boat_0 36 rfl) (by omega) ?_
            refine mm_iret (mm_dc od_X9_boat_0 38 rfl) rfl ?_
            first | exact k3 (by first | assumption | omega) (by first | assumption | omega) | exact mm_pm (by omega) rfl (k3 (by first | assumption | omega) (by first | assumption | omega)) | (exfalso; omega)
        · refine mm_if_ne 49 (mm_dc od_X9_boat_0 21 rfl) (by omega) (by first | assumption | omega | exact hr _ _ rfl | exact mm_r3264 (hr _ _ rfl)) (fun h => absurd h (by decide)) (fun _ => ?_)
          refine mm_bipush (mm_dc od_X9_boat_0 22 rfl) (by decide) ?_
          refine mm_iret (mm_dc od_X9_boat_0 23 rfl) rfl ?_
          first | exact k1 (by first | assumption | omega) | (exfalso; omega)
      · refine mm_if_eq 46 (mm_dc od_X9_boat_0 16 rfl) (by omega) (by first | assumption | omega | exact hr _ _ rfl | exact mm_r3264 (hr _ _ rfl)) (fun _ => ?_) (fun h => absurd h (by decide))
        refine mm_bipush (mm_dc od_X9_boat_0 22 rfl) (by decide) ?_
        refine mm_iret (mm_dc od_X9_boat_0 23 rfl) rfl ?_
        first | exact k1 (by first | assumption | omega) | (exfalso; omega)
    · refine mm_if_ne 23 (mm_dc od_X9_boat_0 9 rfl) (by omega) (by first | assumption | omega | exact hr _ _ rfl | exact mm_r3264 (hr _ _ rfl)) (fun h => absurd h (by decide)) (fun _ => ?_)
      refine mm_bipush (mm_dc od_X9_boat_0 10 rfl) (by decide) ?_
      refine mm_iret (mm_dc od_X9_boat_0 11 rfl) rfl ?_
      first | exact k1 (by first | assumption | omega) | (exfalso; omega)
  · refine mm_if_eq 20 (mm_dc od_X9_boat_0 4 rfl) (by omega) (by first | assumption | omega | exact hr _ _ rfl | exact mm_r3264 (hr _ _ rfl)) (fun _ => ?_) (fun h => absurd h (by decide))
    refine mm_bipush (mm_dc od_X9_boat_0 10 rfl) (by decide) ?_
    refine mm_iret (mm_dc od_X9_boat_0 11 rfl) rfl ?_
    first | exact k1 (by first | assumption | omega) | (exfalso; omega)
theorem c_X9_ill {X : Nat × (Nat → Int)} {d : Nat} {Po : mm_Po} {M : mm_M} (o : Int) (is : Int) (ho : mm_r32 o) (his : mm_r32 is) (hJo : JO M) (hr : R32 M) (k1 : (¬ (0 ≤ o ∧ o < M 1 0)) → Po (some (v_i (-1))) Lam M) (k2 : (0 ≤ o ∧ o < M 1 0) → (¬ (0 ≤ is ∧ is ≤ 1)) → Po (some (v_i (-2))) Lam M) (k3 : (0 ≤ o ∧ o < M 1 0) → (0 ≤ is ∧ is ≤ 1) → Po (some (v_i (M 4 o.toNat))) Lam (mm_up M 4 o.toNat is)) : mm_E X (d + 1) 0 0 mi_X9_ill [v_r 0, v_i o, v_i is] Po Lam M := by
  show mm_G X (d + 1) 0 0 mi_X9_ill Po 0 [(0, v_r 0), (1, v_i o), (2, v_i is)] [] Lam M 0 0
  have hJo2 := hJo
  obtain ⟨ho0, ho16, hO⟩ := hJo2
  refine mm_aload_n (mm_dc od_X9_ill_0 0 rfl) rfl ?_
  refine mm_getR (ci := 9) (k := 0) (mm_dc od_X9_ill_0 1 rfl) rfl in_X9 (by decide) wd_2_45 rfl rfl ?_
  refine mm_iload_n (mm_dc od_X9_ill_0 2 rfl) rfl ?_
  refine mm_callV (b := 1) (mi' := mi_X0_hasOar) [v_i o] [] (mm_dc od_X9_ill_0 3 rfl) rfl wd_2_99 wd_2_100 wd_2_101 wd_1_2 wd_2_102 yk_X0_hasOar rfl rfl rfl (Nat.le_of_ble_eq_true rfl) rfl (by decide) (c_X0_hasOar o (by first | assumption | omega | exact hr _ _ rfl | exact mm_r3264 (hr _ _ rfl)) (by first | assumption | omega | exact hr _ _ rfl | exact mm_r3264 (hr _ _ rfl)) (fun c1 => ⟨Nat.le_refl _, ?_⟩) (fun c1 => ⟨Nat.le_refl _, ?_⟩))
  · refine mm_if_ne 13 (mm_dc od_X9_ill_0 4 rfl) (by omega) (by first | assumption | omega | exact hr _ _ rfl | exact mm_r3264 (hr _ _ rfl)) (fun _ => ?_) (fun h => absurd h (by decide))
    refine mm_iload_n (mm_dc od_X9_ill_0 7 rfl) rfl ?_
    refine mm_iconst (mm_dc od_X9_ill_0 8 rfl) ?_
    refine mm_iconst (mm_dc od_X9_ill_0 9 rfl) ?_
    refine mm_callS (mi' := mi_X9_within) [v_i is, v_i 0, v_i 1] [] (mm_dc od_X9_ill_0 10 rfl) rfl wd_2_80 wd_2_81 wd_1_1 wd_2_82 yk_X9_within (Nat.le_of_ble_eq_true rfl) rfl (by decide) (c_X9_within is 0 1 (by first | assumption | omega | exact hr _ _ rfl | exact mm_r3264 (hr _ _ rfl)) (by first | assumption | omega | exact hr _ _ rfl | exact mm_r3264 (hr _ _ rfl)) (by first | assumption | omega | exact hr _ _ rfl | exact mm_r3264 (hr _ _ rfl)) (fun c2 => ⟨Nat.le_refl _, ?_⟩) (fun c2 => ⟨Nat.le_refl _, ?_⟩))
    · refine mm_if_ne 25 (mm_dc od_X9_ill_0 11 rfl) (by omega) (by first | assumption | omega | exact hr _ _ rfl | exact mm_r3264 (hr _ _ rfl)) (fun _ => ?_) (fun h => absurd h (by decide))
      refine mm_aload_n (mm_dc od_X9_ill_0 14 rfl) rfl ?_
      refine mm_getR (ci := 9) (k := 0) (mm_dc od_X9_ill_0 15 rfl) rfl in_X9 (by decide) wd_2_45 rfl rfl ?_
      refine mm_getR (ci := 0) (k := 3) (mm_dc od_X9_ill_0 16 rfl) rfl in_X0 (by decide) wd_1_42 rfl rfl ?_
      refine mm_iload_n (mm_dc od_X9_ill_0 17 rfl) rfl ?_
      refine mm_iald (mm_dc od_X9_ill_0 18 rfl) rfl (by first | assumption | omega | exact hr _ _ rfl | exact mm_r3264 (hr _ _ rfl)) (by first | assumption | omega | exact hr _ _ rfl | exact mm_r3264 (hr _ _ rfl)) (by decide) ?_
      refine mm_istore_n (L' := [(0, v_r 0), (1, v_i o), (2, v_i is), (3, v_i (M 4 (Int.toNat o)))]) (mm_dc od_X9_ill_0 19 rfl) (by decide) rfl ?_
      refine mm_aload_n (mm_dc od_X9_ill_0 20 rfl) rfl ?_
      refine mm_getR (ci := 9) (k := 0) (mm_dc od_X9_ill_0 21 rfl) rfl in_X9 (by decide) wd_2_45 rfl rfl ?_
      refine mm_getR (ci := 0) (k := 3) (mm_dc od_X9_ill_0 22 rfl) rfl in_X0 (by decide) wd_1_42 rfl rfl ?_
      refine mm_iload_n (mm_dc od_X9_ill_0 23 rfl) rfl ?_
      refine mm_iload_n (mm_dc od_X9_ill_0 24 rfl) rfl ?_
      refine mm_iast (mm_dc od_X9_ill_0 25 rfl) rfl (by first | assumption | omega | exact hr _ _ rfl | exact mm_r3264 (hr _ _ rfl)) (by first | assumption | omega | exact hr _ _ rfl | exact mm_r3264 (hr _ _ rfl)) (by decide) ?_
      refine mm_iload_n (mm_dc od_X9_ill_0 26 rfl) rfl ?_
      refine mm_iret (mm_dc od_X9_ill_0 27 rfl) rfl ?_
      first | exact k3 (by first | assumption | omega) (by first | assumption | omega) | exact mm_pm (by omega) rfl (k3 (by first | assumption | omega) (by first | assumption | omega)) | (exfalso; omega)
    · refine mm_if_ne 25 (mm_dc od_X9_ill_0 11 rfl) (by omega) (by first | assumption | omega | exact hr _ _ rfl | exact mm_r3264 (hr _ _ rfl)) (fun h => absurd h (by decide)) (fun _ => ?_)
      refine mm_bipush (mm_dc od_X9_ill_0 12 rfl) (by decide) ?_
      refine mm_iret (mm_dc od_X9_ill_0 13 rfl) rfl ?_
      first | exact k2 (by first | assumption | omega) (by first | assumption | omega) | (exfalso; omega)
  · refine mm_if_ne 13 (mm_dc od_X9_ill_0 4 rfl) (by omega) (by first | assumption | omega | exact hr _ _ rfl | exact mm_r3264 (hr _ _ rfl)) (fun h => absurd h (by decide)) (fun _ => ?_)
    refine mm_iconst (mm_dc od_X9_ill_0 5 rfl) ?_
    refine mm_iret (mm_dc od_X9_ill_0 6 rfl) rfl ?_
    first | exact k1 (by first | assumption | omega) | (exfalso; omega)
theorem c_X9_sit {X : Nat × (Nat → Int)} {d : Nat} {Po : mm_Po} {M : mm_M} (b : Int) (s : Int) (o : Int) (hb : mm_r32 b) (hs : mm_r32 s) (ho : mm_r32 o) (hJo : JO M) (hJb : JB M) (hr : R32 M) (k1 : (¬ (((0 ≤ b ∧ b < M 1 5) ∧ ((s = 8 ∧ (M 6 b.toNat = 1 ∨ M 6 b.toNat = 2)) ∨ (s ≠ 8 ∧ 0 ≤ s ∧ s < mm_seats (M 6 b.toNat).toNat))) ∧ (o = -1 ∨ (0 ≤ o ∧ o < M 1 0)))) → Po (some (v_i (-5))) Lam M) (k2 : (((0 ≤ b ∧ b < M 1 5) ∧ ((s = 8 ∧ (M 6 b.toNat = 1 ∨ M 6 b.toNat = 2)) ∨ (s ≠ 8 ∧ 0 ≤ s ∧ s < mm_seats (M 6 b.toNat).toNat))) ∧ (o = -1 ∨ (0 ≤ o ∧ o < M 1 0))) → (o ≠ -1 ∧ ¬ (M 4 o.toNat = 0 ∧ (s ≠ 8 ∨ M 3 o.toNat ≤ 70))) → Po (some (v_i (-3))) Lam M) (k3 : ∀ (r : Int), (((0 ≤ b ∧ b < M 1 5) ∧ ((s = 8 ∧ (M 6 b.toNat = 1 ∨ M 6 b.toNat = 2)) ∨ (s ≠ 8 ∧ 0 ≤ s ∧ s < mm_seats (M 6 b.toNat).toNat))) ∧ (o = -1 ∨ (0 ≤ o ∧ o < M 1 0))) → (o = -1 ∨ (M 4 o.toNat = 0 ∧ (s ≠ 8 ∨ M 3 o.toNat ≤ 70))) → firstP (fun i => M 5 i = 10 * b + s) r (M 1 0).toNat → Po (some (v_i r)) Lam (pm_put M b s o r)) : mm_E X (d + 2) 0 0 mi_X9_sit [v_r 0, v_i b, v_i s, v_i o] Po Lam M := by
  show mm_G X (d + 2) 0 0 mi_X9_sit Po 0 [(0, v_r 0), (1, v_i b), (2, v_i s), (3, v_i o)] [] Lam M 0 0
  have hJo2 := hJo
  obtain ⟨ho0, ho16, hO⟩ := hJo2
  have hJb2 := hJb
  obtain ⟨hb0, hb8, hB⟩ := hJb2
  have hB1 := hB b.toNat
  have hs1 := mm_seats_le (M 6 b.toNat).toNat
  refine mm_aload_n (mm_dc od_X9_sit_0 0 rfl) rfl ?_
  refine mm_getR (ci := 9) (k := 0) (mm_dc od_X9_sit_0 1 rfl) rfl in_X9 (by decide) wd_2_45 rfl rfl ?_
  refine mm_iload_n (mm_dc od_X9_sit_0 2 rfl) rfl ?_
  refine mm_iload_n (mm_dc od_X9_sit_0 3 rfl) rfl ?_
  refine mm_callV (b := 1) (mi' := mi_X0_hasSeat) [v_i b, v_i s] [] (mm_dc od_X9_sit_0 4 rfl) rfl wd_2_107 wd_2_108 wd_2_109 wd_1_2 wd_2_110 yk_X0_hasSeat rfl rfl rfl (Nat.le_of_ble_eq_true rfl) rfl (by decide) (c_X0_hasSeat b s (by first | assumption | omega | exact hr _ _ rfl | exact mm_r3264 (hr _ _ rfl)) (by first | assumption | omega | exact hr _ _ rfl | exact mm_r3264 (hr _ _ rfl)) hJb (by first | assumption | omega | exact hr _ _ rfl | exact mm_r3264 (hr _ _ rfl)) (fun c1 => ⟨Nat.le_refl _, ?_⟩) (fun c1 => ⟨Nat.le_refl _, ?_⟩))
  · refine mm_if_eq 28 (mm_dc od_X9_sit_0 5 rfl) (by omega) (by first | assumption | omega | exact hr _ _ rfl | exact mm_r3264 (hr _ _ rfl)) (fun h => absurd h (by decide)) (fun _ => ?_)
    refine mm_iload_n (mm_dc od_X9_sit_0 6 rfl) rfl ?_
    refine mm_iconst (mm_dc od_X9_sit_0 7 rfl) ?_
    refine mm_icmp_eq 31 (mm_dc od_X9_sit_0 8 rfl) (by omega) (by first | assumption | omega | exact hr _ _ rfl | exact mm_r3264 (hr _ _ rfl)) (by first | assumption | omega | exact hr _ _ rfl | exact mm_r3264 (hr _ _ rfl)) (fun c2 => ?_) (fun c2 => ?_)
    · refine mm_iload_n (mm_dc od_X9_sit_0 16 rfl) rfl ?_
      refine mm_iconst (mm_dc od_X9_sit_0 17 rfl) ?_
      refine mm_icmp_eq 51 (mm_dc od_X9_sit_0 18 rfl) (by omega) (by first | assumption | omega | exact hr _ _ rfl | exact mm_r3264 (hr _ _ rfl)) (by first | assumption | omega | exact hr _ _ rfl | exact mm_r3264 (hr _ _ rfl)) (fun c3 => ?_) (fun c3 => ?_)
      · refine mm_aload_n (mm_dc od_X9_sit_0 27 rfl) rfl ?_
        refine mm_getR (ci := 9) (k := 0) (mm_dc od_X9_sit_0 28 rfl) rfl in_X9 (by decide) wd_2_45 rfl rfl ?_
        refine mm_iload_n (mm_dc od_X9_sit_0 29 rfl) rfl ?_
        refine mm_iload_n (mm_dc od_X9_sit_0 30 rfl) rfl ?_
        refine mm_iload_n (mm_dc od_X9_sit_0 31 rfl) rfl ?_
        refine mm_callV (b := 1) (mi' := mi_X0_putOn) [v_i b, v_i s, v_i o] [] (mm_dc od_X9_sit_0 32 rfl) rfl wd_2_130 wd_2_131 wd_2_132 wd_1_2 wd_2_133 yk_X0_putOn rfl rfl rfl (Nat.le_of_ble_eq_true rfl) rfl (by decide) (c_X0_putOn b s o (by first | assumption | omega | exact hr _ _ rfl | exact mm_r3264 (hr _ _ rfl)) (by first | assumption | omega | exact hr _ _ rfl | exact mm_r3264 (hr _ _ rfl)) (by first | assumption | omega | exact hr _ _ rfl | exact mm_r3264 (hr _ _ rfl)) hJo (by first | assumption | omega | exact hr _ _ rfl | exact mm_r3264 (hr _ _ rfl)) (fun r4 hq5 => ⟨Nat.le_refl _, ?_⟩))
        refine mm_iret (mm_dc od_X9_sit_0 33 rfl) rfl ?_
        first | exact k3 _ (by first | assumption | omega) (by first | assumption | omega) (by first | assumption | omega) | exact mm_pm (by omega) rfl (k3 _ (by first | assumption | omega) (by first | assumption | omega) (by first | assumption | omega)) | (exfalso; omega)
      · refine mm_aload_n (mm_dc od_X9_sit_0 19 rfl) rfl ?_
        refine mm_getR (ci := 9) (k := 0) (mm_dc od_X9_sit_0 20 rfl) rfl in_X9 (by decide) wd_2_45 rfl rfl ?_
        refine mm_iload_n (mm_dc od_X9_sit_0 21 rfl) rfl ?_
        refine mm_iload_n (mm_dc od_X9_sit_0 22 rfl) rfl ?_
        refine mm_callV (b := 1) (mi' := mi_X0_maySit) [v_i o, v_i s] [] (mm_dc od_X9_sit_0 23 rfl) rfl wd_2_126 wd_2_127 wd_2_128 wd_1_2 wd_2_129 yk_X0_maySit rfl rfl rfl (Nat.le_of_ble_eq_true rfl) rfl (by decide) (c_X0_maySit o s (by first | assumption | omega | exact hr _ _ rfl | exact mm_r3264 (hr _ _ rfl)) (by first | assumption | omega | exact hr _ _ rfl | exact mm_r3264 (hr _ _ rfl)) hJo (by first | assumption | omega | exact hr _ _ rfl | exact mm_r3264 (hr _ _ rfl)) (fun c6 => ⟨Nat.le_refl _, ?_⟩) (fun c6 => ⟨Nat.le_refl _, ?_⟩))
        · refine mm_if_ne 51 (mm_dc od_X9_sit_0 24 rfl) (by omega) (by first | assumption | omega | exact hr _ _ rfl | exact mm_r3264 (hr _ _ rfl)) (fun _ => ?_) (fun h => absurd h (by decide))
          refine mm_aload_n (mm_dc od_X9_sit_0 27 rfl) rfl ?_
          refine mm_getR (ci := 9) (k := 0) (mm_dc od_X9_sit_0 28 rfl) rfl in_X9 (by decide) wd_2_45 rfl rfl ?_
          refine mm_iload_n (mm_dc od_X9_sit_0 29 rfl) rfl ?_
          refine mm_iload_n (mm_dc od_X9_sit_0 30 rfl) rfl ?_
          refine mm_iload_n (mm_dc od_X9_sit_0 31 rfl) rfl ?_
          refine mm_callV (b := 1) (mi' := mi_X0_putOn) [v_i b, v_i s, v_i o] [] (mm_dc od_X9_sit_0 32 rfl) rfl wd_2_130 wd_2_131 wd_2_132 wd_1_2 wd_2_133 yk_X0_putOn rfl rfl rfl (Nat.le_of_ble_eq_true rfl) rfl (by decide) (c_X0_putOn b s o (by first | assumption | omega | exact hr _ _ rfl | exact mm_r3264 (hr _ _ rfl)) (by first | assumption | omega | exact hr _ _ rfl | exact mm_r3264 (hr _ _ rfl)) (by first | assumption | omega | exact hr _ _ rfl | exact mm_r3264 (hr _ _ rfl)) hJo (by first | assumption | omega | exact hr _ _ rfl | exact mm_r3264 (hr _ _ rfl)) (fun r7 hq8 => ⟨Nat.le_refl _, ?_⟩))
          refine mm_iret (mm_dc od_X9_sit_0 33 rfl) rfl ?_
          first | exact k3 _ (by first | assumption | omega) (by first | assumption | omega) (by first | assumption | omega) | exact mm_pm (by omega) rfl (k3 _ (by first | assumption | omega) (by first | assumption | omega) (by first | assumption | omega)) | (exfalso; omega)
        · refine mm_if_ne 51 (mm_dc od_X9_sit_0 24 rfl) (by omega) (by first | assumption | omega | exact hr _ _ rfl | exact mm_r3264 (hr _ _ rfl)) (fun h => absurd h (by decide)) (fun _ => ?_)
          refine mm_bipush (mm_dc od_X9_sit_0 25 rfl) (by decide) ?_
          refine mm_iret (mm_dc od_X9_sit_0 26 rfl) rfl ?_
          first | exact k2 (by first | assumption | omega) (by first | assumption | omega) | (exfalso; omega)
    · refine mm_aload_n (mm_dc od_X9_sit_0 9 rfl) rfl ?_
      refine mm_getR (ci := 9) (k := 0) (mm_dc od_X9_sit_0 10 rfl) rfl in_X9 (by decide) wd_2_45 rfl rfl ?_
      refine mm_iload_n (mm_dc od_X9_sit_0 11 rfl) rfl ?_
      refine mm_callV (b := 1) (mi' := mi_X0_hasOar) [v_i o] [] (mm_dc od_X9_sit_0 12 rfl) rfl wd_2_99 wd_2_100 wd_2_101 wd_1_2 wd_2_102 yk_X0_hasOar rfl rfl rfl (Nat.le_of_ble_eq_true rfl) rfl (by decide) (c_X0_hasOar o (by first | assumption | omega | exact hr _ _ rfl | exact mm_r3264 (hr _ _ rfl)) (by first | assumption | omega | exact hr _ _ rfl | exact mm_r3264 (hr _ _ rfl)) (fun c9 => ⟨Nat.le_refl _, ?_⟩) (fun c9 => ⟨Nat.le_refl _, ?_⟩))
      · refine mm_if_ne 31 (mm_dc od_X9_sit_0 13 rfl) (by omega) (by first | assumption | omega | exact hr _ _ rfl | exact mm_r3264 (hr _ _ rfl)) (fun _ => ?_) (fun h => absurd h (by decide))
        refine mm_iload_n (mm_dc od_X9_sit_0 16 rfl) rfl ?_
        refine mm_iconst (mm_dc od_X9_sit_0 17 rfl) ?_
        refine mm_icmp_eq 51 (mm_dc od_X9_sit_0 18 rfl) (by omega) (by first | assumption | omega | exact hr _ _ rfl | exact mm_r3264 (hr _ _ rfl)) (by first | assumption | omega | exact hr _ _ rfl | exact mm_r3264 (hr _ _ rfl)) (fun c10 => ?_) (fun c10 => ?_)
        · refine mm_aload_n (mm_dc od_X9_sit_0 27 rfl) rfl ?_
          refine mm_getR (ci := 9) (k := 0) (mm_dc od_X9_sit_0 28 rfl) rfl in_X9 (by decide) wd_2_45 rfl rfl ?_
          refine mm_iload_n (mm_dc od_X9_sit_0 29 rfl) rfl ?_
          refine mm_iload_n (mm_dc od_X9_sit_0 30 rfl) rfl ?_
          refine mm_iload_n (mm_dc od_X9_sit_0 31 rfl) rfl ?_
          refine mm_callV (b := 1) (mi' := mi_X0_putOn) [v_i b, v_i s, v_i o] [] (mm_dc od_X9_sit_0 32 rfl) rfl wd_2_130 wd_2_131 wd_2_132 wd_1_2 wd_2_133 yk_X0_putOn rfl rfl rfl (Nat.le_of_ble_eq_true rfl) rfl (by decide) (c_X0_putOn b s o (by first | assumption | omega | exact hr _ _ rfl | exact mm_r3264 (hr _ _ rfl)) (by first | assumption | omega | exact hr _ _ rfl | exact mm_r3264 (hr _ _ rfl)) (by first | assumption | omega | exact hr _ _ rfl | exact mm_r3264 (hr _ _ rfl)) hJo (by first | assumption | omega | exact hr _ _ rfl | exact mm_r3264 (hr _ _ rfl)) (fun r11 hq12 => ⟨Nat.le_refl _, ?_⟩))
          refine mm_iret (mm_dc od_X9_sit_0 33 rfl) rfl ?_
          first | exact k3 _ (by first | assumption | omega) (by first | assumption | omega) (by first | assumption | omega) | exact mm_pm (by omega) rfl (k3 _ (by first | assumption | omega) (by first | assumption | omega) (by first | assumption | omega)) | (exfalso; omega)
        · refine mm_aload_n (mm_dc od_X9_sit_0 19 rfl) rfl ?_
          refine mm_getR (ci := 9) (k := 0) (mm_dc od_X9_sit_0 20 rfl) rfl in_X9 (by decide) wd_2_45 rfl rfl ?_
          refine mm_iload_n (mm_dc od_X9_sit_0 21 rfl) rfl ?_
          refine mm_iload_n (mm_dc od_X9_sit_0 22 rfl) rfl ?_
          refine mm_callV (b := 1) (mi' := mi_X0_maySit) [v_i o, v_i s] [] (mm_dc od_X9_sit_0 23 rfl) rfl wd_2_126 wd_2_127 wd_2_128 wd_1_2 wd_2_129 yk_X0_maySit rfl rfl rfl (Nat.le_of_ble_eq_true rfl) rfl (by decide) (c_X0_maySit o s (by first | assumption | omega | exact hr _ _ rfl | exact mm_r3264 (hr _ _ rfl)) (by first | assumption | omega | exact hr _ _ rfl | exact mm_r3264 (hr _ _ rfl)) hJo (by first | assumption | omega | exact hr _ _ rfl | exact mm_r3264 (hr _ _ rfl)) (fun c13 => ⟨Nat.le_refl _, ?_⟩) (fun c13 => ⟨Nat.le_refl _, ?_⟩))
          · refine mm_if_ne 51 (mm_dc od_X9_sit_0 24 rfl) (by omega) (by first | assumption | omega | exact hr _ _ rfl | exact mm_r3264 (hr _ _ rfl)) (fun _ => ?_) (fun h => absurd h (by decide))
            refine mm_aload_n (mm_dc od_X9_sit_0 27 rfl) rfl ?_
            refine mm_getR (ci := 9) (k := 0) (mm_dc od_X9_sit_0 28 rfl) rfl in_X9 (by decide) wd_2_45 rfl rfl ?_
            refine mm_iload_n (mm_dc od_X9_sit_0 29 rfl) rfl ?_
            refine mm_iload_n (mm_dc od_X9_sit_0 30 rfl) rfl ?_
            refine mm_iload_n (mm_dc od_X9_sit_0 31 rfl) rfl ?_
            refine mm_callV (b := 1) (mi' := mi_X0_putOn) [v_i b, v_i s, v_i o] [] (mm_dc od_X9_sit_0 32 rfl) rfl wd_2_130 wd_2_131 wd_2_132 wd_1_2 wd_2_133 yk_X0_putOn rfl rfl rfl (Nat.le_of_ble_eq_true rfl) rfl (by decide) (c_X0_putOn b s o (by first | assumption | omega | exact hr _ _ rfl | exact mm_r3264 (hr _ _ rfl)) (by first | assumption | omega | exact hr _ _ rfl | exact mm_r3264 (hr _ _ rfl)) (by first | assumption | omega | exact hr _ _ rfl | exact mm_r3264 (hr _ _ rfl)) hJo (by first | assumption | omega | exact hr _ _ rfl | exact mm_r3264 (hr _ _ rfl)) (fun r14 hq15 => ⟨Nat.le_refl _, ?_⟩))
            refine mm_iret (mm_dc od_X9_sit_0 33 rfl) rfl ?_
            first | exact k3 _ (by first | assumption | omega) (by first | assumption | omega) (by first | assumption | omega) | exact mm_pm (by omega) rfl (k3 _ (by first | assumption | omega) (by first | assumption | omega) (by first | assumption | omega)) | (exfalso; omega)
          · refine mm_if_ne 51 (mm_dc od_X9_sit_0 24 rfl) (by omega) (by first | assumption | omega | exact hr _ _ rfl | exact mm_r3264 (hr _ _ rfl)) (fun h => absurd h (by decide)) (fun _ => ?_)
            refine mm_bipush (mm_dc od_X9_sit_0 25 rfl) (by decide) ?_
            refine mm_iret (mm_dc od_X9_sit_0 26 rfl) rfl ?_
            first | exact k2 (by first | assumption | omega) (by first | assumption | omega) | (exfalso; omega)
      · refine mm_if_ne 31 (mm_dc od_X9_sit_0 13 rfl) (by omega) (by first | assumption | omega | exact hr _ _ rfl | exact mm_r3264 (hr _ _ rfl)) (fun h => absurd h (by decide)) (fun _ => ?_)
        refine mm_bipush (mm_dc od_X9_sit_0 14 rfl) (by decide) ?_
        refine mm_iret (mm_dc od_X9_sit_0 15 rfl) rfl ?_
        first | exact k1 (by first | assumption | omega) | (exfalso; omega)
  · refine mm_if_eq 28 (mm_dc od_X9_sit_0 5 rfl) (by omega) (by first | assumption | omega | exact hr _ _ rfl | exact mm_r3264 (hr _ _ rfl)) (fun _ => ?_) (fun h => absurd h (by decide))
    refine mm_bipush (mm_dc od_X9_sit_0 14 rfl) (by decide) ?_
    refine mm_iret (mm_dc od_X9_sit_0 15 rfl) rfl ?_
    first | exact k1 (by first | assumption | omega) | (exfalso; omega)
theorem c_X9_seat {X : Nat × (Nat → Int)} {d : Nat} {Po : mm_Po} {M : mm_M} (b : Int) (s : Int) (hb : mm_r32 b) (hs : mm_r32 s) (hJo : JO M) (hJb : JB M) (hr : R32 M) (k1 : (¬ ((0 ≤ b ∧ b < M 1 5) ∧ ((s = 8 ∧ (M 6 b.toNat = 1 ∨ M 6 b.toNat = 2)) ∨ (s ≠ 8 ∧ 0 ≤ s ∧ s < mm_seats (M 6 b.toNat).toNat)))) → Po (some (v_i (-1))) Lam M) (k2 : ∀ (r : Int), (((0 ≤ b ∧ b < M 1 5) ∧ ((s = 8 ∧ (M 6 b.toNat = 1 ∨ M 6 b.toNat = 2)) ∨ (s ≠ 8 ∧ 0 ≤ s ∧ s < mm_seats (M 6 b.toNat).toNat)))) → firstP (fun i => M 5 i = 10 * b + s) r (M 1 0).toNat → Po (some (v_i r)) Lam M) : mm_E X (d + 2) 0 0 mi_X9_seat [v_r 0, v_i b, v_i s] Po Lam M := by
  show mm_G X (d + 2) 0 0 mi_X9_seat Po 0 [(0, v_r 0), (1, v_i b), (2, v_i s)] [] Lam M 0 0
  have hJo2 := hJo
  obtain ⟨ho0, ho16, hO⟩ := hJo2
  have hJb2 := hJb
  obtain ⟨hb0, hb8, hB⟩ := hJb2
  have hB1 := hB b.toNat
  have hs1 := mm_seats_le (M 6 b.toNat).toNat
  refine mm_aload_n (mm_dc od_X9_seat_0 0 rfl) rfl ?_
  refine mm_getR (ci := 9) (k := 0) (mm_dc od_X9_seat_0 1 rfl) rfl in_X9 (by decide) wd_2_45 rfl rfl ?_
  refine mm_iload_n (mm_dc od_X9_seat_0 2 rfl) rfl ?_
  refine mm_iload_n (mm_dc od_X9_seat_0 3 rfl) rfl ?_
  refine mm_callV (b := 1) (mi' := mi_X0_hasSeat) [v_i b, v_i s] [] (mm_dc od_X9_seat_0 4 rfl) rfl wd_2_107 wd_2_108 wd_2_109 wd_1_2 wd_2_110 yk_X0_hasSeat rfl rfl rfl (Nat.le_of_ble_eq_true rfl) rfl (by decide) (c_X0_hasSeat b s (by first | assumption | omega | exact hr _ _ rfl | exact mm_r3264 (hr _ _ rfl)) (by first | assumption | omega | exact hr _ _ rfl | exact mm_r3264 (hr _ _ rfl)) hJb (by first | assumption | omega | exact hr _ _ rfl | exact mm_r3264 (hr _ _ rfl)) (fun c1 => ⟨Nat.le_refl _, ?_⟩) (fun c1 => ⟨Nat.le_refl _, ?_⟩))
  · refine mm_if_eq 24 (mm_dc od_X9_seat_0 5 rfl) (by omega) (by first | assumption | omega | exact hr _ _ rfl | exact mm_r3264 (hr _ _ rfl)) (fun h => absurd h (by decide)) (fun _ => ?_)
    refine mm_aload_n (mm_dc od_X9_seat_0 6 rfl) rfl ?_
    refine mm_getR (ci := 9) (k := 0) (mm_dc od_X9_seat_0 7 rfl) rfl in_X9 (by decide) wd_2_45 rfl rfl ?_
    refine mm_iload_n (mm_dc od_X9_seat_0 8 rfl) rfl ?_
    refine mm_iload_n (mm_dc od_X9_seat_0 9 rfl) rfl ?_
    refine mm_callV (b := 1) (mi' := mi_X0_whoSits) [v_i b, v_i s] [] (mm_dc od_X9_seat_0 10 rfl) rfl wd_2_142 wd_2_135 wd_2_136 wd_1_2 wd_2_137 yk_X0_whoSits rfl rfl rfl (Nat.le_of_ble_eq_true rfl) rfl (by decide) (c_X0_whoSits b s (by first | assumption | omega | exact hr _ _ rfl | exact mm_r3264 (hr _ _ rfl)) (by first | assumption | omega | exact hr _ _ rfl | exact mm_r3264 (hr _ _ rfl)) hJo (by first | assumption | omega | exact hr _ _ rfl | exact mm_r3264 (hr _ _ rfl)) (fun r2 hq3 => ⟨Nat.le_refl _, ?_⟩))
    have hq3_r := firstP_rng hq3
    refine mm_goto 25 (mm_dc od_X9_seat_0 11 rfl) (by omega) ?_
    refine mm_iret (mm_dc od_X9_seat_0 13 rfl) rfl ?_
    first | exact k2 _ (by first | assumption | omega) (by first | assumption | omega) | exact mm_pm (by omega) rfl (k2 _ (by first | assumption | omega) (by first | assumption | omega)) | (exfalso; omega)
  · refine mm_if_eq 24 (mm_dc od_X9_seat_0 5 rfl) (by omega) (by first | assumption | omega | exact hr _ _ rfl | exact mm_r3264 (hr _ _ rfl)) (fun _ => ?_) (fun h => absurd h (by decide))
    refine mm_iconst (mm_dc od_X9_seat_0 12 rfl) ?_
    refine mm_iret (mm_dc od_X9_seat_0 13 rfl) rfl ?_
    first | exact k1 (by first | assumption | omega) | (exfalso; omega)
theorem c_X9_about {X : Nat × (Nat → Int)} {d : Nat} {Po : mm_Po} {M : mm_M} (o : Int) (what : Int) (ho : mm_r32 o) (hwhat : mm_r32 what) (hJo : JO M) (hr : R32 M) (k1 : (¬ (0 ≤ o ∧ o < M 1 0)) → Po (some (v_i (-1))) Lam M) (k2 : (0 ≤ o ∧ o < M 1 0) → what = 0 → Po (some (v_i (M 2 o.toNat))) Lam M) (k3 : (0 ≤ o ∧ o < M 1 0) → what = 1 → Po (some (v_i (M 3 o.toNat))) Lam M) (k4 : (0 ≤ o ∧ o < M 1 0) → what = 2 → Po (some (v_i (M 4 o.toNat))) Lam M) (k5 : (0 ≤ o ∧ o < M 1 0) → what = 3 → Po (some (v_i (M 5 o.toNat))) Lam M) (k6 : (0 ≤ o ∧ o < M 1 0) → (what < 0 ∨ 3 < what) → Po (some (v_i (-1))) Lam M) : mm_E X (d + 1) 0 0 mi_X9_about [v_r 0, v_i o, v_i what] Po Lam M := by
  show mm_G X (d + 1) 0 0 mi_X9_about Po 0 [(0, v_r 0), (1, v_i o), (2, v_i what)] [] Lam M 0 0
  have hJo2 := hJo
  obtain ⟨ho0, ho16, hO⟩ := hJo2
  refine mm_aload_n (mm_dc od_X9_about_0 0 rfl) rfl ?_
  refine mm_getR (ci := 9) (k := 0) (mm_dc od_X9_about_0 1 rfl) rfl in_X9 (by decide) wd_2_45 rfl rfl ?_
  refine mm_iload_n (mm_dc od_X9_about_0 2 rfl) rfl ?_
  refine mm_callV (b := 1) (mi' := mi_X0_hasOar) [v_i o] [] (mm_dc od_X9_about_0 3 rfl) rfl wd_2_99 wd_2_100 wd_2_101 wd_1_2 wd_2_102 yk_X0_hasOar rfl rfl rfl (Nat.le_of_ble_eq_true rfl) rfl (by decide) (c_X0_hasOar o (by first | assumption | omega | exact hr _ _ rfl | exact mm_r3264 (hr _ _ rfl)) (by first | assumption | omega | exact hr _ _ rfl | exact mm_r3264 (hr _ _ rfl)) (fun c1 => ⟨Nat.le_refl _, ?_⟩) (fun c1 => ⟨Nat.le_refl _, ?_⟩))
  · refine mm_if_ne 13 (mm_dc od_X9_about_0 4 rfl) (by omega) (by first | assumption | omega | exact hr _ _ rfl | exact mm_r3264 (hr _ _ rfl)) (fun _ => ?_) (fun h => absurd h (by decide))
    refine mm_iload_n (mm_dc od_X9_about_0 7 rfl) rfl ?_
    have sw2 : (what < 0 ∨ 3 < what) ∨ what = 0 ∨ what = 1 ∨ what = 2 ∨ what = 3 := by omega
    rcases sw2 with sw2 | sw2 | sw2 | sw2 | sw2
    · refine mm_tabOut 84 (mm_dc od_X9_about_0 8 rfl) (by first | assumption | omega | exact hr _ _ rfl | exact mm_r3264 (hr _ _ rfl)) sw2 (by omega) ?_
      refine mm_iconst (mm_dc od_X9_about_0 33 rfl) ?_
      refine mm_iret (mm_dc od_X9_about_0 34 rfl) rfl ?_
      first | exact k1 (by first | assumption | omega) | exact k6 (by first | assumption | omega) (by first | assumption | omega) | (exfalso; omega)
    · refine mm_tabIn (off := 30) 44 (mm_dc od_X9_about_0 8 rfl) (by first | assumption | omega | exact hr _ _ rfl | exact mm_r3264 (hr _ _ rfl)) (by omega) (by omega) (by rw [sw2]; rfl) (by omega) ?_
      refine mm_aload_n (mm_dc od_X9_about_0 9 rfl) rfl ?_
      refine mm_getR (ci := 9) (k := 0) (mm_dc od_X9_about_0 10 rfl) rfl in_X9 (by decide) wd_2_45 rfl rfl ?_
      refine mm_getR (ci := 0) (k := 1) (mm_dc od_X9_about_0 11 rfl) rfl in_X0 (by decide) wd_1_38 rfl rfl ?_
      refine mm_iload_n (mm_dc od_X9_about_0 12 rfl) rfl ?_
      refine mm_iald (mm_dc od_X9_about_0 13 rfl) rfl (by first | assumption | omega | exact hr _ _ rfl | exact mm_r3264 (hr _ _ rfl)) (by first | assumption | omega | exact hr _ _ rfl | exact mm_r3264 (hr _ _ rfl)) (by decide) ?_
      refine mm_iret (mm_dc od_X9_about_0 14 rfl) rfl ?_
      first | exact k2 (by first | assumption | omega) (by first | assumption | omega) | exact mm_pm (by omega) rfl (k2 (by first | assumption | omega) (by first | assumption | omega)) | exact k3 (by first | assumption | omega) (by first | assumption | omega) | exact mm_pm (by omega) rfl (k3 (by first | assumption | omega) (by first | assumption | omega)) | exact k4 (by first | assumption | omega) (by first | assumption | omega) | exact mm_pm (by omega) rfl (k4 (by first | assumption | omega) (by first | assumption | omega)) | exact k5 (by first | assumption | omega) (by first | assumption | omega) | exact mm_pm (by omega) rfl (k5 (by first | assumption | omega) (by first | assumption | omega)) | (exfalso; omega)
    · refine mm_tabIn (off := 40) 54 (mm_dc od_X9_about_0 8 rfl) (by first | assumption | omega | exact hr _ _ rfl | exact mm_r3264 (hr _ _ rfl)) (by omega) (by omega) (by rw [sw2]; rfl) (by omega) ?_
      refine mm_aload_n (mm_dc od_X9_about_0 15 rfl) rfl ?_
      refine mm_getR (ci := 9) (k := 0) (mm_dc od_X9_about_0 16 rfl) rfl in_X9 (by decide) wd_2_45 rfl rfl ?_
      refine mm_getR (ci := 0) (k := 2) (mm_dc od_X9_about_0 17 rfl) rfl in_X0 (by decide) wd_1_40 rfl rfl ?_
      refine mm_iload_n (mm_dc od_X9_about_0 18 rfl) rfl ?_
      refine mm_iald (mm_dc od_X9_about_0 19 rfl) rfl (by first | assumption | omega | exact hr _ _ rfl | exact mm_r3264 (hr _ _ rfl)) (by first | assumption | omega | exact hr _ _ rfl | exact mm_r3264 (hr _ _ rfl)) (by decide) ?_
      refine mm_iret (mm_dc od_X9_about_0 20 rfl) rfl ?_
      first | exact k2 (by first | assumption | omega) (by first | assumption | omega) | exact mm_pm (by omega) rfl (k2 (by first | assumption | omega) (by first | assumption | omega)) | exact k3 (by first | assumption | omega) (by first | assumption | omega) | exact mm_pm (by omega) rfl (k3 (by first | assumption | omega) (by first | assumption | omega)) | exact k4 (by first | assumption | omega) (by first | assumption | omega) | exact mm_pm (by omega) rfl (k4 (by first | assumption | omega) (by first | assumption | omega)) | exact k5 (by first | assumption | omega) (by first | assumption | omega) | exact mm_pm (by omega) rfl (k5 (by first | assumption | omega) (by first | assumption | omega)) | (exfalso; omega)
    · refine mm_tabIn (off := 50) 64 (mm_dc od_X9_about_0 8 rfl) (by first | assumption | omega | exact hr _ _ rfl | exact mm_r3264 (hr _ _ rfl)) (by omega) (by omega) (by rw [sw2]; rfl) (by omega) ?_
      refine mm_aload_n (mm_dc od_X9_about_0 21 rfl) rfl ?_
      refine mm_getR (ci := 9) (k := 0) (mm_dc od_X9_about_0 22 rfl) rfl in_X9 (by decide) wd_2_45 rfl rfl ?_
      refine mm_getR (ci := 0) (k := 3) (mm_dc od_X9_about_0 23 rfl) rfl in_X0 (by decide) wd_1_42 rfl rfl ?_
      refine mm_iload_n (mm_dc od_X9_about_0 24 rfl) rfl ?_
      refine mm_iald (mm_dc od_X9_about_0 25 rfl) rfl (by first | assumption | omega | exact hr _ _ rfl | exact mm_r3264 (hr _ _ rfl)) (by first | assumption | omega | exact hr _ _ rfl | exact mm_r3264 (hr _ _ rfl)) (by decide) ?_
      refine mm_iret (mm_dc od_X9_about_0 26 rfl) rfl ?_
      first | exact k2 (by first | assumption | omega) (by first | assumption | omega) | exact mm_pm (by omega) rfl (k2 (by first | assumption | omega) (by first | assumption | omega)) | exact k3 (by first | assumption | omega) (by first | assumption | omega) | exact mm_pm (by omega) rfl (k3 (by first | assumption | omega) (by first | assumption | omega)) | exact k4 (by first | assumption | omega) (by first | assumption | omega) | exact mm_pm (by omega) rfl (k4 (by first | assumption | omega) (by first | assumption | omega)) | exact k5 (by first | assumption | omega) (by first | assumption | omega) | exact mm_pm (by omega) rfl (k5 (by first | assumption | omega) (by first | assumption | omega)) | (exfalso; omega)
    · refine mm_tabIn (off := 60) 74 (mm_dc od_X9_about_0 8 rfl) (by first | assumption | omega | exact hr _ _ rfl | exact mm_r3264 (hr _ _ rfl)) (by omega) (by omega) (by rw [sw2]; rfl) (by omega) ?_
      refine mm_aload_n (mm_dc od_X9_about_0 27 rfl) rfl ?_
      refine mm_getR (ci := 9) (k := 0) (mm_dc od_X9_about_0 28 rfl) rfl in_X9 (by decide) wd_2_45 rfl rfl ?_
      refine mm_getR (ci := 0) (k := 4) (mm_dc od_X9_about_0 29 rfl) rfl in_X0 (by decide) wd_1_45 rfl rfl ?_
      refine mm_iload_n (mm_dc od_X9_about_0 30 rfl) rfl ?_
      refine mm_iald (mm_dc od_X9_about_0 31 rfl) rfl (by first | assumption | omega | exact hr _ _ rfl | exact mm_r3264 (hr _ _ rfl)) (by first | assumption | omega | exact hr _ _ rfl | exact mm_r3264 (hr _ _ rfl)) (by decide) ?_
      refine mm_iret (mm_dc od_X9_about_0 32 rfl) rfl ?_
      first | exact k2 (by first | assumption | omega) (by first | assumption | omega) | exact mm_pm (by omega) rfl (k2 (by first | assumption | omega) (by first | assumption | omega)) | exact k3 (by first | assumption | omega) (by first | assumption | omega) | exact mm_pm (by omega) rfl (k3 (by first | assumption | omega) (by first | assumption | omega)) | exact k4 (by first | assumption | omega) (by first | assumption | omega) | exact mm_pm (by omega) rfl (k4 (by first | assumption | omega) (by first | assumption | omega)) | exact k5 (by first | assumption | omega) (by first | assumption | omega) | exact mm_pm (by omega) rfl (k5 (by first | assumption | omega) (by first | assumption | omega)) | (exfalso; omega)
  · refine mm_if_ne 13 (mm_dc od_X9_about_0 4 rfl) (by omega) (by first | assumption | omega | exact hr _ _ rfl | exact mm_r3264 (hr _ _ rfl)) (fun h => absurd h (by decide)) (fun _ => ?_)
    refine mm_iconst (mm_dc od_X9_about_0 5 rfl) ?_
    refine mm_iret (mm_dc od_X9_about_0 6 rfl) rfl ?_
    first | exact k1 (by first | assumption | omega) | exact k6 (by first | assumption | omega) (by first | assumption | omega) | (exfalso; omega)
theorem c_X4_addRace {X : Nat × (Nat → Int)} {d : Nat} {Po : mm_Po} {M : mm_M} (x : Int) (y : Int) (by_ : Int) (h0 : 0 ≤ M 10 0 ∧ M 10 0 < 40) (hr : R32 M) (k : Po (some (v_i (M 10 0 + 1))) Lam (mm_up (mm_up (mm_up (mm_up M 11 (M 10 0).toNat x) 12 (M 10 0).toNat y) 13 (M 10 0).toNat by_) 10 0 (M 10 0 + 1))) : mm_E X d 0 0 mi_X4_addRace [v_r 10, v_i x, v_i y, v_i by_] Po Lam M := by
  show mm_G X d 0 0 mi_X4_addRace Po 0 [(0, v_r 10), (1, v_i x), (2, v_i y), (3, v_i by_)] [] Lam M 0 0
  refine mm_aload_n (mm_dc od_X4_addRace_0 0 rfl) rfl ?_
  refine mm_getR (ci := 4) (k := 1) (mm_dc od_X4_addRace_0 1 rfl) rfl in_X4 (by decide) wd_1_86 rfl rfl ?_
  refine mm_aload_n (mm_dc od_X4_addRace_0 2 rfl) rfl ?_
  refine mm_getI (ci := 4) (k := 0) (mm_dc od_X4_addRace_0 3 rfl) rfl in_X4 (by decide) wd_1_84 rfl rfl ?_
  refine mm_iload_n (mm_dc od_X4_addRace_0 4 rfl) rfl ?_
  refine mm_iast (mm_dc od_X4_addRace_0 5 rfl) rfl (by first | assumption | omega | exact hr _ _ rfl | exact mm_r3264 (hr _ _ rfl)) (by first | assumption | omega | exact hr _ _ rfl | exact mm_r3264 (hr _ _ rfl)) (by decide) ?_
  refine mm_aload_n (mm_dc od_X4_addRace_0 6 rfl) rfl ?_
  refine mm_getR (ci := 4) (k := 2) (mm_dc od_X4_addRace_0 7 rfl) rfl in_X4 (by decide) wd_1_87 rfl rfl ?_
  refine mm_aload_n (mm_dc od_X4_addRace_0 8 rfl) rfl ?_
  refine mm_getI (ci := 4) (k := 0) (mm_dc od_X4_addRace_0 9 rfl) rfl in_X4 (by decide) wd_1_84 rfl rfl ?_
  refine mm_cst (st' := [v_i (M 10 0), v_r 12]) rfl ?_
  refine mm_iload_n (mm_dc od_X4_addRace_0 10 rfl) rfl ?_
  refine mm_iast (mm_dc od_X4_addRace_0 11 rfl) rfl (by first | assumption | omega | exact hr _ _ rfl | exact mm_r3264 (hr _ _ rfl)) (by first | assumption | omega | exact hr _ _ rfl | exact mm_r3264 (hr _ _ rfl)) (by decide) ?_
  refine mm_aload_n (mm_dc od_X4_addRace_0 12 rfl) rfl ?_
  refine mm_getR (ci := 4) (k := 3) (mm_dc od_X4_addRace_0 13 rfl) rfl in_X4 (by decide) wd_1_88 rfl rfl ?_
  refine mm_aload_n (mm_dc od_X4_addRace_0 14 rfl) rfl ?_
  refine mm_getI (ci := 4) (k := 0) (mm_dc od_X4_addRace_0 15 rfl) rfl in_X4 (by decide) wd_1_84 rfl rfl ?_
  refine mm_cst (st' := [v_i (M 10 0), v_r 13]) rfl ?_
  refine mm_iload_n (mm_dc od_X4_addRace_0 16 rfl) rfl ?_
  refine mm_iast (mm_dc od_X4_addRace_0 17 rfl) rfl (by first | assumption | omega | exact hr _ _ rfl | exact mm_r3264 (hr _ _ rfl)) (by first | assumption | omega | exact hr _ _ rfl | exact mm_r3264 (hr _ _ rfl)) (by decide) ?_
  refine mm_aload_n (mm_dc od_X4_addRace_0 18 rfl) rfl ?_
  refine mm_dup_r (mm_dc od_X4_addRace_0 19 rfl) ?_
  refine mm_getI (ci := 4) (k := 0) (mm_dc od_X4_addRace_0 20 rfl) rfl in_X4 (by decide) wd_1_84 rfl rfl ?_
  refine mm_cst (st' := [v_i (M 10 0), v_r 10]) rfl ?_
  refine mm_iconst (mm_dc od_X4_addRace_0 21 rfl) ?_
  refine mm_iadd (mm_dc od_X4_addRace_0 22 rfl) ?_
  refine mm_putI (ci := 4) (k := 0) (mm_dc od_X4_addRace_0 23 rfl) rfl in_X4 tyX4_ok nmX4 (by decide) wd_1_84 rfl rfl rfl rfl ?_
  refine mm_aload_n (mm_dc od_X4_addRace_0 24 rfl) rfl ?_
  refine mm_getI (ci := 4) (k := 0) (mm_dc od_X4_addRace_0 25 rfl) rfl in_X4 (by decide) wd_1_84 rfl rfl ?_
  refine mm_cst (st' := [v_i ((M 10 0) + 1)]) rfl ?_
  refine mm_iret (mm_dc od_X4_addRace_0 26 rfl) rfl ?_
  exact mm_pi (by first | rfl | omega | (split <;> omega) | grind) k
theorem c_X9_race {X : Nat × (Nat → Int)} {d : Nat} {Po : mm_Po} {M : mm_M} (x : Int) (y : Int) (by_ : Int) (hx : mm_r32 x) (hy : mm_r32 y) (hby_ : mm_r32 by_) (h0 : 0 ≤ M 10 0) (hr : R32 M) (k1 : (¬ ((0 ≤ x ∧ x < M 1 0) ∧ (0 ≤ y ∧ y < M 1 0))) → Po (some (v_i (-1))) Lam M) (k2 : ((0 ≤ x ∧ x < M 1 0) ∧ (0 ≤ y ∧ y < M 1 0)) → (x = y ∨ ¬ (-999 ≤ by_ ∧ by_ ≤ 999)) → Po (some (v_i (-2))) Lam M) (k3 : ((0 ≤ x ∧ x < M 1 0) ∧ (0 ≤ y ∧ y < M 1 0)) → (x ≠ y ∧ (-999 ≤ by_ ∧ by_ ≤ 999)) → 40 ≤ M 10 0 → Po (some (v_i (-4))) Lam M) (k4 : ((0 ≤ x ∧ x < M 1 0) ∧ (0 ≤ y ∧ y < M 1 0)) → (x ≠ y ∧ (-999 ≤ by_ ∧ by_ ≤ 999)) → M 10 0 < 40 → Po (some (v_i (M 10 0 + 1))) Lam (mm_up (mm_up (mm_up (mm_up M 11 (M 10 0).toNat x) 12 (M 10 0).toNat y) 13 (M 10 0).toNat by_) 10 0 (M 10 0 + 1))) : mm_E X (d + 1) 0 0 mi_X9_race [v_r 0, v_i x, v_i y, v_i by_] Po Lam M := by
  show mm_G X (d + 1) 0 0 mi_X9_race Po 0 [(0, v_r 0), (1, v_i x), (2, v_i y), (3, v_i by_)] [] Lam M 0 0
  refine mm_aload_n (mm_dc od_X9_race_0 0 rfl) rfl ?_
  refine mm_getR (ci := 9) (k := 0) (mm_dc od_X9_race_0 1 rfl) rfl in_X9 (by decide) wd_2_45 rfl rfl ?_
  refine mm_iload_n (mm_dc od_X9_race_0 2 rfl) rfl ?_
  refine mm_callV (b := 1) (mi' := mi_X0_hasOar) [v_i x] [] (mm_dc od_X9_race_0 3 rfl) rfl wd_2_99 wd_2_100 wd_2_101 wd_1_2 wd_2_102 yk_X0_hasOar rfl rfl rfl (Nat.le_of_ble_eq_true rfl) rfl (by decide) (c_X0_hasOar x (by first | assumption | omega | exact hr _ _ rfl | exact mm_r3264 (hr _ _ rfl)) (by first | assumption | omega | exact hr _ _ rfl | exact mm_r3264 (hr _ _ rfl)) (fun c1 => ⟨Nat.le_refl _, ?_⟩) (fun c1 => ⟨Nat.le_refl _, ?_⟩))
  · refine mm_if_eq 22 (mm_dc od_X9_race_0 4 rfl) (by omega) (by first | assumption | omega | exact hr _ _ rfl | exact mm_r3264 (hr _ _ rfl)) (fun h => absurd h (by decide)) (fun _ => ?_)
    refine mm_aload_n (mm_dc od_X9_race_0 5 rfl) rfl ?_
    refine mm_getR (ci := 9) (k := 0) (mm_dc od_X9_race_0 6 rfl) rfl in_X9 (by decide) wd_2_45 rfl rfl ?_
    refine mm_iload_n (mm_dc od_X9_race_0 7 rfl) rfl ?_
    refine mm_callV (b := 1) (mi' := mi_X0_hasOar) [v_i y] [] (mm_dc od_X9_race_0 8 rfl) rfl wd_2_99 wd_2_100 wd_2_101 wd_1_2 wd_2_102 yk_X0_hasOar rfl rfl rfl (Nat.le_of_ble_eq_true rfl) rfl (by decide) (c_X0_hasOar y (by first | assumption | omega | exact hr _ _ rfl | exact mm_r3264 (hr _ _ rfl)) (by first | assumption | omega | exact hr _ _ rfl | exact mm_r3264 (hr _ _ rfl)) (fun c2 => ⟨Nat.le_refl _, ?_⟩) (fun c2 => ⟨Nat.le_refl _, ?_⟩))
    · refine mm_if_ne 24 (mm_dc od_X9_race_0 9 rfl) (by omega) (by first | assumption | omega | exact hr _ _ rfl | exact mm_r3264 (hr _ _ rfl)) (fun _ => ?_) (fun h => absurd h (by decide))
      refine mm_iload_n (mm_dc od_X9_race_0 12 rfl) rfl ?_
      refine mm_iload_n (mm_dc od_X9_race_0 13 rfl) rfl ?_
      refine mm_icmp_eq 42 (mm_dc od_X9_race_0 14 rfl) (by omega) (by first | assumption | omega | exact hr _ _ rfl | exact mm_r3264 (hr _ _ rfl)) (by first | assumption | omega | exact hr _ _ rfl | exact mm_r3264 (hr _ _ rfl)) (fun c3 => ?_) (fun c3 => ?_)
      · refine mm_bipush (mm_dc od_X9_race_0 20 rfl) (by decide) ?_
        refine mm_iret (mm_dc od_X9_race_0 21 rfl) rfl ?_
        first | exact k2 (by first | assumption | omega) (by first | assumption | omega) | (exfalso; omega)
      · refine mm_iload_n (mm_dc od_X9_race_0 15 rfl) rfl ?_
        refine mm_sipush (mm_dc od_X9_race_0 16 rfl) (by decide) ?_
        refine mm_sipush (mm_dc od_X9_race_0 17 rfl) (by decide) ?_
        refine mm_callS (mi' := mi_X9_within) [v_i by_, v_i (-999), v_i 999] [] (mm_dc od_X9_race_0 18 rfl) rfl wd_2_80 wd_2_81 wd_1_1 wd_2_82 yk_X9_within (Nat.le_of_ble_eq_true rfl) rfl (by decide) (c_X9_within by_ (-999) 999 (by first | assumption | omega | exact hr _ _ rfl | exact mm_r3264 (hr _ _ rfl)) (by first | assumption | omega | exact hr _ _ rfl | exact mm_r3264 (hr _ _ rfl)) (by first | assumption | omega | exact hr _ _ rfl | exact mm_r3264 (hr _ _ rfl)) (fun c4 => ⟨Nat.le_refl _, ?_⟩) (fun c4 => ⟨Nat.le_refl _, ?_⟩))
        · refine mm_if_ne 45 (mm_dc od_X9_race_0 19 rfl) (by omega) (by first | assumption | omega | exact hr _ _ rfl | exact mm_r3264 (hr _ _ rfl)) (fun _ => ?_) (fun h => absurd h (by decide))
          refine mm_aload_n (mm_dc od_X9_race_0 22 rfl) rfl ?_
          refine mm_getR (ci := 9) (k := 1) (mm_dc od_X9_race_0 23 rfl) rfl in_X9 (by decide) wd_2_46 rfl rfl ?_
          refine mm_getI (ci := 4) (k := 0) (mm_dc od_X9_race_0 24 rfl) rfl in_X4 (by decide) wd_1_85 rfl rfl ?_
          refine mm_bipush (mm_dc od_X9_race_0 25 rfl) (by decide) ?_
          refine mm_icmp_ge 70 (mm_dc od_X9_race_0 26 rfl) (by omega) (by first | assumption | omega | exact hr _ _ rfl | exact mm_r3264 (hr _ _ rfl)) (by first | assumption | omega | exact hr _ _ rfl | exact mm_r3264 (hr _ _ rfl)) (fun c5 => ?_) (fun c5 => ?_)
          · refine mm_bipush (mm_dc od_X9_race_0 34 rfl) (by decide) ?_
            refine mm_iret (mm_dc od_X9_race_0 35 rfl) rfl ?_
            first | exact k3 (by first | assumption | omega) (by first | assumption | omega) (by first | assumption | omega) | (exfalso; omega)
          · refine mm_aload_n (mm_dc od_X9_race_0 27 rfl) rfl ?_
            refine mm_getR (ci := 9) (k := 1) (mm_dc od_X9_race_0 28 rfl) rfl in_X9 (by decide) wd_2_46 rfl rfl ?_
            refine mm_iload_n (mm_dc od_X9_race_0 29 rfl) rfl ?_
            refine mm_iload_n (mm_dc od_X9_race_0 30 rfl) rfl ?_
            refine mm_iload_n (mm_dc od_X9_race_0 31 rfl) rfl ?_
            refine mm_callV (b := 10) (mi' := mi_X4_addRace) [v_i x, v_i y, v_i by_] [] (mm_dc od_X9_race_0 32 rfl) rfl wd_2_151 wd_2_152 wd_2_153 wd_1_3 wd_2_154 yk_X4_addRace rfl rfl rfl (Nat.le_of_ble_eq_true rfl) rfl (by decide) (c_X4_addRace x y by_ (by first | assumption | omega | exact hr _ _ rfl | exact mm_r3264 (hr _ _ rfl)) (by first | assumption | omega | exact hr _ _ rfl | exact mm_r3264 (hr _ _ rfl)) ⟨Nat.le_refl _, ?_⟩)
            refine mm_goto 72 (mm_dc od_X9_race_0 33 rfl) (by omega) ?_
            refine mm_iret (mm_dc od_X9_race_0 35 rfl) rfl ?_
            first | exact k4 (by first | assumption | omega) (by first | assumption | omega) (by first | assumption | omega) | exact mm_pm (by omega) rfl (k4 (by first | assumption | omega) (by first | assumption | omega) (by first | assumption | omega)) | (exfalso; omega)
        · refine mm_if_ne 45 (mm_dc od_X9_race_0 19 rfl) (by omega) (by first | assumption | omega | exact hr _ _ rfl | exact mm_r3264 (hr _ _ rfl)) (fun h => absurd h (by decide)) (fun _ => ?_)
          refine mm_bipush (mm_dc od_X9_race_0 20 rfl) (by decide) ?_
          refine mm_iret (mm_dc od_X9_race_0 21 rfl) rfl ?_
          first | exact k2 (by first | assumption | omega) (by first | assumption | omega) | (exfalso; omega)
    · refine mm_if_ne 24 (mm_dc od_X9_race_0 9 rfl) (by omega) (by first | assumption | omega | exact hr _ _ rfl | exact mm_r3264 (hr _ _ rfl)) (fun h => absurd h (by decide)) (fun _ => ?_)
      refine mm_iconst (mm_dc od_X9_race_0 10 rfl) ?_
      refine mm_iret (mm_dc od_X9_race_0 11 rfl) rfl ?_
      first | exact k1 (by first | assumption | omega) | (exfalso; omega)
  · refine mm_if_eq 22 (mm_dc od_X9_race_0 4 rfl) (by omega) (by first | assumption | omega | exact hr _ _ rfl | exact mm_r3264 (hr _ _ rfl)) (fun _ => ?_) (fun h => absurd h (by decide))
    refine mm_iconst (mm_dc od_X9_race_0 10 rfl) ?_
    refine mm_iret (mm_dc od_X9_race_0 11 rfl) rfl ?_
    first | exact k1 (by first | assumption | omega) | (exfalso; omega)
theorem c_X9_unrace {X : Nat × (Nat → Int)} {d : Nat} {Po : mm_Po} {M : mm_M}  (h0 : 0 ≤ M 10 0) (hr : R32 M) (k1 : M 10 0 = 0 → Po (some (v_i (-3))) Lam M) (k2 : M 10 0 ≠ 0 → Po (some (v_i (M 10 0 - 1))) Lam (mm_up M 10 0 (M 10 0 - 1))) : mm_E X d 0 0 mi_X9_unrace [v_r 0] Po Lam M := by
  show mm_G X d 0 0 mi_X9_unrace Po 0 [(0, v_r 0)] [] Lam M 0 0
  refine mm_aload_n (mm_dc od_X9_unrace_0 0 rfl) rfl ?_
  refine mm_getR (ci := 9) (k := 1) (mm_dc od_X9_unrace_0 1 rfl) rfl in_X9 (by decide) wd_2_46 rfl rfl ?_
  refine mm_getI (ci := 4) (k := 0) (mm_dc od_X9_unrace_0 2 rfl) rfl in_X4 (by decide) wd_1_85 rfl rfl ?_
  refine mm_if_ne 13 (mm_dc od_X9_unrace_0 3 rfl) (by omega) (by first | assumption | omega | exact hr _ _ rfl | exact mm_r3264 (hr _ _ rfl)) (fun c1 => ?_) (fun c1 => ?_)
  · refine mm_aload_n (mm_dc od_X9_unrace_0 6 rfl) rfl ?_
    refine mm_getR (ci := 9) (k := 1) (mm_dc od_X9_unrace_0 7 rfl) rfl in_X9 (by decide) wd_2_46 rfl rfl ?_
    refine mm_dup_r (mm_dc od_X9_unrace_0 8 rfl) ?_
    refine mm_getI (ci := 4) (k := 0) (mm_dc od_X9_unrace_0 9 rfl) rfl in_X4 (by decide) wd_1_85 rfl rfl ?_
    refine mm_iconst (mm_dc od_X9_unrace_0 10 rfl) ?_
    refine mm_isub (mm_dc od_X9_unrace_0 11 rfl) ?_
    refine mm_putI (ci := 4) (k := 0) (mm_dc od_X9_unrace_0 12 rfl) rfl in_X4 tyX4_ok nmX4 (by decide) wd_1_85 rfl rfl rfl rfl ?_
    refine mm_aload_n (mm_dc od_X9_unrace_0 13 rfl) rfl ?_
    refine mm_getR (ci := 9) (k := 1) (mm_dc od_X9_unrace_0 14 rfl) rfl in_X9 (by decide) wd_2_46 rfl rfl ?_
    refine mm_getI (ci := 4) (k := 0) (mm_dc od_X9_unrace_0 15 rfl) rfl in_X4 (by decide) wd_1_85 rfl rfl ?_
    refine mm_cst (st' := [v_i ((M 10 0) - 1)]) rfl ?_
    refine mm_iret (mm_dc od_X9_unrace_0 16 rfl) rfl ?_
    first | exact k2 (by first | assumption | omega) | exact mm_pm (by omega) rfl (k2 (by first | assumption | omega)) | (exfalso; omega)
  · refine mm_bipush (mm_dc od_X9_unrace_0 4 rfl) (by decide) ?_
    refine mm_iret (mm_dc od_X9_unrace_0 5 rfl) rfl ?_
    first | exact k1 (by first | assumption | omega) | (exfalso; omega)
theorem c_X9_water {X : Nat × (Nat → Int)} {d : Nat} {Po : mm_Po} {M : mm_M} (dd : Int) (stream : Int) (wind : Int) (hdd : mm_r32 dd) (hstream : mm_r32 stream) (hwind : mm_r32 wind) (hr : R32 M) (k1 : (¬ (0 ≤ dd ∧ dd ≤ 29)) → Po (some (v_i (-1))) Lam M) (k2 : (0 ≤ dd ∧ dd ≤ 29) → (¬ ((0 ≤ stream ∧ stream ≤ 200) ∧ (0 ≤ wind ∧ wind ≤ 12))) → Po (some (v_i (-2))) Lam M) (k3 : (0 ≤ dd ∧ dd ≤ 29) → ((0 ≤ stream ∧ stream ≤ 200) ∧ (0 ≤ wind ∧ wind ≤ 12)) → Po (some (v_i 0)) Lam (mm_up (mm_up M 22 dd.toNat stream) 23 dd.toNat wind)) : mm_E X (d + 1) 0 0 mi_X9_water [v_r 0, v_i dd, v_i stream, v_i wind] Po Lam M := by
  show mm_G X (d + 1) 0 0 mi_X9_water Po 0 [(0, v_r 0), (1, v_i dd), (2, v_i stream), (3, v_i wind)] [] Lam M 0 0
  refine mm_iload_n (mm_dc od_X9_water_0 0 rfl) rfl ?_
  refine mm_iconst (mm_dc od_X9_water_0 1 rfl) ?_
  refine mm_bipush (mm_dc od_X9_water_0 2 rfl) (by decide) ?_
  refine mm_callS (mi' := mi_X9_within) [v_i dd, v_i 0, v_i 29] [] (mm_dc od_X9_water_0 3 rfl) rfl wd_2_80 wd_2_81 wd_1_1 wd_2_82 yk_X9_within (Nat.le_of_ble_eq_true rfl) rfl (by decide) (c_X9_within dd 0 29 (by first | assumption | omega | exact hr _ _ rfl | exact mm_r3264 (hr _ _ rfl)) (by first | assumption | omega | exact hr _ _ rfl | exact mm_r3264 (hr _ _ rfl)) (by first | assumption | omega | exact hr _ _ rfl | exact mm_r3264 (hr _ _ rfl)) (fun c1 => ⟨Nat.le_refl _, ?_⟩) (fun c1 => ⟨Nat.le_refl _, ?_⟩))
  · refine mm_if_ne 12 (mm_dc od_X9_water_0 4 rfl) (by omega) (by first | assumption | omega | exact hr _ _ rfl | exact mm_r3264 (hr _ _ rfl)) (fun _ => ?_) (fun h => absurd h (by decide))
    refine mm_iload_n (mm_dc od_X9_water_0 7 rfl) rfl ?_
    refine mm_iconst (mm_dc od_X9_water_0 8 rfl) ?_
    refine mm_sipush (mm_dc od_X9_water_0 9 rfl) (by decide) ?_
    refine mm_callS (mi' := mi_X9_within) [v_i stream, v_i 0, v_i 200] [] (mm_dc od_X9_water_0 10 rfl) rfl wd_2_80 wd_2_81 wd_1_1 wd_2_82 yk_X9_within (Nat.le_of_ble_eq_true rfl) rfl (by decide) (c_X9_within stream 0 200 (by first | assumption | omega | exact hr _ _ rfl | exact mm_r3264 (hr _ _ rfl)) (by first | assumption | omega | exact hr _ _ rfl | exact mm_r3264 (hr _ _ rfl)) (by first | assumption | omega | exact hr _ _ rfl | exact mm_r3264 (hr _ _ rfl)) (fun c2 => ⟨Nat.le_refl _, ?_⟩) (fun c2 => ⟨Nat.le_refl _, ?_⟩))
    · refine mm_if_eq 33 (mm_dc od_X9_water_0 11 rfl) (by omega) (by first | assumption | omega | exact hr _ _ rfl | exact mm_r3264 (hr _ _ rfl)) (fun h => absurd h (by decide)) (fun _ => ?_)
      refine mm_iload_n (mm_dc od_X9_water_0 12 rfl) rfl ?_
      refine mm_iconst (mm_dc od_X9_water_0 13 rfl) ?_
      refine mm_bipush (mm_dc od_X9_water_0 14 rfl) (by decide) ?_
      refine mm_callS (mi' := mi_X9_within) [v_i wind, v_i 0, v_i 12] [] (mm_dc od_X9_water_0 15 rfl) rfl wd_2_80 wd_2_81 wd_1_1 wd_2_82 yk_X9_within (Nat.le_of_ble_eq_true rfl) rfl (by decide) (c_X9_within wind 0 12 (by first | assumption | omega | exact hr _ _ rfl | exact mm_r3264 (hr _ _ rfl)) (by first | assumption | omega | exact hr _ _ rfl | exact mm_r3264 (hr _ _ rfl)) (by first | assumption | omega | exact hr _ _ rfl | exact mm_r3264 (hr _ _ rfl)) (fun c3 => ⟨Nat.le_refl _, ?_⟩) (fun c3 => ⟨Nat.le_refl _, ?_⟩))
      · refine mm_if_ne 36 (mm_dc od_X9_water_0 16 rfl) (by omega) (by first | assumption | omega | exact hr _ _ rfl | exact mm_r3264 (hr _ _ rfl)) (fun _ => ?_) (fun h => absurd h (by decide))
        refine mm_aload_n (mm_dc od_X9_water_0 19 rfl) rfl ?_
        refine mm_getR (ci := 9) (k := 3) (mm_dc od_X9_water_0 20 rfl) rfl in_X9 (by decide) wd_2_48 rfl rfl ?_
        refine mm_getR (ci := 6) (k := 0) (mm_dc od_X9_water_0 21 rfl) rfl in_X6 (by decide) wd_1_136 rfl rfl ?_
        refine mm_iload_n (mm_dc od_X9_water_0 22 rfl) rfl ?_
        refine mm_iload_n (mm_dc od_X9_water_0 23 rfl) rfl ?_
        refine mm_iast (mm_dc od_X9_water_0 24 rfl) rfl (by first | assumption | omega | exact hr _ _ rfl | exact mm_r3264 (hr _ _ rfl)) (by first | assumption | omega | exact hr _ _ rfl | exact mm_r3264 (hr _ _ rfl)) (by decide) ?_
        refine mm_aload_n (mm_dc od_X9_water_0 25 rfl) rfl ?_
        refine mm_getR (ci := 9) (k := 3) (mm_dc od_X9_water_0 26 rfl) rfl in_X9 (by decide) wd_2_48 rfl rfl ?_
        refine mm_getR (ci := 6) (k := 1) (mm_dc od_X9_water_0 27 rfl) rfl in_X6 (by decide) wd_1_138 rfl rfl ?_
        refine mm_iload_n (mm_dc od_X9_water_0 28 rfl) rfl ?_
        refine mm_iload_n (mm_dc od_X9_water_0 29 rfl) rfl ?_
        refine mm_iast (mm_dc od_X9_water_0 30 rfl) rfl (by first | assumption | omega | exact hr _ _ rfl | exact mm_r3264 (hr _ _ rfl)) (by first | assumption | omega | exact hr _ _ rfl | exact mm_r3264 (hr _ _ rfl)) (by decide) ?_
        refine mm_iconst (mm_dc od_X9_water_0 31 rfl) ?_
        refine mm_iret (mm_dc od_X9_water_0 32 rfl) rfl ?_
        first | exact k3 (by first | assumption | omega) (by first | assumption | omega) | (exfalso; omega)
      · refine mm_if_ne 36 (mm_dc od_X9_water_0 16 rfl) (by omega) (by first | assumption | omega | exact hr _ _ rfl | exact mm_r3264 (hr _ _ rfl)) (fun h => absurd h (by decide)) (fun _ => ?_)
        refine mm_bipush (mm_dc od_X9_water_0 17 rfl) (by decide) ?_
        refine mm_iret (mm_dc od_X9_water_0 18 rfl) rfl ?_
        first | exact k2 (by first | assumption | omega) (by first | assumption | omega) | (exfalso; omega)
    · refine mm_if_eq 33 (mm_dc od_X9_water_0 11 rfl) (by omega) (by first | assumption | omega | exact hr _ _ rfl | exact mm_r3264 (hr _ _ rfl)) (fun _ => ?_) (fun h => absurd h (by decide))
      refine mm_bipush (mm_dc od_X9_water_0 17 rfl) (by decide) ?_
      refine mm_iret (mm_dc od_X9_water_0 18 rfl) rfl ?_
      first | exact k2 (by first | assumption | omega) (by first | assumption | omega) | (exfalso; omega)
  · refine mm_if_ne 12 (mm_dc od_X9_water_0 4 rfl) (by omega) (by first | assumption | omega | exact hr _ _ rfl | exact mm_r3264 (hr _ _ rfl)) (fun h => absurd h (by decide)) (fun _ => ?_)
    refine mm_iconst (mm_dc od_X9_water_0 5 rfl) ?_
    refine mm_iret (mm_dc od_X9_water_0 6 rfl) rfl ?_
    first | exact k1 (by first | assumption | omega) | (exfalso; omega)
theorem c_X9_day {X : Nat × (Nat → Int)} {d : Nat} {Po : mm_Po} {M : mm_M} (dd : Int) (hdd : mm_r32 dd) (hr : R32 M) (k1 : (¬ (M 0 9 ≤ dd ∧ dd ≤ 999)) → Po (some (v_i (-2))) Lam M) (k2 : (M 0 9 ≤ dd ∧ dd ≤ 999) → Po (some (v_i (M 0 9))) Lam (mm_up M 0 9 dd)) : mm_E X (d + 1) 0 0 mi_X9_day [v_r 0, v_i dd] Po Lam M := by
  show mm_G X (d + 1) 0 0 mi_X9_day Po 0 [(0, v_r 0), (1, v_i dd)] [] Lam M 0 0
  refine mm_iload_n (mm_dc od_X9_day_0 0 rfl) rfl ?_
  refine mm_aload_n (mm_dc od_X9_day_0 1 rfl) rfl ?_
  refine mm_getI (ci := 9) (k := 9) (mm_dc od_X9_day_0 2 rfl) rfl in_X9 (by decide) wd_2_54 rfl rfl ?_
  refine mm_sipush (mm_dc od_X9_day_0 3 rfl) (by decide) ?_
  refine mm_callS (mi' := mi_X9_within) [v_i dd, v_i (M 0 9), v_i 999] [] (mm_dc od_X9_day_0 4 rfl) rfl wd_2_80 wd_2_81 wd_1_1 wd_2_82 yk_X9_within (Nat.le_of_ble_eq_true rfl) rfl (by decide) (c_X9_within dd (M 0 9) 999 (by first | assumption | omega | exact hr _ _ rfl | exact mm_r3264 (hr _ _ rfl)) (by first | assumption | omega | exact hr _ _ rfl | exact mm_r3264 (hr _ _ rfl)) (by first | assumption | omega | exact hr _ _ rfl | exact mm_r3264 (hr _ _ rfl)) (fun c1 => ⟨Nat.le_refl _, ?_⟩) (fun c1 => ⟨Nat.le_refl _, ?_⟩))
  · refine mm_if_ne 17 (mm_dc od_X9_day_0 5 rfl) (by omega) (by first | assumption | omega | exact hr _ _ rfl | exact mm_r3264 (hr _ _ rfl)) (fun _ => ?_) (fun h => absurd h (by decide))
    refine mm_aload_n (mm_dc od_X9_day_0 8 rfl) rfl ?_
    refine mm_getI (ci := 9) (k := 9) (mm_dc od_X9_day_0 9 rfl) rfl in_X9 (by decide) wd_2_54 rfl rfl ?_
    refine mm_istore_n (L' := [(0, v_r 0), (1, v_i dd), (2, v_i (M 0 9))]) (mm_dc od_X9_day_0 10 rfl) (by decide) rfl ?_
    refine mm_aload_n (mm_dc od_X9_day_0 11 rfl) rfl ?_
    refine mm_iload_n (mm_dc od_X9_day_0 12 rfl) rfl ?_
    refine mm_putI (ci := 9) (k := 9) (mm_dc od_X9_day_0 13 rfl) rfl in_X9 tyX9_ok nmX9 (by decide) wd_2_54 rfl rfl rfl rfl ?_
    refine mm_iload_n (mm_dc od_X9_day_0 14 rfl) rfl ?_
    refine mm_iret (mm_dc od_X9_day_0 15 rfl) rfl ?_
    first | exact k2 (by first | assumption | omega) | exact mm_pm (by omega) rfl (k2 (by first | assumption | omega)) | (exfalso; omega)
  · refine mm_if_ne 17 (mm_dc od_X9_day_0 5 rfl) (by omega) (by first | assumption | omega | exact hr _ _ rfl | exact mm_r3264 (hr _ _ rfl)) (fun h => absurd h (by decide)) (fun _ => ?_)
    refine mm_bipush (mm_dc od_X9_day_0 6 rfl) (by decide) ?_
    refine mm_iret (mm_dc od_X9_day_0 7 rfl) rfl ?_
    first | exact k1 (by first | assumption | omega) | (exfalso; omega)
theorem c_X9_near {X : Nat × (Nat → Int)} {d : Nat} {Po : mm_Po} {M : mm_M} (minutes : Int) (hminutes : mm_r32 minutes) (hr : R32 M) (k1 : (¬ (0 ≤ minutes ∧ minutes ≤ 999)) → Po (some (v_i (-2))) Lam M) (k2 : (0 ≤ minutes ∧ minutes ≤ 999) → Po (some (v_i (M 43 1))) Lam (mm_up M 43 1 minutes)) : mm_E X (d + 1) 0 0 mi_X9_near [v_r 0, v_i minutes] Po Lam M := by
  show mm_G X (d + 1) 0 0 mi_X9_near Po 0 [(0, v_r 0), (1, v_i minutes)] [] Lam M 0 0
  refine mm_iload_n (mm_dc od_X9_near_0 0 rfl) rfl ?_
  refine mm_iconst (mm_dc od_X9_near_0 1 rfl) ?_
  refine mm_sipush (mm_dc od_X9_near_0 2 rfl) (by decide) ?_
  refine mm_callS (mi' := mi_X9_within) [v_i minutes, v_i 0, v_i 999] [] (mm_dc od_X9_near_0 3 rfl) rfl wd_2_80 wd_2_81 wd_1_1 wd_2_82 yk_X9_within (Nat.le_of_ble_eq_true rfl) rfl (by decide) (c_X9_within minutes 0 999 (by first | assumption | omega | exact hr _ _ rfl | exact mm_r3264 (hr _ _ rfl)) (by first | assumption | omega | exact hr _ _ rfl | exact mm_r3264 (hr _ _ rfl)) (by first | assumption | omega | exact hr _ _ rfl | exact mm_r3264 (hr _ _ rfl)) (fun c1 => ⟨Nat.le_refl _, ?_⟩) (fun c1 => ⟨Nat.le_refl _, ?_⟩))
  · refine mm_if_ne 14 (mm_dc od_X9_near_0 4 rfl) (by omega) (by first | assumption | omega | exact hr _ _ rfl | exact mm_r3264 (hr _ _ rfl)) (fun _ => ?_) (fun h => absurd h (by decide))
    refine mm_aload_n (mm_dc od_X9_near_0 7 rfl) rfl ?_
    refine mm_getR (ci := 9) (k := 7) (mm_dc od_X9_near_0 8 rfl) rfl in_X9 (by decide) wd_2_52 rfl rfl ?_
    refine mm_getI (ci := 2) (k := 1) (mm_dc od_X9_near_0 9 rfl) rfl in_X2 (by decide) wd_2_10 rfl rfl ?_
    refine mm_istore_n (L' := [(0, v_r 0), (1, v_i minutes), (2, v_i (M 43 1))]) (mm_dc od_X9_near_0 10 rfl) (by decide) rfl ?_
    refine mm_aload_n (mm_dc od_X9_near_0 11 rfl) rfl ?_
    refine mm_getR (ci := 9) (k := 7) (mm_dc od_X9_near_0 12 rfl) rfl in_X9 (by decide) wd_2_52 rfl rfl ?_
    refine mm_iload_n (mm_dc od_X9_near_0 13 rfl) rfl ?_
    refine mm_putI (ci := 2) (k := 1) (mm_dc od_X9_near_0 14 rfl) rfl in_X2 tyX2_ok nmX2 (by decide) wd_2_10 rfl rfl rfl rfl ?_
    refine mm_iload_n (mm_dc od_X9_near_0 15 rfl) rfl ?_
    refine mm_iret (mm_dc od_X9_near_0 16 rfl) rfl ?_
    first | exact k2 (by first | assumption | omega) | exact mm_pm (by omega) rfl (k2 (by first | assumption | omega)) | (exfalso; omega)
  · refine mm_if_ne 14 (mm_dc od_X9_near_0 4 rfl) (by omega) (by first | assumption | omega | exact hr _ _ rfl | exact mm_r3264 (hr _ _ rfl)) (fun h => absurd h (by decide)) (fun _ => ?_)
    refine mm_bipush (mm_dc od_X9_near_0 5 rfl) (by decide) ?_
    refine mm_iret (mm_dc od_X9_near_0 6 rfl) rfl ?_
    first | exact k1 (by first | assumption | omega) | (exfalso; omega)
theorem c_X2_addHeat {X : Nat × (Nat → Int)} {d : Nat} {Po : mm_Po} {M : mm_M} (b : Int) (minute : Int) (h0 : 0 ≤ M 43 0 ∧ M 43 0 < 20) (hr : R32 M) (k : Po (some (v_i (M 43 0))) Lam (mm_up (mm_up (mm_up M 44 (M 43 0).toNat b) 45 (M 43 0).toNat minute) 43 0 (M 43 0 + 1))) : mm_E X d 0 0 mi_X2_addHeat [v_r 43, v_i b, v_i minute] Po Lam M := by
  show mm_G X d 0 0 mi_X2_addHeat Po 0 [(0, v_r 43), (1, v_i b), (2, v_i minute)] [] Lam M 0 0
  refine mm_aload_n (mm_dc od_X2_addHeat_0 0 rfl) rfl ?_
  refine mm_getR (ci := 2) (k := 2) (mm_dc od_X2_addHeat_0 1 rfl) rfl in_X2 (by decide) wd_2_11 rfl rfl ?_
  refine mm_aload_n (mm_dc od_X2_addHeat_0 2 rfl) rfl ?_
  refine mm_getI (ci := 2) (k := 0) (mm_dc od_X2_addHeat_0 3 rfl) rfl in_X2 (by decide) wd_2_7 rfl rfl ?_
  refine mm_iload_n (mm_dc od_X2_addHeat_0 4 rfl) rfl ?_
  refine mm_iast (mm_dc od_X2_addHeat_0 5 rfl) rfl (by first | assumption | omega | exact hr _ _ rfl | exact mm_r3264 (hr _ _ rfl)) (by first | assumption | omega | exact hr _ _ rfl | exact mm_r3264 (hr _ _ rfl)) (by decide) ?_
  refine mm_aload_n (mm_dc od_X2_addHeat_0 6 rfl) rfl ?_
  refine mm_getR (ci := 2) (k := 3) (mm_dc od_X2_addHeat_0 7 rfl) rfl in_X2 (by decide) wd_2_12 rfl rfl ?_
  refine mm_aload_n (mm_dc od_X2_addHeat_0 8 rfl) rfl ?_
  refine mm_getI (ci := 2) (k := 0) (mm_dc od_X2_addHeat_0 9 rfl) rfl in_X2 (by decide) wd_2_7 rfl rfl ?_
  refine mm_cst (st' := [v_i (M 43 0), v_r 45]) rfl ?_
  refine mm_iload_n (mm_dc od_X2_addHeat_0 10 rfl) rfl ?_
  refine mm_iast (mm_dc od_X2_addHeat_0 11 rfl) rfl (by first | assumption | omega | exact hr _ _ rfl | exact mm_r3264 (hr _ _ rfl)) (by first | assumption | omega | exact hr _ _ rfl | exact mm_r3264 (hr _ _ rfl)) (by decide) ?_
  refine mm_aload_n (mm_dc od_X2_addHeat_0 12 rfl) rfl ?_
  refine mm_dup_r (mm_dc od_X2_addHeat_0 13 rfl) ?_
  refine mm_getI (ci := 2) (k := 0) (mm_dc od_X2_addHeat_0 14 rfl) rfl in_X2 (by decide) wd_2_7 rfl rfl ?_
  refine mm_cst (st' := [v_i (M 43 0), v_r 43]) rfl ?_
  refine mm_iconst (mm_dc od_X2_addHeat_0 15 rfl) ?_
  refine mm_iadd (mm_dc od_X2_addHeat_0 16 rfl) ?_
  refine mm_putI (ci := 2) (k := 0) (mm_dc od_X2_addHeat_0 17 rfl) rfl in_X2 tyX2_ok nmX2 (by decide) wd_2_7 rfl rfl rfl rfl ?_
  refine mm_aload_n (mm_dc od_X2_addHeat_0 18 rfl) rfl ?_
  refine mm_getI (ci := 2) (k := 0) (mm_dc od_X2_addHeat_0 19 rfl) rfl in_X2 (by decide) wd_2_7 rfl rfl ?_
  refine mm_cst (st' := [v_i ((M 43 0) + 1)]) rfl ?_
  refine mm_iconst (mm_dc od_X2_addHeat_0 20 rfl) ?_
  refine mm_isub (mm_dc od_X2_addHeat_0 21 rfl) ?_
  refine mm_iret (mm_dc od_X2_addHeat_0 22 rfl) rfl ?_
  exact mm_pi (by first | rfl | omega | (split <;> omega) | grind) k
theorem c_X9_heat {X : Nat × (Nat → Int)} {d : Nat} {Po : mm_Po} {M : mm_M} (b : Int) (minute : Int) (hb : mm_r32 b) (hminute : mm_r32 minute) (h0 : 0 ≤ M 43 0) (hr : R32 M) (k1 : (¬ (0 ≤ b ∧ b < M 1 5)) → Po (some (v_i (-1))) Lam M) (k2 : (0 ≤ b ∧ b < M 1 5) → (¬ (0 ≤ minute ∧ minute ≤ 1439)) → Po (some (v_i (-2))) Lam M) (k3 : (0 ≤ b ∧ b < M 1 5) → (0 ≤ minute ∧ minute ≤ 1439) → 20 ≤ M 43 0 → Po (some (v_i (-4))) Lam M) (k4 : (0 ≤ b ∧ b < M 1 5) → (0 ≤ minute ∧ minute ≤ 1439) → M 43 0 < 20 → Po (some (v_i (M 43 0))) Lam (mm_up (mm_up (mm_up M 44 (M 43 0).toNat b) 45 (M 43 0).toNat minute) 43 0 (M 43 0 + 1))) : mm_E X (d + 1) 0 0 mi_X9_heat [v_r 0, v_i b, v_i minute] Po Lam M := by
  show mm_G X (d + 1) 0 0 mi_X9_heat Po 0 [(0, v_r 0), (1, v_i b), (2, v_i minute)] [] Lam M 0 0
  refine mm_aload_n (mm_dc od_X9_heat_0 0 rfl) rfl ?_
  refine mm_getR (ci := 9) (k := 0) (mm_dc od_X9_heat_0 1 rfl) rfl in_X9 (by decide) wd_2_45 rfl rfl ?_
  refine mm_iload_n (mm_dc od_X9_heat_0 2 rfl) rfl ?_
  refine mm_callV (b := 1) (mi' := mi_X0_hasBoat) [v_i b] [] (mm_dc od_X9_heat_0 3 rfl) rfl wd_3_10 wd_2_112 wd_2_113 wd_1_2 wd_2_114 yk_X0_hasBoat rfl rfl rfl (Nat.le_of_ble_eq_true rfl) rfl (by decide) (c_X0_hasBoat b (by first | assumption | omega | exact hr _ _ rfl | exact mm_r3264 (hr _ _ rfl)) (by first | assumption | omega | exact hr _ _ rfl | exact mm_r3264 (hr _ _ rfl)) (fun c1 => ⟨Nat.le_refl _, ?_⟩) (fun c1 => ⟨Nat.le_refl _, ?_⟩))
  · refine mm_if_ne 13 (mm_dc od_X9_heat_0 4 rfl) (by omega) (by first | assumption | omega | exact hr _ _ rfl | exact mm_r3264 (hr _ _ rfl)) (fun _ => ?_) (fun h => absurd h (by decide))
    refine mm_iload_n (mm_dc od_X9_heat_0 7 rfl) rfl ?_
    refine mm_iconst (mm_dc od_X9_heat_0 8 rfl) ?_
    refine mm_sipush (mm_dc od_X9_heat_0 9 rfl) (by decide) ?_
    refine mm_callS (mi' := mi_X9_within) [v_i minute, v_i 0, v_i 1439] [] (mm_dc od_X9_heat_0 10 rfl) rfl wd_2_80 wd_2_81 wd_1_1 wd_2_82 yk_X9_within (Nat.le_of_ble_eq_true rfl) rfl (by decide) (c_X9_within minute 0 1439 (by first | assumption | omega | exact hr _ _ rfl | exact mm_r3264 (hr _ _ rfl)) (by first | assumption | omega | exact hr _ _ rfl | exact mm_r3264 (hr _ _ rfl)) (by first | assumption | omega | exact hr _ _ rfl | exact mm_r3264 (hr _ _ rfl)) (fun c2 => ⟨Nat.le_refl _, ?_⟩) (fun c2 => ⟨Nat.le_refl _, ?_⟩))
    · refine mm_if_ne 27 (mm_dc od_X9_heat_0 11 rfl) (by omega) (by first | assumption | omega | exact hr _ _ rfl | exact mm_r3264 (hr _ _ rfl)) (fun _ => ?_) (fun h => absurd h (by decide))
      refine mm_aload_n (mm_dc od_X9_heat_0 14 rfl) rfl ?_
      refine mm_getR (ci := 9) (k := 7) (mm_dc od_X9_heat_0 15 rfl) rfl in_X9 (by decide) wd_2_52 rfl rfl ?_
      refine mm_getI (ci := 2) (k := 0) (mm_dc od_X9_heat_0 16 rfl) rfl in_X2 (by decide) wd_2_8 rfl rfl ?_
      refine mm_bipush (mm_dc od_X9_heat_0 17 rfl) (by decide) ?_
      refine mm_icmp_ge 51 (mm_dc od_X9_heat_0 18 rfl) (by omega) (by first | assumption | omega | exact hr _ _ rfl | exact mm_r3264 (hr _ _ rfl)) (by first | assumption | omega | exact hr _ _ rfl | exact mm_r3264 (hr _ _ rfl)) (fun c3 => ?_) (fun c3 => ?_)
      · refine mm_bipush (mm_dc od_X9_heat_0 25 rfl) (by decide) ?_
        refine mm_iret (mm_dc od_X9_heat_0 26 rfl) rfl ?_
        first | exact k3 (by first | assumption | omega) (by first | assumption | omega) (by first | assumption | omega) | (exfalso; omega)
      · refine mm_aload_n (mm_dc od_X9_heat_0 19 rfl) rfl ?_
        refine mm_getR (ci := 9) (k := 7) (mm_dc od_X9_heat_0 20 rfl) rfl in_X9 (by decide) wd_2_52 rfl rfl ?_
        refine mm_iload_n (mm_dc od_X9_heat_0 21 rfl) rfl ?_
        refine mm_iload_n (mm_dc od_X9_heat_0 22 rfl) rfl ?_
        refine mm_callV (b := 43) (mi' := mi_X2_addHeat) [v_i b, v_i minute] [] (mm_dc od_X9_heat_0 23 rfl) rfl wd_4_45 wd_4_46 wd_4_47 wd_1_9 wd_4_48 yk_X2_addHeat rfl rfl rfl (Nat.le_of_ble_eq_true rfl) rfl (by decide) (c_X2_addHeat b minute (by first | assumption | omega | exact hr _ _ rfl | exact mm_r3264 (hr _ _ rfl)) (by first | assumption | omega | exact hr _ _ rfl | exact mm_r3264 (hr _ _ rfl)) ⟨Nat.le_refl _, ?_⟩)
        refine mm_goto 53 (mm_dc od_X9_heat_0 24 rfl) (by omega) ?_
        refine mm_iret (mm_dc od_X9_heat_0 26 rfl) rfl ?_
        first | exact k4 (by first | assumption | omega) (by first | assumption | omega) (by first | assumption | omega) | exact mm_pm (by omega) rfl (k4 (by first | assumption | omega) (by first | assumption | omega) (by first | assumption | omega)) | (exfalso; omega)
    · refine mm_if_ne 27 (mm_dc od_X9_heat_0 11 rfl) (by omega) (by first | assumption | omega | exact hr _ _ rfl | exact mm_r3264 (hr _ _ rfl)) (fun h => absurd h (by decide)) (fun _ => ?_)
      refine mm_bipush (mm_dc od_X9_heat_0 12 rfl) (by decide) ?_
      refine mm_iret (mm_dc od_X9_heat_0 13 rfl) rfl ?_
      first | exact k2 (by first | assumption | omega) (by first | assumption | omega) | (exfalso; omega)
  · refine mm_if_ne 13 (mm_dc od_X9_heat_0 4 rfl) (by omega) (by first | assumption | omega | exact hr _ _ rfl | exact mm_r3264 (hr _ _ rfl)) (fun h => absurd h (by decide)) (fun _ => ?_)
    refine mm_iconst (mm_dc od_X9_heat_0 5 rfl) ?_
    refine mm_iret (mm_dc od_X9_heat_0 6 rfl) rfl ?_
    first | exact k1 (by first | assumption | omega) | (exfalso; omega)
theorem c_X3_addLook {X : Nat × (Nat → Int)} {d : Nat} {Po : mm_Po} {M : mm_M} (b : Int) (whole : Int) (h0 : 0 ≤ M 35 5 ∧ M 35 5 < 60) (hr : R32 M) (k : Po (some (v_i (M 35 5))) Lam (mm_up (mm_up (mm_up (mm_up M 40 (M 35 5).toNat b) 41 (M 35 5).toNat whole) 42 (M 35 5).toNat (M 35 0)) 35 5 (M 35 5 + 1))) : mm_E X d 0 0 mi_X3_addLook [v_r 35, v_i b, v_i whole] Po Lam M := by
  show mm_G X d 0 0 mi_X3_addLook Po 0 [(0, v_r 35), (1, v_i b), (2, v_i whole)] [] Lam M 0 0
  refine mm_aload_n (mm_dc od_X3_addLook_0 0 rfl) rfl ?_
  refine mm_getR (ci := 3) (k := 6) (mm_dc od_X3_addLook_0 1 rfl) rfl in_X3 (by decide) wd_1_219 rfl rfl ?_
  refine mm_aload_n (mm_dc od_X3_addLook_0 2 rfl) rfl ?_
  refine mm_getI (ci := 3) (k := 5) (mm_dc od_X3_addLook_0 3 rfl) rfl in_X3 (by decide) wd_1_217 rfl rfl ?_
  refine mm_iload_n (mm_dc od_X3_addLook_0 4 rfl) rfl ?_
  refine mm_iast (mm_dc od_X3_addLook_0 5 rfl) rfl (by first | assumption | omega | exact hr _ _ rfl | exact mm_r3264 (hr _ _ rfl)) (by first | assumption | omega | exact hr _ _ rfl | exact mm_r3264 (hr _ _ rfl)) (by decide) ?_
  refine mm_aload_n (mm_dc od_X3_addLook_0 6 rfl) rfl ?_
  refine mm_getR (ci := 3) (k := 7) (mm_dc od_X3_addLook_0 7 rfl) rfl in_X3 (by decide) wd_1_220 rfl rfl ?_
  refine mm_aload_n (mm_dc od_X3_addLook_0 8 rfl) rfl ?_
  refine mm_getI (ci := 3) (k := 5) (mm_dc od_X3_addLook_0 9 rfl) rfl in_X3 (by decide) wd_1_217 rfl rfl ?_
  refine mm_cst (st' := [v_i (M 35 5), v_r 41]) rfl ?_
  refine mm_iload_n (mm_dc od_X3_addLook_0 10 rfl) rfl ?_
  refine mm_iast (mm_dc od_X3_addLook_0 11 rfl) rfl (by first | assumption | omega | exact hr _ _ rfl | exact mm_r3264 (hr _ _ rfl)) (by first | assumption | omega | exact hr _ _ rfl | exact mm_r3264 (hr _ _ rfl)) (by decide) ?_
  refine mm_aload_n (mm_dc od_X3_addLook_0 12 rfl) rfl ?_
  refine mm_getR (ci := 3) (k := 8) (mm_dc od_X3_addLook_0 13 rfl) rfl in_X3 (by decide) wd_1_221 rfl rfl ?_
  refine mm_aload_n (mm_dc od_X3_addLook_0 14 rfl) rfl ?_
  refine mm_getI (ci := 3) (k := 5) (mm_dc od_X3_addLook_0 15 rfl) rfl in_X3 (by decide) wd_1_217 rfl rfl ?_
  refine mm_cst (st' := [v_i (M 35 5), v_r 42]) rfl ?_
  refine mm_aload_n (mm_dc od_X3_addLook_0 16 rfl) rfl ?_
  refine mm_getI (ci := 3) (k := 0) (mm_dc od_X3_addLook_0 17 rfl) rfl in_X3 (by decide) wd_1_207 rfl rfl ?_
  refine mm_cst (st' := [v_i (M 35 0), v_i (M 35 5), v_r 42]) rfl ?_
  refine mm_iast (mm_dc od_X3_addLook_0 18 rfl) rfl (by first | assumption | omega | exact hr _ _ rfl | exact mm_r3264 (hr _ _ rfl)) (by first | assumption | omega | exact hr _ _ rfl | exact mm_r3264 (hr _ _ rfl)) (by decide) ?_
  refine mm_aload_n (mm_dc od_X3_addLook_0 19 rfl) rfl ?_
  refine mm_dup_r (mm_dc od_X3_addLook_0 20 rfl) ?_
  refine mm_getI (ci := 3) (k := 5) (mm_dc od_X3_addLook_0 21 rfl) rfl in_X3 (by decide) wd_1_217 rfl rfl ?_
  refine mm_cst (st' := [v_i (M 35 5), v_r 35]) rfl ?_
  refine mm_iconst (mm_dc od_X3_addLook_0 22 rfl) ?_
  refine mm_iadd (mm_dc od_X3_addLook_0 23 rfl) ?_
  refine mm_putI (ci := 3) (k := 5) (mm_dc od_X3_addLook_0 24 rfl) rfl in_X3 tyX3_ok nmX3 (by decide) wd_1_217 rfl rfl rfl rfl ?_
  refine mm_aload_n (mm_dc od_X3_addLook_0 25 rfl) rfl ?_
  refine mm_getI (ci := 3) (k := 5) (mm_dc od_X3_addLook_0 26 rfl) rfl in_X3 (by decide) wd_1_217 rfl rfl ?_
  refine mm_cst (st' := [v_i ((M 35 5) + 1)]) rfl ?_
  refine mm_iconst (mm_dc od_X3_addLook_0 27 rfl) ?_
  refine mm_isub (mm_dc od_X3_addLook_0 28 rfl) ?_
  refine mm_iret (mm_dc od_X3_addLook_0 29 rfl) rfl ?_
  exact mm_pi (by first | rfl | omega | (split <;> omega) | grind) k
theorem c_X9_look {X : Nat × (Nat → Int)} {d : Nat} {Po : mm_Po} {M : mm_M} (b : Int) (whole : Int) (hb : mm_r32 b) (hwhole : mm_r32 whole) (h0 : 0 ≤ M 35 5) (hr : R32 M) (k1 : (¬ (0 ≤ b ∧ b < M 1 5)) → Po (some (v_i (-1))) Lam M) (k2 : (0 ≤ b ∧ b < M 1 5) → (¬ (0 ≤ whole ∧ whole ≤ 1)) → Po (some (v_i (-2))) Lam M) (k3 : (0 ≤ b ∧ b < M 1 5) → (0 ≤ whole ∧ whole ≤ 1) → 60 ≤ M 35 5 → Po (some (v_i (-4))) Lam M) (k4 : (0 ≤ b ∧ b < M 1 5) → (0 ≤ whole ∧ whole ≤ 1) → M 35 5 < 60 → Po (some (v_i (M 35 5))) Lam (mm_up (mm_up (mm_up (mm_up M 40 (M 35 5).toNat b) 41 (M 35 5).toNat whole) 42 (M 35 5).toNat (M 35 0)) 35 5 (M 35 5 + 1))) : mm_E X (d + 1) 0 0 mi_X9_look [v_r 0, v_i b, v_i whole] Po Lam M := by
  show mm_G X (d + 1) 0 0 mi_X9_look Po 0 [(0, v_r 0), (1, v_i b), (2, v_i whole)] [] Lam M 0 0
  refine mm_aload_n (mm_dc od_X9_look_0 0 rfl) rfl ?_
  refine mm_getR (ci := 9) (k := 0) (mm_dc od_X9_look_0 1 rfl) rfl in_X9 (by decide) wd_2_45 rfl rfl ?_
  refine mm_iload_n (mm_dc od_X9_look_0 2 rfl) rfl ?_
  refine mm_callV (b := 1) (mi' := mi_X0_hasBoat) [v_i b] [] (mm_dc od_X9_look_0 3 rfl) rfl wd_3_10 wd_2_112 wd_2_113 wd_1_2 wd_2_114 yk_X0_hasBoat rfl rfl rfl (Nat.le_of_ble_eq_true rfl) rfl (by decide) (c_X0_hasBoat b (by first | assumption | omega | exact hr _ _ rfl | exact mm_r3264 (hr _ _ rfl)) (by first | assumption | omega | exact hr _ _ rfl | exact mm_r3264 (hr _ _ rfl)) (fun c1 => ⟨Nat.le_refl _, ?_⟩) (fun c1 => ⟨Nat.le_refl _, ?_⟩))
  · refine mm_if_ne 13 (mm_dc od_X9_look_0 4 rfl) (by omega) (by first | assumption | omega | exact hr _ _ rfl | exact mm_r3264 (hr _ _ rfl)) (fun _ => ?_) (fun h => absurd h (by decide))
    refine mm_iload_n (mm_dc od_X9_look_0 7 rfl) rfl ?_
    refine mm_iconst (mm_dc od_X9_look_0 8 rfl) ?_
    refine mm_iconst (mm_dc od_X9_look_0 9 rfl) ?_
    refine mm_callS (mi' := mi_X9_within) [v_i whole, v_i 0, v_i 1] [] (mm_dc od_X9_look_0 10 rfl) rfl wd_2_80 wd_2_81 wd_1_1 wd_2_82 yk_X9_within (Nat.le_of_ble_eq_true rfl) rfl (by decide) (c_X9_within whole 0 1 (by first | assumption | omega | exact hr _ _ rfl | exact mm_r3264 (hr _ _ rfl)) (by first | assumption | omega | exact hr _ _ rfl | exact mm_r3264 (hr _ _ rfl)) (by first | assumption | omega | exact hr _ _ rfl | exact mm_r3264 (hr _ _ rfl)) (fun c2 => ⟨Nat.le_refl _, ?_⟩) (fun c2 => ⟨Nat.le_refl _, ?_⟩))
    · refine mm_if_ne 25 (mm_dc od_X9_look_0 11 rfl) (by omega) (by first | assumption | omega | exact hr _ _ rfl | exact mm_r3264 (hr _ _ rfl)) (fun _ => ?_) (fun h => absurd h (by decide))
      refine mm_aload_n (mm_dc od_X9_look_0 14 rfl) rfl ?_
      refine mm_getR (ci := 9) (k := 6) (mm_dc od_X9_look_0 15 rfl) rfl in_X9 (by decide) wd_2_51 rfl rfl ?_
      refine mm_getI (ci := 3) (k := 5) (mm_dc od_X9_look_0 16 rfl) rfl in_X3 (by decide) wd_1_218 rfl rfl ?_
      refine mm_bipush (mm_dc od_X9_look_0 17 rfl) (by decide) ?_
      refine mm_icmp_ge 49 (mm_dc od_X9_look_0 18 rfl) (by omega) (by first | assumption | omega | exact hr _ _ rfl | exact mm_r3264 (hr _ _ rfl)) (by first | assumption | omega | exact hr _ _ rfl | exact mm_r3264 (hr _ _ rfl)) (fun c3 => ?_) (fun c3 => ?_)
      · refine mm_bipush (mm_dc od_X9_look_0 25 rfl) (by decide) ?_
        refine mm_iret (mm_dc od_X9_look_0 26 rfl) rfl ?_
        first | exact k3 (by first | assumption | omega) (by first | assumption | omega) (by first | assumption | omega) | (exfalso; omega)
      · refine mm_aload_n (mm_dc od_X9_look_0 19 rfl) rfl ?_
        refine mm_getR (ci := 9) (k := 6) (mm_dc od_X9_look_0 20 rfl) rfl in_X9 (by decide) wd_2_51 rfl rfl ?_
        refine mm_iload_n (mm_dc od_X9_look_0 21 rfl) rfl ?_
        refine mm_iload_n (mm_dc od_X9_look_0 22 rfl) rfl ?_
        refine mm_callV (b := 35) (mi' := mi_X3_addLook) [v_i b, v_i whole] [] (mm_dc od_X9_look_0 23 rfl) rfl wd_4_13 wd_4_14 wd_4_15 wd_1_8 wd_4_16 yk_X3_addLook rfl rfl rfl (Nat.le_of_ble_eq_true rfl) rfl (by decide) (c_X3_addLook b whole (by first | assumption | omega | exact hr _ _ rfl | exact mm_r3264 (hr _ _ rfl)) (by first | assumption | omega | exact hr _ _ rfl | exact mm_r3264 (hr _ _ rfl)) ⟨Nat.le_refl _, ?_⟩)
        refine mm_goto 51 (mm_dc od_X9_look_0 24 rfl) (by omega) ?_
        refine mm_iret (mm_dc od_X9_look_0 26 rfl) rfl ?_
        first | exact k4 (by first | assumption | omega) (by first | assumption | omega) (by first | assumption | omega) | exact mm_pm (by omega) rfl (k4 (by first | assumption | omega) (by first | assumption | omega) (by first | assumption | omega)) | (exfalso; omega)
    · refine mm_if_ne 25 (mm_dc od_X9_look_0 11 rfl) (by omega) (by first | assumption | omega | exact hr _ _ rfl | exact mm_r3264 (hr _ _ rfl)) (fun h => absurd h (by decide)) (fun _ => ?_)
      refine mm_bipush (mm_dc od_X9_look_0 12 rfl) (by decide) ?_
      refine mm_iret (mm_dc od_X9_look_0 13 rfl) rfl ?_
      first | exact k2 (by first | assumption | omega) (by first | assumption | omega) | (exfalso; omega)
  · refine mm_if_ne 13 (mm_dc od_X9_look_0 4 rfl) (by omega) (by first | assumption | omega | exact hr _ _ rfl | exact mm_r3264 (hr _ _ rfl)) (fun h => absurd h (by decide)) (fun _ => ?_)
    refine mm_iconst (mm_dc od_X9_look_0 5 rfl) ?_
    refine mm_iret (mm_dc od_X9_look_0 6 rfl) rfl ?_
    first | exact k1 (by first | assumption | omega) | (exfalso; omega)
theorem c_X9_outing {X : Nat × (Nat → Int)} {d : Nat} {Po : mm_Po} {M : mm_M} (i : Int) (what : Int) (hi : mm_r32 i) (hwhat : mm_r32 what) (h0 : 0 ≤ M 35 0 ∧ M 35 0 ≤ 30) (hr : R32 M) (k1 : (¬ (0 ≤ i ∧ i < M 35 0)) → Po (some (v_i (-1))) Lam M) (k2 : (0 ≤ i ∧ i < M 35 0) → what = 0 → Po (some (v_i (M 36 i.toNat))) Lam M) (k3 : (0 ≤ i ∧ i < M 35 0) → what = 1 → Po (some (v_i (M 37 i.toNat))) Lam M) (k4 : (0 ≤ i ∧ i < M 35 0) → what = 2 → Po (some (v_i (M 38 i.toNat))) Lam M) (k5 : (0 ≤ i ∧ i < M 35 0) → what = 3 → Po (some (v_i (M 39 i.toNat))) Lam M) (k6 : (0 ≤ i ∧ i < M 35 0) → (what < 0 ∨ 3 < what) → Po (some (v_i (-1))) Lam M) : mm_E X (d + 1) 0 0 mi_X9_outing [v_r 0, v_i i, v_i what] Po Lam M := by
  show mm_G X (d + 1) 0 0 mi_X9_outing Po 0 [(0, v_r 0), (1, v_i i), (2, v_i what)] [] Lam M 0 0
  refine mm_iload_n (mm_dc od_X9_outing_0 0 rfl) rfl ?_
  refine mm_iconst (mm_dc od_X9_outing_0 1 rfl) ?_
  refine mm_aload_n (mm_dc od_X9_outing_0 2 rfl) rfl ?_
  refine mm_getR (ci := 9) (k := 6) (mm_dc od_X9_outing_0 3 rfl) rfl in_X9 (by decide) wd_2_51 rfl rfl ?_
  refine mm_getI (ci := 3) (k := 0) (mm_dc od_X9_outing_0 4 rfl) rfl in_X3 (by decide) wd_1_208 rfl rfl ?_
  refine mm_iconst (mm_dc od_X9_outing_0 5 rfl) ?_
  refine mm_isub (mm_dc od_X9_outing_0 6 rfl) ?_
  refine mm_callS (mi' := mi_X9_within) [v_i i, v_i 0, v_i ((M 35 0) - 1)] [] (mm_dc od_X9_outing_0 7 rfl) rfl wd_2_80 wd_2_81 wd_1_1 wd_2_82 yk_X9_within (Nat.le_of_ble_eq_true rfl) rfl (by decide) (c_X9_within i 0 ((M 35 0) - 1) (by first | assumption | omega | exact hr _ _ rfl | exact mm_r3264 (hr _ _ rfl)) (by first | assumption | omega | exact hr _ _ rfl | exact mm_r3264 (hr _ _ rfl)) (by first | assumption | omega | exact hr _ _ rfl | exact mm_r3264 (hr _ _ rfl)) (fun c1 => ⟨Nat.le_refl _, ?_⟩) (fun c1 => ⟨Nat.le_refl _, ?_⟩))
  · refine mm_if_ne 19 (mm_dc od_X9_outing_0 8 rfl) (by omega) (by first | assumption | omega | exact hr _ _ rfl | exact mm_r3264 (hr _ _ rfl)) (fun _ => ?_) (fun h => absurd h (by decide))
    refine mm_iload_n (mm_dc od_X9_outing_0 11 rfl) rfl ?_
    have sw2 : (what < 0 ∨ 3 < what) ∨ what = 0 ∨ what = 1 ∨ what = 2 ∨ what = 3 := by omega
    rcases sw2 with sw2 | sw2 | sw2 | sw2 | sw2
    · refine mm_tabOut 92 (mm_dc od_X9_outing_0 12 rfl) (by first | assumption | omega | exact hr _ _ rfl | exact mm_r3264 (hr _ _ rfl)) sw2 (by omega) ?_
      refine mm_iconst (mm_dc od_X9_outing_0 37 rfl) ?_
      refine mm_iret (mm_dc od_X9_outing_0 38 rfl) rfl ?_
      first | exact k1 (by first | assumption | omega) | exact k6 (by first | assumption | omega) (by first | assumption | omega) | (exfalso; omega)
    · refine mm_tabIn (off := 32) 52 (mm_dc od_X9_outing_0 12 rfl) (by first | assumption | omega | exact hr _ _ rfl | exact mm_r3264 (hr _ _ rfl)) (by omega) (by omega) (by rw [sw2]; rfl) (by omega) ?_
      refine mm_aload_n (mm_dc od_X9_outing_0 13 rfl) rfl ?_
      refine mm_getR (ci := 9) (k := 6) (mm_dc od_X9_outing_0 14 rfl) rfl in_X9 (by decide) wd_2_51 rfl rfl ?_
      refine mm_getR (ci := 3) (k := 1) (mm_dc od_X9_outing_0 15 rfl) rfl in_X3 (by decide) wd_1_210 rfl rfl ?_
      refine mm_iload_n (mm_dc od_X9_outing_0 16 rfl) rfl ?_
      refine mm_iald (mm_dc od_X9_outing_0 17 rfl) rfl (by first | assumption | omega | exact hr _ _ rfl | exact mm_r3264 (hr _ _ rfl)) (by first | assumption | omega | exact hr _ _ rfl | exact mm_r3264 (hr _ _ rfl)) (by decide) ?_
      refine mm_iret (mm_dc od_X9_outing_0 18 rfl) rfl ?_
      first | exact k2 (by first | assumption | omega) (by first | assumption | omega) | exact mm_pm (by omega) rfl (k2 (by first | assumption | omega) (by first | assumption | omega)) | exact k3 (by first | assumption | omega) (by first | assumption | omega) | exact mm_pm (by omega) rfl (k3 (by first | assumption | omega) (by first | assumption | omega)) | exact k4 (by first | assumption | omega) (by first | assumption | omega) | exact mm_pm (by omega) rfl (k4 (by first | assumption | omega) (by first | assumption | omega)) | exact k5 (by first | assumption | omega) (by first | assumption | omega) | exact mm_pm (by omega) rfl (k5 (by first | assumption | omega) (by first | assumption | omega)) | (exfalso; omega)
    · refine mm_tabIn (off := 42) 62 (mm_dc od_X9_outing_0 12 rfl) (by first | assumption | omega | exact hr _ _ rfl | exact mm_r3264 (hr _ _ rfl)) (by omega) (by omega) (by rw [sw2]; rfl) (by omega) ?_
      refine mm_aload_n (mm_dc od_X9_outing_0 19 rfl) rfl ?_
      refine mm_getR (ci := 9) (k := 6) (mm_dc od_X9_outing_0 20 rfl) rfl in_X9 (by decide) wd_2_51 rfl rfl ?_
      refine mm_getR (ci := 3) (k := 2) (mm_dc od_X9_outing_0 21 rfl) rfl in_X3 (by decide) wd_1_212 rfl rfl ?_
      refine mm_iload_n (mm_dc od_X9_outing_0 22 rfl) rfl ?_
      refine mm_iald (mm_dc od_X9_outing_0 23 rfl) rfl (by first | assumption | omega | exact hr _ _ rfl | exact mm_r3264 (hr _ _ rfl)) (by first | assumption | omega | exact hr _ _ rfl | exact mm_r3264 (hr _ _ rfl)) (by decide) ?_
      refine mm_iret (mm_dc od_X9_outing_0 24 rfl) rfl ?_
      first | exact k2 (by first | assumption | omega) (by first | assumption | omega) | exact mm_pm (by omega) rfl (k2 (by first | assumption | omega) (by first | assumption | omega)) | exact k3 (by first | assumption | omega) (by first | assumption | omega) | exact mm_pm (by omega) rfl (k3 (by first | assumption | omega) (by first | assumption | omega)) | exact k4 (by first | assumption | omega) (by first | assumption | omega) | exact mm_pm (by omega) rfl (k4 (by first | assumption | omega) (by first | assumption | omega)) | exact k5 (by first | assumption | omega) (by first | assumption | omega) | exact mm_pm (by omega) rfl (k5 (by first | assumption | omega) (by first | assumption | omega)) | (exfalso; omega)
    · refine mm_tabIn (off := 52) 72 (mm_dc od_X9_outing_0 12 rfl) (by first | assumption | omega | exact hr _ _ rfl | exact mm_r3264 (hr _ _ rfl)) (by omega) (by omega) (by rw [sw2]; rfl) (by omega) ?_
      refine mm_aload_n (mm_dc od_X9_outing_0 25 rfl) rfl ?_
      refine mm_getR (ci := 9) (k := 6) (mm_dc od_X9_outing_0 26 rfl) rfl in_X9 (by decide) wd_2_51 rfl rfl ?_
      refine mm_getR (ci := 3) (k := 3) (mm_dc od_X9_outing_0 27 rfl) rfl in_X3 (by decide) wd_1_214 rfl rfl ?_
      refine mm_iload_n (mm_dc od_X9_outing_0 28 rfl) rfl ?_
      refine mm_iald (mm_dc od_X9_outing_0 29 rfl) rfl (by first | assumption | omega | exact hr _ _ rfl | exact mm_r3264 (hr _ _ rfl)) (by first | assumption | omega | exact hr _ _ rfl | exact mm_r3264 (hr _ _ rfl)) (by decide) ?_
      refine mm_iret (mm_dc od_X9_outing_0 30 rfl) rfl ?_
      first | exact k2 (by first | assumption | omega) (by first | assumption | omega) | exact mm_pm (by omega) rfl (k2 (by first | assumption | omega) (by first | assumption | omega)) | exact k3 (by first | assumption | omega) (by first | assumption | omega) | exact mm_pm (by omega) rfl (k3 (by first | assumption | omega) (by first | assumption | omega)) | exact k4 (by first | assumption | omega) (by first | assumption | omega) | exact mm_pm (by omega) rfl (k4 (by first | assumption | omega) (by first | assumption | omega)) | exact k5 (by first | assumption | omega) (by first | assumption | omega) | exact mm_pm (by omega) rfl (k5 (by first | assumption | omega) (by first | assumption | omega)) | (exfalso; omega)
    · refine mm_tabIn (off := 62) 82 (mm_dc od_X9_outing_0 12 rfl) (by first | assumption | omega | exact hr _ _ rfl | exact mm_r3264 (hr _ _ rfl)) (by omega) (by omega) (by rw [sw2]; rfl) (by omega) ?_
      refine mm_aload_n (mm_dc od_X9_outing_0 31 rfl) rfl ?_
      refine mm_getR (ci := 9) (k := 6) (mm_dc od_X9_outing_0 32 rfl) rfl in_X9 (by decide) wd_2_51 rfl rfl ?_
      refine mm_getR (ci := 3) (k := 4) (mm_dc od_X9_outing_0 33 rfl) rfl in_X3 (by decide) wd_1_216 rfl rfl ?_
      refine mm_iload_n (mm_dc od_X9_outing_0 34 rfl) rfl ?_
      refine mm_iald (mm_dc od_X9_outing_0 35 rfl) rfl (by first | assumption | omega | exact hr _ _ rfl | exact mm_r3264 (hr _ _ rfl)) (by first | assumption | omega | exact hr _ _ rfl | exact mm_r3264 (hr _ _ rfl)) (by decide) ?_
      refine mm_iret (mm_dc od_X9_outing_0 36 rfl) rfl ?_
      first | exact k2 (by first | assumption | omega) (by first | assumption | omega) | exact mm_pm (by omega) rfl (k2 (by first | assumption | omega) (by first | assumption | omega)) | exact k3 (by first | assumption | omega) (by first | assumption | omega) | exact mm_pm (by omega) rfl (k3 (by first | assumption | omega) (by first | assumption | omega)) | exact k4 (by first | assumption | omega) (by first | assumption | omega) | exact mm_pm (by omega) rfl (k4 (by first | assumption | omega) (by first | assumption | omega)) | exact k5 (by first | assumption | omega) (by first | assumption | omega) | exact mm_pm (by omega) rfl (k5 (by first | assumption | omega) (by first | assumption | omega)) | (exfalso; omega)
  · refine mm_if_ne 19 (mm_dc od_X9_outing_0 8 rfl) (by omega) (by first | assumption | omega | exact hr _ _ rfl | exact mm_r3264 (hr _ _ rfl)) (fun h => absurd h (by decide)) (fun _ => ?_)
    refine mm_iconst (mm_dc od_X9_outing_0 9 rfl) ?_
    refine mm_iret (mm_dc od_X9_outing_0 10 rfl) rfl ?_
    first | exact k1 (by first | assumption | omega) | exact k6 (by first | assumption | omega) (by first | assumption | omega) | (exfalso; omega)
theorem c_X9_rack {X : Nat × (Nat → Int)} {d : Nat} {Po : mm_Po} {M : mm_M} (b : Int) (hb : mm_r32 b) (hJb : JB M) (hr : R32 M) (k1 : (¬ (0 ≤ b ∧ b < M 1 5)) → Po (some (v_i (-1))) Lam M) (k2 : (0 ≤ b ∧ b < M 1 5) → Po (some (v_i (M 47 b.toNat))) Lam M) : mm_E X (d + 1) 0 0 mi_X9_rack [v_r 0, v_i b] Po Lam M := by
  show mm_G X (d + 1) 0 0 mi_X9_rack Po 0 [(0, v_r 0), (1, v_i b)] [] Lam M 0 0
  have hJb2 := hJb
  obtain ⟨hb0, hb8, hB⟩ := hJb2
  refine mm_aload_n (mm_dc od_X9_rack_0 0 rfl) rfl ?_
  refine mm_getR (ci := 9) (k := 0) (mm_dc od_X9_rack_0 1 rfl) rfl in_X9 (by decide) wd_2_45 rfl rfl ?_
  refine mm_iload_n (mm_dc od_X9_rack_0 2 rfl) rfl ?_
  refine mm_callV (b := 1) (mi' := mi_X0_hasBoat) [v_i b] [] (mm_dc od_X9_rack_0 3 rfl) rfl wd_3_10 wd_2_112 wd_2_113 wd_1_2 wd_2_114 yk_X0_hasBoat rfl rfl rfl (Nat.le_of_ble_eq_true rfl) rfl (by decide) (c_X0_hasBoat b (by first | assumption | omega | exact hr _ _ rfl | exact mm_r3264 (hr _ _ rfl)) (by first | assumption | omega | exact hr _ _ rfl | exact mm_r3264 (hr _ _ rfl)) (fun c1 => ⟨Nat.le_refl _, ?_⟩) (fun c1 => ⟨Nat.le_refl _, ?_⟩))
  · refine mm_if_eq 23 (mm_dc od_X9_rack_0 4 rfl) (by omega) (by first | assumption | omega | exact hr _ _ rfl | exact mm_r3264 (hr _ _ rfl)) (fun h => absurd h (by decide)) (fun _ => ?_)
    refine mm_aload_n (mm_dc od_X9_rack_0 5 rfl) rfl ?_
    refine mm_getR (ci := 9) (k := 8) (mm_dc od_X9_rack_0 6 rfl) rfl in_X9 (by decide) wd_2_53 rfl rfl ?_
    refine mm_getR (ci := 5) (k := 0) (mm_dc od_X9_rack_0 7 rfl) rfl in_X5 (by decide) wd_2_32 rfl rfl ?_
    refine mm_iload_n (mm_dc od_X9_rack_0 8 rfl) rfl ?_
    refine mm_iald (mm_dc od_X9_rack_0 9 rfl) rfl (by first | assumption | omega | exact hr _ _ rfl | exact mm_r3264 (hr _ _ rfl)) (by first | assumption | omega | exact hr _ _ rfl | exact mm_r3264 (hr _ _ rfl)) (by decide) ?_
    refine mm_goto 24 (mm_dc od_X9_rack_0 10 rfl) (by omega) ?_
    refine mm_iret (mm_dc od_X9_rack_0 12 rfl) rfl ?_
    first | exact k2 (by first | assumption | omega) | exact mm_pm (by omega) rfl (k2 (by first | assumption | omega)) | (exfalso; omega)
  · refine mm_if_eq 23 (mm_dc od_X9_rack_0 4 rfl) (by omega) (by first | assumption | omega | exact hr _ _ rfl | exact mm_r3264 (hr _ _ rfl)) (fun _ => ?_) (fun h => absurd h (by decide))
    refine mm_iconst (mm_dc od_X9_rack_0 11 rfl) ?_
    refine mm_iret (mm_dc od_X9_rack_0 12 rfl) rfl ?_
    first | exact k1 (by first | assumption | omega) | (exfalso; omega)
theorem c_X9_count {X : Nat × (Nat → Int)} {d : Nat} {Po : mm_Po} {M : mm_M} (what : Int) (hwhat : mm_r32 what) (hr : R32 M) (k0 : what = 0 → Po (some (v_i (M 1 0))) Lam M) (k1 : what = 1 → Po (some (v_i (M 1 5))) Lam M) (k2 : what = 2 → Po (some (v_i (M 10 0))) Lam M) (k3 : what = 3 → Po (some (v_i (M 26 0))) Lam M) (k4 : what = 4 → Po (some (v_i (M 35 0))) Lam M) (k5 : what = 5 → Po (some (v_i (M 35 5))) Lam M) (k6 : what = 6 → Po (some (v_i (M 43 0))) Lam M) (k7 : what = 7 → Po (some (v_i (M 0 9))) Lam M) (k8 : what = 8 → Po (some (v_i (M 24 0))) Lam M) (k9 : (what < 0 ∨ 8 < what) → Po (some (v_i (-1))) Lam M) : mm_E X d 0 0 mi_X9_count [v_r 0, v_i what] Po Lam M := by
  show mm_G X d 0 0 mi_X9_count Po 0 [(0, v_r 0), (1, v_i what)] [] Lam M 0 0
  refine mm_iload_n (mm_dc od_X9_count_0 0 rfl) rfl ?_
  have sw1 : (what < 0 ∨ 8 < what) ∨ what = 0 ∨ what = 1 ∨ what = 2 ∨ what = 3 ∨ what = 4 ∨ what = 5 ∨ what = 6 ∨ what = 7 ∨ what = 8 := by omega
  rcases sw1 with sw1 | sw1 | sw1 | sw1 | sw1 | sw1 | sw1 | sw1 | sw1 | sw1
  · refine mm_tabOut 121 (mm_dc od_X9_count_0 1 rfl) (by first | assumption | omega | exact hr _ _ rfl | exact mm_r3264 (hr _ _ rfl)) sw1 (by omega) ?_
    refine mm_iconst (mm_dc od_X9_count_0 37 rfl) ?_
    refine mm_iret (mm_dc od_X9_count_0 38 rfl) rfl ?_
    first | exact k9 (by first | assumption | omega) | (exfalso; omega)
  · refine mm_tabIn (off := 51) 52 (mm_dc od_X9_count_0 1 rfl) (by first | assumption | omega | exact hr _ _ rfl | exact mm_r3264 (hr _ _ rfl)) (by omega) (by omega) (by rw [sw1]; rfl) (by omega) ?_
    refine mm_aload_n (mm_dc od_X9_count_0 2 rfl) rfl ?_
    refine mm_getR (ci := 9) (k := 0) (mm_dc od_X9_count_0 3 rfl) rfl in_X9 (by decide) wd_2_45 rfl rfl ?_
    refine mm_getI (ci := 0) (k := 0) (mm_dc od_X9_count_0 4 rfl) rfl in_X0 (by decide) wd_1_36 rfl rfl ?_
    refine mm_iret (mm_dc od_X9_count_0 5 rfl) rfl ?_
    first | exact k0 (by first | assumption | omega) | exact mm_pm (by omega) rfl (k0 (by first | assumption | omega)) | exact k1 (by first | assumption | omega) | exact mm_pm (by omega) rfl (k1 (by first | assumption | omega)) | exact k2 (by first | assumption | omega) | exact mm_pm (by omega) rfl (k2 (by first | assumption | omega)) | exact k3 (by first | assumption | omega) | exact mm_pm (by omega) rfl (k3 (by first | assumption | omega)) | exact k4 (by first | assumption | omega) | exact mm_pm (by omega) rfl (k4 (by first | assumption | omega)) | exact k5 (by first | assumption | omega) | exact mm_pm (by omega) rfl (k5 (by first | assumption | omega)) | exact k6 (by first | assumption | omega) | exact mm_pm (by omega) rfl (k6 (by first | assumption | omega)) | exact k7 (by first | assumption | omega) | exact mm_pm (by omega) rfl (k7 (by first | assumption | omega)) | exact k8 (by first | assumption | omega) | exact mm_pm (by omega) rfl (k8 (by first | assumption | omega)) | (exfalso; omega)
  · refine mm_tabIn (off := 59) 60 (mm_dc od_X9_count_0 1 rfl) (by first | assumption | omega | exact hr _ _ rfl | exact mm_r3264 (hr _ _ rfl)) (by omega) (by omega) (by rw [sw1]; rfl) (by omega) ?_
    refine mm_aload_n (mm_dc od_X9_count_0 6 rfl) rfl ?_
    refine mm_getR (ci := 9) (k := 0) (mm_dc od_X9_count_0 7 rfl) rfl in_X9 (by decide) wd_2_45 rfl rfl ?_
    refine mm_getI (ci := 0) (k := 5) (mm_dc od_X9_count_0 8 rfl) rfl in_X0 (by decide) wd_1_47 rfl rfl ?_
    refine mm_iret (mm_dc od_X9_count_0 9 rfl) rfl ?_
    first | exact k0 (by first | assumption | omega) | exact mm_pm (by omega) rfl (k0 (by first | assumption | omega)) | exact k1 (by first | assumption | omega) | exact mm_pm (by omega) rfl (k1 (by first | assumption | omega)) | exact k2 (by first | assumption | omega) | exact mm_pm (by omega) rfl (k2 (by first | assumption | omega)) | exact k3 (by first | assumption | omega) | exact mm_pm (by omega) rfl (k3 (by first | assumption | omega)) | exact k4 (by first | assumption | omega) | exact mm_pm (by omega) rfl (k4 (by first | assumption | omega)) | exact k5 (by first | assumption | omega) | exact mm_pm (by omega) rfl (k5 (by first | assumption | omega)) | exact k6 (by first | assumption | omega) | exact mm_pm (by omega) rfl (k6 (by first | assumption | omega)) | exact k7 (by first | assumption | omega) | exact mm_pm (by omega) rfl (k7 (by first | assumption | omega)) | exact k8 (by first | assumption | omega) | exact mm_pm (by omega) rfl (k8 (by first | assumption | omega)) | (exfalso; omega)
  · refine mm_tabIn (off := 67) 68 (mm_dc od_X9_count_0 1 rfl) (by first | assumption | omega | exact hr _ _ rfl | exact mm_r3264 (hr _ _ rfl)) (by omega) (by omega) (by rw [sw1]; rfl) (by omega) ?_
    refine mm_aload_n (mm_dc od_X9_count_0 10 rfl) rfl ?_
    refine mm_getR (ci := 9) (k := 1) (mm_dc od_X9_count_0 11 rfl) rfl in_X9 (by decide) wd_2_46 rfl rfl ?_
    refine mm_getI (ci := 4) (k := 0) (mm_dc od_X9_count_0 12 rfl) rfl in_X4 (by decide) wd_1_85 rfl rfl ?_
    refine mm_iret (mm_dc od_X9_count_0 13 rfl) rfl ?_
    first | exact k0 (by first | assumption | omega) | exact mm_pm (by omega) rfl (k0 (by first | assumption | omega)) | exact k1 (by first | assumption | omega) | exact mm_pm (by omega) rfl (k1 (by first | assumption | omega)) | exact k2 (by first | assumption | omega) | exact mm_pm (by omega) rfl (k2 (by first | assumption | omega)) | exact k3 (by first | assumption | omega) | exact mm_pm (by omega) rfl (k3 (by first | assumption | omega)) | exact k4 (by first | assumption | omega) | exact mm_pm (by omega) rfl (k4 (by first | assumption | omega)) | exact k5 (by first | assumption | omega) | exact mm_pm (by omega) rfl (k5 (by first | assumption | omega)) | exact k6 (by first | assumption | omega) | exact mm_pm (by omega) rfl (k6 (by first | assumption | omega)) | exact k7 (by first | assumption | omega) | exact mm_pm (by omega) rfl (k7 (by first | assumption | omega)) | exact k8 (by first | assumption | omega) | exact mm_pm (by omega) rfl (k8 (by first | assumption | omega)) | (exfalso; omega)
  · refine mm_tabIn (off := 75) 76 (mm_dc od_X9_count_0 1 rfl) (by first | assumption | omega | exact hr _ _ rfl | exact mm_r3264 (hr _ _ rfl)) (by omega) (by omega) (by rw [sw1]; rfl) (by omega) ?_
    refine mm_aload_n (mm_dc od_X9_count_0 14 rfl) rfl ?_
    refine mm_getR (ci := 9) (k := 5) (mm_dc od_X9_count_0 15 rfl) rfl in_X9 (by decide) wd_2_50 rfl rfl ?_
    refine mm_getI (ci := 7) (k := 0) (mm_dc od_X9_count_0 16 rfl) rfl in_X7 (by decide) wd_1_170 rfl rfl ?_
    refine mm_iret (mm_dc od_X9_count_0 17 rfl) rfl ?_
    first | exact k0 (by first | assumption | omega) | exact mm_pm (by omega) rfl (k0 (by first | assumption | omega)) | exact k1 (by first | assumption | omega) | exact mm_pm (by omega) rfl (k1 (by first | assumption | omega)) | exact k2 (by first | assumption | omega) | exact mm_pm (by omega) rfl (k2 (by first | assumption | omega)) | exact k3 (by first | assumption | omega) | exact mm_pm (by omega) rfl (k3 (by first | assumption | omega)) | exact k4 (by first | assumption | omega) | exact mm_pm (by omega) rfl (k4 (by first | assumption | omega)) | exact k5 (by first | assumption | omega) | exact mm_pm (by omega) rfl (k5 (by first | assumption | omega)) | exact k6 (by first | assumption | omega) | exact mm_pm (by omega) rfl (k6 (by first | assumption | omega)) | exact k7 (by first | assumption | omega) | exact mm_pm (by omega) rfl (k7 (by first | assumption | omega)) | exact k8 (by first | assumption | omega) | exact mm_pm (by omega) rfl (k8 (by first | assumption | omega)) | (exfalso; omega)
  · refine mm_tabIn (off := 83) 84 (mm_dc od_X9_count_0 1 rfl) (by first | assumption | omega | exact hr _ _ rfl | exact mm_r3264 (hr _ _ rfl)) (by omega) (by omega) (by rw [sw1]; rfl) (by omega) ?_
    refine mm_aload_n (mm_dc od_X9_count_0 18 rfl) rfl ?_
    refine mm_getR (ci := 9) (k := 6) (mm_dc od_X9_count_0 19 rfl) rfl in_X9 (by decide) wd_2_51 rfl rfl ?_
    refine mm_getI (ci := 3) (k := 0) (mm_dc od_X9_count_0 20 rfl) rfl in_X3 (by decide) wd_1_208 rfl rfl ?_
    refine mm_iret (mm_dc od_X9_count_0 21 rfl) rfl ?_
    first | exact k0 (by first | assumption | omega) | exact mm_pm (by omega) rfl (k0 (by first | assumption | omega)) | exact k1 (by first | assumption | omega) | exact mm_pm (by omega) rfl (k1 (by first | assumption | omega)) | exact k2 (by first | assumption | omega) | exact mm_pm (by omega) rfl (k2 (by first | assumption | omega)) | exact k3 (by first | assumption | omega) | exact mm_pm (by omega) rfl (k3 (by first | assumption | omega)) | exact k4 (by first | assumption | omega) | exact mm_pm (by omega) rfl (k4 (by first | assumption | omega)) | exact k5 (by first | assumption | omega) | exact mm_pm (by omega) rfl (k5 (by first | assumption | omega)) | exact k6 (by first | assumption | omega) | exact mm_pm (by omega) rfl (k6 (by first | assumption | omega)) | exact k7 (by first | assumption | omega) | exact mm_pm (by omega) rfl (k7 (by first | assumption | omega)) | exact k8 (by first | assumption | omega) | exact mm_pm (by omega) rfl (k8 (by first | assumption | omega)) | (exfalso; omega)
  · refine mm_tabIn (off := 91) 92 (mm_dc od_X9_count_0 1 rfl) (by first | assumption | omega | exact hr _ _ rfl | exact mm_r3264 (hr _ _ rfl)) (by omega) (by omega) (by rw [sw1]; rfl) (by omega) ?_
    refine mm_aload_n (mm_dc od_X9_count_0 22 rfl) rfl ?_
    refine mm_getR (ci := 9) (k := 6) (mm_dc od_X9_count_0 23 rfl) rfl in_X9 (by decide) wd_2_51 rfl rfl ?_
    refine mm_getI (ci := 3) (k := 5) (mm_dc od_X9_count_0 24 rfl) rfl in_X3 (by decide) wd_1_218 rfl rfl ?_
    refine mm_iret (mm_dc od_X9_count_0 25 rfl) rfl ?_
    first | exact k0 (by first | assumption | omega) | exact mm_pm (by omega) rfl (k0 (by first | assumption | omega)) | exact k1 (by first | assumption | omega) | exact mm_pm (by omega) rfl (k1 (by first | assumption | omega)) | exact k2 (by first | assumption | omega) | exact mm_pm (by omega) rfl (k2 (by first | assumption | omega)) | exact k3 (by first | assumption | omega) | exact mm_pm (by omega) rfl (k3 (by first | assumption | omega)) | exact k4 (by first | assumption | omega) | exact mm_pm (by omega) rfl (k4 (by first | assumption | omega)) | exact k5 (by first | assumption | omega) | exact mm_pm (by omega) rfl (k5 (by first | assumption | omega)) | exact k6 (by first | assumption | omega) | exact mm_pm (by omega) rfl (k6 (by first | assumption | omega)) | exact k7 (by first | assumption | omega) | exact mm_pm (by omega) rfl (k7 (by first | assumption | omega)) | exact k8 (by first | assumption | omega) | exact mm_pm (by omega) rfl (k8 (by first | assumption | omega)) | (exfalso; omega)
  · refine mm_tabIn (off := 99) 100 (mm_dc od_X9_count_0 1 rfl) (by first | assumption | omega | exact hr _ _ rfl | exact mm_r3264 (hr _ _ rfl)) (by omega) (by omega) (by rw [sw1]; rfl) (by omega) ?_
    refine mm_aload_n (mm_dc od_X9_count_0 26 rfl) rfl ?_
    refine mm_getR (ci := 9) (k := 7) (mm_dc od_X9_count_0 27 rfl) rfl in_X9 (by decide) wd_2_52 rfl rfl ?_
    refine mm_getI (ci := 2) (k := 0) (mm_dc od_X9_count_0 28 rfl) rfl in_X2 (by decide) wd_2_8 rfl rfl ?_
    refine mm_iret (mm_dc od_X9_count_0 29 rfl) rfl ?_
    first | exact k0 (by first | assumption | omega) | exact mm_pm (by omega) rfl (k0 (by first | assumption | omega)) | exact k1 (by first | assumption | omega) | exact mm_pm (by omega) rfl (k1 (by first | assumption | omega)) | exact k2 (by first | assumption | omega) | exact mm_pm (by omega) rfl (k2 (by first | assumption | omega)) | exact k3 (by first | assumption | omega) | exact mm_pm (by omega) rfl (k3 (by first | assumption | omega)) | exact k4 (by first | assumption | omega) | exact mm_pm (by omega) rfl (k4 (by first | assumption | omega)) | exact k5 (by first | assumption | omega) | exact mm_pm (by omega) rfl (k5 (by first | assumption | omega)) | exact k6 (by first | assumption | omega) | exact mm_pm (by omega) rfl (k6 (by first | assumption | omega)) | exact k7 (by first | assumption | omega) | exact mm_pm (by omega) rfl (k7 (by first | assumption | omega)) | exact k8 (by first | assumption | omega) | exact mm_pm (by omega) rfl (k8 (by first | assumption | omega)) | (exfalso; omega)
  · refine mm_tabIn (off := 107) 108 (mm_dc od_X9_count_0 1 rfl) (by first | assumption | omega | exact hr _ _ rfl | exact mm_r3264 (hr _ _ rfl)) (by omega) (by omega) (by rw [sw1]; rfl) (by omega) ?_
    refine mm_aload_n (mm_dc od_X9_count_0 30 rfl) rfl ?_
    refine mm_getI (ci := 9) (k := 9) (mm_dc od_X9_count_0 31 rfl) rfl in_X9 (by decide) wd_2_54 rfl rfl ?_
    refine mm_iret (mm_dc od_X9_count_0 32 rfl) rfl ?_
    first | exact k0 (by first | assumption | omega) | exact mm_pm (by omega) rfl (k0 (by first | assumption | omega)) | exact k1 (by first | assumption | omega) | exact mm_pm (by omega) rfl (k1 (by first | assumption | omega)) | exact k2 (by first | assumption | omega) | exact mm_pm (by omega) rfl (k2 (by first | assumption | omega)) | exact k3 (by first | assumption | omega) | exact mm_pm (by omega) rfl (k3 (by first | assumption | omega)) | exact k4 (by first | assumption | omega) | exact mm_pm (by omega) rfl (k4 (by first | assumption | omega)) | exact k5 (by first | assumption | omega) | exact mm_pm (by omega) rfl (k5 (by first | assumption | omega)) | exact k6 (by first | assumption | omega) | exact mm_pm (by omega) rfl (k6 (by first | assumption | omega)) | exact k7 (by first | assumption | omega) | exact mm_pm (by omega) rfl (k7 (by first | assumption | omega)) | exact k8 (by first | assumption | omega) | exact mm_pm (by omega) rfl (k8 (by first | assumption | omega)) | (exfalso; omega)
  · refine mm_tabIn (off := 112) 113 (mm_dc od_X9_count_0 1 rfl) (by first | assumption | omega | exact hr _ _ rfl | exact mm_r3264 (hr _ _ rfl)) (by omega) (by omega) (by rw [sw1]; rfl) (by omega) ?_
    refine mm_aload_n (mm_dc od_X9_count_0 33 rfl) rfl ?_
    refine mm_getR (ci := 9) (k := 4) (mm_dc od_X9_count_0 34 rfl) rfl in_X9 (by decide) wd_2_49 rfl rfl ?_
    refine mm_getI (ci := 8) (k := 0) (mm_dc od_X9_count_0 35 rfl) rfl in_X8 (by decide) wd_1_151 rfl rfl ?_
    refine mm_iret (mm_dc od_X9_count_0 36 rfl) rfl ?_
    first | exact k0 (by first | assumption | omega) | exact mm_pm (by omega) rfl (k0 (by first | assumption | omega)) | exact k1 (by first | assumption | omega) | exact mm_pm (by omega) rfl (k1 (by first | assumption | omega)) | exact k2 (by first | assumption | omega) | exact mm_pm (by omega) rfl (k2 (by first | assumption | omega)) | exact k3 (by first | assumption | omega) | exact mm_pm (by omega) rfl (k3 (by first | assumption | omega)) | exact k4 (by first | assumption | omega) | exact mm_pm (by omega) rfl (k4 (by first | assumption | omega)) | exact k5 (by first | assumption | omega) | exact mm_pm (by omega) rfl (k5 (by first | assumption | omega)) | exact k6 (by first | assumption | omega) | exact mm_pm (by omega) rfl (k6 (by first | assumption | omega)) | exact k7 (by first | assumption | omega) | exact mm_pm (by omega) rfl (k7 (by first | assumption | omega)) | exact k8 (by first | assumption | omega) | exact mm_pm (by omega) rfl (k8 (by first | assumption | omega)) | (exfalso; omega)
