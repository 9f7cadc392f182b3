/-! the reference solves a group -/
theorem mt_hB {M : mm_M} {A : Nat → Nat → Int} {n q : Nat} {ch : Int} {u : Nat → Int} (hn : n ≤ 6) (h66 : ∀ i c : Nat, i < 6 → c < 6 → M 66 (7 * i + c) = A c i) (hq : ∀ c : Nat, c < n → ((c : Int) = ch ↔ c = q)) (hu : ∀ r, r < n → q < n → u r = M 67 r) : ∀ c r, c < n → r < n → mtR A q u c r = if (c : Int) = ch then M 67 r else M 66 (7 * r + c) := by
  intro c r hc hr
  unfold mtR
  rw [rc_ne (show c ≠ 6 by omega)]
  by_cases e : c = q
  · rw [if_pos ((hq c hc).mpr e), e, rc_at]; exact hu r hr (by omega)
  · rw [if_neg (fun x => e ((hq c hc).mp x)), rc_ne e, h66 r c (by omega) (by omega)]
theorem mt_64 {A : Nat → Nat → Int} {n q : Nat} {a : Nat → Int} (h : LQ A n a) (hq : q ≤ 6) {u : Nat → Int} (hu : ∀ r, r < 6 → ab (u r) ≤ 999 * a r) : ∀ i T, i ≤ n → T < 128 → mm_r64 (dm (mtR A q u) i T) := by
  intro i T hi hT
  have h1 := mt_r h hq hu hi hT
  unfold ab at h1
  constructor <;> omega
theorem mt_line {A : Nat → Nat → Int} {n : Nat} {u : Nat → Int} (hn : n ≤ 6) : dm (mtR A 6 u) n (2 ^ n - 1) = dt n A := by
  rw [dm_full _ hn, mt_dt hn]
  exact dt_cong n (fun c hc => rc_ne (by omega))
theorem mt_col {A : Nat → Nat → Int} {n q : Nat} (hn : n ≤ 6) (hq : q < n) : dm (mtR A q (A 6)) n (2 ^ n - 1) = cc A n q 6 := by
  rw [dm_full _ hn, mt_dt hn]
  unfold cc
  rw [if_pos hq]
def f4 (B M : mm_M) : Prop := R32 M ∧ ∀ i, i ≠ 68 → i ≠ 69 → M i = B i
theorem f4_det {B M N : mm_M} {j : Nat} {v : Int} (h : f4 B M) (h2 : frm 68 M N) : f4 B (mm_up N 69 j v) := ⟨R32_upL h2.1 rfl, fun i q1 q2 => by rw [mm_up_ne q2, h2.2 i q1, h.2 i q1 q2]⟩
theorem f4_no {B M : mm_M} {j : Nat} {v : Int} (h : f4 B M) : f4 B (mm_up M 69 j v) := ⟨R32_upL h.1 rfl, fun i q1 q2 => by rw [mm_up_ne q2, h.2 i q1 q2]⟩
theorem L_s88 {X : Nat × (Nat → Int)} {d : Nat} {Po : mm_Po} {M : mm_M} (o gr x : Int) (K : mm_G X (d + 2) 0 0 mi_X10_solves Po 90 [(0, v_r 50), (1, v_i o), (2, v_i gr), (3, v_i 0)] [] Lam M 0 0) : mm_G X (d + 2) 0 0 mi_X10_solves Po 88 [(0, v_r 50), (1, v_i o), (2, v_i gr), (3, v_i x)] [] Lam M 0 0 := by
  refine mm_iconst (mm_dc od_X10_solves_0 51 rfl) ?_
  refine mm_istore_n (L' := [(0, v_r 50), (1, v_i o), (2, v_i gr), (3, v_i 0)]) (mm_dc od_X10_solves_0 52 rfl) (by decide) rfl ?_
  exact K
theorem L_s109 {X : Nat × (Nat → Int)} {d : Nat} {Po : mm_Po} {M : mm_M} (o gr x : Int) (K : mm_G X (d + 2) 0 0 mi_X10_solves Po 111 [(0, v_r 50), (1, v_i o), (2, v_i gr), (3, v_i 0)] [] Lam M 0 0) : mm_G X (d + 2) 0 0 mi_X10_solves Po 109 [(0, v_r 50), (1, v_i o), (2, v_i gr), (3, v_i x)] [] Lam M 0 0 := by
  refine mm_iconst (mm_dc od_X10_solves_1 3 rfl) ?_
  refine mm_istore_n (L' := [(0, v_r 50), (1, v_i o), (2, v_i gr), (3, v_i 0)]) (mm_dc od_X10_solves_1 4 rfl) (by decide) rfl ?_
  exact K
theorem L_s130 {X : Nat × (Nat → Int)} {d : Nat} {Po : mm_Po} {M : mm_M} (o gr x : Int) (K : mm_G X (d + 2) 0 0 mi_X10_solves Po 132 [(0, v_r 50), (1, v_i o), (2, v_i gr), (3, v_i 0)] [] Lam M 0 0) : mm_G X (d + 2) 0 0 mi_X10_solves Po 130 [(0, v_r 50), (1, v_i o), (2, v_i gr), (3, v_i x)] [] Lam M 0 0 := by
  refine mm_iconst (mm_dc od_X10_solves_1 15 rfl) ?_
  refine mm_istore_n (L' := [(0, v_r 50), (1, v_i o), (2, v_i gr), (3, v_i 0)]) (mm_dc od_X10_solves_1 16 rfl) (by decide) rfl ?_
  exact K
theorem L_s229 {X : Nat × (Nat → Int)} {d : Nat} {Po : mm_Po} {M : mm_M} {A : Nat → Nat → Int} {a : Nat → Int} (n : Nat) (hA : LQ A n a) (o gr x : Int) (hn : M 50 22 = (n : Int)) (h66 : ∀ i c : Nat, i < 6 → c < 6 → M 66 (7 * i + c) = A c i) (hr : R32 M) (K : ∀ N : mm_M, frm 68 M N → mm_G X (d + 2) 0 0 mi_X10_solves Po 240 [(0, v_r 50), (1, v_i o), (2, v_i gr), (3, v_i 0)] [] Lam (mm_up N 50 23 (dt n A)) 0 0) : mm_G X (d + 2) 0 0 mi_X10_solves Po 229 [(0, v_r 50), (1, v_i o), (2, v_i gr), (3, v_i x)] [] Lam M 0 0 := by
  have h6 := hA.1
  refine mm_aload_n (mm_dc od_X10_solves_2 14 rfl) rfl ?_
  refine mm_aload_n (mm_dc od_X10_solves_2 15 rfl) rfl ?_
  refine mm_iconst (mm_dc od_X10_solves_2 16 rfl) ?_
  refine mm_callV (b := 50) (mi' := mi_X10_determinant) [v_i (-1)] [v_r 50] (mm_dc od_X10_solves_2 17 rfl) rfl wd_5_117 wd_5_119 wd_p_30 wd_1_12 wd_5_120 yk_X10_determinant rfl rfl rfl (Nat.le_of_ble_eq_true rfl) rfl (by decide) (L_det (Bm := mtR A 6 (fun _ => 0)) n (-1) h6 (by decide) hn (mt_hB h6 h66 (fun c hc => by omega) (fun r _ q => by omega)) (mt_64 hA (by decide) (fun r hr => by
    have z := hA.2.2.2.1 r
    show ab 0 ≤ _
    have z2 : ab 0 = 0 := rfl
    omega)) hr (fun N hN => ⟨Nat.le_refl _, ?_⟩))
  refine mm_cst (st' := [v_l (dt n A), v_r 50]) (by rw [mt_line h6]; rfl) ?_
  refine mm_putL (ci := 10) (k := 23) (mm_dc od_X10_solves_2 18 rfl) rfl in_X10 tyX10_ok nmX10 (by decide) wd_4_135 rfl rfl rfl rfl ?_
  refine mm_iconst (mm_dc od_X10_solves_2 19 rfl) ?_
  refine mm_istore_n (L' := [(0, v_r 50), (1, v_i o), (2, v_i gr), (3, v_i 0)]) (mm_dc od_X10_solves_2 20 rfl) (by decide) rfl ?_
  exact K N hN
theorem L_s240 {X : Nat × (Nat → Int)} {d : Nat} {Po : mm_Po} {M : mm_M} {B : mm_M} {A : Nat → Nat → Int} {a : Nat → Int} (n : Nat) (hA : LQ A n a) (m : Nat) (o gr : Int) (hn : B 50 22 = (n : Int)) (h10 : 0 ≤ B 50 10 ∧ B 50 10 ≤ 16) (hpl : ∀ x, x < (B 50 10).toNat → B 65 x = rowF m x ∧ -1 ≤ rowF m x ∧ rowF m x < n) (h66 : ∀ i c : Nat, i < 6 → c < 6 → B 66 (7 * i + c) = A c i) (h67 : ∀ i, i < 6 → B 67 i = A 6 i) (k : ∀ N : mm_M, (f4 B N ∧ ∀ x, x < (B 50 10).toNat → N 69 x = svO A n m x) → Po (some (v_i 1)) Lam N) (j : Nat) (hj : (j : Int) ≤ B 50 10) (hN : f4 B M) (h69 : ∀ x, x < j → M 69 x = svO A n m x) : mm_G X (d + 2) 0 0 mi_X10_solves Po 240 [(0, v_r 50), (1, v_i o), (2, v_i gr), (3, v_i (j : Int))] [] Lam M 0 0 := by
  have h6 := hA.1
  have hr := hN.1
  have e50 : M 50 = B 50 := hN.2 50 (by decide) (by decide)
  have e10 : M 50 10 = B 50 10 := (by rw [e50])
  have e22 : M 50 22 = (n : Int) := (by rw [e50]; exact hn)
  have g66 : ∀ i c : Nat, i < 6 → c < 6 → M 66 (7 * i + c) = A c i := (by rw [hN.2 66 (by decide) (by decide)]; exact h66)
  have g67 : ∀ i, i < 6 → M 67 i = A 6 i := (by rw [hN.2 67 (by decide) (by decide)]; exact h67)
  have hpj : (j : Int) < B 50 10 → M 65 j = rowF m j := (fun q => by rw [hN.2 65 (by decide) (by decide)]; exact (hpl j (by omega)).1)
  have hpr : (j : Int) < B 50 10 → -1 ≤ rowF m j ∧ rowF m j < n := (fun q => (hpl j (by omega)).2)
  refine mm_iload_n (mm_dc od_X10_solves_2 21 rfl) rfl ?_
  refine mm_aload_n (mm_dc od_X10_solves_2 22 rfl) rfl ?_
  refine mm_getI (ci := 10) (k := 10) (mm_dc od_X10_solves_2 23 rfl) rfl in_X10 (by decide) wd_4_122 rfl rfl ?_
  refine mm_icmp_ge 283 (mm_dc od_X10_solves_2 24 rfl) (by omega) (by first | omega | assumption | exact hr _ _ rfl) (by first | omega | assumption | exact hr _ _ rfl) (fun c1 => ?_) (fun c1 => ?_)
  · refine mm_iconst (mm_dc od_X10_solves_2 44 rfl) ?_
    refine mm_zret .boolean (mm_dc od_X10_solves_2 45 rfl) rfl rfl ?_
    exact k _ ⟨hN, fun x hx => h69 x (by omega)⟩
  · refine mm_aload_n (mm_dc od_X10_solves_2 25 rfl) rfl ?_
    refine mm_getR (ci := 10) (k := 21) (mm_dc od_X10_solves_2 26 rfl) rfl in_X10 (by decide) wd_4_133 rfl rfl ?_
    refine mm_iload_n (mm_dc od_X10_solves_2 27 rfl) rfl ?_
    refine mm_aload_n (mm_dc od_X10_solves_2 28 rfl) rfl ?_
    refine mm_getR (ci := 10) (k := 17) (mm_dc od_X10_solves_2 29 rfl) rfl in_X10 (by decide) wd_4_129 rfl rfl ?_
    refine mm_iload_n (mm_dc od_X10_solves_2 30 rfl) rfl ?_
    refine mm_iald (mm_dc od_X10_solves_2 31 rfl) rfl (by first | omega | assumption | exact hr _ _ rfl) (by first | omega | assumption | exact hr _ _ rfl) (by decide) ?_
    refine mm_cst (st' := [v_i (M 65 j), v_i (j : Int), v_r 69]) rfl ?_
    refine mm_if_ge 266 (mm_dc od_X10_solves_2 32 rfl) (by omega) (by first | omega | assumption | exact hr _ _ rfl) (fun c2 => ?_) (fun c2 => ?_)
    · refine mm_aload_n (mm_dc od_X10_solves_2 35 rfl) rfl ?_
      refine mm_aload_n (mm_dc od_X10_solves_2 36 rfl) rfl ?_
      refine mm_getR (ci := 10) (k := 17) (mm_dc od_X10_solves_2 37 rfl) rfl in_X10 (by decide) wd_4_129 rfl rfl ?_
      refine mm_iload_n (mm_dc od_X10_solves_2 38 rfl) rfl ?_
      refine mm_iald (mm_dc od_X10_solves_2 39 rfl) rfl (by first | omega | assumption | exact hr _ _ rfl) (by first | omega | assumption | exact hr _ _ rfl) (by decide) ?_
      refine mm_cst (st' := [v_i (M 65 j), v_r 50, v_i (j : Int), v_r 69]) rfl ?_
      refine mm_callV (b := 50) (mi' := mi_X10_determinant) [v_i (M 65 j)] [v_i (j : Int), v_r 69] (mm_dc od_X10_solves_2 40 rfl) rfl wd_5_117 wd_5_119 wd_p_30 wd_1_12 wd_5_120 yk_X10_determinant rfl rfl rfl (Nat.le_of_ble_eq_true rfl) rfl (by decide) (L_det (Bm := mtR A (M 65 j).toNat (A 6)) n (M 65 j) h6 (by omega) e22 (mt_hB h6 g66 (fun c hc => by omega) (fun r hr2 _ => (g67 r (by omega)).symm)) (mt_64 hA (by omega) (fun r hr2 => hA.2.2.2.2.2.2.1 6 r (by decide) hr2)) hr (fun N hN2 => ⟨Nat.le_refl _, ?_⟩))
      refine mm_cst (st' := [v_l (svO A n m j), v_i (j : Int), v_r 69]) (by
        have e : (M 65 j).toNat < n := by omega
        rw [mt_col h6 e]
        unfold svO
        rw [← hpj (by omega), if_pos (by omega)]
        rfl) ?_
      refine mm_last (mm_dc od_X10_solves_2 41 rfl) rfl (by first | omega | assumption | exact hr _ _ rfl) (by first | omega | assumption | exact hr _ _ rfl) (by decide) ?_
      refine mm_eqM (M' := mm_up N 69 j (svO A n m j)) rfl ?_
      refine mm_iinc (L' := [(0, v_r 50), (1, v_i o), (2, v_i gr), (3, v_i ((j : Int) + 1))]) (mm_dc od_X10_solves_2 42 rfl) rfl (by decide) rfl ?_
      refine mm_goto 240 (mm_dc od_X10_solves_2 43 rfl) (by omega) ?_
      exact L_s240 n hA m o gr hn h10 hpl h66 h67 k (j + 1) (by omega) (f4_det hN hN2) (fun x hx => by rw [mm_upa]; split; (next e => rw [e]); rw [hN2.2 69 (by decide)]; exact h69 x (by omega))
    · refine mm_lconst (mm_dc od_X10_solves_2 33 rfl) ?_
      refine mm_cst (st' := [v_l 0, v_i (j : Int), v_r 69]) rfl ?_
      refine mm_goto 276 (mm_dc od_X10_solves_2 34 rfl) (by omega) ?_
      refine mm_last (mm_dc od_X10_solves_2 41 rfl) rfl (by first | omega | assumption | exact hr _ _ rfl) (by first | omega | assumption | exact hr _ _ rfl) (by decide) ?_
      refine mm_eqM (M' := mm_up M 69 j 0) rfl ?_
      refine mm_iinc (L' := [(0, v_r 50), (1, v_i o), (2, v_i gr), (3, v_i ((j : Int) + 1))]) (mm_dc od_X10_solves_2 42 rfl) rfl (by decide) rfl ?_
      refine mm_goto 240 (mm_dc od_X10_solves_2 43 rfl) (by omega) ?_
      exact L_s240 n hA m o gr hn h10 hpl h66 h67 k (j + 1) (by omega) (f4_no hN) (fun x hx => by
        rw [mm_upa]
        split
        · next e =>
          rw [e]
          unfold svO
          rw [← hpj (by omega), if_neg (by omega)]
        · exact h69 x (by omega))
termination_by (B 50 10).toNat - j
decreasing_by all_goals (first | omega | (simp_wf; omega))
def mxR (M : mm_M) (m : Nat) : Nat → Nat → Int := mxG (M 61) (M 62) (M 63) (M 50 16).toNat m
def SR (M : mm_M) (m n : Nat) (N : mm_M) (o : Int) : Prop := frR M N ∧ N 50 23 = dt n (mxR M m) ∧ (∀ x, x < (M 50 10).toNat → N 69 x = svO (mxR M m) n m x) ∧ ∀ x, x < 16 → (m.testBit x = true ↔ N 64 x = N 64 o.toNat)
theorem JRm_frR {M N : mm_M} (h : frR M N) (hJ : JRm M) : JRm N := by
  unfold JRm at *
  rw [h.2.2 16 (by decide) (by decide), h.2.1 61 (by decide) (by decide), h.2.1 62 (by decide) (by decide), h.2.1 63 (by decide) (by decide)]
  exact hJ
theorem mxR_frR {M N : mm_M} {m : Nat} (h : frR M N) : mxR N m = mxR M m := by
  unfold mxR
  rw [h.2.2 16 (by decide) (by decide), h.2.1 61 (by decide) (by decide), h.2.1 62 (by decide) (by decide), h.2.1 63 (by decide) (by decide)]
theorem L_slv {X : Nat × (Nat → Int)} {d : Nat} {Po : mm_Po} {M : mm_M} (m : Nat) (o : Int) (ho : 0 ≤ o ∧ o < M 50 10) (hJom : JOm M) (hJrm : JRm M) (hgm : grpQ (M 61) (M 62) (M 50 16).toNat o.toNat m) (hz : ∀ x, (M 50 10).toNat ≤ x → m.testBit x = false) (hr : R32 M) (kf : ∀ N : mm_M, frR M N → 7 < cntb m → Po (some (v_i 0)) Lam N) (kt : ∀ (N : mm_M) (n : Nat), n ≤ 6 → cntb m = (n : Int) + 1 → SR M m n N o → Po (some (v_i 1)) Lam N) : mm_G X (d + 2) 0 0 mi_X10_solves Po 0 [(0, v_r 50), (1, v_i o)] [] Lam M 0 0 := by
  have hJom2 := hJom
  obtain ⟨ho0, ho16, hO⟩ := hJom2
  refine mm_aload_n (mm_dc od_X10_solves_0 0 rfl) rfl ?_
  refine mm_callV (b := 50) (mi' := mi_X10_findGroups) [] [] (mm_dc od_X10_solves_0 1 rfl) rfl wd_5_101 wd_5_103 wd_p_27 wd_1_12 wd_5_104 yk_X10_findGroups rfl rfl rfl (Nat.le_of_ble_eq_true rfl) rfl (by decide) (c_X10_findGroups  hJrm (by first | omega | assumption | exact hr _ _ rfl) (fun N2 hq3 => ⟨Nat.le_refl _, ?_⟩))
  have hro := hr
  have hr := hq3.1.1
  have hg0 := hq3.2.1.1 o.toNat (by omega)
  refine mm_aload_n (mm_dc od_X10_solves_0 2 rfl) rfl ?_
  refine mm_getR (ci := 10) (k := 15) (mm_dc od_X10_solves_0 3 rfl) rfl in_X10 (by decide) wd_4_127 rfl rfl ?_
  refine mm_iload_n (mm_dc od_X10_solves_0 4 rfl) rfl ?_
  refine mm_iald (mm_dc od_X10_solves_0 5 rfl) rfl (by first | omega | assumption | exact hr _ _ rfl) (by first | omega | assumption | exact hr _ _ rfl) (by decide) ?_
  refine mm_istore_n (L' := [(0, v_r 50), (1, v_i o), (2, v_i (N2 64 (Int.toNat o)))]) (mm_dc od_X10_solves_0 6 rfl) (by decide) rfl ?_
  refine mm_aload_n (mm_dc od_X10_solves_0 7 rfl) rfl ?_
  refine mm_iconst (mm_dc od_X10_solves_0 8 rfl) ?_
  refine mm_putI (ci := 10) (k := 22) (mm_dc od_X10_solves_0 9 rfl) rfl in_X10 tyX10_ok nmX10 (by decide) wd_4_134 rfl rfl rfl rfl ?_
  refine mm_iconst (mm_dc od_X10_solves_0 10 rfl) ?_
  refine mm_istore_n (L' := [(0, v_r 50), (1, v_i o), (2, v_i (N2 64 (Int.toNat o))), (3, v_i 0)]) (mm_dc od_X10_solves_0 11 rfl) (by decide) rfl ?_
  have hgall := grp_all (show o.toNat < 16 by omega) hgm hq3.2.1 hq3.2.2
  have hB1 : frR M (mm_up N2 50 22 0) := frR_tr (frR_frm hq3.1 (by decide)) (frR_22 hr (by decide))
  have e64 : (mm_up N2 50 22 0) 64 = N2 64 := mm_up_ne (by decide)
  have hGA : GA m ((mm_up N2 50 22 0) 64) (N2 64 o.toNat) := by rw [e64]; exact ⟨by omega, hgall.1, hgall.2.1, hgall.2.2⟩
  obtain ⟨gr, hgr⟩ : ∃ gr, gr = N2 64 o.toNat := ⟨_, rfl⟩
  rw [← hgr] at hGA
  rw [← hgr]
  obtain ⟨B, hB⟩ : ∃ B, B = mm_up N2 50 22 0 := ⟨_, rfl⟩
  rw [← hB] at hGA hB1 e64
  rw [← hB]
  have hB10 : B 50 10 = M 50 10 := hB1.2.2 10 (by decide) (by decide)
  refine L_s18 (B := B) m o gr hGA (by omega) (fun N2 h2 => ?_) (fun N h c => kf N (frR_tr hB1 h) c) 0 (by omega) ⟨frR_0 hB1.1, rfl, fun x hx => by omega, by rw [hB, mm_up_eq]; rfl, by show max (0 - 1 : Int) 0 ≤ 6; decide⟩
  obtain ⟨n, hn6, hcn, hn22⟩ := P1_end h2 hGA (by omega) (by rw [hB10]; exact hz)
  refine L_s88 _ _ _ (L_s90 o gr N2 (fun N3 h3 z3 => ?_) 0 (by omega) (frm_0 h2.1.1) (fun i hi => by omega))
  refine L_s109 _ _ _ (L_s111 o gr N3 (fun N4 h4 z4 => ?_) 0 (by omega) (frm_0 h3.1) (fun i hi => by omega))
  have hM4 : frR M N4 := frR_tr hB1 (frR_tr h2.1 (frR_tr (frR_frm h3 (by decide)) (frR_frm h4 (by decide))))
  have e464 : N4 64 = B 64 := by rw [h4.2 64 (by decide), h3.2 64 (by decide)]; exact h2.2.1
  have hG4 : GA m (N4 64) gr := by rw [e464]; exact hGA
  have hJ4 := JRm_frR hM4 hJrm
  have e465 : N4 65 = N2 65 := by rw [h4.2 65 (by decide), h3.2 65 (by decide)]
  have hin : ∀ x, m.testBit x = true → x < (B 50 10).toNat := by
    intro x hx
    apply Classical.byContradiction
    intro q
    have := hz x (by omega)
    rw [hx] at this; cases this
  have hpl4 : ∀ x, x < (B 50 10).toNat → N4 65 x = rowF m x ∧ -1 ≤ rowF m x ∧ rowF m x < n := by
    intro x hx
    rw [e465]
    exact ⟨h2.2.2.1 x hx, rowF_r (by omega) hcn⟩
  refine L_s130 _ _ _ (L_s132 (B := N4) m o gr hG4 hJ4 (fun r hr2 hb => ?_) (fun N5 h5 => ?_) 0 (by have := hJ4.1; omega) ⟨⟨h4.1, fun _ _ _ => rfl⟩, fun i c hi hc => ?_, fun i hi => ?_⟩)
  · have f61 : N4 61 = M 61 := hM4.2.1 61 (by decide) (by decide)
    have f62 : N4 62 = M 62 := hM4.2.1 62 (by decide) (by decide)
    have f16 : N4 50 16 = M 50 16 := hM4.2.2 16 (by decide) (by decide)
    rw [f61] at hb
    rw [f61, f62]
    have hb2 := (hgm.2.2.1 r (by rw [← f16]; exact hr2)).mp hb
    have p1 := hpl4 _ (hin _ hb)
    have p2 := hpl4 _ (hin _ hb2)
    exact ⟨⟨p1.1, p2.1⟩, by omega, by omega⟩
  · have hM5 : frR M N5 := frR_tr hM4 (frR_frT h5.1)
    have eA : mxR N4 m = mxR M m := mxR_frR hM4
    obtain ⟨a, hLQ⟩ := mx_LQ (w := M 63) hgm (show o.toNat < 16 by omega) hn6 (by have := hJrm.2.1; omega) hcn (fun r hr2 => by have h := hJrm.2.2 r (by omega); omega)
    have h66 : ∀ i c : Nat, i < 6 → c < 6 → N5 66 (7 * i + c) = mxR M m c i := fun i c hi hc => by rw [← eA]; exact h5.2.1 i c hi hc
    have h67 : ∀ i : Nat, i < 6 → N5 67 i = mxR M m 6 i := fun i hi => by rw [← eA]; exact h5.2.2 i hi
    have e22 : N5 50 22 = (n : Int) := by rw [h5.1.2 50 (by decide) (by decide), h4.2 50 (by decide), h3.2 50 (by decide)]; exact hn22
    refine L_s229 (A := mxR M m) n hLQ o gr _ e22 h66 h5.1.1 (fun N6 h6 => ?_)
    have hM6 : frR M (mm_up N6 50 23 (dt n (mxR M m))) := frR_tr hM5 (frR_tr (frR_frm h6 (by decide)) (frR_23 h6.1))
    have f10 : (mm_up N6 50 23 (dt n (mxR M m))) 50 10 = M 50 10 := hM6.2.2 10 (by decide) (by decide)
    refine L_s240 (B := mm_up N6 50 23 (dt n (mxR M m))) (A := mxR M m) n hLQ m o gr ?_ (by omega) (fun x hx => ?_) (fun i c hi hc => ?_) (fun i hi => ?_) (fun N7 h7 => ?_) 0 (by omega) ⟨hM6.1, fun _ _ _ => rfl⟩ (fun x hx => by omega)
    · rw [mm_upa, if_neg (by decide), h6.2 50 (by decide)]; exact e22
    · rw [mm_up_ne (by decide), h6.2 65 (by decide), h5.1.2 65 (by decide) (by decide)]
      exact hpl4 x (by omega)
    · rw [mm_up_ne (by decide), h6.2 66 (by decide)]; exact h66 i c hi hc
    · rw [mm_up_ne (by decide), h6.2 67 (by decide)]; exact h67 i hi
    · have f7 : frR (mm_up N6 50 23 (dt n (mxR M m))) N7 := ⟨h7.1.1, fun i q1 q2 => h7.1.2 i (by omega) (by omega), fun q _ _ => by rw [h7.1.2 50 (by decide) (by decide)]⟩
      refine kt N7 n hn6 hcn ⟨frR_tr hM6 f7, ?_, fun x hx => h7.2 x (by omega), fun x hx => ?_⟩
      · rw [h7.1.2 50 (by decide) (by decide), mm_up_eq]
      · have e64b : N7 64 = B 64 := by rw [h7.1.2 64 (by decide) (by decide), mm_up_ne (by decide), h6.2 64 (by decide), h5.1.2 64 (by decide) (by decide), e464]
        rw [e64b, e64, ← hgr, ← e64]
        exact hGA.2.1 x hx
  · rw [h4.2 66 (by decide), z3 _ (by omega)]; rfl
  · rw [z4 i (by omega)]; rfl
