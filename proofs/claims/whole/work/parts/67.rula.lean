/-! a test read -/
def TSQ (len : Int) (tp : Nat → Int) (p : Nat) (ok : Int) (q : Nat) (dn fd sg nu : Int) : Prop := ∃ a1 : Nat, ((dn = 1 ∧ a1 = p + 1 ∧ ((p : Int) < len ∧ tp p = 33)) ∨ (dn = 0 ∧ a1 = p ∧ ¬ ((p : Int) < len ∧ tp p = 33))) ∧ ∃ (r1 : Int) (v1 : Nat), TW 3 7 len tp a1 r1 v1 ∧ ((r1 = -1 ∧ ok = 0 ∧ q = a1 + v1) ∨ (r1 ≠ -1 ∧ fd = r1 ∧ ∃ (r2 : Int) (v2 : Nat), TW 4 3 len tp (a1 + v1) r2 v2 ∧ ((r2 = -1 ∧ ok = 0 ∧ q = a1 + v1 + v2) ∨ (r2 ≠ -1 ∧ sg = r2 ∧ ∃ c : Nat, NQ len tp (a1 + v1 + v2) c ∧ ((c = 0 ∧ ok = 0 ∧ q = a1 + v1 + v2) ∨ (c ≠ 0 ∧ ok = 1 ∧ nu = nv tp (a1 + v1 + v2) c ∧ q = a1 + v1 + v2 + c))))))
def tA (B N : mm_M) (ix : Nat) (a : Int) : Prop := R32 N ∧ (∀ j, j ≠ 24 → ¬ (30 ≤ j ∧ j ≤ 33) → N j = B j) ∧ N 24 0 = B 24 0 ∧ N 24 1 = a ∧ ∀ k, k ≠ ix → N 30 k = B 30 k ∧ N 31 k = B 31 k ∧ N 32 k = B 32 k ∧ N 33 k = B 33 k
theorem tA_0 {B : mm_M} {ix : Nat} (h : R32 B) : tA B B ix (B 24 1) := ⟨h, fun _ _ _ => rfl, rfl, rfl, fun _ _ => ⟨rfl, rfl, rfl, rfl⟩⟩
theorem tA_at {B N N2 : mm_M} {ix : Nat} {a b : Int} (h : tA B N ix a) (h2 : fA N N2 b) : tA B N2 ix b := by
  obtain ⟨h1, h3, h4, h5, h6⟩ := h
  refine ⟨h2.1, fun j q1 q2 => by rw [h2.2.1 j q1, h3 j q1 q2], by rw [h2.2.2.1, h4], h2.2.2.2, fun k hk => ?_⟩
  rw [h2.2.1 30 (by decide), h2.2.1 31 (by decide), h2.2.1 32 (by decide), h2.2.1 33 (by decide)]
  exact h6 k hk
theorem tA_w {B N : mm_M} {ix c : Nat} {a v : Int} (h : tA B N ix a) (hc : 30 ≤ c ∧ c ≤ 33) (hv : mm_r32 v) : tA B (mm_up N c ix v) ix a := by
  obtain ⟨h1, h3, h4, h5, h6⟩ := h
  refine ⟨R32_up h1 hv, fun j q1 q2 => by rw [mm_up_ne (by omega)]; exact h3 j q1 q2, by rw [mm_up_ne (by omega)]; exact h4, by rw [mm_up_ne (by omega)]; exact h5, fun k hk => ?_⟩
  have ne : ∀ j, mm_up N c ix v j k = N j k := fun j => by unfold mm_up; rw [if_neg (fun q => hk q.2)]
  rw [ne, ne, ne, ne]
  exact h6 k hk
theorem tA_J {B N : mm_M} {ix : Nat} {a : Int} (h : tA B N ix a) (h0 : 0 ≤ a ∧ a ≤ B 24 0) (h1 : B 24 0 ≤ 120) : JTp N := by
  unfold JTp
  rw [h.2.2.1, h.2.2.2.1]
  omega
theorem c_X7_readTest {X : Nat × (Nat → Int)} {d : Nat} {Po : mm_Po} {M : mm_M} (i : Int) (hi : 0 ≤ i ∧ i < 30) (hJ : JTp M) (hr : R32 M) (k : ∀ (N : mm_M) (r : Int), (tA M N i.toNat (N 24 1) ∧ (M 24 1 ≤ N 24 1 ∧ N 24 1 ≤ M 24 0) ∧ TSQ (M 24 0) (M 25) (M 24 1).toNat r (N 24 1).toNat (N 30 i.toNat) (N 31 i.toNat) (N 32 i.toNat) (N 33 i.toNat) ∧ (r = 1 → (0 ≤ N 30 i.toNat ∧ N 30 i.toNat ≤ 1) ∧ (0 ≤ N 31 i.toNat ∧ N 31 i.toNat ≤ 6) ∧ (0 ≤ N 32 i.toNat ∧ N 32 i.toNat ≤ 2) ∧ (0 ≤ N 33 i.toNat ∧ N 33 i.toNat ≤ 999))) → Po (some (v_i r)) Lam N) : mm_E X (d + 6) 0 0 mi_X7_readTest [v_r 26, v_r 24, v_i i] Po Lam M := by
  show mm_G X (d + 6) 0 0 mi_X7_readTest Po 0 [(0, v_r 26), (1, v_r 24), (2, v_i i)] [] Lam M 0 0
  have hJ2 := hJ
  obtain ⟨j1, j2, j3⟩ := hJ2
  refine mm_aload_n (mm_dc od_X7_readTest_0 0 rfl) rfl ?_
  refine mm_getR (ci := 7) (k := 4) (mm_dc od_X7_readTest_0 1 rfl) rfl in_X7 (by decide) wd_1_175 rfl rfl ?_
  refine mm_iload_n (mm_dc od_X7_readTest_0 2 rfl) rfl ?_
  refine mm_aload_n (mm_dc od_X7_readTest_0 3 rfl) rfl ?_
  refine mm_bipush (mm_dc od_X7_readTest_0 4 rfl) (by decide) ?_
  refine mm_callV (b := 24) (mi' := mi_X8_skip) [v_i 33] [v_i i, v_r 30] (mm_dc od_X7_readTest_0 5 rfl) rfl wd_3_158 wd_3_159 wd_3_160 wd_1_6 wd_3_161 yk_X8_skip rfl rfl rfl (Nat.le_of_ble_eq_true rfl) rfl (by decide) (c_X8_skip 33 (by first | omega | assumption | exact hr _ _ rfl) hJ (by first | omega | assumption | exact hr _ _ rfl) (fun c1_0 => ⟨Nat.le_refl _, ?_⟩) (fun c2_0 => ⟨Nat.le_refl _, ?_⟩))
  · refine mm_zast (mm_dc od_X7_readTest_0 6 rfl) rfl (by first | omega | assumption | exact hr _ _ rfl) (by first | omega | assumption | exact hr _ _ rfl) (by decide) (by first | omega | assumption | exact hr _ _ rfl) ?_
    refine mm_aload_n (mm_dc od_X7_readTest_0 7 rfl) rfl ?_
    refine mm_getR (ci := 7) (k := 5) (mm_dc od_X7_readTest_0 8 rfl) rfl in_X7 (by decide) wd_1_176 rfl rfl ?_
    refine mm_iload_n (mm_dc od_X7_readTest_0 9 rfl) rfl ?_
    refine mm_aload_n (mm_dc od_X7_readTest_0 10 rfl) rfl ?_
    refine mm_ldcS (i := 3) (mm_dc od_X7_readTest_0 11 rfl) rfl rfl ?_
    obtain ⟨Q1, hQ1⟩ : ∃ Q1 : mm_M, Q1 = mm_up (mm_up M 24 1 (M 24 1 + 1)) 30 (Int.toNat i) 1 := ⟨_, rfl⟩
    rw [← hQ1]
    have tQ1 : tA M Q1 i.toNat (M 24 1 + 1) := by rw [hQ1]; exact tA_w (tA_at (tA_0 hr) (fA_up hr (by omega))) (by decide) (by decide)
    have eQ10 : Q1 24 0 = M 24 0 := tQ1.2.2.1
    have eQ11 : Q1 24 1 = M 24 1 + 1 := tQ1.2.2.2.1
    have eQ125 : Q1 25 = M 25 := tQ1.2.1 25 (by decide) (by decide)
    have q30 : Q1 30 i.toNat = 1 := by rw [hQ1, mm_up_eq]
    have hcd : M 24 1 < M 24 0 ∧ M 25 (M 24 1).toNat = 33 := by omega
    refine mm_callV (b := 24) (mi' := mi_X8_takeWord) [v_r 1005] [v_i i, v_r 31] (mm_dc od_X7_readTest_0 12 rfl) rfl wd_3_85 wd_3_86 wd_3_87 wd_1_6 wd_3_88 yk_X8_takeWord rfl rfl rfl (Nat.le_of_ble_eq_true rfl) rfl (by decide) (c_tw3 (tA_J tQ1 (by omega) (by omega)) tQ1.1 (fun N1 r1 v1 hf1 hT1 => ⟨Nat.le_refl _, ?_⟩))
    rw [eQ10, eQ11, eQ125] at hT1
    have hb1 := TW_r hT1 (by omega)
    rw [show (M 24 1 + 1).toNat = (M 24 1).toNat + 1 by omega] at hT1 hb1
    rw [eQ11] at hf1
    have hr1 := hf1.1
    refine mm_iast (mm_dc od_X7_readTest_0 13 rfl) rfl (by first | omega | assumption | exact hr _ _ rfl) (by first | omega | assumption | exact hr _ _ rfl) (by decide) ?_
    refine mm_aload_n (mm_dc od_X7_readTest_0 14 rfl) rfl ?_
    refine mm_getR (ci := 7) (k := 5) (mm_dc od_X7_readTest_0 15 rfl) rfl in_X7 (by decide) wd_1_176 rfl rfl ?_
    refine mm_iload_n (mm_dc od_X7_readTest_0 16 rfl) rfl ?_
    refine mm_iald (mm_dc od_X7_readTest_0 17 rfl) rfl (by first | omega | assumption | exact hr _ _ rfl) (by first | omega | assumption | exact hr _ _ rfl) (by decide) ?_
    refine mm_cst (st' := [v_i r1]) (by simp only [mm_up_eq]) ?_
    refine mm_iconst (mm_dc od_X7_readTest_0 18 rfl) ?_
    refine mm_icmp_ne 36 (mm_dc od_X7_readTest_0 19 rfl) (by omega) (by first | omega | assumption | exact hr _ _ rfl) (by first | omega | assumption | exact hr _ _ rfl) (fun c3 => ?_) (fun c3 => ?_)
    · refine mm_aload_n (mm_dc od_X7_readTest_0 22 rfl) rfl ?_
      refine mm_getR (ci := 7) (k := 6) (mm_dc od_X7_readTest_0 23 rfl) rfl in_X7 (by decide) wd_1_177 rfl rfl ?_
      refine mm_iload_n (mm_dc od_X7_readTest_0 24 rfl) rfl ?_
      refine mm_aload_n (mm_dc od_X7_readTest_0 25 rfl) rfl ?_
      refine mm_ldcS (i := 4) (mm_dc od_X7_readTest_0 26 rfl) rfl rfl ?_
      obtain ⟨Q2, hQ2⟩ : ∃ Q2 : mm_M, Q2 = mm_up N1 31 (Int.toNat i) r1 := ⟨_, rfl⟩
      rw [← hQ2]
      have tQ2 : tA M Q2 i.toNat (M 24 1 + 1 + (v1 : Int)) := by rw [hQ2]; exact tA_w (tA_at tQ1 hf1) (by decide) (by omega)
      have eQ20 : Q2 24 0 = M 24 0 := tQ2.2.2.1
      have eQ21 : Q2 24 1 = M 24 1 + 1 + (v1 : Int) := tQ2.2.2.2.1
      have eQ225 : Q2 25 = M 25 := tQ2.2.1 25 (by decide) (by decide)
      have q230 : Q2 30 i.toNat = 1 := by rw [hQ2, mm_up_ne (by decide), hf1.2.1 30 (by decide), q30]
      have q231 : Q2 31 i.toNat = r1 := by rw [hQ2, mm_up_eq]
      refine mm_callV (b := 24) (mi' := mi_X8_takeWord) [v_r 1006] [v_i i, v_r 32] (mm_dc od_X7_readTest_0 27 rfl) rfl wd_3_85 wd_3_86 wd_3_87 wd_1_6 wd_3_88 yk_X8_takeWord rfl rfl rfl (Nat.le_of_ble_eq_true rfl) rfl (by decide) (c_tw4 (tA_J tQ2 (by omega) (by omega)) tQ2.1 (fun N2 r2 v2 hf2 hT2 => ⟨Nat.le_refl _, ?_⟩))
      rw [eQ20, eQ21, eQ225] at hT2
      have hb2 := TW_r hT2 (by omega)
      rw [show (M 24 1 + 1 + (v1 : Int)).toNat = (M 24 1).toNat + 1 + v1 by omega] at hT2 hb2
      rw [eQ21] at hf2
      have hr2 := hf2.1
      refine mm_iast (mm_dc od_X7_readTest_0 28 rfl) rfl (by first | omega | assumption | exact hr _ _ rfl) (by first | omega | assumption | exact hr _ _ rfl) (by decide) ?_
      refine mm_aload_n (mm_dc od_X7_readTest_0 29 rfl) rfl ?_
      refine mm_getR (ci := 7) (k := 6) (mm_dc od_X7_readTest_0 30 rfl) rfl in_X7 (by decide) wd_1_177 rfl rfl ?_
      refine mm_iload_n (mm_dc od_X7_readTest_0 31 rfl) rfl ?_
      refine mm_iald (mm_dc od_X7_readTest_0 32 rfl) rfl (by first | omega | assumption | exact hr _ _ rfl) (by first | omega | assumption | exact hr _ _ rfl) (by decide) ?_
      refine mm_cst (st' := [v_i r2]) (by simp only [mm_up_eq]) ?_
      refine mm_iconst (mm_dc od_X7_readTest_0 33 rfl) ?_
      refine mm_icmp_ne 60 (mm_dc od_X7_readTest_0 34 rfl) (by omega) (by first | omega | assumption | exact hr _ _ rfl) (by first | omega | assumption | exact hr _ _ rfl) (fun c4 => ?_) (fun c4 => ?_)
      · refine mm_aload_n (mm_dc od_X7_readTest_0 37 rfl) rfl ?_
        refine mm_getR (ci := 7) (k := 7) (mm_dc od_X7_readTest_0 38 rfl) rfl in_X7 (by decide) wd_1_178 rfl rfl ?_
        refine mm_iload_n (mm_dc od_X7_readTest_0 39 rfl) rfl ?_
        refine mm_aload_n (mm_dc od_X7_readTest_0 40 rfl) rfl ?_
        obtain ⟨Q3, hQ3⟩ : ∃ Q3 : mm_M, Q3 = mm_up N2 32 (Int.toNat i) r2 := ⟨_, rfl⟩
        rw [← hQ3]
        have tQ3 : tA M Q3 i.toNat (M 24 1 + 1 + (v1 : Int) + (v2 : Int)) := by rw [hQ3]; exact tA_w (tA_at tQ2 hf2) (by decide) (by omega)
        have eQ30 : Q3 24 0 = M 24 0 := tQ3.2.2.1
        have eQ31 : Q3 24 1 = M 24 1 + 1 + (v1 : Int) + (v2 : Int) := tQ3.2.2.2.1
        have eQ325 : Q3 25 = M 25 := tQ3.2.1 25 (by decide) (by decide)
        have q330 : Q3 30 i.toNat = 1 := by rw [hQ3, mm_up_ne (by decide), hf2.2.1 30 (by decide), q230]
        have q331 : Q3 31 i.toNat = r1 := by rw [hQ3, mm_up_ne (by decide), hf2.2.1 31 (by decide), q231]
        have q332 : Q3 32 i.toNat = r2 := by rw [hQ3, mm_up_eq]
        refine mm_callV (b := 24) (mi' := mi_X8_takeNumber) [] [v_i i, v_r 33] (mm_dc od_X7_readTest_0 41 rfl) rfl wd_3_165 wd_3_166 wd_3_167 wd_1_6 wd_3_168 yk_X8_takeNumber rfl rfl rfl (Nat.le_of_ble_eq_true rfl) rfl (by decide) (c_tn (tA_J tQ3 (by omega) (by omega)) tQ3.1 (fun N3 c hf3 hN3 => ⟨Nat.le_refl _, ?_⟩))
        rw [eQ30, eQ31, eQ325] at hN3
        rw [show (M 24 1 + 1 + (v1 : Int) + (v2 : Int)).toNat = (M 24 1).toNat + 1 + v1 + v2 by omega] at hN3
        rw [eQ31] at hf3
        have hr3 := hf3.1
        obtain ⟨x3, hx3⟩ : ∃ x3 : Int, x3 = (if c = 0 then -1 else nv (Q3 25) (Q3 24 1).toNat c) := ⟨_, rfl⟩
        have hx4 := hx3
        rw [eQ31, eQ325, show (M 24 1 + 1 + (v1 : Int) + (v2 : Int)).toNat = (M 24 1).toNat + 1 + v1 + v2 by omega] at hx4
        rw [← hx3]
        have hnr := nv_r (tp := M 25) (p := (M 24 1).toNat + 1 + v1 + v2) c (fun q hq => (hN3.2.1 q hq).2)
        have hnB := nvB_r hN3.1
        have hx3r : -1 ≤ x3 ∧ x3 ≤ 999 ∧ (c ≠ 0 → x3 = nv (M 25) ((M 24 1).toNat + 1 + v1 + v2) c ∧ 0 ≤ x3) ∧ (c = 0 → x3 = -1) := by
          rw [hx4]
          by_cases e : c = 0
          · rw [if_pos e]; exact ⟨by omega, by omega, fun q => absurd e q, fun _ => rfl⟩
          · rw [if_neg e]; exact ⟨by omega, by omega, fun _ => ⟨rfl, hnr.1⟩, fun q => absurd q e⟩
        have hlc : (((((M 24 1).toNat + 1 : Nat) : Int)) + v1 + v2 + c : Int) ≤ M 24 0 := by
          rcases Nat.eq_zero_or_pos c with q | q
          · subst q; omega
          · have h := (hN3.2.1 (c - 1) (by omega)).1
            omega
        refine mm_iast (mm_dc od_X7_readTest_0 42 rfl) rfl (by first | omega | assumption | exact hr _ _ rfl) (by first | omega | assumption | exact hr _ _ rfl) (by decide) ?_
        refine mm_aload_n (mm_dc od_X7_readTest_0 43 rfl) rfl ?_
        refine mm_getR (ci := 7) (k := 7) (mm_dc od_X7_readTest_0 44 rfl) rfl in_X7 (by decide) wd_1_178 rfl rfl ?_
        refine mm_iload_n (mm_dc od_X7_readTest_0 45 rfl) rfl ?_
        refine mm_iald (mm_dc od_X7_readTest_0 46 rfl) rfl (by first | omega | assumption | exact hr _ _ rfl) (by first | omega | assumption | exact hr _ _ rfl) (by decide) ?_
        refine mm_cst (st' := [v_i x3]) (by simp only [mm_up_eq]) ?_
        refine mm_iconst (mm_dc od_X7_readTest_0 47 rfl) ?_
        refine mm_icmp_eq 84 (mm_dc od_X7_readTest_0 48 rfl) (by omega) (by first | omega | assumption | exact hr _ _ rfl) (by first | omega | assumption | exact hr _ _ rfl) (fun c5 => ?_) (fun c5 => ?_)
        · refine mm_iconst (mm_dc od_X7_readTest_0 51 rfl) ?_
          refine mm_zret .boolean (mm_dc od_X7_readTest_0 52 rfl) rfl rfl ?_
          obtain ⟨F, hF⟩ : ∃ F : mm_M, F = mm_up N3 33 (Int.toNat i) x3 := ⟨_, rfl⟩
          rw [← hF]
          have tF : tA M F i.toNat (M 24 1 + 1 + (v1 : Int) + (v2 : Int) + (c : Int)) := by rw [hF]; exact tA_w (tA_at tQ3 hf3) (by decide) (by omega)
          have eF1 := tF.2.2.2.1
          have g30 : F 30 i.toNat = 1 := by rw [hF, mm_up_ne (by decide), hf3.2.1 30 (by decide), q330]
          have g31 : F 31 i.toNat = r1 := by rw [hF, mm_up_ne (by decide), hf3.2.1 31 (by decide), q331]
          have g32 : F 32 i.toNat = r2 := by rw [hF, mm_up_ne (by decide), hf3.2.1 32 (by decide), q332]
          have gl : F 33 i.toNat = x3 := by rw [hF, mm_up_eq]
          have hc0 : c = 0 := Classical.byContradiction (fun q => by have := hx3r.2.2.1 q; omega)
          have hTS : TSQ (M 24 0) (M 25) (M 24 1).toNat 0 (F 24 1).toNat (F 30 i.toNat) (F 31 i.toNat) (F 32 i.toNat) (F 33 i.toNat) := ⟨(M 24 1).toNat + 1, Or.inl ⟨g30, rfl, by omega⟩, r1, v1, hT1, Or.inr ⟨by omega, g31, r2, v2, hT2, Or.inr ⟨by omega, g32, c, hN3, Or.inl ⟨hc0, rfl, by omega⟩⟩⟩⟩
          exact k F _ ⟨by rw [eF1]; exact tF, by rw [eF1]; omega, hTS, fun q => by cases q⟩
        · refine mm_iconst (mm_dc od_X7_readTest_0 49 rfl) ?_
          refine mm_goto 85 (mm_dc od_X7_readTest_0 50 rfl) (by omega) ?_
          refine mm_zret .boolean (mm_dc od_X7_readTest_0 52 rfl) rfl rfl ?_
          obtain ⟨F, hF⟩ : ∃ F : mm_M, F = mm_up N3 33 (Int.toNat i) x3 := ⟨_, rfl⟩
          rw [← hF]
          have tF : tA M F i.toNat (M 24 1 + 1 + (v1 : Int) + (v2 : Int) + (c : Int)) := by rw [hF]; exact tA_w (tA_at tQ3 hf3) (by decide) (by omega)
          have eF1 := tF.2.2.2.1
          have g30 : F 30 i.toNat = 1 := by rw [hF, mm_up_ne (by decide), hf3.2.1 30 (by decide), q330]
          have g31 : F 31 i.toNat = r1 := by rw [hF, mm_up_ne (by decide), hf3.2.1 31 (by decide), q331]
          have g32 : F 32 i.toNat = r2 := by rw [hF, mm_up_ne (by decide), hf3.2.1 32 (by decide), q332]
          have gl : F 33 i.toNat = x3 := by rw [hF, mm_up_eq]
          have hc0 : c ≠ 0 := fun q => by have := hx3r.2.2.2 q; omega
          have hx5 := hx3r.2.2.1 hc0
          have hTS : TSQ (M 24 0) (M 25) (M 24 1).toNat 1 (F 24 1).toNat (F 30 i.toNat) (F 31 i.toNat) (F 32 i.toNat) (F 33 i.toNat) := ⟨(M 24 1).toNat + 1, Or.inl ⟨g30, rfl, by omega⟩, r1, v1, hT1, Or.inr ⟨by omega, g31, r2, v2, hT2, Or.inr ⟨by omega, g32, c, hN3, Or.inr ⟨hc0, rfl, by rw [gl]; exact hx5.1, by omega⟩⟩⟩⟩
          exact k F _ ⟨by rw [eF1]; exact tF, by rw [eF1]; omega, hTS, fun _ => by rw [g30, g31, g32, gl]; omega⟩
      · refine mm_iconst (mm_dc od_X7_readTest_0 35 rfl) ?_
        refine mm_zret .boolean (mm_dc od_X7_readTest_0 36 rfl) rfl rfl ?_
        obtain ⟨F, hF⟩ : ∃ F : mm_M, F = mm_up N2 32 (Int.toNat i) r2 := ⟨_, rfl⟩
        rw [← hF]
        have tF : tA M F i.toNat (M 24 1 + 1 + (v1 : Int) + (v2 : Int)) := by rw [hF]; exact tA_w (tA_at tQ2 hf2) (by decide) (by omega)
        have eF1 := tF.2.2.2.1
        have g30 : F 30 i.toNat = 1 := by rw [hF, mm_up_ne (by decide), hf2.2.1 30 (by decide), q230]
        have g31 : F 31 i.toNat = r1 := by rw [hF, mm_up_ne (by decide), hf2.2.1 31 (by decide), q231]
        have gl : F 32 i.toNat = r2 := by rw [hF, mm_up_eq]
        have hTS : TSQ (M 24 0) (M 25) (M 24 1).toNat 0 (F 24 1).toNat (F 30 i.toNat) (F 31 i.toNat) (F 32 i.toNat) (F 33 i.toNat) := ⟨(M 24 1).toNat + 1, Or.inl ⟨g30, rfl, by omega⟩, r1, v1, hT1, Or.inr ⟨by omega, g31, r2, v2, hT2, Or.inl ⟨by omega, rfl, by omega⟩⟩⟩
        exact k F _ ⟨by rw [eF1]; exact tF, by rw [eF1]; omega, hTS, fun q => by cases q⟩
    · refine mm_iconst (mm_dc od_X7_readTest_0 20 rfl) ?_
      refine mm_zret .boolean (mm_dc od_X7_readTest_0 21 rfl) rfl rfl ?_
      obtain ⟨F, hF⟩ : ∃ F : mm_M, F = mm_up N1 31 (Int.toNat i) r1 := ⟨_, rfl⟩
      rw [← hF]
      have tF : tA M F i.toNat (M 24 1 + 1 + (v1 : Int)) := by rw [hF]; exact tA_w (tA_at tQ1 hf1) (by decide) (by omega)
      have eF1 := tF.2.2.2.1
      have g30 : F 30 i.toNat = 1 := by rw [hF, mm_up_ne (by decide), hf1.2.1 30 (by decide), q30]
      have gl : F 31 i.toNat = r1 := by rw [hF, mm_up_eq]
      have hTS : TSQ (M 24 0) (M 25) (M 24 1).toNat 0 (F 24 1).toNat (F 30 i.toNat) (F 31 i.toNat) (F 32 i.toNat) (F 33 i.toNat) := ⟨(M 24 1).toNat + 1, Or.inl ⟨g30, rfl, by omega⟩, r1, v1, hT1, Or.inl ⟨by omega, rfl, by omega⟩⟩
      exact k F _ ⟨by rw [eF1]; exact tF, by rw [eF1]; omega, hTS, fun q => by cases q⟩
  · refine mm_zast (mm_dc od_X7_readTest_0 6 rfl) rfl (by first | omega | assumption | exact hr _ _ rfl) (by first | omega | assumption | exact hr _ _ rfl) (by decide) (by first | omega | assumption | exact hr _ _ rfl) ?_
    refine mm_aload_n (mm_dc od_X7_readTest_0 7 rfl) rfl ?_
    refine mm_getR (ci := 7) (k := 5) (mm_dc od_X7_readTest_0 8 rfl) rfl in_X7 (by decide) wd_1_176 rfl rfl ?_
    refine mm_iload_n (mm_dc od_X7_readTest_0 9 rfl) rfl ?_
    refine mm_aload_n (mm_dc od_X7_readTest_0 10 rfl) rfl ?_
    refine mm_ldcS (i := 3) (mm_dc od_X7_readTest_0 11 rfl) rfl rfl ?_
    obtain ⟨Q1, hQ1⟩ : ∃ Q1 : mm_M, Q1 = mm_up M 30 (Int.toNat i) 0 := ⟨_, rfl⟩
    rw [← hQ1]
    have tQ1 : tA M Q1 i.toNat (M 24 1) := by rw [hQ1]; exact tA_w (tA_0 hr) (by decide) (by decide)
    have eQ10 : Q1 24 0 = M 24 0 := tQ1.2.2.1
    have eQ11 : Q1 24 1 = M 24 1 := tQ1.2.2.2.1
    have eQ125 : Q1 25 = M 25 := tQ1.2.1 25 (by decide) (by decide)
    have q30 : Q1 30 i.toNat = 0 := by rw [hQ1, mm_up_eq]
    have hcd : ¬ (M 24 1 < M 24 0 ∧ M 25 (M 24 1).toNat = 33) := by omega
    refine mm_callV (b := 24) (mi' := mi_X8_takeWord) [v_r 1005] [v_i i, v_r 31] (mm_dc od_X7_readTest_0 12 rfl) rfl wd_3_85 wd_3_86 wd_3_87 wd_1_6 wd_3_88 yk_X8_takeWord rfl rfl rfl (Nat.le_of_ble_eq_true rfl) rfl (by decide) (c_tw3 (tA_J tQ1 (by omega) (by omega)) tQ1.1 (fun N1 r1 v1 hf1 hT1 => ⟨Nat.le_refl _, ?_⟩))
    rw [eQ10, eQ11, eQ125] at hT1
    have hb1 := TW_r hT1 (by omega)
    rw [show (M 24 1).toNat = (M 24 1).toNat by omega] at hT1 hb1
    rw [eQ11] at hf1
    have hr1 := hf1.1
    refine mm_iast (mm_dc od_X7_readTest_0 13 rfl) rfl (by first | omega | assumption | exact hr _ _ rfl) (by first | omega | assumption | exact hr _ _ rfl) (by decide) ?_
    refine mm_aload_n (mm_dc od_X7_readTest_0 14 rfl) rfl ?_
    refine mm_getR (ci := 7) (k := 5) (mm_dc od_X7_readTest_0 15 rfl) rfl in_X7 (by decide) wd_1_176 rfl rfl ?_
    refine mm_iload_n (mm_dc od_X7_readTest_0 16 rfl) rfl ?_
    refine mm_iald (mm_dc od_X7_readTest_0 17 rfl) rfl (by first | omega | assumption | exact hr _ _ rfl) (by first | omega | assumption | exact hr _ _ rfl) (by decide) ?_
    refine mm_cst (st' := [v_i r1]) (by simp only [mm_up_eq]) ?_
    refine mm_iconst (mm_dc od_X7_readTest_0 18 rfl) ?_
    refine mm_icmp_ne 36 (mm_dc od_X7_readTest_0 19 rfl) (by omega) (by first | omega | assumption | exact hr _ _ rfl) (by first | omega | assumption | exact hr _ _ rfl) (fun c6 => ?_) (fun c6 => ?_)
    · refine mm_aload_n (mm_dc od_X7_readTest_0 22 rfl) rfl ?_
      refine mm_getR (ci := 7) (k := 6) (mm_dc od_X7_readTest_0 23 rfl) rfl in_X7 (by decide) wd_1_177 rfl rfl ?_
      refine mm_iload_n (mm_dc od_X7_readTest_0 24 rfl) rfl ?_
      refine mm_aload_n (mm_dc od_X7_readTest_0 25 rfl) rfl ?_
      refine mm_ldcS (i := 4) (mm_dc od_X7_readTest_0 26 rfl) rfl rfl ?_
      obtain ⟨Q2, hQ2⟩ : ∃ Q2 : mm_M, Q2 = mm_up N1 31 (Int.toNat i) r1 := ⟨_, rfl⟩
      rw [← hQ2]
      have tQ2 : tA M Q2 i.toNat (M 24 1 + (v1 : Int)) := by rw [hQ2]; exact tA_w (tA_at tQ1 hf1) (by decide) (by omega)
      have eQ20 : Q2 24 0 = M 24 0 := tQ2.2.2.1
      have eQ21 : Q2 24 1 = M 24 1 + (v1 : Int) := tQ2.2.2.2.1
      have eQ225 : Q2 25 = M 25 := tQ2.2.1 25 (by decide) (by decide)
      have q230 : Q2 30 i.toNat = 0 := by rw [hQ2, mm_up_ne (by decide), hf1.2.1 30 (by decide), q30]
      have q231 : Q2 31 i.toNat = r1 := by rw [hQ2, mm_up_eq]
      refine mm_callV (b := 24) (mi' := mi_X8_takeWord) [v_r 1006] [v_i i, v_r 32] (mm_dc od_X7_readTest_0 27 rfl) rfl wd_3_85 wd_3_86 wd_3_87 wd_1_6 wd_3_88 yk_X8_takeWord rfl rfl rfl (Nat.le_of_ble_eq_true rfl) rfl (by decide) (c_tw4 (tA_J tQ2 (by omega) (by omega)) tQ2.1 (fun N2 r2 v2 hf2 hT2 => ⟨Nat.le_refl _, ?_⟩))
      rw [eQ20, eQ21, eQ225] at hT2
      have hb2 := TW_r hT2 (by omega)
      rw [show (M 24 1 + (v1 : Int)).toNat = (M 24 1).toNat + v1 by omega] at hT2 hb2
      rw [eQ21] at hf2
      have hr2 := hf2.1
      refine mm_iast (mm_dc od_X7_readTest_0 28 rfl) rfl (by first | omega | assumption | exact hr _ _ rfl) (by first | omega | assumption | exact hr _ _ rfl) (by decide) ?_
      refine mm_aload_n (mm_dc od_X7_readTest_0 29 rfl) rfl ?_
      refine mm_getR (ci := 7) (k := 6) (mm_dc od_X7_readTest_0 30 rfl) rfl in_X7 (by decide) wd_1_177 rfl rfl ?_
      refine mm_iload_n (mm_dc od_X7_readTest_0 31 rfl) rfl ?_
      refine mm_iald (mm_dc od_X7_readTest_0 32 rfl) rfl (by first | omega | assumption | exact hr _ _ rfl) (by first | omega | assumption | exact hr _ _ rfl) (by decide) ?_
      refine mm_cst (st' := [v_i r2]) (by simp only [mm_up_eq]) ?_
      refine mm_iconst (mm_dc od_X7_readTest_0 33 rfl) ?_
      refine mm_icmp_ne 60 (mm_dc od_X7_readTest_0 34 rfl) (by omega) (by first | omega | assumption | exact hr _ _ rfl) (by first | omega | assumption | exact hr _ _ rfl) (fun c7 => ?_) (fun c7 => ?_)
      · refine mm_aload_n (mm_dc od_X7_readTest_0 37 rfl) rfl ?_
        refine mm_getR (ci := 7) (k := 7) (mm_dc od_X7_readTest_0 38 rfl) rfl in_X7 (by decide) wd_1_178 rfl rfl ?_
        refine mm_iload_n (mm_dc od_X7_readTest_0 39 rfl) rfl ?_
        refine mm_aload_n (mm_dc od_X7_readTest_0 40 rfl) rfl ?_
        obtain ⟨Q3, hQ3⟩ : ∃ Q3 : mm_M, Q3 = mm_up N2 32 (Int.toNat i) r2 := ⟨_, rfl⟩
        rw [← hQ3]
        have tQ3 : tA M Q3 i.toNat (M 24 1 + (v1 : Int) + (v2 : Int)) := by rw [hQ3]; exact tA_w (tA_at tQ2 hf2) (by decide) (by omega)
        have eQ30 : Q3 24 0 = M 24 0 := tQ3.2.2.1
        have eQ31 : Q3 24 1 = M 24 1 + (v1 : Int) + (v2 : Int) := tQ3.2.2.2.1
        have eQ325 : Q3 25 = M 25 := tQ3.2.1 25 (by decide) (by decide)
        have q330 : Q3 30 i.toNat = 0 := by rw [hQ3, mm_up_ne (by decide), hf2.2.1 30 (by decide), q230]
        have q331 : Q3 31 i.toNat = r1 := by rw [hQ3, mm_up_ne (by decide), hf2.2.1 31 (by decide), q231]
        have q332 : Q3 32 i.toNat = r2 := by rw [hQ3, mm_up_eq]
        refine mm_callV (b := 24) (mi' := mi_X8_takeNumber) [] [v_i i, v_r 33] (mm_dc od_X7_readTest_0 41 rfl) rfl wd_3_165 wd_3_166 wd_3_167 wd_1_6 wd_3_168 yk_X8_takeNumber rfl rfl rfl (Nat.le_of_ble_eq_true rfl) rfl (by decide) (c_tn (tA_J tQ3 (by omega) (by omega)) tQ3.1 (fun N3 c hf3 hN3 => ⟨Nat.le_refl _, ?_⟩))
        rw [eQ30, eQ31, eQ325] at hN3
        rw [show (M 24 1 + (v1 : Int) + (v2 : Int)).toNat = (M 24 1).toNat + v1 + v2 by omega] at hN3
        rw [eQ31] at hf3
        have hr3 := hf3.1
        obtain ⟨x3, hx3⟩ : ∃ x3 : Int, x3 = (if c = 0 then -1 else nv (Q3 25) (Q3 24 1).toNat c) := ⟨_, rfl⟩
        have hx4 := hx3
        rw [eQ31, eQ325, show (M 24 1 + (v1 : Int) + (v2 : Int)).toNat = (M 24 1).toNat + v1 + v2 by omega] at hx4
        rw [← hx3]
        have hnr := nv_r (tp := M 25) (p := (M 24 1).toNat + v1 + v2) c (fun q hq => (hN3.2.1 q hq).2)
        have hnB := nvB_r hN3.1
        have hx3r : -1 ≤ x3 ∧ x3 ≤ 999 ∧ (c ≠ 0 → x3 = nv (M 25) ((M 24 1).toNat + v1 + v2) c ∧ 0 ≤ x3) ∧ (c = 0 → x3 = -1) := by
          rw [hx4]
          by_cases e : c = 0
          · rw [if_pos e]; exact ⟨by omega, by omega, fun q => absurd e q, fun _ => rfl⟩
          · rw [if_neg e]; exact ⟨by omega, by omega, fun _ => ⟨rfl, hnr.1⟩, fun q => absurd q e⟩
        have hlc : (((((M 24 1).toNat : Nat) : Int)) + v1 + v2 + c : Int) ≤ M 24 0 := by
          rcases Nat.eq_zero_or_pos c with q | q
          · subst q; omega
          · have h := (hN3.2.1 (c - 1) (by omega)).1
            omega
        refine mm_iast (mm_dc od_X7_readTest_0 42 rfl) rfl (by first | omega | assumption | exact hr _ _ rfl) (by first | omega | assumption | exact hr _ _ rfl) (by decide) ?_
        refine mm_aload_n (mm_dc od_X7_readTest_0 43 rfl) rfl ?_
        refine mm_getR (ci := 7) (k := 7) (mm_dc od_X7_readTest_0 44 rfl) rfl in_X7 (by decide) wd_1_178 rfl rfl ?_
        refine mm_iload_n (mm_dc od_X7_readTest_0 45 rfl) rfl ?_
        refine mm_iald (mm_dc od_X7_readTest_0 46 rfl) rfl (by first | omega | assumption | exact hr _ _ rfl) (by first | omega | assumption | exact hr _ _ rfl) (by decide) ?_
        refine mm_cst (st' := [v_i x3]) (by simp only [mm_up_eq]) ?_
        refine mm_iconst (mm_dc od_X7_readTest_0 47 rfl) ?_
        refine mm_icmp_eq 84 (mm_dc od_X7_readTest_0 48 rfl) (by omega) (by first | omega | assumption | exact hr _ _ rfl) (by first | omega | assumption | exact hr _ _ rfl) (fun c8 => ?_) (fun c8 => ?_)
        · refine mm_iconst (mm_dc od_X7_readTest_0 51 rfl) ?_
          refine mm_zret .boolean (mm_dc od_X7_readTest_0 52 rfl) rfl rfl ?_
          obtain ⟨F, hF⟩ : ∃ F : mm_M, F = mm_up N3 33 (Int.toNat i) x3 := ⟨_, rfl⟩
          rw [← hF]
          have tF : tA M F i.toNat (M 24 1 + (v1 : Int) + (v2 : Int) + (c : Int)) := by rw [hF]; exact tA_w (tA_at tQ3 hf3) (by decide) (by omega)
          have eF1 := tF.2.2.2.1
          have g30 : F 30 i.toNat = 0 := by rw [hF, mm_up_ne (by decide), hf3.2.1 30 (by decide), q330]
          have g31 : F 31 i.toNat = r1 := by rw [hF, mm_up_ne (by decide), hf3.2.1 31 (by decide), q331]
          have g32 : F 32 i.toNat = r2 := by rw [hF, mm_up_ne (by decide), hf3.2.1 32 (by decide), q332]
          have gl : F 33 i.toNat = x3 := by rw [hF, mm_up_eq]
          have hc0 : c = 0 := Classical.byContradiction (fun q => by have := hx3r.2.2.1 q; omega)
          have hTS : TSQ (M 24 0) (M 25) (M 24 1).toNat 0 (F 24 1).toNat (F 30 i.toNat) (F 31 i.toNat) (F 32 i.toNat) (F 33 i.toNat) := ⟨(M 24 1).toNat, Or.inr ⟨g30, rfl, by omega⟩, r1, v1, hT1, Or.inr ⟨by omega, g31, r2, v2, hT2, Or.inr ⟨by omega, g32, c, hN3, Or.inl ⟨hc0, rfl, by omega⟩⟩⟩⟩
          exact k F _ ⟨by rw [eF1]; exact tF, by rw [eF1]; omega, hTS, fun q => by cases q⟩
        · refine mm_iconst (mm_dc od_X7_readTest_0 49 rfl) ?_
          refine mm_goto 85 (mm_dc od_X7_readTest_0 50 rfl) (by omega) ?_
          refine mm_zret .boolean (mm_dc od_X7_readTest_0 52 rfl) rfl rfl ?_
          obtain ⟨F, hF⟩ : ∃ F : mm_M, F = mm_up N3 33 (Int.toNat i) x3 := ⟨_, rfl⟩
          rw [← hF]
          have tF : tA M F i.toNat (M 24 1 + (v1 : Int) + (v2 : Int) + (c : Int)) := by rw [hF]; exact tA_w (tA_at tQ3 hf3) (by decide) (by omega)
          have eF1 := tF.2.2.2.1
          have g30 : F 30 i.toNat = 0 := by rw [hF, mm_up_ne (by decide), hf3.2.1 30 (by decide), q330]
          have g31 : F 31 i.toNat = r1 := by rw [hF, mm_up_ne (by decide), hf3.2.1 31 (by decide), q331]
          have g32 : F 32 i.toNat = r2 := by rw [hF, mm_up_ne (by decide), hf3.2.1 32 (by decide), q332]
          have gl : F 33 i.toNat = x3 := by rw [hF, mm_up_eq]
          have hc0 : c ≠ 0 := fun q => by have := hx3r.2.2.2 q; omega
          have hx5 := hx3r.2.2.1 hc0
          have hTS : TSQ (M 24 0) (M 25) (M 24 1).toNat 1 (F 24 1).toNat (F 30 i.toNat) (F 31 i.toNat) (F 32 i.toNat) (F 33 i.toNat) := ⟨(M 24 1).toNat, Or.inr ⟨g30, rfl, by omega⟩, r1, v1, hT1, Or.inr ⟨by omega, g31, r2, v2, hT2, Or.inr ⟨by omega, g32, c, hN3, Or.inr ⟨hc0, rfl, by rw [gl]; exact hx5.1, by omega⟩⟩⟩⟩
          exact k F _ ⟨by rw [eF1]; exact tF, by rw [eF1]; omega, hTS, fun _ => by rw [g30, g31, g32, gl]; omega⟩
      · refine mm_iconst (mm_dc od_X7_readTest_0 35 rfl) ?_
        refine mm_zret .boolean (mm_dc od_X7_readTest_0 36 rfl) rfl rfl ?_
        obtain ⟨F, hF⟩ : ∃ F : mm_M, F = mm_up N2 32 (Int.toNat i) r2 := ⟨_, rfl⟩
        rw [← hF]
        have tF : tA M F i.toNat (M 24 1 + (v1 : Int) + (v2 : Int)) := by rw [hF]; exact tA_w (tA_at tQ2 hf2) (by decide) (by omega)
        have eF1 := tF.2.2.2.1
        have g30 : F 30 i.toNat = 0 := by rw [hF, mm_up_ne (by decide), hf2.2.1 30 (by decide), q230]
        have g31 : F 31 i.toNat = r1 := by rw [hF, mm_up_ne (by decide), hf2.2.1 31 (by decide), q231]
        have gl : F 32 i.toNat = r2 := by rw [hF, mm_up_eq]
        have hTS : TSQ (M 24 0) (M 25) (M 24 1).toNat 0 (F 24 1).toNat (F 30 i.toNat) (F 31 i.toNat) (F 32 i.toNat) (F 33 i.toNat) := ⟨(M 24 1).toNat, Or.inr ⟨g30, rfl, by omega⟩, r1, v1, hT1, Or.inr ⟨by omega, g31, r2, v2, hT2, Or.inl ⟨by omega, rfl, by omega⟩⟩⟩
        exact k F _ ⟨by rw [eF1]; exact tF, by rw [eF1]; omega, hTS, fun q => by cases q⟩
    · refine mm_iconst (mm_dc od_X7_readTest_0 20 rfl) ?_
      refine mm_zret .boolean (mm_dc od_X7_readTest_0 21 rfl) rfl rfl ?_
      obtain ⟨F, hF⟩ : ∃ F : mm_M, F = mm_up N1 31 (Int.toNat i) r1 := ⟨_, rfl⟩
      rw [← hF]
      have tF : tA M F i.toNat (M 24 1 + (v1 : Int)) := by rw [hF]; exact tA_w (tA_at tQ1 hf1) (by decide) (by omega)
      have eF1 := tF.2.2.2.1
      have g30 : F 30 i.toNat = 0 := by rw [hF, mm_up_ne (by decide), hf1.2.1 30 (by decide), q30]
      have gl : F 31 i.toNat = r1 := by rw [hF, mm_up_eq]
      have hTS : TSQ (M 24 0) (M 25) (M 24 1).toNat 0 (F 24 1).toNat (F 30 i.toNat) (F 31 i.toNat) (F 32 i.toNat) (F 33 i.toNat) := ⟨(M 24 1).toNat, Or.inr ⟨g30, rfl, by omega⟩, r1, v1, hT1, Or.inl ⟨by omega, rfl, by omega⟩⟩
      exact k F _ ⟨by rw [eF1]; exact tF, by rw [eF1]; omega, hTS, fun q => by cases q⟩
