def Hid (P : Prop) : Prop := P
theorem Hid_mk {P : Prop} (h : P) : Hid P := h
theorem Hid_un {P : Prop} (h : Hid P) : P := h
theorem L_ps62 {X : Nat × (Nat → Int)} {d : Nat} {Po : mm_Po} {M : mm_M} {B : mm_M} (len : Int) (tp : Nat → Int) (hlen : 0 ≤ len ∧ len ≤ 120) (hl : B 50 29 = len) (htp : ∀ k : Nat, (k : Int) < len → B 74 k = tp k) (rl : Nat) (hrl10 : rl < 10) (hrl : B 50 30 = (rl : Int)) (ra rb rc rd : Nat → Int) (q T : Nat) (ok bar kind : Int) (v1 v2 : Nat) (x : Int) (hk5 : 0 ≤ kind ∧ kind < 6) (hle : ((v1 + v2 : Nat) : Int) ≤ len) (xp0 : pM B M rl ((v1 + v2 : Nat) : Int)) (h75 : M 75 rl = bar) (hH3 : Hid ((len ≤ ((v1 + v2 : Nat) : Int) ∧ ok = 1 ∧ q = v1 + v2 ∧ T = 0) ∨ (((v1 + v2 : Nat) : Int) < len ∧ ∃ (r3 : Int) (v3 : Nat), TW 2 1 len tp (v1 + v2) r3 v3 ∧ ((r3 = -1 ∧ ok = 0 ∧ q = v1 + v2 + v3) ∨ (r3 ≠ -1 ∧ TL len tp ra rb rc rd 3 0 (v1 + v2 + v3) ok q T))))) (k : ∀ N : mm_M, pM B N rl (q : Int) → (ok = 1 → N 75 rl = bar ∧ N 76 rl = kind ∧ N 77 rl = (T : Int) ∧ ∀ u, u < T → rwT N rl ra rb rc rd u) → Po (some (v_i ok)) Lam N) : mm_G X (d + 6) 0 0 mi_X10_parses Po 62 [(0, v_r 50), (1, v_i x), (2, v_i kind)] [] Lam M 0 0 := by
  have hr := xp0.1
  have x30 : M 50 30 = (rl : Int) := (by rw [xp0.2.2.1 30 (by decide)]; exact hrl)
  have xNc : Int.toNat (M 50 30) = rl := (by omega)
  refine mm_aload_n (mm_dc od_X10_parses_0 36 rfl) rfl ?_
  refine mm_getR (ci := 10) (k := 33) (mm_dc od_X10_parses_0 37 rfl) rfl in_X10 (by decide) wd_4_145 rfl rfl ?_
  refine mm_aload_n (mm_dc od_X10_parses_0 38 rfl) rfl ?_
  refine mm_getI (ci := 10) (k := 30) (mm_dc od_X10_parses_0 39 rfl) rfl in_X10 (by decide) wd_4_142 rfl rfl ?_
  refine mm_iload_n (mm_dc od_X10_parses_0 40 rfl) rfl ?_
  refine mm_iast (mm_dc od_X10_parses_0 41 rfl) rfl (by first | omega | assumption | exact hr _ _ rfl) (by first | omega | assumption | exact hr _ _ rfl) (by decide) ?_
  obtain ⟨G1, hG1⟩ : ∃ G1 : mm_M, G1 = mm_up M 76 (Int.toNat (M 50 30)) kind := ⟨_, rfl⟩
  rw [← hG1]
  rw [xNc] at hG1
  have g176 : G1 76 rl = kind := by rw [hG1, mm_up_eq]
  have g175 : G1 75 rl = bar := by rw [hG1, mm_up_ne (by decide)]; exact h75
  have xp : pM B G1 rl ((v1 + v2 : Nat) : Int) := by rw [hG1]; exact pM_w xp0 (by decide) (by omega)
  have hr := xp.1
  have x29 : G1 50 29 = len := by rw [xp.2.2.1 29 (by decide)]; exact hl
  have x30 : G1 50 30 = (rl : Int) := by rw [xp.2.2.1 30 (by decide)]; exact hrl
  have xNc : Int.toNat (G1 50 30) = rl := by omega
  have x74 : ∀ k : Nat, (k : Int) < len → G1 74 k = tp k := by rw [xp.2.1 74 (by decide) (by decide)]; exact htp
  have x36 := xp.2.2.2.1
  have xp0 := xp
  refine mm_aload_n (mm_dc od_X10_parses_0 42 rfl) rfl ?_
  refine mm_getR (ci := 10) (k := 34) (mm_dc od_X10_parses_0 43 rfl) rfl in_X10 (by decide) wd_4_146 rfl rfl ?_
  refine mm_aload_n (mm_dc od_X10_parses_0 44 rfl) rfl ?_
  refine mm_getI (ci := 10) (k := 30) (mm_dc od_X10_parses_0 45 rfl) rfl in_X10 (by decide) wd_4_142 rfl rfl ?_
  refine mm_iconst (mm_dc od_X10_parses_0 46 rfl) ?_
  refine mm_iast (mm_dc od_X10_parses_0 47 rfl) rfl (by first | omega | assumption | exact hr _ _ rfl) (by first | omega | assumption | exact hr _ _ rfl) (by decide) ?_
  obtain ⟨G2, hG2⟩ : ∃ G2 : mm_M, G2 = mm_up G1 77 (Int.toNat (G1 50 30)) 0 := ⟨_, rfl⟩
  rw [← hG2]
  rw [xNc] at hG2
  have g277 : G2 77 rl = 0 := by rw [hG2, mm_up_eq]
  have g276 : G2 76 rl = kind := by rw [hG2, mm_up_ne (by decide)]; exact g176
  have g275 : G2 75 rl = bar := by rw [hG2, mm_up_ne (by decide)]; exact g175
  have xp : pM B G2 rl ((v1 + v2 : Nat) : Int) := by rw [hG2]; exact pM_w xp0 (by decide) (by omega)
  have hr := xp.1
  have x29 : G2 50 29 = len := by rw [xp.2.2.1 29 (by decide)]; exact hl
  have x30 : G2 50 30 = (rl : Int) := by rw [xp.2.2.1 30 (by decide)]; exact hrl
  have xNc : Int.toNat (G2 50 30) = rl := by omega
  have x74 : ∀ k : Nat, (k : Int) < len → G2 74 k = tp k := by rw [xp.2.1 74 (by decide) (by decide)]; exact htp
  have x36 := xp.2.2.2.1
  have xp0 := xp
  have xJ : JTm G2 := by unfold JTm; omega
  refine mm_aload_n (mm_dc od_X10_parses_0 48 rfl) rfl ?_
  refine mm_getI (ci := 10) (k := 36) (mm_dc od_X10_parses_0 49 rfl) rfl in_X10 (by decide) wd_4_148 rfl rfl ?_
  refine mm_aload_n (mm_dc od_X10_parses_0 50 rfl) rfl ?_
  refine mm_getI (ci := 10) (k := 29) (mm_dc od_X10_parses_0 51 rfl) rfl in_X10 (by decide) wd_4_141 rfl rfl ?_
  refine mm_icmp_ne 95 (mm_dc od_X10_parses_0 52 rfl) (by omega) (by first | omega | assumption | exact hr _ _ rfl) (by first | omega | assumption | exact hr _ _ rfl) (fun c1 => ?_) (fun c1 => ?_)
  · refine mm_aload_n (mm_dc od_X10_parses_0 55 rfl) rfl ?_
    refine mm_bipush (mm_dc od_X10_parses_0 56 rfl) (by decide) ?_
    rcases Hid_un hH3 with ⟨h1, _⟩ | ⟨hlt2, r3, v3, hT3, hrest4⟩
    · exfalso; omega
    have hH4 := Hid_mk hrest4
    clear hrest4
    obtain ⟨hcq, hr3⟩ := TW2 hT3
    have hs32 := sgS_t (b := 32) x29 x74 x36 (by decide)
    refine mm_callV (b := 50) (mi' := mi_X10_takes) [v_i 32] [] (mm_dc od_X10_parses_0 57 rfl) rfl wd_5_213 wd_5_215 wd_p_40 wd_1_12 wd_5_216 yk_X10_takes rfl rfl rfl (Nat.le_of_ble_eq_true rfl) rfl (by decide) (c_X10_takes 32 (by decide) xJ hr (fun ht => ⟨Nat.le_refl _, ?_⟩) (fun ht => ⟨Nat.le_refl _, ?_⟩))
    · have hbl := hs32.mp ht
      have hv31 : 1 ≤ v3 := by
        apply Classical.byContradiction
        intro q2
        have e : v3 = 0 := by omega
        rw [e] at hcq
        have h := hcq.2.2 (by decide)
        rw [tabI.2.1] at h
        exact h hbl
      obtain ⟨Q3, hQ3⟩ : ∃ Q3 : mm_M, Q3 = mm_up G2 50 36 (G2 50 36 + 1) := ⟨_, rfl⟩
      rw [← hQ3]
      have xp : pM B Q3 rl ((v1 + v2 + 1 : Nat) : Int) := by
        rw [hQ3, show ((v1 + v2 + 1 : Nat) : Int) = G2 50 36 + 1 by omega]
        exact pM_f xp0 (fM_up (fM_0 hr) (by omega))
      have hr := xp.1
      have x29 : Q3 50 29 = len := by rw [xp.2.2.1 29 (by decide)]; exact hl
      have x74 : ∀ k : Nat, (k : Int) < len → Q3 74 k = tp k := by rw [xp.2.1 74 (by decide) (by decide)]; exact htp
      have x36 := xp.2.2.2.1
      have xJ : JTm Q3 := by unfold JTm; omega
      have xp0 := xp
      refine mm_if_eq 124 (mm_dc od_X10_parses_0 58 rfl) (by omega) (by first | omega | assumption | exact hr _ _ rfl) (fun h => absurd h (by decide)) (fun _ => ?_)
      refine mm_aload_n (mm_dc od_X10_parses_0 59 rfl) rfl ?_
      refine mm_bipush (mm_dc od_X10_parses_1 0 rfl) (by decide) ?_
      refine mm_bipush (mm_dc od_X10_parses_1 1 rfl) (by decide) ?_
      refine mm_callV (b := 50) (mi' := mi_X10_word) [v_i 15, v_i 15] [] (mm_dc od_X10_parses_1 2 rfl) rfl wd_5_190 wd_5_192 wd_p_37 wd_1_12 wd_5_193 yk_X10_word rfl rfl rfl (Nat.le_of_ble_eq_true rfl) rfl (by decide) (c_wd 15 15 (by decide) (by decide) xJ hr (fun N3 w3 u3 hf3 hWR3 => ⟨Nat.le_refl _, ?_⟩))
      rw [x36, x29, Int.toNat_natCast] at hWR3
      have hI3 := linkI hcq hv31 (WR_tp hWR3 x74)
      have hw3 : mm_r32 w3 := by omega
      have hv3l := cq_len hcq (by omega)
      have hv34 := hcq.1
      rw [x36] at hf3
      have xp : pM B N3 rl ((v1 + v2 + 1 + u3 : Nat) : Int) := by
        have h := pM_f xp0 hf3
        rw [show ((v1 + v2 + 1 : Nat) : Int) + (u3 : Int) = ((v1 + v2 + 1 + u3 : Nat) : Int) by omega] at h
        exact h
      have hr := xp.1
      have x29 : N3 50 29 = len := by rw [xp.2.2.1 29 (by decide)]; exact hl
      have x30 : N3 50 30 = (rl : Int) := by rw [xp.2.2.1 30 (by decide)]; exact hrl
      have xNc : Int.toNat (N3 50 30) = rl := by omega
      have x74 : ∀ k : Nat, (k : Int) < len → N3 74 k = tp k := by rw [xp.2.1 74 (by decide) (by decide)]; exact htp
      have x36 := xp.2.2.2.1
      have xp0 := xp
      have xJ : JTm N3 := by unfold JTm; omega
      refine mm_if_lt 124 (mm_dc od_X10_parses_1 3 rfl) (by omega) (by first | omega | assumption | exact hr _ _ rfl) (fun c2 => ?_) (fun c2 => ?_)
      · refine mm_iconst (mm_dc od_X10_parses_1 8 rfl) ?_
        refine mm_zret .boolean (mm_dc od_X10_parses_1 9 rfl) rfl rfl ?_
        have hv33 : v3 < 4 ∧ u3 + 1 = v3 := by
          rcases hI3 with ⟨_, h1, h2⟩ | ⟨h0, h1, h2⟩
          · omega
          · refine ⟨Classical.byContradiction (fun q2 => ?_), ?_⟩
            · exfalso; omega
            · exfalso; omega
        have hr3b : r3 = -1 := by omega
        rcases Hid_un hH4 with ⟨_, rfl, rfl⟩ | ⟨h1, _⟩
        · exact k N3 (by rw [show v1 + v2 + v3 = v1 + v2 + 1 + u3 by omega]; exact xp) (fun q2 => by cases q2)
        · exact absurd hr3b h1
      · refine mm_aload_n (mm_dc od_X10_parses_1 4 rfl) rfl ?_
        refine mm_bipush (mm_dc od_X10_parses_1 5 rfl) (by decide) ?_
        have hs32 := sgS_t (b := 32) x29 x74 x36 (by decide)
        refine mm_callV (b := 50) (mi' := mi_X10_takes) [v_i 32] [] (mm_dc od_X10_parses_1 6 rfl) rfl wd_5_213 wd_5_215 wd_p_40 wd_1_12 wd_5_216 yk_X10_takes rfl rfl rfl (Nat.le_of_ble_eq_true rfl) rfl (by decide) (c_X10_takes 32 (by decide) xJ hr (fun ht => ⟨Nat.le_refl _, ?_⟩) (fun ht => ⟨Nat.le_refl _, ?_⟩))
        · have hbl := hs32.mp ht
          have hv34 : v3 = 4 := by
            apply Classical.byContradiction
            intro q2
            have e : v3 = 3 := by have := hcq.1; omega
            rw [e] at hcq
            have h := hcq.2.2 (by decide)
            rw [tabI.2.2.1] at h
            rw [show v1 + v2 + 1 + u3 = v1 + v2 + 3 by omega] at hbl
            exact h hbl
          obtain ⟨Q4, hQ4⟩ : ∃ Q4 : mm_M, Q4 = mm_up N3 50 36 (N3 50 36 + 1) := ⟨_, rfl⟩
          rw [← hQ4]
          have xp : pM B Q4 rl ((v1 + v2 + 1 + u3 + 1 : Nat) : Int) := by
            rw [hQ4, show ((v1 + v2 + 1 + u3 + 1 : Nat) : Int) = N3 50 36 + 1 by omega]
            exact pM_f xp0 (fM_up (fM_0 hr) (by omega))
          have hr := xp.1
          have x29 : Q4 50 29 = len := by rw [xp.2.2.1 29 (by decide)]; exact hl
          have x74 : ∀ k : Nat, (k : Int) < len → Q4 74 k = tp k := by rw [xp.2.1 74 (by decide) (by decide)]; exact htp
          have x36 := xp.2.2.2.1
          have xJ : JTm Q4 := by unfold JTm; omega
          have xp0 := xp
          refine mm_if_ne 126 (mm_dc od_X10_parses_1 7 rfl) (by omega) (by first | omega | assumption | exact hr _ _ rfl) (fun _ => ?_) (fun h => absurd h (by decide))
          rcases Hid_un hH4 with ⟨h1, _⟩ | ⟨_, hTL⟩
          · exfalso; omega
          have hvv : v1 + v2 + 1 + u3 + 1 = v1 + v2 + v3 := by omega
          rw [hvv] at x36 xp
          have y77 : Q4 77 rl = ((0 : Nat) : Int) := by rw [hQ4, mm_up_ne (by decide), hf3.2.1 77 (by decide), hQ3, mm_up_ne (by decide)]; exact g277
          have y76 : Q4 76 rl = kind := by rw [hQ4, mm_up_ne (by decide), hf3.2.1 76 (by decide), hQ3, mm_up_ne (by decide)]; exact g276
          have y75 : Q4 75 rl = bar := by rw [hQ4, mm_up_ne (by decide), hf3.2.1 75 (by decide), hQ3, mm_up_ne (by decide)]; exact g275
          refine L_ps126 len tp hlen ra rb rc rd rl hrl10 0 2 rfl (v1 + v2 + v3) q T ok _ _ x29 x74 (by rw [xp.2.2.1 30 (by decide)]; exact hrl) y77 x36 (by omega) hr hTL (fun N hN hk => ?_)
          refine k N (pM_q xp hN (by omega)) (fun e => ?_)
          obtain ⟨k1, k2⟩ := hk e
          exact ⟨by rw [hN.2.1 75 (by decide) (by decide) (by decide)]; exact y75, by rw [hN.2.1 76 (by decide) (by decide) (by decide)]; exact y76, k1, fun u hu => k2 u (Nat.zero_le _) hu⟩
        · have hts := ht
          refine mm_if_ne 126 (mm_dc od_X10_parses_1 7 rfl) (by omega) (by first | omega | assumption | exact hr _ _ rfl) (fun h => absurd h (by decide)) (fun _ => ?_)
          refine mm_iconst (mm_dc od_X10_parses_1 8 rfl) ?_
          refine mm_zret .boolean (mm_dc od_X10_parses_1 9 rfl) rfl rfl ?_
          have hv33 : v3 < 4 ∧ u3 + 1 = v3 := by
            rcases hI3 with ⟨_, h1, h2⟩ | ⟨h0, h1, h2⟩
            · omega
            · refine ⟨Classical.byContradiction (fun q2 => ?_), ?_⟩
              · have h := hcq.2.1 3 (by omega)
                rw [tabI.2.2.1] at h
                exact ht (hs32.mpr (by rw [show v1 + v2 + 1 + u3 = v1 + v2 + 3 by omega]; exact h))
              · have h4 : v3 ≠ 4 := fun e => by
                  have h := hcq.2.1 3 (by omega)
                  rw [tabI.2.2.1] at h
                  exact ht (hs32.mpr (by rw [show v1 + v2 + 1 + u3 = v1 + v2 + 3 by omega]; exact h))
                omega
          have hr3b : r3 = -1 := by omega
          rcases Hid_un hH4 with ⟨_, rfl, rfl⟩ | ⟨h1, _⟩
          · exact k N3 (by rw [show v1 + v2 + v3 = v1 + v2 + 1 + u3 by omega]; exact xp) (fun q2 => by cases q2)
          · exact absurd hr3b h1
    · have hts := ht
      refine mm_if_eq 124 (mm_dc od_X10_parses_0 58 rfl) (by omega) (by first | omega | assumption | exact hr _ _ rfl) (fun _ => ?_) (fun h => absurd h (by decide))
      refine mm_iconst (mm_dc od_X10_parses_1 8 rfl) ?_
      refine mm_zret .boolean (mm_dc od_X10_parses_1 9 rfl) rfl rfl ?_
      have hv30 : v3 = 0 := by
        apply Classical.byContradiction
        intro q2
        have h := hcq.2.1 0 (by omega)
        rw [tabI.2.1] at h
        exact ht (hs32.mpr h)
      rcases Hid_un hH4 with ⟨_, rfl, rfl⟩ | ⟨h1, _⟩
      · rw [hv30, Nat.add_zero] at *
        exact k G2 xp (fun q2 => by cases q2)
      · exfalso; apply h1; omega
  · refine mm_iconst (mm_dc od_X10_parses_0 53 rfl) ?_
    refine mm_zret .boolean (mm_dc od_X10_parses_0 54 rfl) rfl rfl ?_
    rcases Hid_un hH3 with ⟨_, rfl, rfl, rfl⟩ | ⟨h1, _⟩
    · exact k G2 xp (fun _ => ⟨g275, g276, g277, fun u hu => by omega⟩)
    · exfalso; omega
theorem c_ps {X : Nat × (Nat → Int)} {d : Nat} {Po : mm_Po} {M : mm_M} {B : mm_M} (len : Int) (tp : Nat → Int) (hlen : 0 ≤ len ∧ len ≤ 120) (hl : B 50 29 = len) (htp : ∀ k : Nat, (k : Int) < len → B 74 k = tp k) (rl : Nat) (hrl10 : rl < 10) (hrl : B 50 30 = (rl : Int)) (ra rb rc rd : Nat → Int) (q T : Nat) (ok bar kind : Int) (a0 : Int) (hpB : pM B M rl a0) (hRD : RDQ len tp ok q bar kind T ra rb rc rd) (k : ∀ N : mm_M, pM B N rl (q : Int) → (ok = 1 → N 75 rl = bar ∧ N 76 rl = kind ∧ N 77 rl = (T : Int) ∧ ∀ u, u < T → rwT N rl ra rb rc rd u) → Po (some (v_i ok)) Lam N) : mm_G X (d + 6) 0 0 mi_X10_parses Po 0 [(0, v_r 50)] [] Lam M 0 0 := by
  obtain ⟨r1, v1, hT1, hrest⟩ := hRD
  have hH := Hid_mk hrest
  clear hrest
  have hr := hpB.1
  refine mm_aload_n (mm_dc od_X10_parses_0 0 rfl) rfl ?_
  refine mm_iconst (mm_dc od_X10_parses_0 1 rfl) ?_
  refine mm_putI (ci := 10) (k := 36) (mm_dc od_X10_parses_0 2 rfl) rfl in_X10 tyX10_ok nmX10 (by decide) wd_4_148 rfl rfl rfl rfl ?_
  obtain ⟨Q0, hQ0⟩ : ∃ Q0 : mm_M, Q0 = mm_up M 50 36 0 := ⟨_, rfl⟩
  rw [← hQ0]
  have xp : pM B Q0 rl ((0 : Nat) : Int) := by rw [hQ0]; exact pM_f hpB (fM_up (fM_0 hr) (by decide))
  have hr := xp.1
  have x29 : Q0 50 29 = len := by rw [xp.2.2.1 29 (by decide)]; exact hl
  have x30 : Q0 50 30 = (rl : Int) := by rw [xp.2.2.1 30 (by decide)]; exact hrl
  have xNc : Int.toNat (Q0 50 30) = rl := by omega
  have x74 : ∀ k : Nat, (k : Int) < len → Q0 74 k = tp k := by rw [xp.2.1 74 (by decide) (by decide)]; exact htp
  have x36 := xp.2.2.2.1
  have xp0 := xp
  have xJ : JTm Q0 := by unfold JTm; omega
  refine mm_aload_n (mm_dc od_X10_parses_0 3 rfl) rfl ?_
  refine mm_bipush (mm_dc od_X10_parses_0 4 rfl) (by decide) ?_
  refine mm_bipush (mm_dc od_X10_parses_0 5 rfl) (by decide) ?_
  refine mm_callV (b := 50) (mi' := mi_X10_word) [v_i 6, v_i 7] [] (mm_dc od_X10_parses_0 6 rfl) rfl wd_5_190 wd_5_192 wd_p_37 wd_1_12 wd_5_193 yk_X10_word rfl rfl rfl (Nat.le_of_ble_eq_true rfl) rfl (by decide) (c_wd 6 7 (by decide) (by decide) xJ hr (fun N1 w1 u1 hf hWR => ⟨Nat.le_refl _, ?_⟩))
  rw [x36, x29] at hWR
  have hWR2 : WR 6 7 len tp 0 w1 u1 := WR_tp hWR x74
  have hV := linkV hT1 hWR2
  have hb1 := (TW_r hT1 (by omega)).1
  have hw1b : -1 ≤ w1 ∧ w1 ≤ 7 := by rcases hWR2 with ⟨w, a, b, c, -, -⟩ | ⟨c, -⟩ <;> omega
  have hw1 : mm_r32 w1 := by omega
  have hu1 : (u1 : Int) ≤ len := by omega
  rw [x36] at hf
  have xp : pM B N1 rl ((u1 : Nat) : Int) := by
    have h := pM_f xp0 hf
    rw [show ((0 : Nat) : Int) + (u1 : Int) = (u1 : Int) by omega] at h
    exact h
  have hr := xp.1
  have x29 : N1 50 29 = len := by rw [xp.2.2.1 29 (by decide)]; exact hl
  have x30 : N1 50 30 = (rl : Int) := by rw [xp.2.2.1 30 (by decide)]; exact hrl
  have xNc : Int.toNat (N1 50 30) = rl := by omega
  have x74 : ∀ k : Nat, (k : Int) < len → N1 74 k = tp k := by rw [xp.2.1 74 (by decide) (by decide)]; exact htp
  have x36 := xp.2.2.2.1
  have xp0 := xp
  have xJ : JTm N1 := by unfold JTm; omega
  refine mm_istore_n (L' := [(0, v_r 50), (1, v_i w1)]) (mm_dc od_X10_parses_0 7 rfl) (by decide) rfl ?_
  refine mm_iload_n (mm_dc od_X10_parses_0 8 rfl) rfl ?_
  refine mm_if_lt 27 (mm_dc od_X10_parses_0 9 rfl) (by omega) (by first | omega | assumption | exact hr _ _ rfl) (fun c1 => ?_) (fun c1 => ?_)
  · refine mm_iconst (mm_dc od_X10_parses_0 14 rfl) ?_
    refine mm_zret .boolean (mm_dc od_X10_parses_0 15 rfl) rfl rfl ?_
    have hr1 : r1 = -1 ∧ u1 = v1 := by
      rcases hV with ⟨h1, h2, h3, h4, h5, h6, h7⟩ | ⟨h1, h2, h3⟩ | ⟨h1, h2, h3, h4, h5⟩
      · exfalso; omega
      · exact ⟨h1, h3⟩
      · exfalso; omega
    rcases Hid_un hH with ⟨_, rfl, rfl⟩ | ⟨h6, _⟩
    · exact k N1 (by rw [← hr1.2]; exact xp) (fun q2 => by cases q2)
    · exact absurd hr1.1 h6
  · refine mm_aload_n (mm_dc od_X10_parses_0 10 rfl) rfl ?_
    refine mm_bipush (mm_dc od_X10_parses_0 11 rfl) (by decide) ?_
    have hs32 := sgS_t (b := 32) x29 x74 x36 (by decide)
    refine mm_callV (b := 50) (mi' := mi_X10_takes) [v_i 32] [] (mm_dc od_X10_parses_0 12 rfl) rfl wd_5_213 wd_5_215 wd_p_40 wd_1_12 wd_5_216 yk_X10_takes rfl rfl rfl (Nat.le_of_ble_eq_true rfl) rfl (by decide) (c_X10_takes 32 (by decide) xJ hr (fun ht => ⟨Nat.le_refl _, ?_⟩) (fun ht => ⟨Nat.le_refl _, ?_⟩))
    · have hbl := hs32.mp ht
      have hA : r1 ≠ -1 ∧ 0 ≤ r1 ∧ r1 < 2 ∧ w1 = r1 + 6 ∧ u1 = 3 ∧ v1 = 4 := by
        rcases hV with ⟨h1, h2, h3, h4, h5, h6, _⟩ | ⟨h1, h2, h3⟩ | ⟨h1, h2, h3, h4, h5⟩
        · exact ⟨h1, h2, h3, h4, h5, h6⟩
        · exfalso; omega
        · exfalso; apply h5; rw [h3] at hbl; exact (by simpa using hbl)
      obtain ⟨Q2, hQ2⟩ : ∃ Q2 : mm_M, Q2 = mm_up N1 50 36 (N1 50 36 + 1) := ⟨_, rfl⟩
      rw [← hQ2]
      have xp : pM B Q2 rl ((u1 + 1 : Nat) : Int) := by
        rw [hQ2, show ((u1 + 1 : Nat) : Int) = N1 50 36 + 1 by omega]
        exact pM_f xp0 (fM_up (fM_0 hr) (by omega))
      have hr := xp.1
      have x29 : Q2 50 29 = len := by rw [xp.2.2.1 29 (by decide)]; exact hl
      have x74 : ∀ k : Nat, (k : Int) < len → Q2 74 k = tp k := by rw [xp.2.1 74 (by decide) (by decide)]; exact htp
      have x36 := xp.2.2.2.1
      have xJ : JTm Q2 := by unfold JTm; omega
      have xp0 := xp
      refine mm_if_ne 29 (mm_dc od_X10_parses_0 13 rfl) (by omega) (by first | omega | assumption | exact hr _ _ rfl) (fun _ => ?_) (fun h => absurd h (by decide))
      refine mm_aload_n (mm_dc od_X10_parses_0 16 rfl) rfl ?_
      refine mm_iconst (mm_dc od_X10_parses_0 17 rfl) ?_
      refine mm_iconst (mm_dc od_X10_parses_0 18 rfl) ?_
      rcases Hid_un hH with ⟨h1, _⟩ | ⟨_, hbar, r2, v2, hT2, hrest2⟩
      · exact absurd h1 hA.1
      have hH2 := Hid_mk hrest2
      clear hrest2
      have hv14 : u1 + 1 = v1 := by omega
      rw [hv14] at x36
      refine mm_callV (b := 50) (mi' := mi_X10_word) [v_i 0, v_i 5] [] (mm_dc od_X10_parses_0 19 rfl) rfl wd_5_190 wd_5_192 wd_p_37 wd_1_12 wd_5_193 yk_X10_word rfl rfl rfl (Nat.le_of_ble_eq_true rfl) rfl (by decide) (c_wd 0 5 (by decide) (by decide) xJ hr (fun N2 w2 u2 hf2 hWRb => ⟨Nat.le_refl _, ?_⟩))
      rw [x36, x29, Int.toNat_natCast] at hWRb
      have hlk := link tabK pfK (by decide) hT2 (WR_tp hWRb x74)
      have hb2 := (TW_r hT2 (by omega)).1
      have hw2 : mm_r32 w2 := by omega
      have hr2b : -1 ≤ r2 ∧ r2 < 6 := by omega
      rw [x36, hlk.1] at hf2
      have xp : pM B N2 rl ((v1 + v2 : Nat) : Int) := by
        have h := pM_f xp0 hf2
        rw [show (v1 : Int) + (v2 : Int) = ((v1 + v2 : Nat) : Int) by omega] at h
        exact h
      have hr := xp.1
      have x29 : N2 50 29 = len := by rw [xp.2.2.1 29 (by decide)]; exact hl
      have x30 : N2 50 30 = (rl : Int) := by rw [xp.2.2.1 30 (by decide)]; exact hrl
      have xNc : Int.toNat (N2 50 30) = rl := by omega
      have x74 : ∀ k : Nat, (k : Int) < len → N2 74 k = tp k := by rw [xp.2.1 74 (by decide) (by decide)]; exact htp
      have x36 := xp.2.2.2.1
      have xp0 := xp
      have xJ : JTm N2 := by unfold JTm; omega
      refine mm_istore_n (L' := [(0, v_r 50), (1, v_i w1), (2, v_i w2)]) (mm_dc od_X10_parses_0 20 rfl) (by decide) rfl ?_
      refine mm_iload_n (mm_dc od_X10_parses_0 21 rfl) rfl ?_
      refine mm_if_ge 42 (mm_dc od_X10_parses_0 22 rfl) (by omega) (by first | omega | assumption | exact hr _ _ rfl) (fun c2 => ?_) (fun c2 => ?_)
      · refine mm_aload_n (mm_dc od_X10_parses_0 25 rfl) rfl ?_
        refine mm_getR (ci := 10) (k := 32) (mm_dc od_X10_parses_0 26 rfl) rfl in_X10 (by decide) wd_4_144 rfl rfl ?_
        refine mm_aload_n (mm_dc od_X10_parses_0 27 rfl) rfl ?_
        refine mm_getI (ci := 10) (k := 30) (mm_dc od_X10_parses_0 28 rfl) rfl in_X10 (by decide) wd_4_142 rfl rfl ?_
        refine mm_iload_n (mm_dc od_X10_parses_0 29 rfl) rfl ?_
        refine mm_bipush (mm_dc od_X10_parses_0 30 rfl) (by decide) ?_
        refine mm_icmp_ne 60 (mm_dc od_X10_parses_0 31 rfl) (by omega) (by first | omega | assumption | exact hr _ _ rfl) (by first | omega | assumption | exact hr _ _ rfl) (fun c3 => ?_) (fun c3 => ?_)
        · refine mm_iconst (mm_dc od_X10_parses_0 34 rfl) ?_
          refine mm_zast (mm_dc od_X10_parses_0 35 rfl) rfl (by first | omega | assumption | exact hr _ _ rfl) (by first | omega | assumption | exact hr _ _ rfl) (by decide) (by first | omega | assumption | exact hr _ _ rfl) ?_
          have hbz : bar = 0 := by omega
          rcases Hid_un hH2 with ⟨h1, _⟩ | ⟨_, hkd, hrest3⟩
          · exfalso; omega
          have hwk : w2 = kind := by clear hrest3; omega
          refine mm_eqM (M' := mm_up N2 75 rl 0) (by rw [xNc]) ?_
          rw [hwk]
          exact L_ps62 len tp hlen hl htp rl hrl10 hrl ra rb rc rd q T ok bar kind v1 v2 w1 (by clear hrest3; omega) (by clear hrest3; omega) (pM_w xp (by decide) (by decide)) (by rw [mm_up_eq, hbz]) (Hid_mk hrest3) k
        · refine mm_iconst (mm_dc od_X10_parses_0 32 rfl) ?_
          refine mm_goto 61 (mm_dc od_X10_parses_0 33 rfl) (by omega) ?_
          refine mm_zast (mm_dc od_X10_parses_0 35 rfl) rfl (by first | omega | assumption | exact hr _ _ rfl) (by first | omega | assumption | exact hr _ _ rfl) (by decide) (by first | omega | assumption | exact hr _ _ rfl) ?_
          have hbz : bar = 1 := by omega
          rcases Hid_un hH2 with ⟨h1, _⟩ | ⟨_, hkd, hrest3⟩
          · exfalso; omega
          have hwk : w2 = kind := by clear hrest3; omega
          refine mm_eqM (M' := mm_up N2 75 rl 1) (by rw [xNc]) ?_
          rw [hwk]
          exact L_ps62 len tp hlen hl htp rl hrl10 hrl ra rb rc rd q T ok bar kind v1 v2 w1 (by clear hrest3; omega) (by clear hrest3; omega) (pM_w xp (by decide) (by decide)) (by rw [mm_up_eq, hbz]) (Hid_mk hrest3) k
      · refine mm_iconst (mm_dc od_X10_parses_0 23 rfl) ?_
        refine mm_zret .boolean (mm_dc od_X10_parses_0 24 rfl) rfl rfl ?_
        rcases Hid_un hH2 with ⟨_, rfl, rfl⟩ | ⟨h6, _⟩
        · exact k N2 xp (fun q2 => by cases q2)
        · exfalso; apply h6; omega
    · have hts := ht
      refine mm_if_ne 29 (mm_dc od_X10_parses_0 13 rfl) (by omega) (by first | omega | assumption | exact hr _ _ rfl) (fun h => absurd h (by decide)) (fun _ => ?_)
      refine mm_iconst (mm_dc od_X10_parses_0 14 rfl) ?_
      refine mm_zret .boolean (mm_dc od_X10_parses_0 15 rfl) rfl rfl ?_
      rcases hV with ⟨h1, h2, h3, h4, h5, h6, h7⟩ | ⟨h1, h2, h3⟩ | ⟨h1, h2, h3, h4, h5⟩
      · exfalso
        apply ht
        apply hs32.mpr
        rw [h5]
        exact (by simpa using h7)
      · exfalso; omega
      · rcases Hid_un hH with ⟨_, rfl, rfl⟩ | ⟨h6, _⟩
        · exact k N1 (by rw [h4, ← h3]; exact xp) (fun q2 => by cases q2)
        · exact absurd h1 h6
theorem c_rl {X : Nat × (Nat → Int)} {d : Nat} {Po : mm_Po} {M : mm_M} (len : Int) (tp : Nat → Int) (hlen : 0 ≤ len ∧ len ≤ 120) (hl : M 50 29 = len) (htp : ∀ k : Nat, (k : Int) < len → M 74 k = tp k) (rl : Nat) (hrl10 : rl < 10) (hrl : M 50 30 = (rl : Int)) (ra rb rc rd : Nat → Int) (q T : Nat) (ok bar kind : Int) (h01 : ok = 0 ∨ ok = 1) (hr : R32 M) (hRD : RDQ len tp ok q bar kind T ra rb rc rd) (k0 : ∀ N : mm_M, pM M N rl (q : Int) → ok = 0 → Po (some (v_i (-10 - (q : Int)))) Lam (mm_up N 50 29 0)) (k1 : ∀ N F : mm_M, pM M N rl (q : Int) → ok = 1 → (N 75 rl = bar ∧ N 76 rl = kind ∧ N 77 rl = (T : Int) ∧ ∀ u, u < T → rwT N rl ra rb rc rd u) → F = mm_up (mm_up N 50 29 0) 50 30 ((rl : Int) + 1) → Po (some (v_i (rl : Int))) Lam F) : mm_G X (d + 7) 0 0 mi_X10_rule Po 0 [(0, v_r 50)] [] Lam M 0 0 := by
  refine mm_aload_n (mm_dc od_X10_rule_0 0 rfl) rfl ?_
  refine mm_getI (ci := 10) (k := 30) (mm_dc od_X10_rule_0 1 rfl) rfl in_X10 (by decide) wd_4_142 rfl rfl ?_
  refine mm_bipush (mm_dc od_X10_rule_0 2 rfl) (by decide) ?_
  refine mm_icmp_ne 12 (mm_dc od_X10_rule_0 3 rfl) (by omega) (by first | omega | assumption | exact hr _ _ rfl) (by first | omega | assumption | exact hr _ _ rfl) (fun c1 => ?_) (fun c1 => ?_)
  · refine mm_aload_n (mm_dc od_X10_rule_0 6 rfl) rfl ?_
    refine mm_callV (b := 50) (mi' := mi_X10_parses) [] [] (mm_dc od_X10_rule_0 7 rfl) rfl wd_5_186 wd_5_188 wd_p_36 wd_1_12 wd_5_189 yk_X10_parses rfl rfl rfl (Nat.le_of_ble_eq_true rfl) rfl (by decide) (c_ps (B := M) len tp hlen hl htp rl hrl10 hrl ra rb rc rd q T ok bar kind _ (pM_0 hr) hRD (fun N hN hrow => ⟨Nat.le_refl _, ?_⟩))
    have hr := hN.1
    have n36 := hN.2.2.2.1
    have n30 : N 50 30 = (rl : Int) := by rw [hN.2.2.1 30 (by decide)]; exact hrl
    have okr : mm_r32 ok := by omega
    refine mm_istore_n (L' := [(0, v_r 50), (1, v_i ok)]) (mm_dc od_X10_rule_0 8 rfl) (by decide) rfl ?_
    refine mm_aload_n (mm_dc od_X10_rule_0 9 rfl) rfl ?_
    refine mm_iconst (mm_dc od_X10_rule_0 10 rfl) ?_
    refine mm_putI (ci := 10) (k := 29) (mm_dc od_X10_rule_0 11 rfl) rfl in_X10 tyX10_ok nmX10 (by decide) wd_4_141 rfl rfl rfl rfl ?_
    refine mm_iload_n (mm_dc od_X10_rule_0 12 rfl) rfl ?_
    refine mm_if_ne 34 (mm_dc od_X10_rule_0 13 rfl) (by omega) (by first | omega | assumption | exact hr _ _ rfl) (fun c2 => ?_) (fun c2 => ?_)
    · refine mm_aload_n (mm_dc od_X10_rule_0 19 rfl) rfl ?_
      refine mm_dup_r (mm_dc od_X10_rule_0 20 rfl) ?_
      refine mm_getI (ci := 10) (k := 30) (mm_dc od_X10_rule_0 21 rfl) rfl in_X10 (by decide) wd_4_142 rfl rfl ?_
      refine mm_cst (st' := [v_i (N 50 30), v_r 50]) rfl ?_
      refine mm_iconst (mm_dc od_X10_rule_0 22 rfl) ?_
      refine mm_iadd (mm_dc od_X10_rule_0 23 rfl) ?_
      refine mm_putI (ci := 10) (k := 30) (mm_dc od_X10_rule_0 24 rfl) rfl in_X10 tyX10_ok nmX10 (by decide) wd_4_142 rfl rfl rfl rfl ?_
      refine mm_aload_n (mm_dc od_X10_rule_0 25 rfl) rfl ?_
      refine mm_getI (ci := 10) (k := 30) (mm_dc od_X10_rule_0 26 rfl) rfl in_X10 (by decide) wd_4_142 rfl rfl ?_
      refine mm_cst (st' := [v_i ((N 50 30) + 1)]) rfl ?_
      refine mm_iconst (mm_dc od_X10_rule_0 27 rfl) ?_
      refine mm_isub (mm_dc od_X10_rule_0 28 rfl) ?_
      refine mm_iret (mm_dc od_X10_rule_0 29 rfl) rfl ?_
      have eok : ok = 1 := by omega
      obtain ⟨F, hF⟩ : ∃ F : mm_M, F = mm_up (mm_up N 50 29 0) 50 30 ((rl : Int) + 1) := ⟨_, rfl⟩
      have hFe : mm_up (mm_up N 50 29 0) 50 30 ((N 50 30) + 1) = F := by rw [hF, n30]
      rw [hFe]
      exact mm_pi (by omega) (k1 N F hN eok (hrow eok) hF)
    · refine mm_bipush (mm_dc od_X10_rule_0 14 rfl) (by decide) ?_
      refine mm_aload_n (mm_dc od_X10_rule_0 15 rfl) rfl ?_
      refine mm_getI (ci := 10) (k := 36) (mm_dc od_X10_rule_0 16 rfl) rfl in_X10 (by decide) wd_4_148 rfl rfl ?_
      refine mm_cst (st' := [v_i (N 50 36), v_i (-10)]) rfl ?_
      refine mm_isub (mm_dc od_X10_rule_0 17 rfl) ?_
      refine mm_iret (mm_dc od_X10_rule_0 18 rfl) rfl ?_
      have eok : ok = 0 := by omega
      exact mm_pi (by rw [n36]) (k0 N hN eok)
  · refine mm_bipush (mm_dc od_X10_rule_0 4 rfl) (by decide) ?_
    refine mm_iret (mm_dc od_X10_rule_0 5 rfl) rfl ?_
    exfalso; omega
