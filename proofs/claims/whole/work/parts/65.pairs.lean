/-! strength, between, misfit: both -/
theorem inv_frS {M N : mm_M} (hI : inv M) (h : frS M N) : inv N := by
  refine inv_cong hI h.1 (fun j hj => ?_) (fun q hq => ?_)
  · have hj2 := (show ∀ j, j ∈ liveA → j ≠ 14 ∧ j ≠ 15 ∧ j ≠ 16 ∧ j ≠ 10 by decide) j hj
    exact h.2.1 j hj2.1 hj2.2.1 hj2.2.2.1 hj2.2.2.2
  · have hq2 := (show ∀ q : Nat × Nat, q ∈ liveF → q.1 ≠ 14 ∧ q.1 ≠ 15 ∧ q.1 ≠ 16 ∧ (q.1 ≠ 10 ∨ q.2 ≠ 5) by decide) q hq
    by_cases e : q.1 = 10
    · rw [e]; exact h.2.2 q.2 (by omega)
    · rw [h.2.1 q.1 hq2.1 hq2.2.1 hq2.2.2.1 e]
theorem inv_frR {M N : mm_M} (hI : inv M) (h : frR M N) : inv N := by
  refine inv_cong hI h.1 (fun j hj => ?_) (fun q hq => ?_)
  · have hj2 := (show ∀ j, j ∈ liveA → ¬ (64 ≤ j ∧ j ≤ 69) ∧ j ≠ 50 by decide) j hj
    exact h.2.1 j hj2.1 hj2.2
  · have hq2 := (show ∀ q : Nat × Nat, q ∈ liveF → ¬ (64 ≤ q.1 ∧ q.1 ≤ 69) ∧ (q.1 ≠ 50 ∨ (q.2 ≠ 22 ∧ q.2 ≠ 23)) by decide) q hq
    by_cases e : q.1 = 50
    · rw [e]; exact h.2.2 q.2 (by omega) (by omega)
    · rw [h.2.1 q.1 hq2.1 e]
theorem ptV_r {up dn what : Int} (hu : -4611686018427387904 < up ∧ up < 4611686018427387904) (hd : 0 < dn ∧ dn < 4611686018427387904) : mm_r64 (ptV up dn what) := by
  have key : ∀ (x : Int) (g : Int), -4611686018427387904 < x ∧ x < 4611686018427387904 → mm_r64 (x.tdiv g) := by
    intro x g hx
    have := Int.natAbs_tdiv_le_natAbs x g
    omega
  unfold ptV
  split
  · refine key _ _ ?_
    split
    · exact hu
    · omega
  · decide
theorem grp_oars {f s : Nat → Int} {R o m : Nat} {k : Int} (h : grpQ f s R o m) (ho : (o : Int) < k) (hr : ∀ r, r < R → (0 ≤ f r ∧ f r < k) ∧ (0 ≤ s r ∧ s r < k)) : ∀ x, k.toNat ≤ x → m.testBit x = false := by
  intro x hx
  rw [← Bool.not_eq_true]
  intro q
  have := h.2.2.2 (fun x => (x : Int) < k) (fun r hr2 => by have := hr r hr2; dsimp only; constructor <;> omega) ho x q
  omega
theorem mx_same {M N : mm_M} {m : Nat} (hI : inv M) (h : ∀ i, i ≠ 14 → i ≠ 15 → i ≠ 16 → i ≠ 10 → N i = M i) : mxR N m = mxM M m := by
  have v3 : V3 M := hI.2.2.2.2.2.2.2.2.2.1
  have hJr : JRc M := hI.2.2.2.1
  funext c i
  unfold mxR mxM mxG
  rw [h 50 (by decide) (by decide) (by decide) (by decide), h 61 (by decide) (by decide) (by decide) (by decide), h 62 (by decide) (by decide) (by decide) (by decide), h 63 (by decide) (by decide) (by decide) (by decide), v3.1]
  refine tb_cong _ (fun r hr => ?_)
  have h2 := v3.2 r (by have := hJr.1; omega)
  rw [h2.1, h2.2.1, h2.2.2]
  exact ⟨rfl, fun _ => ⟨rfl, rfl, rfl⟩⟩
theorem gr_same {M N : mm_M} {o m : Nat} (hI : inv M) (h : ∀ i, i ≠ 14 → i ≠ 15 → i ≠ 16 → i ≠ 10 → N i = M i) (hg : grpQ (M 11) (M 12) (M 10 0).toNat o m) : grpQ (N 61) (N 62) (N 50 16).toNat o m := by
  have v3 : V3 M := hI.2.2.2.2.2.2.2.2.2.1
  have hJr : JRc M := hI.2.2.2.1
  rw [h 50 (by decide) (by decide) (by decide) (by decide), h 61 (by decide) (by decide) (by decide) (by decide), h 62 (by decide) (by decide) (by decide) (by decide), v3.1]
  refine grpQ_cong hg (fun r hr => ?_)
  have h2 := v3.2 r (by have := hJr.1; omega)
  exact ⟨h2.1.symm, h2.2.1.symm⟩
theorem msF_cong {f s w f2 s2 w2 : Nat → Int} {m : Nat} {U U2 : Nat → Int} {dn dn2 : Int} (hd : dn = dn2) : ∀ R : Nat, (∀ r, r < R → f r = f2 r ∧ s r = s2 r ∧ w r = w2 r ∧ (m.testBit (f r).toNat = true → U (f r).toNat = U2 (f r).toNat ∧ U (s r).toNat = U2 (s r).toNat)) → msF f s w m U dn R = msF f2 s2 w2 m U2 dn2 R
  | 0, _ => rfl
  | R + 1, h => by
    have ih := msF_cong (m := m) (U := U) (U2 := U2) hd R (fun r hr => h r (by omega))
    have h1 := h R (by omega)
    unfold msF at *
    simp only [sumI]
    rw [ih, ← h1.1, ← h1.2.1, ← h1.2.2.1, ← hd]
    by_cases e : m.testBit (f R).toNat = true
    · have h2 := h1.2.2.2 e
      rw [if_pos e, if_pos e, h2.1, h2.2]
    · rw [if_neg e, if_neg e]
theorem frS_0 {M : mm_M} (h : R32 M) : frS M M := ⟨h, fun _ _ _ _ _ => rfl, fun _ _ => rfl⟩
theorem pair_between {M : mm_M} (hI : inv M) (x y what : Int) (hx : mm_r32 x) (hy : mm_r32 y) (hw : mm_r32 what) : Pair2 mi_X9_between mi_X10_between v_l [v_i x, v_i y, v_i what] M := by
  have hI0 := hI
  obtain ⟨hr, hJo, hJb, hJr, hJom, hJbm, v0, v1, v2, v3, v4, v5, v6, v7, v8, v9⟩ := hI0
  have jo := hJo; have jb := hJb; have jr := hJr; have jom := hJom; have jbm := hJbm
  obtain ⟨ho0, ho16, hO⟩ := jo
  obtain ⟨hb0, hb8, hB⟩ := jb
  obtain ⟨hr0, hr40, hRr⟩ := jr
  obtain ⟨go0, go16, gO⟩ := jom
  obtain ⟨gb0, gb8, gB⟩ := jbm
  have w1 := v1.1; have w2 := v2.1; have w3 := v3.1; have w4 := v4.1; have w5 := v5.1; have w6 := v6.1; have w7 := v7.1.1; have w7b := v7.2.1.1; have w8 := v8.1; have w8b := v8.2.2.2.1
  refine Pair2_l _ (fun X d Po k => c_X9_between (d := d + 8) x y what hx hy hw hJo hJr hr (fun N r h => k r N h)) (fun a MX h => ?_)
  rcases h with ⟨hv, rfl, rfl⟩ | ⟨hv, m, hgm, h⟩
  · refine ⟨by decide, fun X d Po k => c_X10_between (d := d + 8) x y what hx hy hw 0 (fun q => absurd q (by omega)) (fun q => absurd q (by omega)) hJom (inv_JRm hI) hr (fun N2 r2 q => ?_)⟩
    rcases q with ⟨_, rfl, rfl⟩ | ⟨q, _⟩
    · exact k _ hI
    · exfalso; omega
  · have hzM : ∀ x, (M 1 0).toNat ≤ x → m.testBit x = false := grp_oars hgm (by omega) (fun r hr2 => by have h := hRr r (by omega); omega)
    have fin : ∀ (MX : mm_M), frS M MX → (∀ (n : Nat), n ≤ 6 → cntb m = (n : Int) + 1 → m.testBit y.toNat = true → (0 ≤ what ∧ what ≤ 1) → ∀ N2 : mm_M, SR MX m n N2 x → ptV (N2 69 x.toNat - N2 69 y.toNat) (N2 50 23) what = a) → ((¬ (0 ≤ what ∧ what ≤ 1) ∨ 7 < cntb m ∨ ¬ m.testBit y.toNat = true) → a = -9223372036854775808) → ∀ (X : Nat × (Nat → Int)) (d : Nat) (Po : mm_Po), (∀ MM, inv MM → Po (some (v_l a)) Lam MM) → mm_E X (d + 12) 0 0 mi_X10_between (v_r 50 :: [v_i x, v_i y, v_i what]) Po Lam MX := by
      intro MX hS hval hno X d Po k
      have hIX := inv_frS hI hS
      have eX := hS.2.1
      have hIX2 := hIX
      obtain ⟨gr, _, _, _, gJom, _⟩ := hIX2
      have e50 : MX 50 = M 50 := eX 50 (by decide) (by decide) (by decide) (by decide)
      have e10 : MX 50 10 = M 1 0 := by rw [e50]; exact w1
      refine c_X10_between (d := d + 8) x y what hx hy hw m (fun _ => gr_same hI eX hgm) (fun _ => by rw [e10]; exact hzM) gJom (inv_JRm hIX) gr (fun N2 r2 q => ?_)
      rw [e10] at q
      rcases q with ⟨q, _⟩ | ⟨_, q⟩
      · exact absurd hv q
      · rcases q with ⟨q1, rfl, rfl⟩ | ⟨q1, q⟩
        · rw [← hno (Or.inl q1)]; exact k _ hIX
        · rcases q with ⟨q2, rfl, q3⟩ | q
          · rw [← hno ((fun z => Or.inr (Or.inl z)) q2)]; exact k _ (inv_frR hIX q3)
          · rcases q with ⟨q2, rfl, q3⟩ | q
            · rw [← hno (Or.inr (Or.inr q2))]; exact k _ (inv_frR hIX q3)
            obtain ⟨n, hbt, n1, n2, n3, rfl⟩ := q
            rw [hval n n1 n2 hbt q1 N2 n3]
            exact k _ (inv_frR hIX n3.1)
    rcases h with ⟨e1, rfl, rfl⟩ | ⟨e1, rfl, rfl⟩ | h
    · refine ⟨by decide, fun X d Po k => fin MX (frS_0 hr) (fun n n1 n2 hb _ N2 _ => absurd hb e1) (fun _ => rfl) X d Po k⟩
    · refine ⟨by decide, fun X d Po k => fin MX (frS_0 hr) (fun n n1 n2 _ _ N2 _ => by exfalso; omega) (fun _ => rfl) X d Po k⟩
    · obtain ⟨n, hbt, hn6, hcn, hSV, rfl⟩ := h
      have hb := sv_b hgm (by omega) hJr (by omega) hn6 hcn hSV
      have b1 := hb.2 x.toNat (by omega)
      have b2 := hb.2 y.toNat (by omega)
      unfold ab at b1 b2
      obtain ⟨g1, g2, g3⟩ := hSV
      have emx := mx_same (m := m) hI g1.2.1
      have e10 : MX 50 10 = M 1 0 := by rw [g1.2.1 50 (by decide) (by decide) (by decide) (by decide)]; exact w1
      refine ⟨ptV_r (by omega) (by omega), fun X d Po k => fin MX g1 (fun n2 n2a n2b _ _ N2 n3 => ?_) (fun q => ?_) X d Po k⟩
      · have en : n2 = n := by omega
        subst en
        rw [g3 x.toNat (by omega), g3 y.toNat (by omega), g2, n3.2.1, n3.2.2.1 x.toNat (by rw [e10]; omega), n3.2.2.1 y.toNat (by rw [e10]; omega), emx]
      · unfold ptV
        rw [if_neg (by rcases q with q | q | q; exact q; omega; exact absurd hbt q)]
theorem pair_strength {M : mm_M} (hI : inv M) (o what : Int) (ho : mm_r32 o) (hw : mm_r32 what) : Pair2 mi_X9_strength mi_X10_strength v_l [v_i o, v_i what] M := by
  have hI0 := hI
  obtain ⟨hr, hJo, hJb, hJr, hJom, hJbm, v0, v1, v2, v3, v4, v5, v6, v7, v8, v9⟩ := hI0
  have jo := hJo; have jb := hJb; have jr := hJr; have jom := hJom; have jbm := hJbm
  obtain ⟨ho0, ho16, hO⟩ := jo
  obtain ⟨hb0, hb8, hB⟩ := jb
  obtain ⟨hr0, hr40, hRr⟩ := jr
  obtain ⟨go0, go16, gO⟩ := jom
  obtain ⟨gb0, gb8, gB⟩ := jbm
  have w1 := v1.1; have w2 := v2.1; have w3 := v3.1; have w4 := v4.1; have w5 := v5.1; have w6 := v6.1; have w7 := v7.1.1; have w7b := v7.2.1.1; have w8 := v8.1; have w8b := v8.2.2.2.1
  refine Pair2_l _ (fun X d Po k => c_X9_strength (d := d + 8) o what ho hw hJo hJr hr (fun N r h => k r N h)) (fun a MX h => ?_)
  rcases h with ⟨hv, rfl, rfl⟩ | ⟨hv, m, hgm, h⟩
  · refine ⟨by decide, fun X d Po k => c_X10_strength (d := d + 8) o what ho hw 0 (fun q => absurd q (by omega)) (fun q => absurd q (by omega)) hJom (inv_JRm hI) hr (fun N2 r2 q => ?_)⟩
    rcases q with ⟨_, rfl, rfl⟩ | ⟨q, _⟩
    · exact k _ hI
    · exfalso; omega
  · have hzM : ∀ x, (M 1 0).toNat ≤ x → m.testBit x = false := grp_oars hgm (by omega) (fun r hr2 => by have h := hRr r (by omega); omega)
    have fin : ∀ (MX : mm_M), frS M MX → (∀ (n : Nat), n ≤ 6 → cntb m = (n : Int) + 1 → (0 ≤ what ∧ what ≤ 1) → ∀ N2 : mm_M, SR MX m n N2 o → ptV (N2 69 o.toNat) (N2 50 23) what = a) → ((¬ (0 ≤ what ∧ what ≤ 1) ∨ 7 < cntb m) → a = -9223372036854775808) → ∀ (X : Nat × (Nat → Int)) (d : Nat) (Po : mm_Po), (∀ MM, inv MM → Po (some (v_l a)) Lam MM) → mm_E X (d + 12) 0 0 mi_X10_strength (v_r 50 :: [v_i o, v_i what]) Po Lam MX := by
      intro MX hS hval hno X d Po k
      have hIX := inv_frS hI hS
      have eX := hS.2.1
      have hIX2 := hIX
      obtain ⟨gr, _, _, _, gJom, _⟩ := hIX2
      have e50 : MX 50 = M 50 := eX 50 (by decide) (by decide) (by decide) (by decide)
      have e10 : MX 50 10 = M 1 0 := by rw [e50]; exact w1
      refine c_X10_strength (d := d + 8) o what ho hw m (fun _ => gr_same hI eX hgm) (fun _ => by rw [e10]; exact hzM) gJom (inv_JRm hIX) gr (fun N2 r2 q => ?_)
      rw [e10] at q
      rcases q with ⟨q, _⟩ | ⟨_, q⟩
      · exact absurd hv q
      · rcases q with ⟨q1, rfl, rfl⟩ | ⟨q1, q⟩
        · rw [← hno (Or.inl q1)]; exact k _ hIX
        · rcases q with ⟨q2, rfl, q3⟩ | q
          · rw [← hno (Or.inr q2)]; exact k _ (inv_frR hIX q3)
          · obtain ⟨n, n1, n2, n3, rfl⟩ := q
            rw [hval n n1 n2 q1 N2 n3]
            exact k _ (inv_frR hIX n3.1)
    rcases h with ⟨e1, rfl, rfl⟩ | h
    · refine ⟨by decide, fun X d Po k => fin MX (frS_0 hr) (fun n n1 n2 _ N2 _ => by exfalso; omega) (fun _ => rfl) X d Po k⟩
    · obtain ⟨n, hn6, hcn, hSV, rfl⟩ := h
      have hb := sv_b hgm (by omega) hJr (by omega) hn6 hcn hSV
      have b1 := hb.2 o.toNat (by omega)
      unfold ab at b1
      obtain ⟨g1, g2, g3⟩ := hSV
      have emx := mx_same (m := m) hI g1.2.1
      have e10 : MX 50 10 = M 1 0 := by rw [g1.2.1 50 (by decide) (by decide) (by decide) (by decide)]; exact w1
      refine ⟨ptV_r (by omega) (by omega), fun X d Po k => fin MX g1 (fun n2 n2a n2b _ N2 n3 => ?_) (fun q => ?_) X d Po k⟩
      · have en : n2 = n := by omega
        subst en
        rw [g3 o.toNat (by omega), g2, n3.2.1, n3.2.2.1 o.toNat (by rw [e10]; omega), emx]
      · unfold ptV
        rw [if_neg (by omega)]
theorem pair_misfit {M : mm_M} (hI : inv M) (o what : Int) (ho : mm_r32 o) (hw : mm_r32 what) : Pair2 mi_X9_misfit mi_X10_misfit v_l [v_i o, v_i what] M := by
  have hI0 := hI
  obtain ⟨hr, hJo, hJb, hJr, hJom, hJbm, v0, v1, v2, v3, v4, v5, v6, v7, v8, v9⟩ := hI0
  have jo := hJo; have jb := hJb; have jr := hJr; have jom := hJom; have jbm := hJbm
  obtain ⟨ho0, ho16, hO⟩ := jo
  obtain ⟨hb0, hb8, hB⟩ := jb
  obtain ⟨hr0, hr40, hRr⟩ := jr
  obtain ⟨go0, go16, gO⟩ := jom
  obtain ⟨gb0, gb8, gB⟩ := jbm
  have w1 := v1.1; have w2 := v2.1; have w3 := v3.1; have w4 := v4.1; have w5 := v5.1; have w6 := v6.1; have w7 := v7.1.1; have w7b := v7.2.1.1; have w8 := v8.1; have w8b := v8.2.2.2.1
  refine Pair2_l _ (fun X d Po k => c_X9_misfit (d := d + 8) o what ho hw hJo hJr hr (fun N r h => k r N h)) (fun a MX h => ?_)
  rcases h with ⟨hv, rfl, rfl⟩ | ⟨hv, m, hgm, h⟩
  · refine ⟨by decide, fun X d Po k => c_X10_misfit (d := d + 8) o what ho hw 0 (fun q => absurd q (by omega)) (fun q => absurd q (by omega)) hJom (inv_JRm hI) hr (fun N2 r2 q => ?_)⟩
    rcases q with ⟨_, rfl, rfl⟩ | ⟨q, _⟩
    · exact k _ hI
    · exfalso; omega
  · have hzM : ∀ x, (M 1 0).toNat ≤ x → m.testBit x = false := grp_oars hgm (by omega) (fun r hr2 => by have h := hRr r (by omega); omega)
    have fin : ∀ (MX : mm_M), frS M MX → (∀ (n : Nat), n ≤ 6 → cntb m = (n : Int) + 1 → (0 ≤ what ∧ what ≤ 1) → ∀ N2 : mm_M, SR MX m n N2 o → ptV (msF (MX 61) (MX 62) (MX 63) m (N2 69) (N2 50 23) (MX 50 16).toNat) (N2 50 23) what = a) → ((¬ (0 ≤ what ∧ what ≤ 1) ∨ 7 < cntb m) → a = -9223372036854775808) → ∀ (X : Nat × (Nat → Int)) (d : Nat) (Po : mm_Po), (∀ MM, inv MM → Po (some (v_l a)) Lam MM) → mm_E X (d + 12) 0 0 mi_X10_misfit (v_r 50 :: [v_i o, v_i what]) Po Lam MX := by
      intro MX hS hval hno X d Po k
      have hIX := inv_frS hI hS
      have eX := hS.2.1
      have hIX2 := hIX
      obtain ⟨gr, _, _, _, gJom, _⟩ := hIX2
      have e50 : MX 50 = M 50 := eX 50 (by decide) (by decide) (by decide) (by decide)
      have e10 : MX 50 10 = M 1 0 := by rw [e50]; exact w1
      refine c_X10_misfit (d := d + 8) o what ho hw m (fun _ => gr_same hI eX hgm) (fun _ => by rw [e10]; exact hzM) gJom (inv_JRm hIX) gr (fun N2 r2 q => ?_)
      rw [e10] at q
      rcases q with ⟨q, _⟩ | ⟨_, q⟩
      · exact absurd hv q
      · rcases q with ⟨q1, rfl, rfl⟩ | ⟨q1, q⟩
        · rw [← hno (Or.inl q1)]; exact k _ hIX
        · rcases q with ⟨q2, rfl, q3⟩ | q
          · rw [← hno (Or.inr q2)]; exact k _ (inv_frR hIX q3)
          · obtain ⟨n, n1, n2, n3, rfl⟩ := q
            rw [hval n n1 n2 q1 N2 n3]
            exact k _ (inv_frR hIX n3.1)
    rcases h with ⟨e1, rfl, rfl⟩ | h
    · refine ⟨by decide, fun X d Po k => fin MX (frS_0 hr) (fun n n1 n2 _ N2 _ => by exfalso; omega) (fun _ => rfl) X d Po k⟩
    · obtain ⟨n, hn6, hcn, hSV, rfl⟩ := h
      have hb := sv_b hgm (by omega) hJr (by omega) hn6 hcn hSV
      have b1 := ms_b (f := M 11) (s := M 12) (w := M 13) (m := m) (U := MX 14) (dn := MX 10 5) hb.2 hb.1 (M 10 0).toNat (fun r hr2 => by have h := hRr r (by omega); omega)
      obtain ⟨g1, g2, g3⟩ := hSV
      have emx := mx_same (m := m) hI g1.2.1
      have e10 : MX 50 10 = M 1 0 := by rw [g1.2.1 50 (by decide) (by decide) (by decide) (by decide)]; exact w1
      refine ⟨ptV_r (by omega) (by omega), fun X d Po k => fin MX g1 (fun n2 n2a n2b _ N2 n3 => ?_) (fun q => ?_) X d Po k⟩
      · have en : n2 = n := by omega
        subst en
        have ed : N2 50 23 = MX 10 5 := by rw [g2, n3.2.1, emx]
        rw [ed]
        congr 1
        rw [g1.2.1 50 (by decide) (by decide) (by decide) (by decide), g1.2.1 61 (by decide) (by decide) (by decide) (by decide), g1.2.1 62 (by decide) (by decide) (by decide) (by decide), g1.2.1 63 (by decide) (by decide) (by decide) (by decide), w3]
        refine msF_cong rfl _ (fun r hr2 => ?_)
        have h2 := v3.2 r (by omega)
        have h3 := hRr r (by omega)
        refine ⟨h2.1, h2.2.1, h2.2.2, fun _ => ?_⟩
        rw [h2.1, h2.2.1, n3.2.2.1 _ (by rw [e10]; omega), n3.2.2.1 _ (by rw [e10]; omega), g3 _ (by omega), g3 _ (by omega), emx]
        exact ⟨rfl, rfl⟩
      · unfold ptV
        rw [if_neg (by omega)]
