theorem up50_J {M N : mm_M} (h : ∀ i, 50 ≤ i → N i = M i) : (JOm M → JOm N) ∧ (JBm M → JBm N) ∧ freeM N = freeM M ∧ cstM N = cstM M ∧ seM N = seM M := by
  have h50 := h 50 (by omega); have h51 := h 51 (by omega); have h52 := h 52 (by omega); have h53 := h 53 (by omega); have h54 := h 54 (by omega); have h55 := h 55 (by omega); have h57 := h 57 (by omega); have h58 := h 58 (by omega); have h59 := h 59 (by omega); have h60 := h 60 (by omega)
  refine ⟨?_, ?_, ?_, ?_, ?_⟩
  · unfold JOm; rw [h50, h51, h52, h53, h54, h55]; exact id
  · unfold JBm; rw [h50, h57, h58, h59, h60]; exact id
  · funext b hour o; unfold freeM; rw [h51, h53, h54, h55]
  · funext b o s; unfold cstM dslM; rw [h51, h53, h54, h57]
  · funext b; unfold seM; rw [h57]
theorem cosM_c {A C N : mm_M} {b hour : Int} {S n : Nat} (h : cosM A N b hour S n) (h1 : freeM A = freeM C) (h2 : cstM A = cstM C) : cosM C N b hour S n := by
  unfold cosM rvM at *
  rw [h1, h2] at h
  exact h
theorem se_same {M : mm_M} (hI : inv M) {b : Int} (hb : 0 ≤ b ∧ b < M 1 5) : seM M b = seX M b := by
  obtain ⟨_, _, _, _, _, _, _, _, v2, _⟩ := hI
  have := (v2.2 b.toNat (by omega)).1
  unfold seM seX
  rw [this]
theorem pair_crew {M : mm_M} (hI : inv M) (b hour does : Int) (hb : mm_r32 b) (hh : mm_r32 hour) (hd : mm_r32 does) : Pair2 mi_X9_crew mi_X10_crew v_i [v_i b, v_i hour, v_i does] M := by
  have hI0 := hI
  obtain ⟨hr, hJo, hJb, hJr, hJom, hJbm, v0, v1, v2, v3, v4, v5, v6, v7, v8, v9⟩ := hI0
  have jo := hJo; have jb := hJb; have jr := hJr; have jom := hJom; have jbm := hJbm
  obtain ⟨ho0, ho16, hO⟩ := jo
  obtain ⟨hb0, hb8, hB⟩ := jb
  obtain ⟨hr0, hr40, hRr⟩ := jr
  obtain ⟨go0, go16, gO⟩ := jom
  obtain ⟨gb0, gb8, gB⟩ := jbm
  have w1 := v1.1; have w2 := v2.1; have w3 := v3.1; have w4 := v4.1; have w5 := v5.1; have w6 := v6.1; have w7 := v7.1.1; have w7b := v7.2.1.1; have w8 := v8.1; have w8b := v8.2.2.2.1
  refine Pair2_i _ (fun X d Po k => c_X9_crew (d := d + 8) b hour does hb hh hd hJo hJb hr (fun N r h => k r N h)) (fun a MX h => ?_)
  rcases h with ⟨h1, rfl, rfl⟩ | ⟨h1, h2, rfl, rfl⟩ | ⟨h1, h2, N0, g1, g2, g3⟩
  · refine ⟨by decide, fun X d Po k => c_X10_crew (d := d + 9) b hour does hb hh hd hJom hJbm hr (fun N2 r2 q => ?_)⟩
    rcases q with ⟨q1, rfl, rfl⟩ | ⟨q1, _⟩ | ⟨q1, _⟩
    · exact k _ hI
    · exfalso; omega
    · exfalso; omega
  · refine ⟨by decide, fun X d Po k => c_X10_crew (d := d + 9) b hour does hb hh hd hJom hJbm hr (fun N2 r2 q => ?_)⟩
    rcases q with ⟨q1, _⟩ | ⟨q1, q2, rfl, rfl⟩ | ⟨q1, q2, _⟩
    · exfalso; omega
    · exact k _ hI
    · exact absurd q2 h2
  · have hs := seX_is h1 hJb
    have hse := se_same hI h1
    have hnn : M 1 0 = ((M 1 0).toNat : Int) := by omega
    have hcr := costQ_r g2 0 (Nat.zero_le _) (2 ^ seX M b - 1) (by have := Nat.one_le_two_pow (n := seX M b); omega)
    rw [show 256 * 0 + (2 ^ seX M b - 1) = 2 ^ seX M b - 1 by omega] at hcr
    have hX : (R32 MX ∧ (∀ i, 50 ≤ i → MX i = M i)) ∧ mm_r32 a := by
      rcases g3 with ⟨_, rfl, rfl⟩ | ⟨_, _, rfl, rfl⟩ | ⟨_, _, rfl, N1, q1, _, _, q4, _⟩
      · exact ⟨⟨g1.1, fun i hi => g1.2 i (by omega)⟩, by decide⟩
      · exact ⟨⟨g1.1, fun i hi => g1.2 i (by omega)⟩, by omega⟩
      · exact ⟨⟨q4.1, fun i hi => by rw [q4.2 i (by omega), q1.2 i (by omega), g1.2 i (by omega)]⟩, by omega⟩
    obtain ⟨⟨hrX, h50⟩, hra⟩ := hX
    obtain ⟨u1, u2, u3, u4, u5⟩ := up50_J h50
    refine ⟨hra, fun X d Po k => c_X10_crew (d := d + 9) b hour does hb hh hd (u1 hJom) (u2 hJbm) hrX (fun N2 r2 q => ?_)⟩
    have e5011 : MX 50 11 = M 50 11 := by rw [h50 50 (by omega)]
    have e5010 : MX 50 10 = M 50 10 := by rw [h50 50 (by omega)]
    rcases q with ⟨q1, _⟩ | ⟨q1, q2, _⟩ | ⟨q1, q2, N0m, p1, p2, p3⟩
    · exfalso; rw [e5011] at q1; omega
    · exact absurd h2 q2
    · rw [u5, hse, e5010, w1] at p2
      have p2' := cosM_c p2 u3 u4
      have hrel := crel_all hI h1 hs.2.2 hnn g2 p2' (M 1 0).toNat 0 (by omega) (2 ^ seX M b - 1) (by have := Nat.one_le_two_pow (n := seX M b); omega)
      rw [coS_all, show 256 * 0 + (2 ^ seX M b - 1) = 2 ^ seX M b - 1 by omega, show 256 * 0 + 0 = 0 by omega] at hrel
      unfold crel at hrel
      have hno : N2 = N0m → MX = N0 → inv N2 := by
        intro e1 e2
        rw [e1]
        refine inv_cong hI p1.1 (fun j hj => ?_) (fun q hq => ?_)
        · have : j ≠ 70 ∧ ¬ (18 ≤ j ∧ j ≤ 20) := (show ∀ j, j ∈ liveA → j ≠ 70 ∧ ¬ (18 ≤ j ∧ j ≤ 20) by decide) j hj
          rw [p1.2 j this.1, e2, g1.2 j this.2]
        · have : q.1 ≠ 70 ∧ ¬ (18 ≤ q.1 ∧ q.1 ≤ 20) := (show ∀ q : Nat × Nat, q ∈ liveF → q.1 ≠ 70 ∧ ¬ (18 ≤ q.1 ∧ q.1 ≤ 20) by decide) q hq
          rw [p1.2 q.1 this.1, e2, g1.2 q.1 this.2]
      rcases g3 with ⟨x1, rfl, x3⟩ | ⟨x1, x2, x3, x4⟩ | ⟨x1, x2, x3, N1, y1, y2, y3, y4, y5⟩
      · rcases p3 with ⟨_, rfl, z3⟩ | ⟨z1, _⟩ | ⟨z1, _⟩
        · exact k _ (hno z3 x3)
        · exfalso; omega
        · exfalso; omega
      · rcases p3 with ⟨z1, _⟩ | ⟨z1, z2, z3, z4⟩ | ⟨z1, z2, _⟩
        · exfalso; omega
        · rw [show r2 = a by omega]
          exact k _ (hno z4 x4)
        · exfalso; omega
      · rcases p3 with ⟨z1, _⟩ | ⟨z1, z2, z3, z4⟩ | ⟨z1, z2, z3, N1m, t1, t2, t3, t4, t5⟩
        · exfalso; omega
        · exfalso; omega
        · rw [show r2 = a by omega]
          refine k _ ?_
          have e01 : N0 1 0 = M 1 0 := by rw [g1.2 1 (by omega)]
          have eseX : seX N0 b = seX M b := by unfold seX; rw [g1.2 6 (by omega)]
          have e0m : N0m 50 10 = M 1 0 := by rw [p1.2 50 (by decide), e5010, w1]
          have eseM : seM N0m b = seX M b := by
            rw [← hse]
            unfold seM
            rw [p1.2 57 (by decide), h50 57 (by omega)]
          rw [e01, eseX] at y3
          rw [e0m, eseM] at t2
          have hB := frm_pM p1 (Or.inl rfl)
          rw [u3, u4] at hB
          have hch := ch_same hI h1 hs.2.2 hnn g2 p2' (fr3_p g1) hB y3 t2 (M 1 0).toNat (Nat.le_refl _)
          have m53 : N1m 53 = M 53 := by rw [t1.2 53 (by decide), p1.2 53 (by decide), h50 53 (by omega)]
          have m54 : N1m 54 = M 54 := by rw [t1.2 54 (by decide), p1.2 54 (by decide), h50 54 (by omega)]
          have m5 : N1 5 = M 5 := by rw [y1.2 5 (by omega), g1.2 5 (by omega)]
          refine inv_crew hI (f := N1 20) h1 hs.1 hs.2.2 (fun o ho => chX_r (y3 o (by omega))) (fun i j hi hj => ch_inj y3 (by omega) (by omega)) t3 (fun j hj => ?_) (fun o => ?_) (fun o => ?_) (fun o => ?_)
          · simp only [List.mem_cons, List.not_mem_nil, or_false, not_or] at hj
            rw [t4 j (by omega) (by omega), t1.2 j (by omega), p1.2 j (by omega), y4.2 j (by omega), y1.2 j (by omega), g1.2 j (by omega)]
          · rw [t4 5 (by decide) (by decide), t1.2 5 (by decide), p1.2 5 (by decide), y5 o, e01, ← m5]
            rfl
          · have h := (t5 o).1
            rw [e0m, m53] at h
            rw [h]
            by_cases e : (o : Int) < M 1 0
            · rw [if_pos e, if_pos e]
              unfold plB
              rw [m53, m54, hch.2 o (by omega)]
            · rw [if_neg e, if_neg e]
          · have h := (t5 o).2
            rw [e0m, m54] at h
            rw [h]
            by_cases e : (o : Int) < M 1 0
            · rw [if_pos e, if_pos e]
              unfold plS
              rw [m54, hch.2 o (by omega)]
            · rw [if_neg e, if_neg e]
