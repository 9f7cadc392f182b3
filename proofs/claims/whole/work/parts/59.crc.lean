def seX (M : mm_M) (b : Int) : Nat := (mm_seats (M 6 b.toNat).toNat).toNat
theorem seX_is {M : mm_M} {b : Int} (hb : 0 ≤ b ∧ b < M 1 5) (hJb : JB M) : mm_seats (M 6 b.toNat).toNat = seX M b ∧ 1 ≤ seX M b ∧ seX M b ≤ 8 := by
  have h := mm_seats_le (M 6 b.toNat).toNat (by have := (hJb.2.2 b.toNat (by omega)).1; omega)
  unfold seX
  omega
def costQ (B N : mm_M) (b hour : Int) (S n : Nat) : Prop := (∀ set, set < 2 ^ S → N 18 (256 * n + set) = if set = 0 then 0 else 1000) ∧ ∀ o, o < n → rowQ B N b hour o S
theorem rowQ_r {B N : mm_M} {b hour : Int} {o S : Nat} (h : rowQ B N b hour o S) (hr : ∀ t, t < 2 ^ S → 0 ≤ N 18 (256 * (o + 1) + t) ∧ N 18 (256 * (o + 1) + t) ≤ 1000) : ∀ t, t < 2 ^ S → 0 ≤ N 18 (256 * o + t) ∧ N 18 (256 * o + t) ≤ 1000 := by
  intro t ht
  rcases h with ⟨_, h⟩ | ⟨_, h⟩
  · rw [h t ht]
    have h1 := minX_r (p := fun s => priX B b o s) ht hr (fun s => (priX_r B b o s).1) S (Nat.le_refl _)
    have h2 := hr t ht
    exact ⟨h1.1, Int.le_trans h1.2 h2.2⟩
  · rw [h t ht]; exact hr t ht
theorem rowQ_c {B C M N : mm_M} {b hour : Int} {o S : Nat} (h : rowQ B M b hour o S) (hb : freeX B = freeX C ∧ priX B = priX C) (h18 : ∀ i, 256 * o ≤ i → N 18 i = M 18 i) : rowQ C N b hour o S := by
  unfold rowQ at *
  rw [hb.1] at h
  rcases h with ⟨h1, h2⟩ | ⟨h1, h2⟩
  · refine Or.inl ⟨h1, fun set hs => ?_⟩
    rw [h18 _ (by omega), h2 set hs]
    have e : (fun t => N 18 (256 * (o + 1) + t)) = (fun t => M 18 (256 * (o + 1) + t)) := by funext t; exact h18 _ (by omega)
    rw [e, hb.2]
  · refine Or.inr ⟨h1, fun set hs => ?_⟩
    rw [h18 _ (by omega), h18 _ (by omega), h2 set hs]
theorem c_X1_fillRow {X : Nat × (Nat → Int)} {d : Nat} {Po : mm_Po} {M : mm_M} (b : Int) (hour : Int) (o : Int) (hb : 0 ≤ b ∧ b < M 1 5) (hh : mm_r32 hour) (ho : 0 ≤ o ∧ o < M 1 0) (hJo : JO M) (hJb : JB M) (hrw : ∀ t, t < 2 ^ seX M b → 0 ≤ M 18 (256 * (o.toNat + 1) + t) ∧ M 18 (256 * (o.toNat + 1) + t) ≤ 1000) (hr : R32 M) (k : ∀ N : mm_M, (fr3 M N ∧ (∀ i, (i < 256 * o.toNat ∨ 256 * o.toNat + 256 ≤ i) → N 18 i = M 18 i) ∧ rowQ M N b hour o.toNat (seX M b)) → Po none Lam N) : mm_E X (d + 2) 0 0 mi_X1_fillRow [v_r 17, v_r 1, v_i b, v_i hour, v_i o] Po Lam M := by
  show mm_G X (d + 2) 0 0 mi_X1_fillRow Po 0 [(0, v_r 17), (1, v_r 1), (2, v_i b), (3, v_i hour), (4, v_i o)] [] Lam M 0 0
  obtain ⟨q, rfl⟩ : ∃ q : Nat, o = q := ⟨o.toNat, by omega⟩
  have hs := seX_is hb hJb
  exact A_fillRow b hour q (seX M b) hb hh ho.2 (by have := hJo.2.1; omega) hs.1 hs.2 hJo hJb hrw hr k
theorem L_lc2 {X : Nat × (Nat → Int)} {d : Nat} {Po : mm_Po} {M : mm_M} {B : mm_M} (b hour : Int) (n S : Nat) (hbB : 0 ≤ b ∧ b < B 1 5) (hh : mm_r32 hour) (hn : B 1 0 = n) (hS : seX B b = S) (hS8 : 1 ≤ S ∧ S ≤ 8) (hJoB : JO B) (hJbB : JB B) (k : ∀ (N : mm_M) (r : Int), (fr3 B N ∧ costQ B N b hour S n ∧ r = N 18 (2 ^ S - 1)) → Po (some (v_i r)) Lam N) (j : Nat) (hf : fr3 B M) (hbase : ∀ set, set < 2 ^ S → M 18 (256 * n + set) = if set = 0 then 0 else 1000) (hrows : ∀ o, j ≤ o → o < n → rowQ B M b hour o S) (hrw : ∀ t, t < 2 ^ S → 0 ≤ M 18 (256 * j + t) ∧ M 18 (256 * j + t) ≤ 1000) (hj : j ≤ n) : mm_G X (d + 3) 0 0 mi_X1_leastCost Po 67 [(0, v_r 17), (1, v_r 1), (2, v_i b), (3, v_i hour), (4, v_i (((2 ^ S : Nat) : Int) - 1)), (5, v_i ((n : Int) * 256)), (6, v_i ((j : Int) - 1))] [] Lam M 0 0 := by
  have hr := hf.1
  have hJo := (fr3_J hf).1 hJoB
  have hJb := (fr3_J hf).2 hJbB
  have h1 := hf.2 1 (by omega)
  have h6 := hf.2 6 (by omega)
  have hb : 0 ≤ b ∧ b < M 1 5 := (by rw [h1]; exact hbB)
  have hn2 : M 1 0 = n := (by rw [h1]; exact hn)
  have hn16 := hJo.2.1
  have hSM : seX M b = S := (by unfold seX; rw [h6]; exact hS)
  have h256 := cr_256 hS8.2
  have hpow := Nat.one_le_two_pow (n := S)
  have hjt : ((j : Int) - 1).toNat = j - 1 := (by omega)
  refine mm_iload (mm_dc od_X1_leastCost_0 36 rfl) rfl ?_
  refine mm_if_lt 87 (mm_dc od_X1_leastCost_0 37 rfl) (by omega) (by first | omega | assumption | exact hr _ _ rfl | (rw [hSM, hjt]; intro t ht; rw [show 256 * (j - 1 + 1) + t = 256 * j + t by omega]; exact hrw t ht)) (fun c1 => ?_) (fun c1 => ?_)
  · refine mm_aload_n (mm_dc od_X1_leastCost_0 46 rfl) rfl ?_
    refine mm_getR (ci := 1) (k := 0) (mm_dc od_X1_leastCost_0 47 rfl) rfl in_X1 (by decide) wd_1_119 rfl rfl ?_
    refine mm_iload (mm_dc od_X1_leastCost_0 48 rfl) rfl ?_
    refine mm_iald (mm_dc od_X1_leastCost_0 49 rfl) rfl (by first | omega | assumption | exact hr _ _ rfl | (rw [hSM, hjt]; intro t ht; rw [show 256 * (j - 1 + 1) + t = 256 * j + t by omega]; exact hrw t ht)) (by first | omega | assumption | exact hr _ _ rfl | (rw [hSM, hjt]; intro t ht; rw [show 256 * (j - 1 + 1) + t = 256 * j + t by omega]; exact hrw t ht)) (by decide) ?_
    refine mm_iret (mm_dc od_X1_leastCost_0 50 rfl) rfl ?_
    exact k _ _ ⟨hf, ⟨hbase, fun o ho => hrows o (by omega) ho⟩, by rw [show Int.toNat (((2 ^ S : Nat) : Int) - 1) = 2 ^ S - 1 by omega]⟩
  · refine mm_aload_n (mm_dc od_X1_leastCost_0 38 rfl) rfl ?_
    refine mm_aload_n (mm_dc od_X1_leastCost_0 39 rfl) rfl ?_
    refine mm_iload_n (mm_dc od_X1_leastCost_0 40 rfl) rfl ?_
    refine mm_iload_n (mm_dc od_X1_leastCost_0 41 rfl) rfl ?_
    refine mm_iload (mm_dc od_X1_leastCost_0 42 rfl) rfl ?_
    refine mm_callV (b := 17) (mi' := mi_X1_fillRow) [v_r 1, v_i b, v_i hour, v_i ((j : Int) - 1)] [] (mm_dc od_X1_leastCost_0 43 rfl) rfl wd_3_19 wd_3_21 wd_p_6 wd_1_4 wd_3_22 yk_X1_fillRow rfl rfl rfl (Nat.le_of_ble_eq_true rfl) rfl (by decide) (c_X1_fillRow b hour ((j : Int) - 1) (by first | omega | assumption | exact hr _ _ rfl | (rw [hSM, hjt]; intro t ht; rw [show 256 * (j - 1 + 1) + t = 256 * j + t by omega]; exact hrw t ht)) (by first | omega | assumption | exact hr _ _ rfl | (rw [hSM, hjt]; intro t ht; rw [show 256 * (j - 1 + 1) + t = 256 * j + t by omega]; exact hrw t ht)) (by first | omega | assumption | exact hr _ _ rfl | (rw [hSM, hjt]; intro t ht; rw [show 256 * (j - 1 + 1) + t = 256 * j + t by omega]; exact hrw t ht)) hJo hJb (by first | omega | assumption | exact hr _ _ rfl | (rw [hSM, hjt]; intro t ht; rw [show 256 * (j - 1 + 1) + t = 256 * j + t by omega]; exact hrw t ht)) (by first | omega | assumption | exact hr _ _ rfl | (rw [hSM, hjt]; intro t ht; rw [show 256 * (j - 1 + 1) + t = 256 * j + t by omega]; exact hrw t ht)) (fun N3 hq4 => ⟨Nat.le_refl _, ?_⟩))
    refine mm_iinc (L' := [(0, v_r 17), (1, v_r 1), (2, v_i b), (3, v_i hour), (4, v_i (((2 ^ S : Nat) : Int) - 1)), (5, v_i ((n : Int) * 256)), (6, v_i (((j : Int) - 1) + (-1)))]) (mm_dc od_X1_leastCost_0 44 rfl) rfl (by decide) rfl ?_
    refine mm_goto 67 (mm_dc od_X1_leastCost_0 45 rfl) (by omega) ?_
    obtain ⟨q1, q2, q3⟩ := hq4
    rw [hSM, hjt] at *
    refine mm_cL (L' := [(0, v_r 17), (1, v_r 1), (2, v_i b), (3, v_i hour), (4, v_i (((2 ^ S : Nat) : Int) - 1)), (5, v_i ((n : Int) * 256)), (6, v_i (((j - 1 : Nat) : Int) - 1))]) (by rw [show (j : Int) - 1 + (-1) = ((j - 1 : Nat) : Int) - 1 by omega]) ?_
    have hrw2 := rowQ_r (rowQ_c (N := N3) q3 ⟨rfl, rfl⟩ (fun _ _ => rfl)) (fun t ht => by rw [show 256 * (j - 1 + 1) + t = 256 * j + t by omega, q2 _ (by omega)]; exact hrw t ht)
    exact L_lc2 b hour n S hbB hh hn hS hS8 hJoB hJbB k (j - 1) (fr3_t hf q1) (fun set hs => by rw [q2 _ (by omega)]; exact hbase set hs) (fun o h1 h2 => by by_cases e : o = j - 1; rw [e]; exact rowQ_c q3 (fr3_p hf) (fun _ _ => rfl); exact rowQ_c (hrows o (by omega) h2) ⟨rfl, rfl⟩ (fun i hi => q2 i (by omega))) hrw2 (by omega)
termination_by j
decreasing_by all_goals (first | omega | (simp_wf; omega))
theorem L_lc1 {X : Nat × (Nat → Int)} {d : Nat} {Po : mm_Po} {M : mm_M} {B : mm_M} (b hour : Int) (n S : Nat) (hbB : 0 ≤ b ∧ b < B 1 5) (hh : mm_r32 hour) (hn : B 1 0 = n) (hS : seX B b = S) (hS8 : 1 ≤ S ∧ S ≤ 8) (hJoB : JO B) (hJbB : JB B) (k : ∀ (N : mm_M) (r : Int), (fr3 B N ∧ costQ B N b hour S n ∧ r = N 18 (2 ^ S - 1)) → Po (some (v_i r)) Lam N) (j : Nat) (hf : fr3 B M) (hbase : ∀ set, set < j → M 18 (256 * n + set) = if set = 0 then 0 else 1000) (hj : j ≤ 2 ^ S) : mm_G X (d + 3) 0 0 mi_X1_leastCost Po 24 [(0, v_r 17), (1, v_r 1), (2, v_i b), (3, v_i hour), (4, v_i (((2 ^ S : Nat) : Int) - 1)), (5, v_i ((n : Int) * 256)), (6, v_i (j : Int))] [] Lam M 0 0 := by
  have hr := hf.1
  have hJo := (fr3_J hf).1 hJoB
  have hJb := (fr3_J hf).2 hJbB
  have h1 := hf.2 1 (by omega)
  have h6 := hf.2 6 (by omega)
  have hb : 0 ≤ b ∧ b < M 1 5 := (by rw [h1]; exact hbB)
  have hn2 : M 1 0 = n := (by rw [h1]; exact hn)
  have hn16 := hJo.2.1
  have hSM : seX M b = S := (by unfold seX; rw [h6]; exact hS)
  have h256 := cr_256 hS8.2
  have hpow := Nat.one_le_two_pow (n := S)
  refine mm_iload (mm_dc od_X1_leastCost_0 15 rfl) rfl ?_
  refine mm_iload (mm_dc od_X1_leastCost_0 16 rfl) rfl ?_
  refine mm_icmp_gt 59 (mm_dc od_X1_leastCost_0 17 rfl) (by omega) (by first | omega | assumption | exact hr _ _ rfl) (by first | omega | assumption | exact hr _ _ rfl) (fun c1 => ?_) (fun c1 => ?_)
  · refine mm_aload_n (mm_dc od_X1_leastCost_0 31 rfl) rfl ?_
    refine mm_getI (ci := 0) (k := 0) (mm_dc od_X1_leastCost_0 32 rfl) rfl in_X0 (by decide) wd_1_35 rfl rfl ?_
    refine mm_iconst (mm_dc od_X1_leastCost_0 33 rfl) ?_
    refine mm_isub (mm_dc od_X1_leastCost_0 34 rfl) ?_
    refine mm_istore (L' := [(0, v_r 17), (1, v_r 1), (2, v_i b), (3, v_i hour), (4, v_i (((2 ^ S : Nat) : Int) - 1)), (5, v_i ((n : Int) * 256)), (6, v_i ((M 1 0) - 1))]) (mm_dc od_X1_leastCost_0 35 rfl) (by decide) rfl ?_
    refine mm_cL (L' := [(0, v_r 17), (1, v_r 1), (2, v_i b), (3, v_i hour), (4, v_i (((2 ^ S : Nat) : Int) - 1)), (5, v_i ((n : Int) * 256)), (6, v_i ((n : Int) - 1))]) (by rw [hn2]) ?_
    exact L_lc2 b hour n S hbB hh hn hS hS8 hJoB hJbB k n hf (fun set hs => hbase set (by omega)) (fun o h1 h2 => by omega) (fun t ht => by rw [hbase t (by omega)]; split <;> omega) (Nat.le_refl _)
  · refine mm_aload_n (mm_dc od_X1_leastCost_0 18 rfl) rfl ?_
    refine mm_getR (ci := 1) (k := 0) (mm_dc od_X1_leastCost_0 19 rfl) rfl in_X1 (by decide) wd_1_119 rfl rfl ?_
    refine mm_iload (mm_dc od_X1_leastCost_0 20 rfl) rfl ?_
    refine mm_iload (mm_dc od_X1_leastCost_0 21 rfl) rfl ?_
    refine mm_iadd (mm_dc od_X1_leastCost_0 22 rfl) ?_
    refine mm_iload (mm_dc od_X1_leastCost_0 23 rfl) rfl ?_
    refine mm_if_ne 49 (mm_dc od_X1_leastCost_0 24 rfl) (by omega) (by first | omega | assumption | exact hr _ _ rfl) (fun c2 => ?_) (fun c2 => ?_)
    · refine mm_sipush (mm_dc od_X1_leastCost_0 27 rfl) (by decide) ?_
      refine mm_iast (mm_dc od_X1_leastCost_0 28 rfl) rfl (by first | omega | assumption | exact hr _ _ rfl) (by first | omega | assumption | exact hr _ _ rfl) (by decide) ?_
      refine mm_iinc (L' := [(0, v_r 17), (1, v_r 1), (2, v_i b), (3, v_i hour), (4, v_i (((2 ^ S : Nat) : Int) - 1)), (5, v_i ((n : Int) * 256)), (6, v_i ((j : Int) + 1))]) (mm_dc od_X1_leastCost_0 29 rfl) rfl (by decide) rfl ?_
      refine mm_goto 24 (mm_dc od_X1_leastCost_0 30 rfl) (by omega) ?_
      have hix : Int.toNat ((n : Int) * 256 + (j : Int)) = 256 * n + j := by omega
      rw [hix]
      exact L_lc1 b hour n S hbB hh hn hS hS8 hJoB hJbB k (j + 1) (fr3_up hf (by decide) (by decide)) (fun set hs => by rw [mm_upa]; split; (next e => rw [if_neg (by omega)]); exact hbase set (by omega)) (by omega)
    · refine mm_iconst (mm_dc od_X1_leastCost_0 25 rfl) ?_
      refine mm_goto 52 (mm_dc od_X1_leastCost_0 26 rfl) (by omega) ?_
      refine mm_iast (mm_dc od_X1_leastCost_0 28 rfl) rfl (by first | omega | assumption | exact hr _ _ rfl) (by first | omega | assumption | exact hr _ _ rfl) (by decide) ?_
      refine mm_iinc (L' := [(0, v_r 17), (1, v_r 1), (2, v_i b), (3, v_i hour), (4, v_i (((2 ^ S : Nat) : Int) - 1)), (5, v_i ((n : Int) * 256)), (6, v_i ((j : Int) + 1))]) (mm_dc od_X1_leastCost_0 29 rfl) rfl (by decide) rfl ?_
      refine mm_goto 24 (mm_dc od_X1_leastCost_0 30 rfl) (by omega) ?_
      have hix : Int.toNat ((n : Int) * 256 + (j : Int)) = 256 * n + j := by omega
      rw [hix]
      exact L_lc1 b hour n S hbB hh hn hS hS8 hJoB hJbB k (j + 1) (fr3_up hf (by decide) (by decide)) (fun set hs => by rw [mm_upa]; split; (next e => rw [if_pos (by omega)]); exact hbase set (by omega)) (by omega)
termination_by 2 ^ S - j
decreasing_by all_goals (first | omega | (simp_wf; omega))
theorem c_X1_leastCost {X : Nat × (Nat → Int)} {d : Nat} {Po : mm_Po} {M : mm_M} (b : Int) (hour : Int) (hb : 0 ≤ b ∧ b < M 1 5) (hh : mm_r32 hour) (hJo : JO M) (hJb : JB M) (hr : R32 M) (k : ∀ (N : mm_M) (r : Int), (fr3 M N ∧ costQ M N b hour (seX M b) (M 1 0).toNat ∧ r = N 18 (2 ^ seX M b - 1)) → Po (some (v_i r)) Lam N) : mm_E X (d + 3) 0 0 mi_X1_leastCost [v_r 17, v_r 1, v_i b, v_i hour] Po Lam M := by
  show mm_G X (d + 3) 0 0 mi_X1_leastCost Po 0 [(0, v_r 17), (1, v_r 1), (2, v_i b), (3, v_i hour)] [] Lam M 0 0
  have hs := seX_is hb hJb
  have hn0 := hJo.1
  have h256 := cr_256 hs.2.2
  refine mm_iconst (mm_dc od_X1_leastCost_0 0 rfl) ?_
  refine mm_aload_n (mm_dc od_X1_leastCost_0 1 rfl) rfl ?_
  refine mm_iload_n (mm_dc od_X1_leastCost_0 2 rfl) rfl ?_
  refine mm_callV (b := 1) (mi' := mi_X0_seats) [v_i b] [v_i 1] (mm_dc od_X1_leastCost_0 3 rfl) rfl wd_3_18 wd_2_120 wd_2_121 wd_1_2 wd_2_122 yk_X0_seats rfl rfl rfl (Nat.le_of_ble_eq_true rfl) rfl (by decide) (c_X0_seats b (by first | omega | assumption | exact hr _ _ rfl) hJb (by first | omega | assumption | exact hr _ _ rfl) ⟨Nat.le_refl _, ?_⟩)
  refine mm_ishl (mm_dc od_X1_leastCost_0 4 rfl) ?_
  refine mm_iconst (mm_dc od_X1_leastCost_0 5 rfl) ?_
  refine mm_isub (mm_dc od_X1_leastCost_0 6 rfl) ?_
  refine mm_istore (L' := [(0, v_r 17), (1, v_r 1), (2, v_i b), (3, v_i hour), (4, v_i ((fx_shl 1 (mm_seats (M 6 b.toNat).toNat)) - 1))]) (mm_dc od_X1_leastCost_0 7 rfl) (by decide) rfl ?_
  refine mm_aload_n (mm_dc od_X1_leastCost_0 8 rfl) rfl ?_
  refine mm_getI (ci := 0) (k := 0) (mm_dc od_X1_leastCost_0 9 rfl) rfl in_X0 (by decide) wd_1_35 rfl rfl ?_
  refine mm_sipush (mm_dc od_X1_leastCost_0 10 rfl) (by decide) ?_
  refine mm_imul (mm_dc od_X1_leastCost_0 11 rfl) ?_
  refine mm_istore (L' := [(0, v_r 17), (1, v_r 1), (2, v_i b), (3, v_i hour), (4, v_i ((fx_shl 1 (mm_seats (M 6 b.toNat).toNat)) - 1)), (5, v_i ((M 1 0) * 256))]) (mm_dc od_X1_leastCost_0 12 rfl) (by decide) rfl ?_
  refine mm_iconst (mm_dc od_X1_leastCost_0 13 rfl) ?_
  refine mm_istore (L' := [(0, v_r 17), (1, v_r 1), (2, v_i b), (3, v_i hour), (4, v_i ((fx_shl 1 (mm_seats (M 6 b.toNat).toNat)) - 1)), (5, v_i ((M 1 0) * 256)), (6, v_i 0)]) (mm_dc od_X1_leastCost_0 14 rfl) (by decide) rfl ?_
  have hsh : fx_shl 1 (mm_seats (M 6 b.toNat).toNat) = ((2 ^ seX M b : Nat) : Int) := by rw [hs.1]; exact fx_shl_1 (by omega)
  have hnn : M 1 0 = ((M 1 0).toNat : Int) := by omega
  refine mm_cL (L' := [(0, v_r 17), (1, v_r 1), (2, v_i b), (3, v_i hour), (4, v_i (((2 ^ seX M b : Nat) : Int) - 1)), (5, v_i (((M 1 0).toNat : Int) * 256)), (6, v_i ((0 : Nat) : Int))]) (by rw [hsh, ← hnn]; rfl) ?_
  exact L_lc1 b hour (M 1 0).toNat (seX M b) hb hh hnn rfl hs.2 hJo hJb k 0 (fr3_0 hr) (fun set hs => by omega) (Nat.zero_le _)
