def opM (f : Nat → Int) : Nat → Nat
  | 0 => 0
  | j + 1 => if f j < 0 then opM f j else opM f j ||| 2 ^ (f j).toNat
theorem opM_cong {f g : Nat → Int} : ∀ j : Nat, (∀ i, i < j → f i = g i) → opM f j = opM g j
  | 0, _ => rfl
  | j + 1, h => by
    simp only [opM]
    rw [opM_cong j (fun i hi => h i (by omega)), h j (by omega)]
theorem opM_lt {f : Nat → Int} {S : Nat} : ∀ j : Nat, (∀ i, i < j → -1 ≤ f i ∧ f i < S) → opM f j < 2 ^ S
  | 0, _ => by
    have := Nat.one_le_two_pow (n := S)
    simp only [opM]; omega
  | j + 1, h => by
    have ih := opM_lt j (fun i hi => h i (by omega))
    have h1 := h j (by omega)
    simp only [opM]
    split
    · exact ih
    · exact Nat.or_lt_two_pow ih (Nat.pow_lt_pow_right (by decide) (by omega))
def chP (B : mm_M) (b : Int) (o set s : Nat) : Prop := set.testBit s = false ∧ cstM B b o s + B 70 (256 * (o + 1) + (set ||| 2 ^ s)) = B 70 (256 * o + set)
def chM (B : mm_M) (b hour : Int) (S o set : Nat) (r : Int) : Prop := (freeM B b hour o ∧ firstP (chP B b o set) r S) ∨ (¬ freeM B b hour o ∧ r = -1)
theorem chM_r {B : mm_M} {b hour : Int} {S o set : Nat} {r : Int} (h : chM B b hour S o set r) : -1 ≤ r ∧ r < S := by
  rcases h with ⟨_, h⟩ | ⟨_, h⟩
  · have := firstP_rng h; omega
  · omega
theorem chM_s {B M N : mm_M} {b hour : Int} {S j : Nat} (h : ∀ o, o < j → chM B b hour S o (opM (M 71) o) (M 71 o)) (he : ∀ i, i < j → N 71 i = M 71 i) (hj : chM B b hour S j (opM (M 71) j) (N 71 j)) : ∀ o, o < j + 1 → chM B b hour S o (opM (N 71) o) (N 71 o) := by
  intro o ho
  by_cases e : o = j
  · subst e
    rw [opM_cong (f := N 71) (g := M 71) o he]; exact hj
  · rw [opM_cong (f := N 71) (g := M 71) o (fun i hi => he i (by omega)), he o (by omega)]; exact h o (by omega)
def plB (B : mm_M) (b : Int) (i : Nat) : Int := if 0 ≤ B 71 i then b else if B 53 i = b ∧ B 54 i ≠ 8 then -1 else B 53 i
def plS (B : mm_M) (i : Nat) : Int := if 0 ≤ B 71 i then B 71 i else B 54 i
def seatM (M N : mm_M) (b hour : Int) : Prop := ∃ N1 : mm_M, frm 71 M N1 ∧ (∀ o, o < (M 50 10).toNat → chM M b hour (seM M b) o (opM (N1 71) o) (N1 71 o)) ∧ R32 N ∧ (∀ i, i ≠ 53 → i ≠ 54 → N i = N1 i) ∧ ∀ o : Nat, N 53 o = (if (o : Int) < M 50 10 then plB N1 b o else N1 53 o) ∧ N 54 o = (if (o : Int) < M 50 10 then plS N1 o else N1 54 o)
theorem L_cr196 {X : Nat × (Nat → Int)} {d : Nat} {Po : mm_Po} {M : mm_M} (b hour does sum : Int) (S j : Nat) (hj16 : j < 16) (hS8 : S ≤ 8) (h71 : -1 ≤ M 71 j ∧ M 71 j < S) (hop : opM (M 71) j < 2 ^ S) (K : mm_G X d 0 0 mi_X10_crew Po 72 [(0, v_r 50), (1, v_i b), (2, v_i hour), (3, v_i does), (4, v_i sum), (5, v_i ((opM (M 71) (j + 1) : Nat) : Int)), (6, v_i ((j : Int) + 1))] [] Lam M 0 0) : mm_G X d 0 0 mi_X10_crew Po 196 [(0, v_r 50), (1, v_i b), (2, v_i hour), (3, v_i does), (4, v_i sum), (5, v_i ((opM (M 71) j : Nat) : Int)), (6, v_i (j : Int))] [] Lam M 0 0 := by
  have hx : 0 ≤ M 71 j → fx_or ((opM (M 71) j : Nat) : Int) (fx_shl 1 (M 71 j)) = ((opM (M 71) j ||| 2 ^ (M 71 j).toNat : Nat) : Int) := (by
    intro q
    have h := (cr_or (i := (M 71 j).toNat) hop (by omega) hS8).1
    rw [Int.toNat_of_nonneg (by omega)] at h
    exact h)
  refine mm_aload_n (mm_dc od_X10_crew_1 51 rfl) rfl ?_
  refine mm_getR (ci := 10) (k := 25) (mm_dc od_X10_crew_1 52 rfl) rfl in_X10 (by decide) wd_4_137 rfl rfl ?_
  refine mm_iload (mm_dc od_X10_crew_1 53 rfl) rfl ?_
  refine mm_iald (mm_dc od_X10_crew_1 54 rfl) rfl (by first | omega | assumption) (by first | omega | assumption) (by decide) ?_
  refine mm_cst (st' := [v_i (M 71 j)]) rfl ?_
  refine mm_if_lt 220 (mm_dc od_X10_crew_1 55 rfl) (by omega) (by first | omega | assumption) (fun c1 => ?_) (fun c1 => ?_)
  · refine mm_iinc (L' := [(0, v_r 50), (1, v_i b), (2, v_i hour), (3, v_i does), (4, v_i sum), (5, v_i ((opM (M 71) j : Nat) : Int)), (6, v_i ((j : Int) + 1))]) (mm_dc od_X10_crew_2 5 rfl) rfl (by decide) rfl ?_
    refine mm_goto 72 (mm_dc od_X10_crew_2 6 rfl) (by omega) ?_
    refine mm_cL (L' := [(0, v_r 50), (1, v_i b), (2, v_i hour), (3, v_i does), (4, v_i sum), (5, v_i ((opM (M 71) (j + 1) : Nat) : Int)), (6, v_i ((j : Int) + 1))]) ?_ K
    simp only [opM]
    rw [if_pos (by assumption)]
  · refine mm_iload (mm_dc od_X10_crew_1 56 rfl) rfl ?_
    refine mm_iconst (mm_dc od_X10_crew_1 57 rfl) ?_
    refine mm_aload_n (mm_dc od_X10_crew_1 58 rfl) rfl ?_
    refine mm_getR (ci := 10) (k := 25) (mm_dc od_X10_crew_1 59 rfl) rfl in_X10 (by decide) wd_4_137 rfl rfl ?_
    refine mm_iload (mm_dc od_X10_crew_2 0 rfl) rfl ?_
    refine mm_iald (mm_dc od_X10_crew_2 1 rfl) rfl (by first | omega | assumption) (by first | omega | assumption) (by decide) ?_
    refine mm_cst (st' := [v_i (M 71 j), v_i 1, v_i ((opM (M 71) j : Nat) : Int)]) rfl ?_
    refine mm_ishl (mm_dc od_X10_crew_2 2 rfl) ?_
    refine mm_ior (mm_dc od_X10_crew_2 3 rfl) ?_
    refine mm_istore (L' := [(0, v_r 50), (1, v_i b), (2, v_i hour), (3, v_i does), (4, v_i sum), (5, v_i (fx_or ((opM (M 71) j : Nat) : Int) (fx_shl 1 (M 71 j)))), (6, v_i (j : Int))]) (mm_dc od_X10_crew_2 4 rfl) (by decide) rfl ?_
    refine mm_iinc (L' := [(0, v_r 50), (1, v_i b), (2, v_i hour), (3, v_i does), (4, v_i sum), (5, v_i (fx_or ((opM (M 71) j : Nat) : Int) (fx_shl 1 (M 71 j)))), (6, v_i ((j : Int) + 1))]) (mm_dc od_X10_crew_2 5 rfl) rfl (by decide) rfl ?_
    refine mm_goto 72 (mm_dc od_X10_crew_2 6 rfl) (by omega) ?_
    refine mm_cL (L' := [(0, v_r 50), (1, v_i b), (2, v_i hour), (3, v_i does), (4, v_i sum), (5, v_i ((opM (M 71) (j + 1) : Nat) : Int)), (6, v_i ((j : Int) + 1))]) ?_ K
    simp only [opM]
    rw [if_neg (by omega), hx (by omega)]
theorem L_cr92 {X : Nat × (Nat → Int)} {d : Nat} {Po : mm_Po} {M : mm_M} {B : mm_M} (b hour does sum : Int) (n S : Nat) (hbB : 0 ≤ b ∧ b < B 50 11) (hh : mm_r32 hour) (hn : B 50 10 = n) (hS : seM B b = S) (hS8 : 1 ≤ S ∧ S ≤ 8) (hJoB : JOm B) (hJbB : JBm B) (hcs : ∀ o, o ≤ n → ∀ t, t < 2 ^ S → 0 ≤ B 70 (256 * o + t) ∧ B 70 (256 * o + t) ≤ 1000000) {B0 : mm_M} (j set : Nat) (hset : set < 2 ^ S) (hjn : j < n) (K : ∀ N : mm_M, frm 71 B N → (∀ q, q ≠ j → N 71 q = B0 71 q) → chM B b hour S j set (N 71 j) → mm_G X (d + 2) 0 0 mi_X10_crew Po 196 [(0, v_r 50), (1, v_i b), (2, v_i hour), (3, v_i does), (4, v_i sum), (5, v_i (set : Int)), (6, v_i (j : Int))] [] Lam N 0 0) (i : Nat) (hf : frm 71 B M) (hoth : ∀ q, q ≠ j → M 71 q = B0 71 q) (hg : (M 71 j = -1 ∧ (∀ s, s < i → ¬ chP B b j set s) ∧ (i ≠ 0 → freeM B b hour j)) ∨ (freeM B b hour j ∧ 0 ≤ M 71 j ∧ M 71 j < i ∧ chP B b j set (M 71 j).toNat ∧ ∀ s : Nat, (s : Int) < M 71 j → ¬ chP B b j set s)) (hi : i ≤ S) : mm_G X (d + 2) 0 0 mi_X10_crew Po 92 [(0, v_r 50), (1, v_i b), (2, v_i hour), (3, v_i does), (4, v_i sum), (5, v_i (set : Int)), (6, v_i (j : Int)), (7, v_i (i : Int))] [] Lam M 0 0 := by
  have hr := hf.1
  have hJom := (frm_JM hf (Or.inr rfl)).1 hJoB
  have hJbm := (frm_JM hf (Or.inr rfl)).2 hJbB
  have h50 := hf.2 50 (by decide)
  have h57 := hf.2 57 (by decide)
  have h70 := hf.2 70 (by decide)
  have hn2 : M 50 10 = n := (by rw [h50]; exact hn)
  have hn16 := hJoB.2.1
  have hb : 0 ≤ b ∧ b < M 50 11 := (by rw [h50]; exact hbB)
  have hb1 : mm_r32 b := (by have := hJbB.2.1; omega)
  have hSS : mm_seats (M 57 b.toNat).toNat = S := (by rw [h57, (seM_is hbB hJbB).1, hS])
  have hfp := frm_pM hf (Or.inr rfl)
  have h256 := cr_256 hS8.2
  have ho : 0 ≤ (j : Int) ∧ (j : Int) < M 50 10 := (by omega)
  have hx : i < S → fx_or (set : Int) (fx_shl 1 (i : Int)) = ((set ||| 2 ^ i : Nat) : Int) ∧ set ||| 2 ^ i < 2 ^ S ∧ 2 ^ S ≤ 256 := fun q => cr_or hset q hS8.2
  have hbi : fx_and (fx_shr (set : Int) (i : Int)) 1 = if set.testBit i then 1 else 0 := fx_bit (by omega) (by omega)
  have hbz : fx_and (fx_shr (set : Int) (i : Int)) 1 = 0 → set.testBit i = false := (by rw [hbi]; intro q; by_cases q2 : set.testBit i = true; rw [if_pos q2] at q; cases q; simpa using q2)
  have hbn : ¬ fx_and (fx_shr (set : Int) (i : Int)) 1 = 0 → ¬ set.testBit i = false := (by rw [hbi]; intro q q2; rw [q2] at q; exact q rfl)
  have hbr : mm_r32 (fx_and (fx_shr (set : Int) (i : Int)) 1) := (by rw [hbi]; split <;> omega)
  have hcs2 : cstM M b (j : Int) (i : Int) = cstM B b (j : Int) (i : Int) := (by rw [hfp.2])
  have hcr := cstM_r M b (j : Int) (i : Int)
  have hrd1 : i < S → M 70 (Int.toNat (256 * ((j : Int) + 1) + fx_or (set : Int) (fx_shl 1 (i : Int)))) = B 70 (256 * (j + 1) + (set ||| 2 ^ i)) := fun q => (by rw [(hx q).1, show Int.toNat (256 * ((j : Int) + 1) + ((set ||| 2 ^ i : Nat) : Int)) = 256 * (j + 1) + (set ||| 2 ^ i) by omega, h70])
  have hrd2 : M 70 (Int.toNat (256 * (j : Int) + (set : Int))) = B 70 (256 * j + set) := (by rw [show Int.toNat (256 * (j : Int) + (set : Int)) = 256 * j + set by omega, h70])
  have hrr : i < S → 0 ≤ B 70 (256 * (j + 1) + (set ||| 2 ^ i)) ∧ B 70 (256 * (j + 1) + (set ||| 2 ^ i)) ≤ 1000000 := fun q => hcs (j + 1) (by omega) _ (hx q).2.1
  have hm71 : mm_r32 (M 71 j) := hr _ _ rfl
  refine mm_iload (mm_dc od_X10_crew_0 53 rfl) rfl ?_
  refine mm_aload_n (mm_dc od_X10_crew_0 54 rfl) rfl ?_
  refine mm_iload_n (mm_dc od_X10_crew_0 55 rfl) rfl ?_
  refine mm_callV (b := 50) (mi' := mi_X10_seatsOf) [v_i b] [v_i (i : Int)] (mm_dc od_X10_crew_0 56 rfl) rfl wd_5_67 wd_5_69 wd_p_24 wd_1_12 wd_5_70 yk_X10_seatsOf rfl rfl rfl (Nat.le_of_ble_eq_true rfl) rfl (by decide) (c_X10_seatsOf b (by first | omega | assumption | exact hr _ _ rfl | (have hr9 := hrr (by omega); rw [hrd1 (by omega)]; omega) | (have hx9 := hx (by omega); rw [hx9.1]; omega)) hJbm (by first | omega | assumption | exact hr _ _ rfl | (have hr9 := hrr (by omega); rw [hrd1 (by omega)]; omega) | (have hx9 := hx (by omega); rw [hx9.1]; omega)) ⟨Nat.le_refl _, ?_⟩)
  refine mm_icmp_ge 196 (mm_dc od_X10_crew_0 57 rfl) (by omega) (by first | omega | assumption | exact hr _ _ rfl | (have hr9 := hrr (by omega); rw [hrd1 (by omega)]; omega) | (have hx9 := hx (by omega); rw [hx9.1]; omega)) (by first | omega | assumption | exact hr _ _ rfl | (have hr9 := hrr (by omega); rw [hrd1 (by omega)]; omega) | (have hx9 := hx (by omega); rw [hx9.1]; omega)) (fun c1 => ?_) (fun c1 => ?_)
  · refine mm_less [0, 1, 2, 3, 4, 5, 6] rfl (K M hf hoth ?_)
    rcases hg with q | q
    · exact Or.inl ⟨q.2.2 (by omega), Or.inl ⟨q.1, fun s hs => q.2.1 s (by omega)⟩⟩
    · exact Or.inl ⟨q.1, Or.inr ⟨q.2.1, by omega, q.2.2.2.1, q.2.2.2.2⟩⟩
  · refine mm_aload_n (mm_dc od_X10_crew_0 58 rfl) rfl ?_
    refine mm_getR (ci := 10) (k := 25) (mm_dc od_X10_crew_0 59 rfl) rfl in_X10 (by decide) wd_4_137 rfl rfl ?_
    refine mm_iload (mm_dc od_X10_crew_1 0 rfl) rfl ?_
    refine mm_iald (mm_dc od_X10_crew_1 1 rfl) rfl (by first | omega | assumption | exact hr _ _ rfl | (have hr9 := hrr (by omega); rw [hrd1 (by omega)]; omega) | (have hx9 := hx (by omega); rw [hx9.1]; omega)) (by first | omega | assumption | exact hr _ _ rfl | (have hr9 := hrr (by omega); rw [hrd1 (by omega)]; omega) | (have hx9 := hx (by omega); rw [hx9.1]; omega)) (by decide) ?_
    refine mm_cst (st' := [v_i (M 71 j)]) rfl ?_
    refine mm_if_ge 196 (mm_dc od_X10_crew_1 2 rfl) (by omega) (by first | omega | assumption | exact hr _ _ rfl | (have hr9 := hrr (by omega); rw [hrd1 (by omega)]; omega) | (have hx9 := hx (by omega); rw [hx9.1]; omega)) (fun c2 => ?_) (fun c2 => ?_)
    · refine mm_less [0, 1, 2, 3, 4, 5, 6] rfl (K M hf hoth ?_)
      rcases hg with q | q
      · exfalso; omega
      · exact Or.inl ⟨q.1, Or.inr ⟨q.2.1, by omega, q.2.2.2.1, q.2.2.2.2⟩⟩
    · refine mm_aload_n (mm_dc od_X10_crew_1 3 rfl) rfl ?_
      refine mm_iload (mm_dc od_X10_crew_1 4 rfl) rfl ?_
      refine mm_iload_n (mm_dc od_X10_crew_1 5 rfl) rfl ?_
      refine mm_iload_n (mm_dc od_X10_crew_1 6 rfl) rfl ?_
      refine mm_callV (b := 50) (mi' := mi_X10_canSit) [v_i (j : Int), v_i b, v_i hour] [] (mm_dc od_X10_crew_1 7 rfl) rfl wd_5_153 wd_5_155 wd_p_32 wd_1_12 wd_5_156 yk_X10_canSit rfl rfl rfl (Nat.le_of_ble_eq_true rfl) rfl (by decide) (c_X10_canSit (j : Int) b hour (by first | omega | assumption | exact hr _ _ rfl | (have hr9 := hrr (by omega); rw [hrd1 (by omega)]; omega) | (have hx9 := hx (by omega); rw [hx9.1]; omega)) (by first | omega | assumption | exact hr _ _ rfl | (have hr9 := hrr (by omega); rw [hrd1 (by omega)]; omega) | (have hx9 := hx (by omega); rw [hx9.1]; omega)) (by first | omega | assumption | exact hr _ _ rfl | (have hr9 := hrr (by omega); rw [hrd1 (by omega)]; omega) | (have hx9 := hx (by omega); rw [hx9.1]; omega)) hJom (by first | omega | assumption | exact hr _ _ rfl | (have hr9 := hrr (by omega); rw [hrd1 (by omega)]; omega) | (have hx9 := hx (by omega); rw [hx9.1]; omega)) (fun c3 => ⟨Nat.le_refl _, ?_⟩) (fun c3 => ⟨Nat.le_refl _, ?_⟩))
      · refine mm_if_eq 196 (mm_dc od_X10_crew_1 8 rfl) (by omega) (by first | omega | assumption | exact hr _ _ rfl | (have hr9 := hrr (by omega); rw [hrd1 (by omega)]; omega) | (have hx9 := hx (by omega); rw [hx9.1]; omega)) (fun h => absurd h (by decide)) (fun _ => ?_)
        refine mm_iload (mm_dc od_X10_crew_1 9 rfl) rfl ?_
        refine mm_iload (mm_dc od_X10_crew_1 10 rfl) rfl ?_
        refine mm_ishr (mm_dc od_X10_crew_1 11 rfl) ?_
        refine mm_iconst (mm_dc od_X10_crew_1 12 rfl) ?_
        refine mm_iand (mm_dc od_X10_crew_1 13 rfl) ?_
        refine mm_if_ne 190 (mm_dc od_X10_crew_1 14 rfl) (by omega) (by first | omega | assumption | exact hr _ _ rfl | (have hr9 := hrr (by omega); rw [hrd1 (by omega)]; omega) | (have hx9 := hx (by omega); rw [hx9.1]; omega)) (fun c4 => ?_) (fun c4 => ?_)
        · refine mm_iinc (L' := [(0, v_r 50), (1, v_i b), (2, v_i hour), (3, v_i does), (4, v_i sum), (5, v_i (set : Int)), (6, v_i (j : Int)), (7, v_i ((i : Int) + 1))]) (mm_dc od_X10_crew_1 49 rfl) rfl (by decide) rfl ?_
          refine mm_goto 92 (mm_dc od_X10_crew_1 50 rfl) (by omega) ?_
          have hfree : freeM B b hour j := by rw [← hfp.1]; exact c3
          have hneg : M 71 j = -1 ∧ (∀ s, s < i → ¬ chP B b j set s) := by
            rcases hg with q | q
            · exact ⟨q.1, q.2.1⟩
            · exfalso; omega
          have hnp : ¬ chP B b j set i := by
            rintro ⟨q1, q2⟩
            first
              | exact absurd q1 (hbn (by assumption))
              | (rw [← hcs2, ← hrd1 (by omega), ← hrd2] at q2; exact absurd q2 (by assumption))
          exact L_cr92 b hour does sum n S hbB hh hn hS hS8 hJoB hJbB hcs j set hset hjn K (i + 1) hf hoth (Or.inl ⟨hneg.1, lt_s hneg.2 hnp, fun _ => hfree⟩) (by omega)
        · refine mm_aload_n (mm_dc od_X10_crew_1 15 rfl) rfl ?_
          refine mm_iload (mm_dc od_X10_crew_1 16 rfl) rfl ?_
          refine mm_iload_n (mm_dc od_X10_crew_1 17 rfl) rfl ?_
          refine mm_iload (mm_dc od_X10_crew_1 18 rfl) rfl ?_
          refine mm_callV (b := 50) (mi' := mi_X10_costOf) [v_i (j : Int), v_i b, v_i (i : Int)] [] (mm_dc od_X10_crew_1 19 rfl) rfl wd_5_161 wd_5_163 wd_p_34 wd_1_12 wd_5_164 yk_X10_costOf rfl rfl rfl (Nat.le_of_ble_eq_true rfl) rfl (by decide) (c_X10_costOf (j : Int) b (i : Int) (by first | omega | assumption | exact hr _ _ rfl | (have hr9 := hrr (by omega); rw [hrd1 (by omega)]; omega) | (have hx9 := hx (by omega); rw [hx9.1]; omega)) (by first | omega | assumption | exact hr _ _ rfl | (have hr9 := hrr (by omega); rw [hrd1 (by omega)]; omega) | (have hx9 := hx (by omega); rw [hx9.1]; omega)) (by first | omega | assumption | exact hr _ _ rfl | (have hr9 := hrr (by omega); rw [hrd1 (by omega)]; omega) | (have hx9 := hx (by omega); rw [hx9.1]; omega)) hJom hJbm (by first | omega | assumption | exact hr _ _ rfl | (have hr9 := hrr (by omega); rw [hrd1 (by omega)]; omega) | (have hx9 := hx (by omega); rw [hx9.1]; omega)) ⟨Nat.le_refl _, ?_⟩)
          refine mm_aload_n (mm_dc od_X10_crew_1 20 rfl) rfl ?_
          refine mm_getR (ci := 10) (k := 24) (mm_dc od_X10_crew_1 21 rfl) rfl in_X10 (by decide) wd_4_136 rfl rfl ?_
          refine mm_sipush (mm_dc od_X10_crew_1 22 rfl) (by decide) ?_
          refine mm_iload (mm_dc od_X10_crew_1 23 rfl) rfl ?_
          refine mm_iconst (mm_dc od_X10_crew_1 24 rfl) ?_
          refine mm_iadd (mm_dc od_X10_crew_1 25 rfl) ?_
          refine mm_imul (mm_dc od_X10_crew_1 26 rfl) ?_
          refine mm_iload (mm_dc od_X10_crew_1 27 rfl) rfl ?_
          refine mm_iconst (mm_dc od_X10_crew_1 28 rfl) ?_
          refine mm_iload (mm_dc od_X10_crew_1 29 rfl) rfl ?_
          refine mm_ishl (mm_dc od_X10_crew_1 30 rfl) ?_
          refine mm_ior (mm_dc od_X10_crew_1 31 rfl) ?_
          refine mm_iadd (mm_dc od_X10_crew_1 32 rfl) ?_
          refine mm_iald (mm_dc od_X10_crew_1 33 rfl) rfl (by first | omega | assumption | exact hr _ _ rfl | (have hr9 := hrr (by omega); rw [hrd1 (by omega)]; omega) | (have hx9 := hx (by omega); rw [hx9.1]; omega)) (by first | omega | assumption | exact hr _ _ rfl | (have hr9 := hrr (by omega); rw [hrd1 (by omega)]; omega) | (have hx9 := hx (by omega); rw [hx9.1]; omega)) (by decide) ?_
          refine mm_iadd (mm_dc od_X10_crew_1 34 rfl) ?_
          refine mm_aload_n (mm_dc od_X10_crew_1 35 rfl) rfl ?_
          refine mm_getR (ci := 10) (k := 24) (mm_dc od_X10_crew_1 36 rfl) rfl in_X10 (by decide) wd_4_136 rfl rfl ?_
          refine mm_sipush (mm_dc od_X10_crew_1 37 rfl) (by decide) ?_
          refine mm_iload (mm_dc od_X10_crew_1 38 rfl) rfl ?_
          refine mm_imul (mm_dc od_X10_crew_1 39 rfl) ?_
          refine mm_iload (mm_dc od_X10_crew_1 40 rfl) rfl ?_
          refine mm_iadd (mm_dc od_X10_crew_1 41 rfl) ?_
          refine mm_iald (mm_dc od_X10_crew_1 42 rfl) rfl (by first | omega | assumption | exact hr _ _ rfl | (have hr9 := hrr (by omega); rw [hrd1 (by omega)]; omega) | (have hx9 := hx (by omega); rw [hx9.1]; omega)) (by first | omega | assumption | exact hr _ _ rfl | (have hr9 := hrr (by omega); rw [hrd1 (by omega)]; omega) | (have hx9 := hx (by omega); rw [hx9.1]; omega)) (by decide) ?_
          refine mm_icmp_ne 190 (mm_dc od_X10_crew_1 43 rfl) (by omega) (by first | omega | assumption | exact hr _ _ rfl | (have hr9 := hrr (by omega); rw [hrd1 (by omega)]; omega) | (have hx9 := hx (by omega); rw [hx9.1]; omega)) (by first | omega | assumption | exact hr _ _ rfl | (have hr9 := hrr (by omega); rw [hrd1 (by omega)]; omega) | (have hx9 := hx (by omega); rw [hx9.1]; omega)) (fun c5 => ?_) (fun c5 => ?_)
          · refine mm_iinc (L' := [(0, v_r 50), (1, v_i b), (2, v_i hour), (3, v_i does), (4, v_i sum), (5, v_i (set : Int)), (6, v_i (j : Int)), (7, v_i ((i : Int) + 1))]) (mm_dc od_X10_crew_1 49 rfl) rfl (by decide) rfl ?_
            refine mm_goto 92 (mm_dc od_X10_crew_1 50 rfl) (by omega) ?_
            have hfree : freeM B b hour j := by rw [← hfp.1]; exact c3
            have hneg : M 71 j = -1 ∧ (∀ s, s < i → ¬ chP B b j set s) := by
              rcases hg with q | q
              · exact ⟨q.1, q.2.1⟩
              · exfalso; omega
            have hnp : ¬ chP B b j set i := by
              rintro ⟨q1, q2⟩
              first
                | exact absurd q1 (hbn (by assumption))
                | (rw [← hcs2, ← hrd1 (by omega), ← hrd2] at q2; exact absurd q2 (by assumption))
            exact L_cr92 b hour does sum n S hbB hh hn hS hS8 hJoB hJbB hcs j set hset hjn K (i + 1) hf hoth (Or.inl ⟨hneg.1, lt_s hneg.2 hnp, fun _ => hfree⟩) (by omega)
          · refine mm_aload_n (mm_dc od_X10_crew_1 44 rfl) rfl ?_
            refine mm_getR (ci := 10) (k := 25) (mm_dc od_X10_crew_1 45 rfl) rfl in_X10 (by decide) wd_4_137 rfl rfl ?_
            refine mm_iload (mm_dc od_X10_crew_1 46 rfl) rfl ?_
            refine mm_iload (mm_dc od_X10_crew_1 47 rfl) rfl ?_
            refine mm_iast (mm_dc od_X10_crew_1 48 rfl) rfl (by first | omega | assumption | exact hr _ _ rfl | (have hr9 := hrr (by omega); rw [hrd1 (by omega)]; omega) | (have hx9 := hx (by omega); rw [hx9.1]; omega)) (by first | omega | assumption | exact hr _ _ rfl | (have hr9 := hrr (by omega); rw [hrd1 (by omega)]; omega) | (have hx9 := hx (by omega); rw [hx9.1]; omega)) (by decide) ?_
            refine mm_eqM (M' := mm_up M 71 j (i : Int)) rfl ?_
            refine mm_iinc (L' := [(0, v_r 50), (1, v_i b), (2, v_i hour), (3, v_i does), (4, v_i sum), (5, v_i (set : Int)), (6, v_i (j : Int)), (7, v_i ((i : Int) + 1))]) (mm_dc od_X10_crew_1 49 rfl) rfl (by decide) rfl ?_
            refine mm_goto 92 (mm_dc od_X10_crew_1 50 rfl) (by omega) ?_
            have hfree : freeM B b hour j := by rw [← hfp.1]; exact c3
            have hneg : M 71 j = -1 ∧ (∀ s, s < i → ¬ chP B b j set s) := by
              rcases hg with q | q
              · exact ⟨q.1, q.2.1⟩
              · exfalso; omega
            have hyp : chP B b j set i := by
              refine ⟨hbz (by assumption), ?_⟩
              rw [← hcs2, ← hrd1 (by omega), ← hrd2]; assumption
            have e71 : mm_up M 71 j (i : Int) 71 j = (i : Int) := mm_up_eq
            refine L_cr92 b hour does sum n S hbB hh hn hS hS8 hJoB hJbB hcs j set hset hjn K (i + 1) (frm_up hf (by omega)) (fun q hq => by rw [mm_upa, if_neg hq]; exact hoth q hq) (Or.inr ⟨hfree, ?_, ?_, ?_, ?_⟩) (by omega)
            · rw [e71]; omega
            · rw [e71]; omega
            · rw [e71]; exact hyp
            · rw [e71]; exact fun s hs => hneg.2 s (by omega)
      · refine mm_if_eq 196 (mm_dc od_X10_crew_1 8 rfl) (by omega) (by first | omega | assumption | exact hr _ _ rfl | (have hr9 := hrr (by omega); rw [hrd1 (by omega)]; omega) | (have hx9 := hx (by omega); rw [hx9.1]; omega)) (fun _ => ?_) (fun h => absurd h (by decide))
        refine mm_less [0, 1, 2, 3, 4, 5, 6] rfl (K M hf hoth ?_)
        have hnf : ¬ freeM B b hour j := by rw [← hfp.1]; exact c3
        rcases hg with q | q
        · exact Or.inr ⟨hnf, q.1⟩
        · exact absurd q.1 hnf
termination_by S - i
decreasing_by all_goals (first | omega | (simp_wf; omega))
theorem L_cr1 {X : Nat × (Nat → Int)} {d : Nat} {Po : mm_Po} {M : mm_M} {B : mm_M} (b hour does sum : Int) (n S : Nat) (hbB : 0 ≤ b ∧ b < B 50 11) (hh : mm_r32 hour) (hn : B 50 10 = n) (hS : seM B b = S) (hS8 : 1 ≤ S ∧ S ≤ 8) (hJoB : JOm B) (hJbB : JBm B) (hcs : ∀ o, o ≤ n → ∀ t, t < 2 ^ S → 0 ≤ B 70 (256 * o + t) ∧ B 70 (256 * o + t) ≤ 1000000) (K : ∀ N : mm_M, (frm 71 B N ∧ ∀ o, o < n → chM B b hour S o (opM (N 71) o) (N 71 o)) → ∀ x y : Int, mm_G X (d + 2) 0 0 mi_X10_crew Po 226 [(0, v_r 50), (1, v_i b), (2, v_i hour), (3, v_i does), (4, v_i sum), (5, v_i x), (6, v_i y)] [] Lam N 0 0) (j : Nat) (hf : frm 71 B M) (hch : ∀ o, o < j → chM B b hour S o (opM (M 71) o) (M 71 o)) (hj : j ≤ n) : mm_G X (d + 2) 0 0 mi_X10_crew Po 72 [(0, v_r 50), (1, v_i b), (2, v_i hour), (3, v_i does), (4, v_i sum), (5, v_i ((opM (M 71) j : Nat) : Int)), (6, v_i (j : Int))] [] Lam M 0 0 := by
  have hr := hf.1
  have hJom := (frm_JM hf (Or.inr rfl)).1 hJoB
  have hJbm := (frm_JM hf (Or.inr rfl)).2 hJbB
  have h50 := hf.2 50 (by decide)
  have h57 := hf.2 57 (by decide)
  have h70 := hf.2 70 (by decide)
  have hn2 : M 50 10 = n := (by rw [h50]; exact hn)
  have hn16 := hJoB.2.1
  have hb : 0 ≤ b ∧ b < M 50 11 := (by rw [h50]; exact hbB)
  have hb1 : mm_r32 b := (by have := hJbB.2.1; omega)
  have hSS : mm_seats (M 57 b.toNat).toNat = S := (by rw [h57, (seM_is hbB hJbB).1, hS])
  have hfp := frm_pM hf (Or.inr rfl)
  have h256 := cr_256 hS8.2
  have hoplt : opM (M 71) j < 2 ^ S := opM_lt j (fun i hi => chM_r (hch i hi))
  refine mm_iload (mm_dc od_X10_crew_0 42 rfl) rfl ?_
  refine mm_aload_n (mm_dc od_X10_crew_0 43 rfl) rfl ?_
  refine mm_getI (ci := 10) (k := 10) (mm_dc od_X10_crew_0 44 rfl) rfl in_X10 (by decide) wd_4_122 rfl rfl ?_
  refine mm_icmp_ge 226 (mm_dc od_X10_crew_0 45 rfl) (by omega) (by first | omega | assumption | exact hr _ _ rfl) (by first | omega | assumption | exact hr _ _ rfl) (fun c1 => ?_) (fun c1 => ?_)
  · have e : j = n := by omega
    exact K M ⟨hf, fun o ho => hch o (by omega)⟩ _ _
  · refine mm_aload_n (mm_dc od_X10_crew_0 46 rfl) rfl ?_
    refine mm_getR (ci := 10) (k := 25) (mm_dc od_X10_crew_0 47 rfl) rfl in_X10 (by decide) wd_4_137 rfl rfl ?_
    refine mm_iload (mm_dc od_X10_crew_0 48 rfl) rfl ?_
    refine mm_iconst (mm_dc od_X10_crew_0 49 rfl) ?_
    refine mm_iast (mm_dc od_X10_crew_0 50 rfl) rfl (by first | omega | assumption | exact hr _ _ rfl) (by first | omega | assumption | exact hr _ _ rfl) (by decide) ?_
    refine mm_eqM (M' := mm_up M 71 j (-1)) rfl ?_
    obtain ⟨N1, hN1⟩ : ∃ N1 : mm_M, N1 = mm_up M 71 j (-1) := ⟨_, rfl⟩
    rw [← hN1]
    have hf1 : frm 71 B N1 := hN1 ▸ frm_up hf (by decide)
    have h71b : N1 71 j = -1 := by rw [hN1]; exact mm_up_eq
    have h71a : ∀ q, q ≠ j → N1 71 q = M 71 q := fun q hq => by rw [hN1]; exact mm_up_k hq
    refine mm_iconst (mm_dc od_X10_crew_0 51 rfl) ?_
    refine mm_istore (L' := [(0, v_r 50), (1, v_i b), (2, v_i hour), (3, v_i does), (4, v_i sum), (5, v_i ((opM (M 71) j : Nat) : Int)), (6, v_i (j : Int)), (7, v_i 0)]) (mm_dc od_X10_crew_0 52 rfl) (by decide) rfl ?_
    refine L_cr92 b hour does sum n S hbB hh hn hS hS8 hJoB hJbB hcs (B0 := M) j (opM (M 71) j) hoplt (by omega) (fun N q1 q2 q3 => ?_) 0 hf1 h71a (Or.inl ⟨h71b, fun s hs => by omega, fun q => absurd rfl q⟩) (Nat.zero_le _)
    have hnx := chM_s (N := N) hch (fun i hi => q2 i (by omega)) q3
    have hrr := chM_r q3
    have hoc : opM (M 71) j = opM (N 71) j := opM_cong j (fun i hi => (q2 i (by omega)).symm)
    rw [hoc]
    refine L_cr196 b hour does sum S j (by omega) hS8.2 hrr (by rw [← hoc]; exact hoplt) ?_
    exact L_cr1 b hour does sum n S hbB hh hn hS hS8 hJoB hJbB hcs K (j + 1) q1 hnx (by omega)
termination_by n - j
decreasing_by all_goals (first | omega | (simp_wf; omega))
theorem L_cr2 {X : Nat × (Nat → Int)} {d : Nat} {Po : mm_Po} {M : mm_M} {B : mm_M} (b hour does sum : Int) (n : Nat) (hn : B 50 10 = n) (hn16 : n ≤ 16) (hbr : mm_r32 b) (hsum : mm_r32 sum) (k : ∀ N : mm_M, (R32 N ∧ (∀ i, i ≠ 53 → i ≠ 54 → N i = B i) ∧ ∀ o : Nat, N 53 o = (if (o : Int) < B 50 10 then plB B b o else B 53 o) ∧ N 54 o = (if (o : Int) < B 50 10 then plS B o else B 54 o)) → Po (some (v_i sum)) Lam N) (x : Int) (j : Nat) (hr : R32 M) (hf : ∀ i, i ≠ 53 → i ≠ 54 → M i = B i) (hlt : ∀ i, i < j → M 53 i = plB B b i ∧ M 54 i = plS B i) (hge : ∀ i, j ≤ i → M 53 i = B 53 i ∧ M 54 i = B 54 i) (hj : j ≤ n) : mm_G X d 0 0 mi_X10_crew Po 229 [(0, v_r 50), (1, v_i b), (2, v_i hour), (3, v_i does), (4, v_i sum), (5, v_i x), (6, v_i (j : Int))] [] Lam M 0 0 := by
  have h50 := hf 50 (by decide) (by decide)
  have hn2 : M 50 10 = n := (by rw [h50]; exact hn)
  have h71j : B 71 j = M 71 j := (by rw [hf 71 (by decide) (by decide)])
  have h53j : B 53 j = M 53 j := (hge j (Nat.le_refl _)).1.symm
  have h54j : B 54 j = M 54 j := (hge j (Nat.le_refl _)).2.symm
  have hm71 : mm_r32 (M 71 j) := hr _ _ rfl
  refine mm_iload (mm_dc od_X10_crew_2 9 rfl) rfl ?_
  refine mm_aload_n (mm_dc od_X10_crew_2 10 rfl) rfl ?_
  refine mm_getI (ci := 10) (k := 10) (mm_dc od_X10_crew_2 11 rfl) rfl in_X10 (by decide) wd_4_122 rfl rfl ?_
  refine mm_icmp_ge 310 (mm_dc od_X10_crew_2 12 rfl) (by omega) (by first | omega | assumption | exact hr _ _ rfl) (by first | omega | assumption | exact hr _ _ rfl) (fun c1 => ?_) (fun c1 => ?_)
  · refine mm_iload (mm_dc od_X10_crew_2 51 rfl) rfl ?_
    refine mm_iret (mm_dc od_X10_crew_2 52 rfl) rfl ?_
    refine k _ ⟨hr, hf, fun o => ?_⟩
    by_cases e : o < n
    · rw [if_pos (by omega), if_pos (by omega)]; exact hlt o (by omega)
    · rw [if_neg (by omega), if_neg (by omega)]; exact hge o (by omega)
  · refine mm_aload_n (mm_dc od_X10_crew_2 13 rfl) rfl ?_
    refine mm_getR (ci := 10) (k := 2) (mm_dc od_X10_crew_2 14 rfl) rfl in_X10 (by decide) wd_4_114 rfl rfl ?_
    refine mm_iload (mm_dc od_X10_crew_2 15 rfl) rfl ?_
    refine mm_iald (mm_dc od_X10_crew_2 16 rfl) rfl (by first | omega | assumption | exact hr _ _ rfl) (by first | omega | assumption | exact hr _ _ rfl) (by decide) ?_
    refine mm_cst (st' := [v_i (M 53 j)]) rfl ?_
    refine mm_iload_n (mm_dc od_X10_crew_2 17 rfl) rfl ?_
    refine mm_icmp_ne 269 (mm_dc od_X10_crew_2 18 rfl) (by omega) (by first | omega | assumption | exact hr _ _ rfl) (by first | omega | assumption | exact hr _ _ rfl) (fun c2 => ?_) (fun c2 => ?_)
    · refine mm_aload_n (mm_dc od_X10_crew_2 30 rfl) rfl ?_
      refine mm_getR (ci := 10) (k := 25) (mm_dc od_X10_crew_2 31 rfl) rfl in_X10 (by decide) wd_4_137 rfl rfl ?_
      refine mm_iload (mm_dc od_X10_crew_2 32 rfl) rfl ?_
      refine mm_iald (mm_dc od_X10_crew_2 33 rfl) rfl (by first | omega | assumption | exact hr _ _ rfl) (by first | omega | assumption | exact hr _ _ rfl) (by decide) ?_
      refine mm_cst (st' := [v_i (M 71 j)]) rfl ?_
      refine mm_if_ge 282 (mm_dc od_X10_crew_2 34 rfl) (by omega) (by first | omega | assumption | exact hr _ _ rfl) (fun c3 => ?_) (fun c3 => ?_)
      · refine mm_aload_n (mm_dc od_X10_crew_2 36 rfl) rfl ?_
        refine mm_getR (ci := 10) (k := 2) (mm_dc od_X10_crew_2 37 rfl) rfl in_X10 (by decide) wd_4_114 rfl rfl ?_
        refine mm_iload (mm_dc od_X10_crew_2 38 rfl) rfl ?_
        refine mm_iload_n (mm_dc od_X10_crew_2 39 rfl) rfl ?_
        refine mm_iast (mm_dc od_X10_crew_2 40 rfl) rfl (by first | omega | assumption | exact hr _ _ rfl) (by first | omega | assumption | exact hr _ _ rfl) (by decide) ?_
        refine mm_eqM (M' := mm_up M 53 j b) rfl ?_
        refine mm_aload_n (mm_dc od_X10_crew_2 41 rfl) rfl ?_
        refine mm_getR (ci := 10) (k := 3) (mm_dc od_X10_crew_2 42 rfl) rfl in_X10 (by decide) wd_4_115 rfl rfl ?_
        refine mm_iload (mm_dc od_X10_crew_2 43 rfl) rfl ?_
        refine mm_aload_n (mm_dc od_X10_crew_2 44 rfl) rfl ?_
        refine mm_getR (ci := 10) (k := 25) (mm_dc od_X10_crew_2 45 rfl) rfl in_X10 (by decide) wd_4_137 rfl rfl ?_
        refine mm_iload (mm_dc od_X10_crew_2 46 rfl) rfl ?_
        refine mm_iald (mm_dc od_X10_crew_2 47 rfl) rfl (by first | omega | assumption | exact hr _ _ rfl) (by first | omega | assumption | exact hr _ _ rfl) (by decide) ?_
        refine mm_cst (st' := [v_i (M 71 j), v_i (j : Int), v_r 54]) rfl ?_
        refine mm_iast (mm_dc od_X10_crew_2 48 rfl) rfl (by first | omega | assumption | exact hr _ _ rfl) (by first | omega | assumption | exact hr _ _ rfl) (by decide) ?_
        refine mm_eqM (M' := mm_up (mm_up M 53 j b) 54 j (M 71 j)) rfl ?_
        refine mm_iinc (L' := [(0, v_r 50), (1, v_i b), (2, v_i hour), (3, v_i does), (4, v_i sum), (5, v_i x), (6, v_i ((j : Int) + 1))]) (mm_dc od_X10_crew_2 49 rfl) rfl (by decide) rfl ?_
        refine mm_goto 229 (mm_dc od_X10_crew_2 50 rfl) (by omega) ?_
        have e53 : (mm_up (mm_up M 53 j b) 54 j (M 71 j)) 53 j = plB B b j := by
          unfold plB; rw [h71j, h53j, h54j]
          first
            | (rw [if_pos (by omega)]; simp [mm_up]; done)
            | (rw [if_neg (by omega), if_pos (by omega)]; simp [mm_up]; done)
            | (rw [if_neg (by omega), if_neg (by omega)])
        have e54 : (mm_up (mm_up M 53 j b) 54 j (M 71 j)) 54 j = plS B j := by
          unfold plS; rw [h71j, h54j]
          first
            | (rw [if_pos (by omega)]; simp [mm_up]; done)
            | (rw [if_neg (by omega)]; simp [mm_up]; done)
            | (rw [if_neg (by omega)])
        have ene : ∀ i, i ≠ j → (mm_up (mm_up M 53 j b) 54 j (M 71 j)) 53 i = M 53 i ∧ (mm_up (mm_up M 53 j b) 54 j (M 71 j)) 54 i = M 54 i := fun i hi => by first | exact ⟨rfl, rfl⟩ | simp [mm_up, hi]
        exact L_cr2 b hour does sum n hn hn16 hbr hsum k x (j + 1) (R32_up (R32_up hr (by first | omega | exact hbr | exact hr _ _ rfl)) (by first | omega | exact hbr | exact hr _ _ rfl)) (fun i hi hi2 => by rw [← hf i hi hi2]; first | done | (rw [mm_up_ne hi]; done) | (rw [mm_up_ne hi2, mm_up_ne hi]; done) | (rw [mm_up_ne hi2, mm_up_ne hi, mm_up_ne hi]; done)) (fun i hi => by by_cases e : i = j; rw [e]; exact ⟨e53, e54⟩; have q := ene i e; rw [q.1, q.2]; exact hlt i (by omega)) (fun i hi => by have q := ene i (by omega); rw [q.1, q.2]; exact hge i (by omega)) (by omega)
      · refine mm_goto 304 (mm_dc od_X10_crew_2 35 rfl) (by omega) ?_
        refine mm_iinc (L' := [(0, v_r 50), (1, v_i b), (2, v_i hour), (3, v_i does), (4, v_i sum), (5, v_i x), (6, v_i ((j : Int) + 1))]) (mm_dc od_X10_crew_2 49 rfl) rfl (by decide) rfl ?_
        refine mm_goto 229 (mm_dc od_X10_crew_2 50 rfl) (by omega) ?_
        have e53 : M 53 j = plB B b j := by
          unfold plB; rw [h71j, h53j, h54j]
          first
            | (rw [if_pos (by omega)]; simp [mm_up]; done)
            | (rw [if_neg (by omega), if_pos (by omega)]; simp [mm_up]; done)
            | (rw [if_neg (by omega), if_neg (by omega)])
        have e54 : M 54 j = plS B j := by
          unfold plS; rw [h71j, h54j]
          first
            | (rw [if_pos (by omega)]; simp [mm_up]; done)
            | (rw [if_neg (by omega)]; simp [mm_up]; done)
            | (rw [if_neg (by omega)])
        have ene : ∀ i, i ≠ j → M 53 i = M 53 i ∧ M 54 i = M 54 i := fun i hi => by first | exact ⟨rfl, rfl⟩ | simp [mm_up, hi]
        exact L_cr2 b hour does sum n hn hn16 hbr hsum k x (j + 1) hr (fun i hi hi2 => by rw [← hf i hi hi2]; first | done | (rw [mm_up_ne hi]; done) | (rw [mm_up_ne hi2, mm_up_ne hi]; done) | (rw [mm_up_ne hi2, mm_up_ne hi, mm_up_ne hi]; done)) (fun i hi => by by_cases e : i = j; rw [e]; exact ⟨e53, e54⟩; have q := ene i e; rw [q.1, q.2]; exact hlt i (by omega)) (fun i hi => by have q := ene i (by omega); rw [q.1, q.2]; exact hge i (by omega)) (by omega)
    · refine mm_aload_n (mm_dc od_X10_crew_2 19 rfl) rfl ?_
      refine mm_getR (ci := 10) (k := 3) (mm_dc od_X10_crew_2 20 rfl) rfl in_X10 (by decide) wd_4_115 rfl rfl ?_
      refine mm_iload (mm_dc od_X10_crew_2 21 rfl) rfl ?_
      refine mm_iald (mm_dc od_X10_crew_2 22 rfl) rfl (by first | omega | assumption | exact hr _ _ rfl) (by first | omega | assumption | exact hr _ _ rfl) (by decide) ?_
      refine mm_cst (st' := [v_i (M 54 j)]) rfl ?_
      refine mm_bipush (mm_dc od_X10_crew_2 23 rfl) (by decide) ?_
      refine mm_icmp_eq 269 (mm_dc od_X10_crew_2 24 rfl) (by omega) (by first | omega | assumption | exact hr _ _ rfl) (by first | omega | assumption | exact hr _ _ rfl) (fun c4 => ?_) (fun c4 => ?_)
      · refine mm_aload_n (mm_dc od_X10_crew_2 30 rfl) rfl ?_
        refine mm_getR (ci := 10) (k := 25) (mm_dc od_X10_crew_2 31 rfl) rfl in_X10 (by decide) wd_4_137 rfl rfl ?_
        refine mm_iload (mm_dc od_X10_crew_2 32 rfl) rfl ?_
        refine mm_iald (mm_dc od_X10_crew_2 33 rfl) rfl (by first | omega | assumption | exact hr _ _ rfl) (by first | omega | assumption | exact hr _ _ rfl) (by decide) ?_
        refine mm_cst (st' := [v_i (M 71 j)]) rfl ?_
        refine mm_if_ge 282 (mm_dc od_X10_crew_2 34 rfl) (by omega) (by first | omega | assumption | exact hr _ _ rfl) (fun c5 => ?_) (fun c5 => ?_)
        · refine mm_aload_n (mm_dc od_X10_crew_2 36 rfl) rfl ?_
          refine mm_getR (ci := 10) (k := 2) (mm_dc od_X10_crew_2 37 rfl) rfl in_X10 (by decide) wd_4_114 rfl rfl ?_
          refine mm_iload (mm_dc od_X10_crew_2 38 rfl) rfl ?_
          refine mm_iload_n (mm_dc od_X10_crew_2 39 rfl) rfl ?_
          refine mm_iast (mm_dc od_X10_crew_2 40 rfl) rfl (by first | omega | assumption | exact hr _ _ rfl) (by first | omega | assumption | exact hr _ _ rfl) (by decide) ?_
          refine mm_eqM (M' := mm_up M 53 j b) rfl ?_
          refine mm_aload_n (mm_dc od_X10_crew_2 41 rfl) rfl ?_
          refine mm_getR (ci := 10) (k := 3) (mm_dc od_X10_crew_2 42 rfl) rfl in_X10 (by decide) wd_4_115 rfl rfl ?_
          refine mm_iload (mm_dc od_X10_crew_2 43 rfl) rfl ?_
          refine mm_aload_n (mm_dc od_X10_crew_2 44 rfl) rfl ?_
          refine mm_getR (ci := 10) (k := 25) (mm_dc od_X10_crew_2 45 rfl) rfl in_X10 (by decide) wd_4_137 rfl rfl ?_
          refine mm_iload (mm_dc od_X10_crew_2 46 rfl) rfl ?_
          refine mm_iald (mm_dc od_X10_crew_2 47 rfl) rfl (by first | omega | assumption | exact hr _ _ rfl) (by first | omega | assumption | exact hr _ _ rfl) (by decide) ?_
          refine mm_cst (st' := [v_i (M 71 j), v_i (j : Int), v_r 54]) rfl ?_
          refine mm_iast (mm_dc od_X10_crew_2 48 rfl) rfl (by first | omega | assumption | exact hr _ _ rfl) (by first | omega | assumption | exact hr _ _ rfl) (by decide) ?_
          refine mm_eqM (M' := mm_up (mm_up M 53 j b) 54 j (M 71 j)) rfl ?_
          refine mm_iinc (L' := [(0, v_r 50), (1, v_i b), (2, v_i hour), (3, v_i does), (4, v_i sum), (5, v_i x), (6, v_i ((j : Int) + 1))]) (mm_dc od_X10_crew_2 49 rfl) rfl (by decide) rfl ?_
          refine mm_goto 229 (mm_dc od_X10_crew_2 50 rfl) (by omega) ?_
          have e53 : (mm_up (mm_up M 53 j b) 54 j (M 71 j)) 53 j = plB B b j := by
            unfold plB; rw [h71j, h53j, h54j]
            first
              | (rw [if_pos (by omega)]; simp [mm_up]; done)
              | (rw [if_neg (by omega), if_pos (by omega)]; simp [mm_up]; done)
              | (rw [if_neg (by omega), if_neg (by omega)])
          have e54 : (mm_up (mm_up M 53 j b) 54 j (M 71 j)) 54 j = plS B j := by
            unfold plS; rw [h71j, h54j]
            first
              | (rw [if_pos (by omega)]; simp [mm_up]; done)
              | (rw [if_neg (by omega)]; simp [mm_up]; done)
              | (rw [if_neg (by omega)])
          have ene : ∀ i, i ≠ j → (mm_up (mm_up M 53 j b) 54 j (M 71 j)) 53 i = M 53 i ∧ (mm_up (mm_up M 53 j b) 54 j (M 71 j)) 54 i = M 54 i := fun i hi => by first | exact ⟨rfl, rfl⟩ | simp [mm_up, hi]
          exact L_cr2 b hour does sum n hn hn16 hbr hsum k x (j + 1) (R32_up (R32_up hr (by first | omega | exact hbr | exact hr _ _ rfl)) (by first | omega | exact hbr | exact hr _ _ rfl)) (fun i hi hi2 => by rw [← hf i hi hi2]; first | done | (rw [mm_up_ne hi]; done) | (rw [mm_up_ne hi2, mm_up_ne hi]; done) | (rw [mm_up_ne hi2, mm_up_ne hi, mm_up_ne hi]; done)) (fun i hi => by by_cases e : i = j; rw [e]; exact ⟨e53, e54⟩; have q := ene i e; rw [q.1, q.2]; exact hlt i (by omega)) (fun i hi => by have q := ene i (by omega); rw [q.1, q.2]; exact hge i (by omega)) (by omega)
        · refine mm_goto 304 (mm_dc od_X10_crew_2 35 rfl) (by omega) ?_
          refine mm_iinc (L' := [(0, v_r 50), (1, v_i b), (2, v_i hour), (3, v_i does), (4, v_i sum), (5, v_i x), (6, v_i ((j : Int) + 1))]) (mm_dc od_X10_crew_2 49 rfl) rfl (by decide) rfl ?_
          refine mm_goto 229 (mm_dc od_X10_crew_2 50 rfl) (by omega) ?_
          have e53 : M 53 j = plB B b j := by
            unfold plB; rw [h71j, h53j, h54j]
            first
              | (rw [if_pos (by omega)]; simp [mm_up]; done)
              | (rw [if_neg (by omega), if_pos (by omega)]; simp [mm_up]; done)
              | (rw [if_neg (by omega), if_neg (by omega)])
          have e54 : M 54 j = plS B j := by
            unfold plS; rw [h71j, h54j]
            first
              | (rw [if_pos (by omega)]; simp [mm_up]; done)
              | (rw [if_neg (by omega)]; simp [mm_up]; done)
              | (rw [if_neg (by omega)])
          have ene : ∀ i, i ≠ j → M 53 i = M 53 i ∧ M 54 i = M 54 i := fun i hi => by first | exact ⟨rfl, rfl⟩ | simp [mm_up, hi]
          exact L_cr2 b hour does sum n hn hn16 hbr hsum k x (j + 1) hr (fun i hi hi2 => by rw [← hf i hi hi2]; first | done | (rw [mm_up_ne hi]; done) | (rw [mm_up_ne hi2, mm_up_ne hi]; done) | (rw [mm_up_ne hi2, mm_up_ne hi, mm_up_ne hi]; done)) (fun i hi => by by_cases e : i = j; rw [e]; exact ⟨e53, e54⟩; have q := ene i e; rw [q.1, q.2]; exact hlt i (by omega)) (fun i hi => by have q := ene i (by omega); rw [q.1, q.2]; exact hge i (by omega)) (by omega)
      · refine mm_aload_n (mm_dc od_X10_crew_2 25 rfl) rfl ?_
        refine mm_getR (ci := 10) (k := 2) (mm_dc od_X10_crew_2 26 rfl) rfl in_X10 (by decide) wd_4_114 rfl rfl ?_
        refine mm_iload (mm_dc od_X10_crew_2 27 rfl) rfl ?_
        refine mm_iconst (mm_dc od_X10_crew_2 28 rfl) ?_
        refine mm_iast (mm_dc od_X10_crew_2 29 rfl) rfl (by first | omega | assumption | exact hr _ _ rfl) (by first | omega | assumption | exact hr _ _ rfl) (by decide) ?_
        refine mm_eqM (M' := mm_up M 53 j (-1)) rfl ?_
        refine mm_aload_n (mm_dc od_X10_crew_2 30 rfl) rfl ?_
        refine mm_getR (ci := 10) (k := 25) (mm_dc od_X10_crew_2 31 rfl) rfl in_X10 (by decide) wd_4_137 rfl rfl ?_
        refine mm_iload (mm_dc od_X10_crew_2 32 rfl) rfl ?_
        refine mm_iald (mm_dc od_X10_crew_2 33 rfl) rfl (by first | omega | assumption | exact hr _ _ rfl) (by first | omega | assumption | exact hr _ _ rfl) (by decide) ?_
        refine mm_cst (st' := [v_i (M 71 j)]) rfl ?_
        refine mm_if_ge 282 (mm_dc od_X10_crew_2 34 rfl) (by omega) (by first | omega | assumption | exact hr _ _ rfl) (fun c6 => ?_) (fun c6 => ?_)
        · refine mm_aload_n (mm_dc od_X10_crew_2 36 rfl) rfl ?_
          refine mm_getR (ci := 10) (k := 2) (mm_dc od_X10_crew_2 37 rfl) rfl in_X10 (by decide) wd_4_114 rfl rfl ?_
          refine mm_iload (mm_dc od_X10_crew_2 38 rfl) rfl ?_
          refine mm_iload_n (mm_dc od_X10_crew_2 39 rfl) rfl ?_
          refine mm_iast (mm_dc od_X10_crew_2 40 rfl) rfl (by first | omega | assumption | exact hr _ _ rfl) (by first | omega | assumption | exact hr _ _ rfl) (by decide) ?_
          refine mm_eqM (M' := mm_up (mm_up M 53 j (-1)) 53 j b) rfl ?_
          refine mm_aload_n (mm_dc od_X10_crew_2 41 rfl) rfl ?_
          refine mm_getR (ci := 10) (k := 3) (mm_dc od_X10_crew_2 42 rfl) rfl in_X10 (by decide) wd_4_115 rfl rfl ?_
          refine mm_iload (mm_dc od_X10_crew_2 43 rfl) rfl ?_
          refine mm_aload_n (mm_dc od_X10_crew_2 44 rfl) rfl ?_
          refine mm_getR (ci := 10) (k := 25) (mm_dc od_X10_crew_2 45 rfl) rfl in_X10 (by decide) wd_4_137 rfl rfl ?_
          refine mm_iload (mm_dc od_X10_crew_2 46 rfl) rfl ?_
          refine mm_iald (mm_dc od_X10_crew_2 47 rfl) rfl (by first | omega | assumption | exact hr _ _ rfl) (by first | omega | assumption | exact hr _ _ rfl) (by decide) ?_
          refine mm_cst (st' := [v_i (M 71 j), v_i (j : Int), v_r 54]) rfl ?_
          refine mm_iast (mm_dc od_X10_crew_2 48 rfl) rfl (by first | omega | assumption | exact hr _ _ rfl) (by first | omega | assumption | exact hr _ _ rfl) (by decide) ?_
          refine mm_eqM (M' := mm_up (mm_up (mm_up M 53 j (-1)) 53 j b) 54 j (M 71 j)) rfl ?_
          refine mm_iinc (L' := [(0, v_r 50), (1, v_i b), (2, v_i hour), (3, v_i does), (4, v_i sum), (5, v_i x), (6, v_i ((j : Int) + 1))]) (mm_dc od_X10_crew_2 49 rfl) rfl (by decide) rfl ?_
          refine mm_goto 229 (mm_dc od_X10_crew_2 50 rfl) (by omega) ?_
          have e53 : (mm_up (mm_up (mm_up M 53 j (-1)) 53 j b) 54 j (M 71 j)) 53 j = plB B b j := by
            unfold plB; rw [h71j, h53j, h54j]
            first
              | (rw [if_pos (by omega)]; simp [mm_up]; done)
              | (rw [if_neg (by omega), if_pos (by omega)]; simp [mm_up]; done)
              | (rw [if_neg (by omega), if_neg (by omega)])
          have e54 : (mm_up (mm_up (mm_up M 53 j (-1)) 53 j b) 54 j (M 71 j)) 54 j = plS B j := by
            unfold plS; rw [h71j, h54j]
            first
              | (rw [if_pos (by omega)]; simp [mm_up]; done)
              | (rw [if_neg (by omega)]; simp [mm_up]; done)
              | (rw [if_neg (by omega)])
          have ene : ∀ i, i ≠ j → (mm_up (mm_up (mm_up M 53 j (-1)) 53 j b) 54 j (M 71 j)) 53 i = M 53 i ∧ (mm_up (mm_up (mm_up M 53 j (-1)) 53 j b) 54 j (M 71 j)) 54 i = M 54 i := fun i hi => by first | exact ⟨rfl, rfl⟩ | simp [mm_up, hi]
          exact L_cr2 b hour does sum n hn hn16 hbr hsum k x (j + 1) (R32_up (R32_up (R32_up hr (by first | omega | exact hbr | exact hr _ _ rfl)) (by first | omega | exact hbr | exact hr _ _ rfl)) (by first | omega | exact hbr | exact hr _ _ rfl)) (fun i hi hi2 => by rw [← hf i hi hi2]; first | done | (rw [mm_up_ne hi]; done) | (rw [mm_up_ne hi2, mm_up_ne hi]; done) | (rw [mm_up_ne hi2, mm_up_ne hi, mm_up_ne hi]; done)) (fun i hi => by by_cases e : i = j; rw [e]; exact ⟨e53, e54⟩; have q := ene i e; rw [q.1, q.2]; exact hlt i (by omega)) (fun i hi => by have q := ene i (by omega); rw [q.1, q.2]; exact hge i (by omega)) (by omega)
        · refine mm_goto 304 (mm_dc od_X10_crew_2 35 rfl) (by omega) ?_
          refine mm_iinc (L' := [(0, v_r 50), (1, v_i b), (2, v_i hour), (3, v_i does), (4, v_i sum), (5, v_i x), (6, v_i ((j : Int) + 1))]) (mm_dc od_X10_crew_2 49 rfl) rfl (by decide) rfl ?_
          refine mm_goto 229 (mm_dc od_X10_crew_2 50 rfl) (by omega) ?_
          have e53 : (mm_up M 53 j (-1)) 53 j = plB B b j := by
            unfold plB; rw [h71j, h53j, h54j]
            first
              | (rw [if_pos (by omega)]; simp [mm_up]; done)
              | (rw [if_neg (by omega), if_pos (by omega)]; simp [mm_up]; done)
              | (rw [if_neg (by omega), if_neg (by omega)])
          have e54 : (mm_up M 53 j (-1)) 54 j = plS B j := by
            unfold plS; rw [h71j, h54j]
            first
              | (rw [if_pos (by omega)]; simp [mm_up]; done)
              | (rw [if_neg (by omega)]; simp [mm_up]; done)
              | (rw [if_neg (by omega)])
          have ene : ∀ i, i ≠ j → (mm_up M 53 j (-1)) 53 i = M 53 i ∧ (mm_up M 53 j (-1)) 54 i = M 54 i := fun i hi => by first | exact ⟨rfl, rfl⟩ | simp [mm_up, hi]
          exact L_cr2 b hour does sum n hn hn16 hbr hsum k x (j + 1) (R32_up hr (by first | omega | exact hbr | exact hr _ _ rfl)) (fun i hi hi2 => by rw [← hf i hi hi2]; first | done | (rw [mm_up_ne hi]; done) | (rw [mm_up_ne hi2, mm_up_ne hi]; done) | (rw [mm_up_ne hi2, mm_up_ne hi, mm_up_ne hi]; done)) (fun i hi => by by_cases e : i = j; rw [e]; exact ⟨e53, e54⟩; have q := ene i e; rw [q.1, q.2]; exact hlt i (by omega)) (fun i hi => by have q := ene i (by omega); rw [q.1, q.2]; exact hge i (by omega)) (by omega)
termination_by n - j
decreasing_by all_goals (first | omega | (simp_wf; omega))
theorem cosM_r {B N : mm_M} {b hour : Int} {S n : Nat} (h : cosM B N b hour S n) : ∀ o, o ≤ n → ∀ t, t < 2 ^ S → 0 ≤ N 70 (256 * o + t) ∧ N 70 (256 * o + t) ≤ 1000000 := by
  have key : ∀ r o, o + r = n → ∀ t, t < 2 ^ S → 0 ≤ N 70 (256 * o + t) ∧ N 70 (256 * o + t) ≤ 1000000 := by
    intro r
    induction r with
    | zero =>
      intro o ho t ht
      have e : o = n := by omega
      rw [e, h.1 t ht]
      split <;> omega
    | succ r ih =>
      intro o ho t ht
      exact rvM_r (h.2 o (by omega) t ht) ht (ih (o + 1) (by omega))
  intro o ho
  exact key (n - o) o (by omega)
theorem costQ_r {B N : mm_M} {b hour : Int} {S n : Nat} (h : costQ B N b hour S n) : ∀ o, o ≤ n → ∀ t, t < 2 ^ S → 0 ≤ N 18 (256 * o + t) ∧ N 18 (256 * o + t) ≤ 1000 := by
  have key : ∀ r o, o + r = n → ∀ t, t < 2 ^ S → 0 ≤ N 18 (256 * o + t) ∧ N 18 (256 * o + t) ≤ 1000 := by
    intro r
    induction r with
    | zero =>
      intro o ho t ht
      have e : o = n := by omega
      rw [e, h.1 t ht]
      split <;> omega
    | succ r ih =>
      intro o ho
      exact rowQ_r (h.2 o (by omega)) (ih (o + 1) (by omega))
  intro o ho
  exact key (n - o) o (by omega)
def crewQm (M N : mm_M) (b hour does r : Int) : Prop := ∃ N0 : mm_M, frm 70 M N0 ∧ cosM M N0 b hour (seM M b) (M 50 10).toNat ∧ ((1000000 ≤ N0 70 0 ∧ r = -3 ∧ N = N0) ∨ (N0 70 0 < 1000000 ∧ does = 0 ∧ r = N0 70 0 ∧ N = N0) ∨ (N0 70 0 < 1000000 ∧ does = 1 ∧ r = N0 70 0 ∧ seatM N0 N b hour))
def crewQx (M N : mm_M) (b hour does r : Int) : Prop := ∃ N0 : mm_M, fr3 M N0 ∧ costQ M N0 b hour (seX M b) (M 1 0).toNat ∧ ((1000 ≤ N0 18 (2 ^ seX M b - 1) ∧ r = -3 ∧ N = N0) ∨ (N0 18 (2 ^ seX M b - 1) < 1000 ∧ does = 0 ∧ r = N0 18 (2 ^ seX M b - 1) ∧ N = N0) ∨ (N0 18 (2 ^ seX M b - 1) < 1000 ∧ does = 1 ∧ r = N0 18 (2 ^ seX M b - 1) ∧ seatQ N0 N b hour))
theorem c_X10_crew {X : Nat × (Nat → Int)} {d : Nat} {Po : mm_Po} {M : mm_M} (b : Int) (hour : Int) (does : Int) (hb0 : mm_r32 b) (hh0 : mm_r32 hour) (hd0 : mm_r32 does) (hJom : JOm M) (hJbm : JBm M) (hr : R32 M) (k : ∀ (N : mm_M) (r : Int), ((¬ (0 ≤ b ∧ b < M 50 11) ∧ r = -1 ∧ N = M) ∨ ((0 ≤ b ∧ b < M 50 11) ∧ ¬ ((0 ≤ hour ∧ hour ≤ 23) ∧ (0 ≤ does ∧ does ≤ 1)) ∧ r = -2 ∧ N = M) ∨ ((0 ≤ b ∧ b < M 50 11) ∧ ((0 ≤ hour ∧ hour ≤ 23) ∧ (0 ≤ does ∧ does ≤ 1)) ∧ crewQm M N b hour does r)) → Po (some (v_i r)) Lam N) : mm_E X (d + 3) 0 0 mi_X10_crew [v_r 50, v_i b, v_i hour, v_i does] Po Lam M := by
  show mm_G X (d + 3) 0 0 mi_X10_crew Po 0 [(0, v_r 50), (1, v_i b), (2, v_i hour), (3, v_i does)] [] Lam M 0 0
  have hJbm2 := hJbm
  obtain ⟨hb0, hb8, hB⟩ := hJbm2
  refine mm_aload_n (mm_dc od_X10_crew_0 0 rfl) rfl ?_
  refine mm_iload_n (mm_dc od_X10_crew_0 1 rfl) rfl ?_
  refine mm_callV (b := 50) (mi' := mi_X10_isBoat) [v_i b] [] (mm_dc od_X10_crew_0 2 rfl) rfl wd_5_63 wd_5_65 wd_p_23 wd_1_12 wd_5_66 yk_X10_isBoat rfl rfl rfl (Nat.le_of_ble_eq_true rfl) rfl (by decide) (c_X10_isBoat b (by first | assumption | omega | exact hr _ _ rfl | exact mm_ti _ | exact mm_r3264 (hr _ _ rfl)) (by first | assumption | omega | exact hr _ _ rfl | exact mm_ti _ | exact mm_r3264 (hr _ _ rfl)) (fun c1 => ⟨Nat.le_refl _, ?_⟩) (fun c1 => ⟨Nat.le_refl _, ?_⟩))
  · refine mm_if_ne 10 (mm_dc od_X10_crew_0 3 rfl) (by omega) (by first | assumption | omega | exact hr _ _ rfl | exact mm_ti _ | exact mm_r3264 (hr _ _ rfl)) (fun _ => ?_) (fun h => absurd h (by decide))
    refine mm_iload_n (mm_dc od_X10_crew_0 6 rfl) rfl ?_
    refine mm_i2l (mm_dc od_X10_crew_0 7 rfl) (by first | assumption | omega | exact hr _ _ rfl | exact mm_ti _ | exact mm_r3264 (hr _ _ rfl)) ?_
    refine mm_lconst (mm_dc od_X10_crew_0 8 rfl) ?_
    refine mm_ldc2 (z := 23) (mm_dc od_X10_crew_0 9 rfl) wd_5_147 ?_
    refine mm_callS (mi' := mi_X10_isIn) [v_l hour, v_l 0, v_l 23] [] (mm_dc od_X10_crew_0 10 rfl) rfl wd_5_37 wd_5_38 wd_1_12 wd_5_39 yk_X10_isIn (Nat.le_of_ble_eq_true rfl) rfl (by decide) (c_X10_isIn hour 0 23 (by first | assumption | omega | exact hr _ _ rfl | exact mm_ti _ | exact mm_r3264 (hr _ _ rfl)) (by first | assumption | omega | exact hr _ _ rfl | exact mm_ti _ | exact mm_r3264 (hr _ _ rfl)) (by first | assumption | omega | exact hr _ _ rfl | exact mm_ti _ | exact mm_r3264 (hr _ _ rfl)) (fun c2 => ⟨Nat.le_refl _, ?_⟩) (fun c2 => ⟨Nat.le_refl _, ?_⟩))
    · refine mm_if_eq 32 (mm_dc od_X10_crew_0 11 rfl) (by omega) (by first | assumption | omega | exact hr _ _ rfl | exact mm_ti _ | exact mm_r3264 (hr _ _ rfl)) (fun h => absurd h (by decide)) (fun _ => ?_)
      refine mm_iload_n (mm_dc od_X10_crew_0 12 rfl) rfl ?_
      refine mm_i2l (mm_dc od_X10_crew_0 13 rfl) (by first | assumption | omega | exact hr _ _ rfl | exact mm_ti _ | exact mm_r3264 (hr _ _ rfl)) ?_
      refine mm_lconst (mm_dc od_X10_crew_0 14 rfl) ?_
      refine mm_lconst (mm_dc od_X10_crew_0 15 rfl) ?_
      refine mm_callS (mi' := mi_X10_isIn) [v_l does, v_l 0, v_l 1] [] (mm_dc od_X10_crew_0 16 rfl) rfl wd_5_37 wd_5_38 wd_1_12 wd_5_39 yk_X10_isIn (Nat.le_of_ble_eq_true rfl) rfl (by decide) (c_X10_isIn does 0 1 (by first | assumption | omega | exact hr _ _ rfl | exact mm_ti _ | exact mm_r3264 (hr _ _ rfl)) (by first | assumption | omega | exact hr _ _ rfl | exact mm_ti _ | exact mm_r3264 (hr _ _ rfl)) (by first | assumption | omega | exact hr _ _ rfl | exact mm_ti _ | exact mm_r3264 (hr _ _ rfl)) (fun c3 => ⟨Nat.le_refl _, ?_⟩) (fun c3 => ⟨Nat.le_refl _, ?_⟩))
      · refine mm_if_ne 35 (mm_dc od_X10_crew_0 17 rfl) (by omega) (by first | assumption | omega | exact hr _ _ rfl | exact mm_ti _ | exact mm_r3264 (hr _ _ rfl)) (fun _ => ?_) (fun h => absurd h (by decide))
        refine mm_aload_n (mm_dc od_X10_crew_0 20 rfl) rfl ?_
        refine mm_iload_n (mm_dc od_X10_crew_0 21 rfl) rfl ?_
        refine mm_iload_n (mm_dc od_X10_crew_0 22 rfl) rfl ?_
        refine mm_callV (b := 50) (mi' := mi_X10_fillCost) [v_i b, v_i hour] [] (mm_dc od_X10_crew_0 23 rfl) rfl wd_5_148 wd_5_150 wd_p_31 wd_1_12 wd_5_151 yk_X10_fillCost rfl rfl rfl (Nat.le_of_ble_eq_true rfl) rfl (by decide) (c_X10_fillCost b hour (by first | assumption | omega | exact hr _ _ rfl | exact mm_ti _ | exact mm_r3264 (hr _ _ rfl)) (by first | assumption | omega | exact hr _ _ rfl | exact mm_ti _ | exact mm_r3264 (hr _ _ rfl)) hJom hJbm (by first | assumption | omega | exact hr _ _ rfl | exact mm_ti _ | exact mm_r3264 (hr _ _ rfl)) (fun N5 hq6 => ⟨Nat.le_refl _, ?_⟩))
        have hro := hr
        have hr := hq6.1.1
        have hm00 : mm_r32 (N5 70 0) := hr _ _ rfl
        refine mm_aload_n (mm_dc od_X10_crew_0 24 rfl) rfl ?_
        refine mm_getR (ci := 10) (k := 24) (mm_dc od_X10_crew_0 25 rfl) rfl in_X10 (by decide) wd_4_136 rfl rfl ?_
        refine mm_iconst (mm_dc od_X10_crew_0 26 rfl) ?_
        refine mm_iald (mm_dc od_X10_crew_0 27 rfl) rfl (by first | assumption | omega | exact hr _ _ rfl | exact mm_ti _ | exact mm_r3264 (hr _ _ rfl)) (by first | assumption | omega | exact hr _ _ rfl | exact mm_ti _ | exact mm_r3264 (hr _ _ rfl)) (by decide) ?_
        refine mm_cst (st' := [v_i (N5 70 0)]) rfl ?_
        refine mm_istore (L' := [(0, v_r 50), (1, v_i b), (2, v_i hour), (3, v_i does), (4, v_i (N5 70 0))]) (mm_dc od_X10_crew_0 28 rfl) (by decide) rfl ?_
        refine mm_iload (mm_dc od_X10_crew_0 29 rfl) rfl ?_
        refine mm_ldc (z := 1000000) (mm_dc od_X10_crew_0 30 rfl) wd_5_152 ?_
        refine mm_icmp_lt 59 (mm_dc od_X10_crew_0 31 rfl) (by omega) (by first | assumption | omega | exact hr _ _ rfl | exact mm_ti _ | exact mm_r3264 (hr _ _ rfl)) (by first | assumption | omega | exact hr _ _ rfl | exact mm_ti _ | exact mm_r3264 (hr _ _ rfl)) (fun c7 => ?_) (fun c7 => ?_)
        · refine mm_iload_n (mm_dc od_X10_crew_0 34 rfl) rfl ?_
          refine mm_if_ne 66 (mm_dc od_X10_crew_0 35 rfl) (by omega) (by first | assumption | omega | exact hr _ _ rfl | exact mm_ti _ | exact mm_r3264 (hr _ _ rfl)) (fun c8 => ?_) (fun c8 => ?_)
          · refine mm_iconst (mm_dc od_X10_crew_0 38 rfl) ?_
            refine mm_istore (L' := [(0, v_r 50), (1, v_i b), (2, v_i hour), (3, v_i does), (4, v_i (N5 70 0)), (5, v_i 0)]) (mm_dc od_X10_crew_0 39 rfl) (by decide) rfl ?_
            refine mm_iconst (mm_dc od_X10_crew_0 40 rfl) ?_
            refine mm_istore (L' := [(0, v_r 50), (1, v_i b), (2, v_i hour), (3, v_i does), (4, v_i (N5 70 0)), (5, v_i 0), (6, v_i 0)]) (mm_dc od_X10_crew_0 41 rfl) (by decide) rfl ?_
            have h50 := hq6.1.2 50 (by decide)
            have h57 := hq6.1.2 57 (by decide)
            have hJoN := (frm_JM hq6.1 (Or.inl rfl)).1 hJom
            have hJbN := (frm_JM hq6.1 (Or.inl rfl)).2 hJbm
            have hbN : 0 ≤ b ∧ b < N5 50 11 := by rw [h50]; omega
            have hsN := seM_is hbN hJbN
            have hseq : seM N5 b = seM M b := by unfold seM; rw [h57]
            have hn0 := hJom.1
            have hcr := cosM_r hq6.2
            rw [← hseq] at hcr
            refine mm_cL (L' := [(0, v_r 50), (1, v_i b), (2, v_i hour), (3, v_i does), (4, v_i (N5 70 0)), (5, v_i ((opM (N5 71) 0 : Nat) : Int)), (6, v_i ((0 : Nat) : Int))]) rfl ?_
            refine L_cr1 (B := N5) b hour does (N5 70 0) (M 50 10).toNat (seM N5 b) hbN (by omega) (by rw [h50]; omega) rfl hsN.2 hJoN hJbN hcr (fun N hN x y => ?_) 0 (frm_0 hr) (fun o ho => by omega) (by omega)
            obtain ⟨q1, q2⟩ := hN
            have h50b := q1.2 50 (by decide)
            refine mm_iconst (mm_dc od_X10_crew_2 7 rfl) ?_
            refine mm_istore (L' := [(0, v_r 50), (1, v_i b), (2, v_i hour), (3, v_i does), (4, v_i (N5 70 0)), (5, v_i x), (6, v_i 0)]) (mm_dc od_X10_crew_2 8 rfl) (by decide) rfl ?_
            exact L_cr2 (B := N) b hour does (N5 70 0) (M 50 10).toNat (by rw [h50b, h50]; omega) (by have := hJom.2.1; omega) (by omega) hm00 (fun N2 hN2 => k _ _ (Or.inr (Or.inr ⟨by omega, by omega, N5, hq6.1, hq6.2, Or.inr (Or.inr ⟨by omega, by omega, rfl, N, q1, by rw [h50]; exact q2, hN2.1, hN2.2.1, by rw [← h50b]; exact hN2.2.2⟩)⟩))) x 0 q1.1 (fun i _ _ => rfl) (fun i hi => by omega) (fun i hi => ⟨rfl, rfl⟩) (by omega)
          · refine mm_iload (mm_dc od_X10_crew_0 36 rfl) rfl ?_
            refine mm_iret (mm_dc od_X10_crew_0 37 rfl) rfl ?_
            exact k _ _ (Or.inr (Or.inr ⟨by omega, by omega, N5, hq6.1, hq6.2, Or.inr (Or.inl ⟨by omega, by omega, rfl, rfl⟩)⟩))
        · refine mm_bipush (mm_dc od_X10_crew_0 32 rfl) (by decide) ?_
          refine mm_iret (mm_dc od_X10_crew_0 33 rfl) rfl ?_
          exact k _ _ (Or.inr (Or.inr ⟨by omega, by omega, N5, hq6.1, hq6.2, Or.inl ⟨by omega, rfl, rfl⟩⟩))
      · refine mm_if_ne 35 (mm_dc od_X10_crew_0 17 rfl) (by omega) (by first | assumption | omega | exact hr _ _ rfl | exact mm_ti _ | exact mm_r3264 (hr _ _ rfl)) (fun h => absurd h (by decide)) (fun _ => ?_)
        refine mm_bipush (mm_dc od_X10_crew_0 18 rfl) (by decide) ?_
        refine mm_iret (mm_dc od_X10_crew_0 19 rfl) rfl ?_
        exact k _ _ (Or.inr (Or.inl ⟨by omega, by omega, rfl, rfl⟩))
    · refine mm_if_eq 32 (mm_dc od_X10_crew_0 11 rfl) (by omega) (by first | assumption | omega | exact hr _ _ rfl | exact mm_ti _ | exact mm_r3264 (hr _ _ rfl)) (fun _ => ?_) (fun h => absurd h (by decide))
      refine mm_bipush (mm_dc od_X10_crew_0 18 rfl) (by decide) ?_
      refine mm_iret (mm_dc od_X10_crew_0 19 rfl) rfl ?_
      exact k _ _ (Or.inr (Or.inl ⟨by omega, by omega, rfl, rfl⟩))
  · refine mm_if_ne 10 (mm_dc od_X10_crew_0 3 rfl) (by omega) (by first | assumption | omega | exact hr _ _ rfl | exact mm_ti _ | exact mm_r3264 (hr _ _ rfl)) (fun h => absurd h (by decide)) (fun _ => ?_)
    refine mm_iconst (mm_dc od_X10_crew_0 4 rfl) ?_
    refine mm_iret (mm_dc od_X10_crew_0 5 rfl) rfl ?_
    exact k _ _ (Or.inl ⟨by omega, rfl, rfl⟩)
theorem c_X9_crew {X : Nat × (Nat → Int)} {d : Nat} {Po : mm_Po} {M : mm_M} (b : Int) (hour : Int) (does : Int) (hb0 : mm_r32 b) (hh0 : mm_r32 hour) (hd0 : mm_r32 does) (hJo : JO M) (hJb : JB M) (hr : R32 M) (k : ∀ (N : mm_M) (r : Int), ((¬ (0 ≤ b ∧ b < M 1 5) ∧ r = -1 ∧ N = M) ∨ ((0 ≤ b ∧ b < M 1 5) ∧ ¬ ((0 ≤ hour ∧ hour ≤ 23) ∧ (0 ≤ does ∧ does ≤ 1)) ∧ r = -2 ∧ N = M) ∨ ((0 ≤ b ∧ b < M 1 5) ∧ ((0 ≤ hour ∧ hour ≤ 23) ∧ (0 ≤ does ∧ does ≤ 1)) ∧ crewQx M N b hour does r)) → Po (some (v_i r)) Lam N) : mm_E X (d + 4) 0 0 mi_X9_crew [v_r 0, v_i b, v_i hour, v_i does] Po Lam M := by
  show mm_G X (d + 4) 0 0 mi_X9_crew Po 0 [(0, v_r 0), (1, v_i b), (2, v_i hour), (3, v_i does)] [] Lam M 0 0
  refine mm_aload_n (mm_dc od_X9_crew_0 0 rfl) rfl ?_
  refine mm_getR (ci := 9) (k := 0) (mm_dc od_X9_crew_0 1 rfl) rfl in_X9 (by decide) wd_2_45 rfl rfl ?_
  refine mm_iload_n (mm_dc od_X9_crew_0 2 rfl) rfl ?_
  refine mm_callV (b := 1) (mi' := mi_X0_hasBoat) [v_i b] [] (mm_dc od_X9_crew_0 3 rfl) rfl wd_3_10 wd_2_112 wd_2_113 wd_1_2 wd_2_114 yk_X0_hasBoat rfl rfl rfl (Nat.le_of_ble_eq_true rfl) rfl (by decide) (c_X0_hasBoat b (by first | assumption | omega | exact hr _ _ rfl | exact mm_ti _ | exact mm_r3264 (hr _ _ rfl)) (by first | assumption | omega | exact hr _ _ rfl | exact mm_ti _ | exact mm_r3264 (hr _ _ rfl)) (fun c1 => ⟨Nat.le_refl _, ?_⟩) (fun c1 => ⟨Nat.le_refl _, ?_⟩))
  · refine mm_if_ne 13 (mm_dc od_X9_crew_0 4 rfl) (by omega) (by first | assumption | omega | exact hr _ _ rfl | exact mm_ti _ | exact mm_r3264 (hr _ _ rfl)) (fun _ => ?_) (fun h => absurd h (by decide))
    refine mm_iload_n (mm_dc od_X9_crew_0 7 rfl) rfl ?_
    refine mm_callS (mi' := mi_X9_isHour) [v_i hour] [] (mm_dc od_X9_crew_0 8 rfl) rfl wd_3_11 wd_3_12 wd_1_1 wd_3_13 yk_X9_isHour (Nat.le_of_ble_eq_true rfl) rfl (by decide) (c_X9_isHour hour (by first | assumption | omega | exact hr _ _ rfl | exact mm_ti _ | exact mm_r3264 (hr _ _ rfl)) (fun c2 => ⟨Nat.le_refl _, ?_⟩) (fun c2 => ⟨Nat.le_refl _, ?_⟩))
    · refine mm_if_eq 29 (mm_dc od_X9_crew_0 9 rfl) (by omega) (by first | assumption | omega | exact hr _ _ rfl | exact mm_ti _ | exact mm_r3264 (hr _ _ rfl)) (fun h => absurd h (by decide)) (fun _ => ?_)
      refine mm_iload_n (mm_dc od_X9_crew_0 10 rfl) rfl ?_
      refine mm_iconst (mm_dc od_X9_crew_0 11 rfl) ?_
      refine mm_iconst (mm_dc od_X9_crew_0 12 rfl) ?_
      refine mm_callS (mi' := mi_X9_within) [v_i does, v_i 0, v_i 1] [] (mm_dc od_X9_crew_0 13 rfl) rfl wd_2_80 wd_2_81 wd_1_1 wd_2_82 yk_X9_within (Nat.le_of_ble_eq_true rfl) rfl (by decide) (c_X9_within does 0 1 (by first | assumption | omega | exact hr _ _ rfl | exact mm_ti _ | exact mm_r3264 (hr _ _ rfl)) (by first | assumption | omega | exact hr _ _ rfl | exact mm_ti _ | exact mm_r3264 (hr _ _ rfl)) (by first | assumption | omega | exact hr _ _ rfl | exact mm_ti _ | exact mm_r3264 (hr _ _ rfl)) (fun c3 => ⟨Nat.le_refl _, ?_⟩) (fun c3 => ⟨Nat.le_refl _, ?_⟩))
      · refine mm_if_ne 32 (mm_dc od_X9_crew_0 14 rfl) (by omega) (by first | assumption | omega | exact hr _ _ rfl | exact mm_ti _ | exact mm_r3264 (hr _ _ rfl)) (fun _ => ?_) (fun h => absurd h (by decide))
        refine mm_aload_n (mm_dc od_X9_crew_0 17 rfl) rfl ?_
        refine mm_getR (ci := 9) (k := 2) (mm_dc od_X9_crew_0 18 rfl) rfl in_X9 (by decide) wd_2_47 rfl rfl ?_
        refine mm_aload_n (mm_dc od_X9_crew_0 19 rfl) rfl ?_
        refine mm_getR (ci := 9) (k := 0) (mm_dc od_X9_crew_0 20 rfl) rfl in_X9 (by decide) wd_2_45 rfl rfl ?_
        refine mm_iload_n (mm_dc od_X9_crew_0 21 rfl) rfl ?_
        refine mm_iload_n (mm_dc od_X9_crew_0 22 rfl) rfl ?_
        refine mm_callV (b := 17) (mi' := mi_X1_leastCost) [v_r 1, v_i b, v_i hour] [] (mm_dc od_X9_crew_0 23 rfl) rfl wd_3_14 wd_3_15 wd_3_16 wd_1_4 wd_3_17 yk_X1_leastCost rfl rfl rfl (Nat.le_of_ble_eq_true rfl) rfl (by decide) (c_X1_leastCost b hour (by first | assumption | omega | exact hr _ _ rfl | exact mm_ti _ | exact mm_r3264 (hr _ _ rfl)) (by first | assumption | omega | exact hr _ _ rfl | exact mm_ti _ | exact mm_r3264 (hr _ _ rfl)) hJo hJb (by first | assumption | omega | exact hr _ _ rfl | exact mm_ti _ | exact mm_r3264 (hr _ _ rfl)) (fun N5 r4 hq6 => ⟨Nat.le_refl _, ?_⟩))
        obtain ⟨hl1, hl2, hl3⟩ := hq6
        have hro := hr
        have hr := hl1.1
        have hJoo := hJo
        have hJo := (fr3_J hl1).1 hJo
        have hJbo := hJb
        have hJb := (fr3_J hl1).2 hJb
        have h1f := hl1.2 1 (by omega)
        have hbN : 0 ≤ b ∧ b < N5 1 5 := by rw [h1f]; omega
        have hseq : seX N5 b = seX M b := by unfold seX; rw [hl1.2 6 (by omega)]
        have hcr := costQ_r hl2
        rw [← hseq, ← h1f] at hcr
        have hrr : mm_r32 r4 := by rw [hl3]; exact hr _ _ rfl
        refine mm_istore (L' := [(0, v_r 0), (1, v_i b), (2, v_i hour), (3, v_i does), (4, v_i r4)]) (mm_dc od_X9_crew_0 24 rfl) (by decide) rfl ?_
        refine mm_iload (mm_dc od_X9_crew_0 25 rfl) rfl ?_
        refine mm_sipush (mm_dc od_X9_crew_0 26 rfl) (by decide) ?_
        refine mm_icmp_lt 58 (mm_dc od_X9_crew_0 27 rfl) (by omega) (by first | assumption | omega | exact hr _ _ rfl | exact mm_ti _ | exact mm_r3264 (hr _ _ rfl)) (by first | assumption | omega | exact hr _ _ rfl | exact mm_ti _ | exact mm_r3264 (hr _ _ rfl)) (fun c7 => ?_) (fun c7 => ?_)
        · refine mm_iload_n (mm_dc od_X9_crew_0 30 rfl) rfl ?_
          refine mm_iconst (mm_dc od_X9_crew_0 31 rfl) ?_
          refine mm_icmp_ne 76 (mm_dc od_X9_crew_0 32 rfl) (by omega) (by first | assumption | omega | exact hr _ _ rfl | exact mm_ti _ | exact mm_r3264 (hr _ _ rfl)) (by first | assumption | omega | exact hr _ _ rfl | exact mm_ti _ | exact mm_r3264 (hr _ _ rfl)) (fun c8 => ?_) (fun c8 => ?_)
          · refine mm_iload (mm_dc od_X9_crew_0 40 rfl) rfl ?_
            refine mm_iret (mm_dc od_X9_crew_0 41 rfl) rfl ?_
            exact k _ _ (Or.inr (Or.inr ⟨by omega, by omega, N5, hl1, hl2, Or.inr (Or.inl ⟨by rw [← hl3]; omega, by omega, hl3, rfl⟩)⟩))
          · refine mm_aload_n (mm_dc od_X9_crew_0 33 rfl) rfl ?_
            refine mm_getR (ci := 9) (k := 2) (mm_dc od_X9_crew_0 34 rfl) rfl in_X9 (by decide) wd_2_47 rfl rfl ?_
            refine mm_aload_n (mm_dc od_X9_crew_0 35 rfl) rfl ?_
            refine mm_getR (ci := 9) (k := 0) (mm_dc od_X9_crew_0 36 rfl) rfl in_X9 (by decide) wd_2_45 rfl rfl ?_
            refine mm_iload_n (mm_dc od_X9_crew_0 37 rfl) rfl ?_
            refine mm_iload_n (mm_dc od_X9_crew_0 38 rfl) rfl ?_
            refine mm_callV (b := 17) (mi' := mi_X1_seatThem) [v_r 1, v_i b, v_i hour] [] (mm_dc od_X9_crew_0 39 rfl) rfl wd_3_55 wd_3_56 wd_3_57 wd_1_4 wd_3_58 yk_X1_seatThem rfl rfl rfl (Nat.le_of_ble_eq_true rfl) rfl (by decide) (c_X1_seatThem b hour (by first | assumption | omega | exact hr _ _ rfl | exact mm_ti _ | exact mm_r3264 (hr _ _ rfl)) (by first | assumption | omega | exact hr _ _ rfl | exact mm_ti _ | exact mm_r3264 (hr _ _ rfl)) hJo hJb (by first | assumption | omega | exact hr _ _ rfl | exact mm_ti _ | exact mm_r3264 (hr _ _ rfl)) (by first | assumption | omega | exact hr _ _ rfl | exact mm_ti _ | exact mm_r3264 (hr _ _ rfl)) (fun N10 hq11 => ⟨Nat.le_refl _, ?_⟩))
            refine mm_iload (mm_dc od_X9_crew_0 40 rfl) rfl ?_
            refine mm_iret (mm_dc od_X9_crew_0 41 rfl) rfl ?_
            exact k _ _ (Or.inr (Or.inr ⟨by omega, by omega, N5, hl1, hl2, Or.inr (Or.inr ⟨by rw [← hl3]; omega, by omega, hl3, hq11⟩)⟩))
        · refine mm_bipush (mm_dc od_X9_crew_0 28 rfl) (by decide) ?_
          refine mm_iret (mm_dc od_X9_crew_0 29 rfl) rfl ?_
          exact k _ _ (Or.inr (Or.inr ⟨by omega, by omega, N5, hl1, hl2, Or.inl ⟨by rw [← hl3]; omega, rfl, rfl⟩⟩))
      · refine mm_if_ne 32 (mm_dc od_X9_crew_0 14 rfl) (by omega) (by first | assumption | omega | exact hr _ _ rfl | exact mm_ti _ | exact mm_r3264 (hr _ _ rfl)) (fun h => absurd h (by decide)) (fun _ => ?_)
        refine mm_bipush (mm_dc od_X9_crew_0 15 rfl) (by decide) ?_
        refine mm_iret (mm_dc od_X9_crew_0 16 rfl) rfl ?_
        exact k _ _ (Or.inr (Or.inl ⟨by omega, by omega, rfl, rfl⟩))
    · refine mm_if_eq 29 (mm_dc od_X9_crew_0 9 rfl) (by omega) (by first | assumption | omega | exact hr _ _ rfl | exact mm_ti _ | exact mm_r3264 (hr _ _ rfl)) (fun _ => ?_) (fun h => absurd h (by decide))
      refine mm_bipush (mm_dc od_X9_crew_0 15 rfl) (by decide) ?_
      refine mm_iret (mm_dc od_X9_crew_0 16 rfl) rfl ?_
      exact k _ _ (Or.inr (Or.inl ⟨by omega, by omega, rfl, rfl⟩))
  · refine mm_if_ne 13 (mm_dc od_X9_crew_0 4 rfl) (by omega) (by first | assumption | omega | exact hr _ _ rfl | exact mm_ti _ | exact mm_r3264 (hr _ _ rfl)) (fun h => absurd h (by decide)) (fun _ => ?_)
    refine mm_iconst (mm_dc od_X9_crew_0 5 rfl) ?_
    refine mm_iret (mm_dc od_X9_crew_0 6 rfl) rfl ?_
    exact k _ _ (Or.inl ⟨by omega, rfl, rfl⟩)
