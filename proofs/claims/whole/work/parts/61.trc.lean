/-! the trailer: the reference -/
theorem bs_cnt : ∀ set : Nat, set < 256 → bsF set 8 = 3 ^ (cntb set).toNat := by decide +kernel
theorem cnt_8 : ∀ set : Nat, set < 256 → cntb set ≤ 8 := by decide +kernel
theorem pow3_le {c : Nat} (h : c ≤ 8) : 3 ^ c ≤ 6561 := Nat.pow_le_pow_right (n := 3) (j := 8) (by decide) h
theorem rwF_t {set : Nat} {ln : Nat → Int} {b p q : Nat} (hb : set.testBit b = true) : rwF set ln (b + 1) p q = rwF set ln b (p / 3) q + (if p % 3 = q then ln b else 0) := by
  simp only [rwF]; rw [if_pos hb]
theorem asF_t {set b p i : Nat} (hb : set.testBit b = true) : asF set (b + 1) p i = if i = b then ((p % 3 : Nat) : Int) else asF set b (p / 3) i := by
  simp only [asF]; rw [if_pos hb]
theorem rwF_z {set : Nat} {ln : Nat → Int} {p q : Nat} : rwF set ln 0 p q = 0 := rfl
def LG (B : mm_M) (set dg b rest : Nat) (M : mm_M) : Prop := R32 M ∧ (∀ i, i ≠ 89 → i ≠ 90 → M i = B i) ∧ (∀ r, r < 3 → M 90 r + rwF set (B 60) b rest r = rwF set (B 60) 8 dg r) ∧ (∀ i, i < 8 → b ≤ i → set.testBit i = true → M 89 i = asF set 8 dg i) ∧ ∀ i, i < b → asF set b rest i = asF set 8 dg i
def lnM (B : mm_M) (set : Nat) : Prop := ∀ i, set.testBit i = true → 0 ≤ B 60 i ∧ B 60 i ≤ 99
theorem LG_t {B M : mm_M} {set dg c rest : Nat} (hl : lnM B set) (h : LG B set dg (c + 1) rest M) (hc : c < 8) (hb : set.testBit c = true) : LG B set dg c (rest / 3) (mm_up (mm_up M 89 c ((rest % 3 : Nat) : Int)) 90 (rest % 3) (M 90 (rest % 3) + M 60 c)) := by
  obtain ⟨h1, h2, h3, h4, h5⟩ := h
  have h60 : M 60 = B 60 := h2 60 (by decide) (by decide)
  have hlc := hl c hb
  have hr3 : rest % 3 < 3 := by omega
  have a := rwF_r hl 8 dg (rest % 3)
  have b := rwF_r hl (c + 1) rest (rest % 3)
  have e := h3 (rest % 3) hr3
  refine ⟨R32_up (R32_up h1 (by omega)) (by rw [h60]; omega), fun i q1 q2 => ?_, fun r hr => ?_, fun i hi hi2 hi3 => ?_, fun i hi => ?_⟩
  · rw [mm_up_ne q2, mm_up_ne q1]; exact h2 i q1 q2
  · have f := h3 r hr
    rw [rwF_t hb] at f
    rw [mm_upa, h60]
    by_cases q : r = rest % 3
    · rw [if_pos q]
      rw [if_pos q.symm] at f
      rw [← q]; omega
    · rw [if_neg q, mm_up_ne (by decide)]
      rw [if_neg (fun x => q x.symm)] at f
      omega
  · rw [mm_up_ne (by decide), mm_upa]
    by_cases q : i = c
    · rw [if_pos q]
      have f := h5 c (by omega)
      rw [asF_t hb, if_pos rfl] at f
      rw [q]; exact f
    · rw [if_neg q]; exact h4 i hi (by omega) hi3
  · have f := h5 i (by omega)
    rw [asF_t hb, if_neg (by omega)] at f
    exact f
theorem LG_f {B M : mm_M} {set dg c rest : Nat} (h : LG B set dg (c + 1) rest M) (hc : c < 8) (hb : ¬ set.testBit c = true) : LG B set dg c rest M := by
  obtain ⟨h1, h2, h3, h4, h5⟩ := h
  refine ⟨h1, h2, fun r hr => ?_, fun i hi hi2 hi3 => ?_, fun i hi => ?_⟩
  · have f := h3 r hr
    rw [rwF_n hb] at f; exact f
  · by_cases q : i = c
    · rw [q] at hi3; exact absurd hi3 hb
    · exact h4 i hi (by omega) hi3
  · have f := h5 i (by omega)
    rw [asF_n hb] at f; exact f
theorem LG_0 {B M : mm_M} {set dg : Nat} (hr : R32 M) (hf : ∀ i, i ≠ 89 → i ≠ 90 → M i = B i) (h0 : ∀ r, r < 3 → M 90 r = 0) : LG B set dg 8 dg M :=
  ⟨hr, hf, fun r h => by rw [h0 r h]; omega, fun i h1 h2 => by omega, fun i _ => rfl⟩
def bqF (set : Nat) (ln : Nat → Int) (len : Int) (e : Nat) (best v : Int) : Prop := (best = -1 ∧ v = len + 1 ∧ ∀ old, stF set ln len old e = (len + 1, old)) ∨ (∃ p : Nat, best = p ∧ p < e ∧ v = lgF set ln 8 p ∧ v ≤ len ∧ ∀ old, stF set ln len old e = (v, asF set 8 p))
theorem bq_v {set : Nat} {ln : Nat → Int} {len : Int} {e : Nat} {best v : Int} (h : bqF set ln len e best v) (old : Nat → Int) : (stF set ln len old e).1 = v := by
  rcases h with ⟨_, h2, h3⟩ | ⟨p, _, _, _, _, h3⟩
  · rw [h3, h2]
  · rw [h3]
theorem bq_lt {set : Nat} {ln : Nat → Int} {len : Int} {e : Nat} {best v : Int} (h : bqF set ln len e best v) (hq : lgF set ln 8 e < v) : bqF set ln len (e + 1) e (lgF set ln 8 e) := by
  refine Or.inr ⟨e, rfl, by omega, rfl, ?_, fun old => ?_⟩
  · rcases h with ⟨_, h2, h3⟩ | ⟨p, _, _, _, _, h3⟩ <;> omega
  · simp only [stF]; rw [if_pos (by rw [bq_v h]; exact hq)]
theorem bq_ge {set : Nat} {ln : Nat → Int} {len : Int} {e : Nat} {best v : Int} (h : bqF set ln len e best v) (hq : ¬ lgF set ln 8 e < v) : bqF set ln len (e + 1) best v := by
  have hs : ∀ old, stF set ln len old (e + 1) = stF set ln len old e := fun old => by simp only [stF]; rw [if_neg (by rw [bq_v h]; exact hq)]
  rcases h with ⟨h1, h2, h3⟩ | ⟨p, h1, h2, h4, h5, h3⟩
  · exact Or.inl ⟨h1, h2, fun old => by rw [hs, h3]⟩
  · exact Or.inr ⟨p, h1, by omega, h4, h5, fun old => by rw [hs, h3]⟩
theorem asF_no {set : Nat} {i : Nat} (hi : ¬ set.testBit i = true) : ∀ b p : Nat, asF set b p i = -1
  | 0, _ => rfl
  | b + 1, p => by
    simp only [asF]
    by_cases e : set.testBit b = true
    · rw [if_pos e, if_neg (fun q => hi (by rw [q]; exact e))]; exact asF_no hi b (p / 3)
    · rw [if_neg e]; exact asF_no hi b p
theorem L_bits {X : Nat × (Nat → Int)} {d : Nat} {Po : mm_Po} {M : mm_M} (set : Nat) (hs : set < 65536) (k : Po (some (v_i (cntb set))) Lam M) (j : Nat) (hj : j ≤ 16) : mm_G X d 0 0 mi_X10_bits Po 4 [(0, v_i (set : Int)), (1, v_i (rowc (fun i => set.testBit i) j)), (2, v_i (j : Int))] [] Lam M 0 0 := by
  have hb := fx_bit (a := set) (j := j) (show j < 32 by omega) (by omega)
  have hst : rowc (fun i => set.testBit i) (j + 1) = rowc (fun i => set.testBit i) j + fx_and (fx_shr (set : Int) (j : Int)) 1 := (by
    rw [hb]
    simp only [rowc])
  refine mm_iload_n (mm_dc od_X10_bits_0 4 rfl) rfl ?_
  refine mm_bipush (mm_dc od_X10_bits_0 5 rfl) (by decide) ?_
  refine mm_icmp_ge 24 (mm_dc od_X10_bits_0 6 rfl) (by omega) (by first | omega | assumption) (by first | omega | assumption) (fun c1 => ?_) (fun c1 => ?_)
  · refine mm_iload_n (mm_dc od_X10_bits_0 17 rfl) rfl ?_
    refine mm_iret (mm_dc od_X10_bits_0 18 rfl) rfl ?_
    have e : j = 16 := by omega
    subst e
    exact k
  · refine mm_iload_n (mm_dc od_X10_bits_0 7 rfl) rfl ?_
    refine mm_iload_n (mm_dc od_X10_bits_0 8 rfl) rfl ?_
    refine mm_iload_n (mm_dc od_X10_bits_0 9 rfl) rfl ?_
    refine mm_ishr (mm_dc od_X10_bits_0 10 rfl) ?_
    refine mm_iconst (mm_dc od_X10_bits_0 11 rfl) ?_
    refine mm_iand (mm_dc od_X10_bits_0 12 rfl) ?_
    refine mm_iadd (mm_dc od_X10_bits_0 13 rfl) ?_
    refine mm_istore_n (L' := [(0, v_i (set : Int)), (1, v_i ((rowc (fun i => set.testBit i) j) + (fx_and (fx_shr (set : Int) (j : Int)) 1))), (2, v_i (j : Int))]) (mm_dc od_X10_bits_0 14 rfl) (by decide) rfl ?_
    refine mm_iinc (L' := [(0, v_i (set : Int)), (1, v_i ((rowc (fun i => set.testBit i) j) + (fx_and (fx_shr (set : Int) (j : Int)) 1))), (2, v_i ((j : Int) + 1))]) (mm_dc od_X10_bits_0 15 rfl) rfl (by decide) rfl ?_
    refine mm_goto 4 (mm_dc od_X10_bits_0 16 rfl) (by omega) ?_
    refine mm_cL (L' := [(0, v_i (set : Int)), (1, v_i (rowc (fun i => set.testBit i) (j + 1))), (2, v_i ((j : Int) + 1))]) (by rw [hst]) ?_
    exact L_bits set hs k (j + 1) (by omega)
termination_by 16 - j
decreasing_by all_goals (first | omega | (simp_wf; omega))
theorem c_X10_bits {X : Nat × (Nat → Int)} {d : Nat} {Po : mm_Po} {M : mm_M} (set : Int) (hs : 0 ≤ set ∧ set < 65536) (k : Po (some (v_i (cntb set.toNat))) Lam M) : mm_E X d 0 0 mi_X10_bits [v_i set] Po Lam M := by
  show mm_G X d 0 0 mi_X10_bits Po 0 [(0, v_i set)] [] Lam M 0 0
  obtain ⟨s, rfl⟩ : ∃ s : Nat, set = s := ⟨set.toNat, by omega⟩
  refine mm_iconst (mm_dc od_X10_bits_0 0 rfl) ?_
  refine mm_istore_n (L' := [(0, v_i (s : Int)), (1, v_i 0)]) (mm_dc od_X10_bits_0 1 rfl) (by decide) rfl ?_
  refine mm_iconst (mm_dc od_X10_bits_0 2 rfl) ?_
  refine mm_istore_n (L' := [(0, v_i (s : Int)), (1, v_i 0), (2, v_i 0)]) (mm_dc od_X10_bits_0 3 rfl) (by decide) rfl ?_
  exact L_bits s (by omega) k 0 (by omega)
theorem L_lgB {X : Nat × (Nat → Int)} {d : Nat} {Po : mm_Po} {M : mm_M} {B : mm_M} (set dg c rest : Nat) (hset : set < 256) (hrest : rest < 100000) (hl : lnM B set) (hc : c < 8) (hL : LG B set dg (c + 1) rest M) (K : ∀ (N : mm_M) (rest2 : Nat), LG B set dg c rest2 N → rest2 ≤ rest → mm_G X d 0 0 mi_X10_longest Po 29 [(0, v_r 50), (1, v_i (set : Int)), (2, v_i (dg : Int)), (3, v_i (rest2 : Int)), (4, v_i ((c : Int) - 1))] [] Lam N 0 0) : mm_G X d 0 0 mi_X10_longest Po 34 [(0, v_r 50), (1, v_i (set : Int)), (2, v_i (dg : Int)), (3, v_i (rest : Int)), (4, v_i (c : Int))] [] Lam M 0 0 := by
  have hr := hL.1
  have hmod : Int.tmod (rest : Int) 3 = ((rest % 3 : Nat) : Int) := rfl
  have hdiv : Int.tdiv (rest : Int) 3 = ((rest / 3 : Nat) : Int) := rfl
  have hbi := fx_bit (a := set) (j := c) (show c < 32 by omega) (by omega)
  have hbr : mm_r32 (fx_and (fx_shr (set : Int) (c : Int)) 1) := (by rw [hbi]; split <;> omega)
  have hbt2 : ¬ fx_and (fx_shr (set : Int) (c : Int)) 1 = 0 → set.testBit c = true := (by rw [hbi]; intro q; by_cases q2 : set.testBit c = true; exact q2; rw [if_neg q2] at q; exact absurd rfl q)
  have hbf2 : fx_and (fx_shr (set : Int) (c : Int)) 1 = 0 → ¬ set.testBit c = true := (by rw [hbi]; intro q q2; rw [if_pos q2] at q; cases q)
  refine mm_iload_n (mm_dc od_X10_longest_0 18 rfl) rfl ?_
  refine mm_iload (mm_dc od_X10_longest_0 19 rfl) rfl ?_
  refine mm_ishr (mm_dc od_X10_longest_0 20 rfl) ?_
  refine mm_iconst (mm_dc od_X10_longest_0 21 rfl) ?_
  refine mm_iand (mm_dc od_X10_longest_0 22 rfl) ?_
  refine mm_if_ne 46 (mm_dc od_X10_longest_0 23 rfl) (by omega) (by first | omega | assumption | exact hr _ _ rfl) (fun c1 => ?_) (fun c1 => ?_)
  · refine mm_aload_n (mm_dc od_X10_longest_0 25 rfl) rfl ?_
    refine mm_getR (ci := 10) (k := 51) (mm_dc od_X10_longest_0 26 rfl) rfl in_X10 (by decide) wd_4_163 rfl rfl ?_
    refine mm_iload (mm_dc od_X10_longest_0 27 rfl) rfl ?_
    refine mm_iload_n (mm_dc od_X10_longest_0 28 rfl) rfl ?_
    refine mm_iconst (mm_dc od_X10_longest_0 29 rfl) ?_
    refine mm_irem (mm_dc od_X10_longest_0 30 rfl) (by first | omega | assumption | exact hr _ _ rfl) (by first | omega | assumption | exact hr _ _ rfl) (by first | omega | assumption | exact hr _ _ rfl) ?_
    refine mm_iast (mm_dc od_X10_longest_0 31 rfl) rfl (by first | omega | assumption | exact hr _ _ rfl) (by first | omega | assumption | exact hr _ _ rfl) (by decide) ?_
    refine mm_eqM (M' := mm_up M 89 c (Int.tmod (rest : Int) 3)) rfl ?_
    refine mm_aload_n (mm_dc od_X10_longest_0 32 rfl) rfl ?_
    refine mm_getR (ci := 10) (k := 52) (mm_dc od_X10_longest_0 33 rfl) rfl in_X10 (by decide) wd_4_164 rfl rfl ?_
    refine mm_iload_n (mm_dc od_X10_longest_0 34 rfl) rfl ?_
    refine mm_iconst (mm_dc od_X10_longest_0 35 rfl) ?_
    refine mm_irem (mm_dc od_X10_longest_0 36 rfl) (by first | omega | assumption | exact hr _ _ rfl) (by first | omega | assumption | exact hr _ _ rfl) (by first | omega | assumption | exact hr _ _ rfl) ?_
    refine mm_dup2_ir (mm_dc od_X10_longest_0 37 rfl) ?_
    refine mm_iald (mm_dc od_X10_longest_0 38 rfl) rfl (by first | omega | assumption | exact hr _ _ rfl) (by first | omega | assumption | exact hr _ _ rfl) (by decide) ?_
    refine mm_cst (st' := [v_i (M 90 (Int.toNat (Int.tmod (rest : Int) 3))), v_i (Int.tmod (rest : Int) 3), v_r 90]) rfl ?_
    refine mm_aload_n (mm_dc od_X10_longest_0 39 rfl) rfl ?_
    refine mm_getR (ci := 10) (k := 9) (mm_dc od_X10_longest_0 40 rfl) rfl in_X10 (by decide) wd_4_121 rfl rfl ?_
    refine mm_iload (mm_dc od_X10_longest_0 41 rfl) rfl ?_
    refine mm_iald (mm_dc od_X10_longest_0 42 rfl) rfl (by first | omega | assumption | exact hr _ _ rfl) (by first | omega | assumption | exact hr _ _ rfl) (by decide) ?_
    refine mm_cst (st' := [v_i (M 60 c), v_i (M 90 (Int.toNat (Int.tmod (rest : Int) 3))), v_i (Int.tmod (rest : Int) 3), v_r 90]) rfl ?_
    refine mm_iadd (mm_dc od_X10_longest_0 43 rfl) ?_
    refine mm_iast (mm_dc od_X10_longest_0 44 rfl) rfl (by first | omega | assumption | exact hr _ _ rfl) (by first | omega | assumption | exact hr _ _ rfl) (by decide) ?_
    refine mm_iload_n (mm_dc od_X10_longest_0 45 rfl) rfl ?_
    refine mm_iconst (mm_dc od_X10_longest_0 46 rfl) ?_
    refine mm_idiv (mm_dc od_X10_longest_0 47 rfl) (by first | omega | assumption | exact hr _ _ rfl) (by first | omega | assumption | exact hr _ _ rfl) (by first | omega | assumption | exact hr _ _ rfl) ?_
    refine mm_istore_n (L' := [(0, v_r 50), (1, v_i (set : Int)), (2, v_i (dg : Int)), (3, v_i (Int.tdiv (rest : Int) 3)), (4, v_i (c : Int))]) (mm_dc od_X10_longest_0 48 rfl) (by decide) rfl ?_
    refine mm_iinc (L' := [(0, v_r 50), (1, v_i (set : Int)), (2, v_i (dg : Int)), (3, v_i (Int.tdiv (rest : Int) 3)), (4, v_i ((c : Int) + (-1)))]) (mm_dc od_X10_longest_0 49 rfl) rfl (by decide) rfl ?_
    refine mm_goto 29 (mm_dc od_X10_longest_0 50 rfl) (by omega) ?_
    have hbt := hbt2 (by assumption)
    rw [hmod, hdiv, Int.toNat_natCast]
    refine mm_cL (L' := [(0, v_r 50), (1, v_i (set : Int)), (2, v_i (dg : Int)), (3, v_i ((rest / 3 : Nat) : Int)), (4, v_i ((c : Int) - 1))]) (by rw [show (c : Int) + (-1) = (c : Int) - 1 by omega]) ?_
    exact K _ (rest / 3) (LG_t hl hL hc hbt) (by omega)
  · refine mm_goto 78 (mm_dc od_X10_longest_0 24 rfl) (by omega) ?_
    refine mm_iinc (L' := [(0, v_r 50), (1, v_i (set : Int)), (2, v_i (dg : Int)), (3, v_i (rest : Int)), (4, v_i ((c : Int) + (-1)))]) (mm_dc od_X10_longest_0 49 rfl) rfl (by decide) rfl ?_
    refine mm_goto 29 (mm_dc od_X10_longest_0 50 rfl) (by omega) ?_
    have hbt := hbf2 (by assumption)
    refine mm_cL (L' := [(0, v_r 50), (1, v_i (set : Int)), (2, v_i (dg : Int)), (3, v_i (rest : Int)), (4, v_i ((c : Int) - 1))]) (by rw [show (c : Int) + (-1) = (c : Int) - 1 by omega]) ?_
    exact K _ rest (LG_f hL hc hbt) (by omega)
theorem L_lg29 {X : Nat × (Nat → Int)} {d : Nat} {Po : mm_Po} {M : mm_M} {B : mm_M} (set dg : Nat) (hset : set < 256) (hl : lnM B set) (k : ∀ (N : mm_M) (r : Int), (R32 N ∧ (∀ i, i ≠ 89 → i ≠ 90 → N i = B i) ∧ (∀ i, i < 8 → set.testBit i = true → N 89 i = asF set 8 dg i) ∧ r = lgF set (B 60) 8 dg) → Po (some (v_i r)) Lam N) (b rest : Nat) (hrest : rest < 100000) (hb : b ≤ 8) (hL : LG B set dg b rest M) : mm_G X d 0 0 mi_X10_longest Po 29 [(0, v_r 50), (1, v_i (set : Int)), (2, v_i (dg : Int)), (3, v_i (rest : Int)), (4, v_i ((b : Int) - 1))] [] Lam M 0 0 := by
  have hr := hL.1
  have g0 : mm_r32 (M 90 0) := hr _ _ rfl
  have g1 : mm_r32 (M 90 1) := hr _ _ rfl
  have g2 : mm_r32 (M 90 2) := hr _ _ rfl
  refine mm_iload (mm_dc od_X10_longest_0 16 rfl) rfl ?_
  refine mm_if_lt 84 (mm_dc od_X10_longest_0 17 rfl) (by omega) (by first | omega | assumption | exact hr _ _ rfl) (fun c1 => ?_) (fun c1 => ?_)
  · refine mm_aload_n (mm_dc od_X10_longest_0 51 rfl) rfl ?_
    refine mm_getR (ci := 10) (k := 52) (mm_dc od_X10_longest_0 52 rfl) rfl in_X10 (by decide) wd_4_164 rfl rfl ?_
    refine mm_iconst (mm_dc od_X10_longest_0 53 rfl) ?_
    refine mm_iald (mm_dc od_X10_longest_0 54 rfl) rfl (by first | omega | assumption | exact hr _ _ rfl) (by first | omega | assumption | exact hr _ _ rfl) (by decide) ?_
    refine mm_cst (st' := [v_i (M 90 0)]) rfl ?_
    refine mm_aload_n (mm_dc od_X10_longest_0 55 rfl) rfl ?_
    refine mm_getR (ci := 10) (k := 52) (mm_dc od_X10_longest_0 56 rfl) rfl in_X10 (by decide) wd_4_164 rfl rfl ?_
    refine mm_iconst (mm_dc od_X10_longest_0 57 rfl) ?_
    refine mm_iald (mm_dc od_X10_longest_0 58 rfl) rfl (by first | omega | assumption | exact hr _ _ rfl) (by first | omega | assumption | exact hr _ _ rfl) (by decide) ?_
    refine mm_cst (st' := [v_i (M 90 1), v_i (M 90 0)]) rfl ?_
    refine mm_icmp_le 108 (mm_dc od_X10_longest_0 59 rfl) (by omega) (by first | omega | assumption | exact hr _ _ rfl) (by first | omega | assumption | exact hr _ _ rfl) (fun c2 => ?_) (fun c2 => ?_)
    · refine mm_aload_n (mm_dc od_X10_longest_1 5 rfl) rfl ?_
      refine mm_getR (ci := 10) (k := 52) (mm_dc od_X10_longest_1 6 rfl) rfl in_X10 (by decide) wd_4_164 rfl rfl ?_
      refine mm_iconst (mm_dc od_X10_longest_1 7 rfl) ?_
      refine mm_iald (mm_dc od_X10_longest_1 8 rfl) rfl (by first | omega | assumption | exact hr _ _ rfl) (by first | omega | assumption | exact hr _ _ rfl) (by decide) ?_
      refine mm_cst (st' := [v_i (M 90 1)]) rfl ?_
      refine mm_istore (L' := [(0, v_r 50), (1, v_i (set : Int)), (2, v_i (dg : Int)), (3, v_i (rest : Int)), (4, v_i (M 90 1))]) (mm_dc od_X10_longest_1 9 rfl) (by decide) rfl ?_
      refine mm_iload (mm_dc od_X10_longest_1 10 rfl) rfl ?_
      refine mm_aload_n (mm_dc od_X10_longest_1 11 rfl) rfl ?_
      refine mm_getR (ci := 10) (k := 52) (mm_dc od_X10_longest_1 12 rfl) rfl in_X10 (by decide) wd_4_164 rfl rfl ?_
      refine mm_iconst (mm_dc od_X10_longest_1 13 rfl) ?_
      refine mm_iald (mm_dc od_X10_longest_1 14 rfl) rfl (by first | omega | assumption | exact hr _ _ rfl) (by first | omega | assumption | exact hr _ _ rfl) (by decide) ?_
      refine mm_cst (st' := [v_i (M 90 2), v_i (M 90 1)]) rfl ?_
      refine mm_icmp_le 132 (mm_dc od_X10_longest_1 15 rfl) (by omega) (by first | omega | assumption | exact hr _ _ rfl) (by first | omega | assumption | exact hr _ _ rfl) (fun c3 => ?_) (fun c3 => ?_)
      · refine mm_aload_n (mm_dc od_X10_longest_1 18 rfl) rfl ?_
        refine mm_getR (ci := 10) (k := 52) (mm_dc od_X10_longest_1 19 rfl) rfl in_X10 (by decide) wd_4_164 rfl rfl ?_
        refine mm_iconst (mm_dc od_X10_longest_1 20 rfl) ?_
        refine mm_iald (mm_dc od_X10_longest_1 21 rfl) rfl (by first | omega | assumption | exact hr _ _ rfl) (by first | omega | assumption | exact hr _ _ rfl) (by decide) ?_
        refine mm_cst (st' := [v_i (M 90 2)]) rfl ?_
        refine mm_iret (mm_dc od_X10_longest_1 22 rfl) rfl ?_
        have e : b = 0 := by omega
        subst e
        have z0 := hL.2.2.1 0 (by decide)
        have z1 := hL.2.2.1 1 (by decide)
        have z2 := hL.2.2.1 2 (by decide)
        rw [rwF_z] at z0 z1 z2
        exact k _ _ ⟨hL.1, hL.2.1, fun i hi hb => hL.2.2.2.1 i hi (by omega) hb, by unfold lgF; omega⟩
      · refine mm_iload (mm_dc od_X10_longest_1 16 rfl) rfl ?_
        refine mm_goto 138 (mm_dc od_X10_longest_1 17 rfl) (by omega) ?_
        refine mm_iret (mm_dc od_X10_longest_1 22 rfl) rfl ?_
        have e : b = 0 := by omega
        subst e
        have z0 := hL.2.2.1 0 (by decide)
        have z1 := hL.2.2.1 1 (by decide)
        have z2 := hL.2.2.1 2 (by decide)
        rw [rwF_z] at z0 z1 z2
        exact k _ _ ⟨hL.1, hL.2.1, fun i hi hb => hL.2.2.2.1 i hi (by omega) hb, by unfold lgF; omega⟩
    · refine mm_aload_n (mm_dc od_X10_longest_1 0 rfl) rfl ?_
      refine mm_getR (ci := 10) (k := 52) (mm_dc od_X10_longest_1 1 rfl) rfl in_X10 (by decide) wd_4_164 rfl rfl ?_
      refine mm_iconst (mm_dc od_X10_longest_1 2 rfl) ?_
      refine mm_iald (mm_dc od_X10_longest_1 3 rfl) rfl (by first | omega | assumption | exact hr _ _ rfl) (by first | omega | assumption | exact hr _ _ rfl) (by decide) ?_
      refine mm_cst (st' := [v_i (M 90 0)]) rfl ?_
      refine mm_goto 114 (mm_dc od_X10_longest_1 4 rfl) (by omega) ?_
      refine mm_istore (L' := [(0, v_r 50), (1, v_i (set : Int)), (2, v_i (dg : Int)), (3, v_i (rest : Int)), (4, v_i (M 90 0))]) (mm_dc od_X10_longest_1 9 rfl) (by decide) rfl ?_
      refine mm_iload (mm_dc od_X10_longest_1 10 rfl) rfl ?_
      refine mm_aload_n (mm_dc od_X10_longest_1 11 rfl) rfl ?_
      refine mm_getR (ci := 10) (k := 52) (mm_dc od_X10_longest_1 12 rfl) rfl in_X10 (by decide) wd_4_164 rfl rfl ?_
      refine mm_iconst (mm_dc od_X10_longest_1 13 rfl) ?_
      refine mm_iald (mm_dc od_X10_longest_1 14 rfl) rfl (by first | omega | assumption | exact hr _ _ rfl) (by first | omega | assumption | exact hr _ _ rfl) (by decide) ?_
      refine mm_cst (st' := [v_i (M 90 2), v_i (M 90 0)]) rfl ?_
      refine mm_icmp_le 132 (mm_dc od_X10_longest_1 15 rfl) (by omega) (by first | omega | assumption | exact hr _ _ rfl) (by first | omega | assumption | exact hr _ _ rfl) (fun c4 => ?_) (fun c4 => ?_)
      · refine mm_aload_n (mm_dc od_X10_longest_1 18 rfl) rfl ?_
        refine mm_getR (ci := 10) (k := 52) (mm_dc od_X10_longest_1 19 rfl) rfl in_X10 (by decide) wd_4_164 rfl rfl ?_
        refine mm_iconst (mm_dc od_X10_longest_1 20 rfl) ?_
        refine mm_iald (mm_dc od_X10_longest_1 21 rfl) rfl (by first | omega | assumption | exact hr _ _ rfl) (by first | omega | assumption | exact hr _ _ rfl) (by decide) ?_
        refine mm_cst (st' := [v_i (M 90 2)]) rfl ?_
        refine mm_iret (mm_dc od_X10_longest_1 22 rfl) rfl ?_
        have e : b = 0 := by omega
        subst e
        have z0 := hL.2.2.1 0 (by decide)
        have z1 := hL.2.2.1 1 (by decide)
        have z2 := hL.2.2.1 2 (by decide)
        rw [rwF_z] at z0 z1 z2
        exact k _ _ ⟨hL.1, hL.2.1, fun i hi hb => hL.2.2.2.1 i hi (by omega) hb, by unfold lgF; omega⟩
      · refine mm_iload (mm_dc od_X10_longest_1 16 rfl) rfl ?_
        refine mm_goto 138 (mm_dc od_X10_longest_1 17 rfl) (by omega) ?_
        refine mm_iret (mm_dc od_X10_longest_1 22 rfl) rfl ?_
        have e : b = 0 := by omega
        subst e
        have z0 := hL.2.2.1 0 (by decide)
        have z1 := hL.2.2.1 1 (by decide)
        have z2 := hL.2.2.1 2 (by decide)
        rw [rwF_z] at z0 z1 z2
        exact k _ _ ⟨hL.1, hL.2.1, fun i hi hb => hL.2.2.2.1 i hi (by omega) hb, by unfold lgF; omega⟩
  · obtain ⟨c, rfl⟩ : ∃ c : Nat, b = c + 1 := ⟨b - 1, by omega⟩
    refine mm_cL (L' := [(0, v_r 50), (1, v_i (set : Int)), (2, v_i (dg : Int)), (3, v_i (rest : Int)), (4, v_i (c : Int))]) (by rw [show ((c + 1 : Nat) : Int) - 1 = (c : Int) by omega]) ?_
    exact L_lgB set dg c rest hset hrest hl (by omega) hL (fun N rest2 hN hr2 => L_lg29 set dg hset hl k c rest2 (by omega) (by omega) hN)
termination_by b
decreasing_by all_goals (first | omega | (simp_wf; omega))
theorem L_lg5 {X : Nat × (Nat → Int)} {d : Nat} {Po : mm_Po} {M : mm_M} {B : mm_M} (set dg : Nat) (hset : set < 256) (hdg : dg < 100000) (hl : lnM B set) (k : ∀ (N : mm_M) (r : Int), (R32 N ∧ (∀ i, i ≠ 89 → i ≠ 90 → N i = B i) ∧ (∀ i, i < 8 → set.testBit i = true → N 89 i = asF set 8 dg i) ∧ r = lgF set (B 60) 8 dg) → Po (some (v_i r)) Lam N) (j : Nat) (hj : j ≤ 3) (hr : R32 M) (hf : ∀ i, i ≠ 89 → i ≠ 90 → M i = B i) (h0 : ∀ r, r < j → M 90 r = 0) : mm_G X d 0 0 mi_X10_longest Po 5 [(0, v_r 50), (1, v_i (set : Int)), (2, v_i (dg : Int)), (3, v_i (dg : Int)), (4, v_i (j : Int))] [] Lam M 0 0 := by
  refine mm_iload (mm_dc od_X10_longest_0 4 rfl) rfl ?_
  refine mm_iconst (mm_dc od_X10_longest_0 5 rfl) ?_
  refine mm_icmp_ge 25 (mm_dc od_X10_longest_0 6 rfl) (by omega) (by first | omega | assumption | exact hr _ _ rfl) (by first | omega | assumption | exact hr _ _ rfl) (fun c1 => ?_) (fun c1 => ?_)
  · refine mm_bipush (mm_dc od_X10_longest_0 14 rfl) (by decide) ?_
    refine mm_istore (L' := [(0, v_r 50), (1, v_i (set : Int)), (2, v_i (dg : Int)), (3, v_i (dg : Int)), (4, v_i 7)]) (mm_dc od_X10_longest_0 15 rfl) (by decide) rfl ?_
    refine mm_cL (L' := [(0, v_r 50), (1, v_i (set : Int)), (2, v_i (dg : Int)), (3, v_i (dg : Int)), (4, v_i (((8 : Nat) : Int) - 1))]) rfl ?_
    exact L_lg29 set dg hset hl k 8 dg hdg (by omega) (LG_0 hr hf (fun r h => h0 r (by omega)))
  · refine mm_aload_n (mm_dc od_X10_longest_0 7 rfl) rfl ?_
    refine mm_getR (ci := 10) (k := 52) (mm_dc od_X10_longest_0 8 rfl) rfl in_X10 (by decide) wd_4_164 rfl rfl ?_
    refine mm_iload (mm_dc od_X10_longest_0 9 rfl) rfl ?_
    refine mm_iconst (mm_dc od_X10_longest_0 10 rfl) ?_
    refine mm_iast (mm_dc od_X10_longest_0 11 rfl) rfl (by first | omega | assumption | exact hr _ _ rfl) (by first | omega | assumption | exact hr _ _ rfl) (by decide) ?_
    refine mm_eqM (M' := mm_up M 90 j 0) rfl ?_
    refine mm_iinc (L' := [(0, v_r 50), (1, v_i (set : Int)), (2, v_i (dg : Int)), (3, v_i (dg : Int)), (4, v_i ((j : Int) + 1))]) (mm_dc od_X10_longest_0 12 rfl) rfl (by decide) rfl ?_
    refine mm_goto 5 (mm_dc od_X10_longest_0 13 rfl) (by omega) ?_
    exact L_lg5 set dg hset hdg hl k (j + 1) (by omega) (R32_up hr (by decide)) (fun i q1 q2 => by rw [mm_up_ne q2]; exact hf i q1 q2) (fun r hr => by rw [mm_upa]; split; rfl; exact h0 r (by omega))
termination_by 3 - j
decreasing_by all_goals (first | omega | (simp_wf; omega))
theorem c_X10_longest {X : Nat × (Nat → Int)} {d : Nat} {Po : mm_Po} {M : mm_M} (set : Int) (dg : Int) (hs : 0 ≤ set ∧ set < 256) (hdg : 0 ≤ dg ∧ dg < 100000) (hl : lnM M set.toNat) (hr : R32 M) (k : ∀ (N : mm_M) (r : Int), (R32 N ∧ (∀ i, i ≠ 89 → i ≠ 90 → N i = M i) ∧ (∀ i, i < 8 → set.toNat.testBit i = true → N 89 i = asF set.toNat 8 dg.toNat i) ∧ r = lgF set.toNat (M 60) 8 dg.toNat) → Po (some (v_i r)) Lam N) : mm_E X d 0 0 mi_X10_longest [v_r 50, v_i set, v_i dg] Po Lam M := by
  show mm_G X d 0 0 mi_X10_longest Po 0 [(0, v_r 50), (1, v_i set), (2, v_i dg)] [] Lam M 0 0
  refine mm_iload_n (mm_dc od_X10_longest_0 0 rfl) rfl ?_
  refine mm_istore_n (L' := [(0, v_r 50), (1, v_i set), (2, v_i dg), (3, v_i dg)]) (mm_dc od_X10_longest_0 1 rfl) (by decide) rfl ?_
  refine mm_iconst (mm_dc od_X10_longest_0 2 rfl) ?_
  refine mm_istore (L' := [(0, v_r 50), (1, v_i set), (2, v_i dg), (3, v_i dg), (4, v_i 0)]) (mm_dc od_X10_longest_0 3 rfl) (by decide) rfl ?_
  obtain ⟨s, rfl⟩ : ∃ s : Nat, set = s := ⟨set.toNat, by omega⟩
  obtain ⟨q, rfl⟩ : ∃ q : Nat, dg = q := ⟨dg.toNat, by omega⟩
  exact L_lg5 (B := M) s q (by omega) (by omega) hl k 0 (by omega) hr (fun i _ _ => rfl) (fun r h => by omega)
