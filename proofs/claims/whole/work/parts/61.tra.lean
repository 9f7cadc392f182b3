/-! the trailer: all ways, one behind the other -/
def rwF (set : Nat) (ln : Nat → Int) : Nat → Nat → Nat → Int
  | 0, _, _ => 0
  | b + 1, p, r => if set.testBit b = true then rwF set ln b (p / 3) r + (if p % 3 = r then ln b else 0) else rwF set ln b p r
def asF (set : Nat) : Nat → Nat → Nat → Int
  | 0, _, _ => -1
  | b + 1, p, i => if set.testBit b = true then (if i = b then ((p % 3 : Nat) : Int) else asF set b (p / 3) i) else asF set b p i
def lgF (set : Nat) (ln : Nat → Int) (b p : Nat) : Int := max (rwF set ln b p 0) (max (rwF set ln b p 1) (rwF set ln b p 2))
def bsF (set : Nat) : Nat → Nat
  | 0 => 1
  | k + 1 => if set.testBit (7 - k) = true then 3 * bsF set k else bsF set k
def stF (set : Nat) (ln : Nat → Int) (lim : Int) (old : Nat → Int) : Nat → Int × (Nat → Int)
  | 0 => (lim + 1, old)
  | e + 1 => if lgF set ln 8 e < (stF set ln lim old e).1 then (lgF set ln 8 e, asF set 8 e) else stF set ln lim old e
theorem rwF_r {set : Nat} {ln : Nat → Int} (hl : ∀ i, set.testBit i = true → 0 ≤ ln i ∧ ln i ≤ 99) : ∀ b p r : Nat, 0 ≤ rwF set ln b p r ∧ rwF set ln b p r ≤ 99 * b
  | 0, _, _ => by simp [rwF]
  | b + 1, p, r => by
    simp only [rwF]
    by_cases e : set.testBit b = true
    · have h1 := rwF_r hl b (p / 3) r
      have h2 := hl b e
      rw [if_pos e]
      split <;> omega
    · have h1 := rwF_r hl b p r
      rw [if_neg e]; omega
theorem rwF_cong {set : Nat} {f g : Nat → Int} (h : ∀ i, set.testBit i = true → f i = g i) : ∀ b p r : Nat, rwF set f b p r = rwF set g b p r
  | 0, _, _ => rfl
  | b + 1, p, r => by
    simp only [rwF]
    by_cases e : set.testBit b = true
    · rw [if_pos e, if_pos e, rwF_cong h b, h b e]
    · rw [if_neg e, if_neg e, rwF_cong h b]
theorem lgF_cong {set : Nat} {f g : Nat → Int} (h : ∀ i, set.testBit i = true → f i = g i) (b p : Nat) : lgF set f b p = lgF set g b p := by
  unfold lgF
  rw [rwF_cong h b p 0, rwF_cong h b p 1, rwF_cong h b p 2]
theorem stF_cong {set : Nat} {f g : Nat → Int} {lim : Int} {old : Nat → Int} (h : ∀ i, set.testBit i = true → f i = g i) : ∀ e : Nat, stF set f lim old e = stF set g lim old e
  | 0 => rfl
  | e + 1 => by
    simp only [stF]
    rw [stF_cong h e, lgF_cong h 8 e]
theorem rwF_s {set : Nat} {ln : Nat → Int} {b p r q : Nat} (hb : set.testBit b = true) (hr : r < 3) : rwF set ln (b + 1) (3 * p + r) q = rwF set ln b p q + (if r = q then ln b else 0) := by
  simp only [rwF]
  rw [if_pos hb, show (3 * p + r) / 3 = p by omega, show (3 * p + r) % 3 = r by omega]
theorem asF_s {set b p r i : Nat} (hb : set.testBit b = true) (hr : r < 3) : asF set (b + 1) (3 * p + r) i = if i = b then (r : Int) else asF set b p i := by
  simp only [asF]
  rw [if_pos hb, show (3 * p + r) / 3 = p by omega, show (3 * p + r) % 3 = r by omega]
theorem rwF_n {set : Nat} {ln : Nat → Int} {b p q : Nat} (hb : ¬ set.testBit b = true) : rwF set ln (b + 1) p q = rwF set ln b p q := by
  simp only [rwF]; rw [if_neg hb]
theorem asF_n {set b p i : Nat} (hb : ¬ set.testBit b = true) : asF set (b + 1) p i = asF set b p i := by
  simp only [asF]; rw [if_neg hb]
theorem lgF_le {set : Nat} {ln : Nat → Int} (hl : ∀ i, set.testBit i = true → 0 ≤ ln i ∧ ln i ≤ 99) {b p r : Nat} (hb : set.testBit b = true) (hr : r < 3) : lgF set ln b p ≤ lgF set ln (b + 1) (3 * p + r) := by
  have h2 := hl b hb
  have a0 := rwF_s (ln := ln) (p := p) (q := 0) hb hr
  have a1 := rwF_s (ln := ln) (p := p) (q := 1) hb hr
  have a2 := rwF_s (ln := ln) (p := p) (q := 2) hb hr
  unfold lgF
  rw [a0, a1, a2]
  rcases (show r = 0 ∨ r = 1 ∨ r = 2 by omega) with rfl | rfl | rfl <;> simp <;> omega
theorem lgF_n {set : Nat} {ln : Nat → Int} {b p : Nat} (hb : ¬ set.testBit b = true) : lgF set ln (b + 1) p = lgF set ln b p := by
  unfold lgF; rw [rwF_n hb, rwF_n hb, rwF_n hb]
theorem lgF_r {set : Nat} {ln : Nat → Int} (hl : ∀ i, set.testBit i = true → 0 ≤ ln i ∧ ln i ≤ 99) (b p : Nat) : 0 ≤ lgF set ln b p ∧ lgF set ln b p ≤ 99 * b := by
  have h0 := rwF_r hl b p 0; have h1 := rwF_r hl b p 1; have h2 := rwF_r hl b p 2
  unfold lgF; omega
theorem st_prune {set : Nat} {ln : Nat → Int} {lim : Int} {old : Nat → Int} (hl : ∀ i, set.testBit i = true → 0 ≤ ln i ∧ ln i ≤ 99) : ∀ k b : Nat, b + k = 8 → ∀ p : Nat, (stF set ln lim old (p * bsF set k)).1 ≤ lgF set ln b p → stF set ln lim old ((p + 1) * bsF set k) = stF set ln lim old (p * bsF set k)
  | 0, b, hb, p, h => by
    have e : b = 8 := by omega
    subst e
    simp only [bsF, Nat.mul_one] at *
    simp only [stF]
    rw [if_neg (by omega)]
  | k + 1, b, hb, p, h => by
    have e : 7 - k = b := by omega
    simp only [bsF, e] at *
    by_cases q : set.testBit b = true
    · rw [if_pos q] at *
      have ih := st_prune (lim := lim) (old := old) hl k (b + 1) (by omega)
      have e0 : p * (3 * bsF set k) = (3 * p + 0) * bsF set k := by rw [Nat.add_zero, ← Nat.mul_assoc, Nat.mul_comm p 3]
      have e3 : (p + 1) * (3 * bsF set k) = (3 * p + 2 + 1) * bsF set k := by rw [← Nat.mul_assoc, show (p + 1) * 3 = 3 * p + 2 + 1 by omega]
      rw [e0] at h
      have l0 := lgF_le hl (p := p) (r := 0) q (by omega)
      have l1 := lgF_le hl (p := p) (r := 1) q (by omega)
      have l2 := lgF_le hl (p := p) (r := 2) q (by omega)
      have s1 := ih (3 * p + 0) (by omega)
      have s2 := ih (3 * p + 1) (by rw [show 3 * p + 1 = 3 * p + 0 + 1 by omega, s1]; rw [show 3 * p + 0 + 1 = 3 * p + 1 by omega]; omega)
      have s3 := ih (3 * p + 2) (by rw [show 3 * p + 2 = 3 * p + 1 + 1 by omega, s2, show 3 * p + 1 = 3 * p + 0 + 1 by omega, s1]; rw [show 3 * p + 0 + 1 + 1 = 3 * p + 2 by omega]; omega)
      rw [e3, e0, s3, show 3 * p + 2 = 3 * p + 1 + 1 by omega, s2, show 3 * p + 1 = 3 * p + 0 + 1 by omega, s1]
    · rw [if_neg q] at *
      exact st_prune hl k (b + 1) (by omega) p (by rw [lgF_n q]; exact h)
def LI (B : mm_M) (set : Nat) (lim : Int) (old : Nat → Int) (b p e : Nat) (M : mm_M) : Prop := R32 M ∧ (∀ i, ¬ (46 ≤ i ∧ i ≤ 49) → M i = B i) ∧ (∀ r, r < 3 → M 49 r = rwF set (B 9) b p r) ∧ (∀ i, i < 8 → (i < b ∨ set.testBit i = false) → M 48 i = asF set b p i) ∧ M 46 3 = (stF set (B 9) lim old e).1 ∧ ∀ i, i < 8 → M 47 i = (stF set (B 9) lim old e).2 i
def lnQ (B : mm_M) (set : Nat) : Prop := ∀ i, set.testBit i = true → 0 ≤ B 9 i ∧ B 9 i ≤ 99
theorem LI_down {B M : mm_M} {set : Nat} {lim : Int} {old : Nat → Int} {b p e r : Nat} (hl : lnQ B set) (h : LI B set lim old b p e M) (hb : b < 8) (hbt : set.testBit b = true) (hr : r < 3) : LI B set lim old (b + 1) (3 * p + r) e (mm_up (mm_up M 48 b (r : Int)) 49 r (M 49 r + M 9 b)) := by
  obtain ⟨h1, h2, h3, h4, h5, h6⟩ := h
  have hrr := rwF_r hl b p r
  have hbl := hl b hbt
  have e9 : M 9 = B 9 := h2 9 (by omega)
  have e49 := h3 r hr
  refine ⟨R32_up (R32_up h1 (by omega)) (by rw [e9, e49]; omega), fun i hi => ?_, fun q hq => ?_, fun i hi hi2 => ?_, h5, h6⟩
  · rw [mm_up_ne (by omega), mm_up_ne (by omega)]; exact h2 i hi
  · rw [mm_upa, rwF_s hbt hr, mm_up_ne (by decide), e9]
    by_cases c : q = r
    · rw [if_pos c, if_pos c.symm, e49, c]
    · rw [if_neg c, if_neg (fun x => c x.symm), h3 q hq]; omega
  · rw [mm_up_ne (by decide), mm_upa, asF_s hbt hr]
    by_cases c : i = b
    · rw [if_pos c, if_pos c]
    · rw [if_neg c, if_neg c]; exact h4 i hi (hi2.imp (fun q => by omega) id)
theorem LI_up {B N : mm_M} {set : Nat} {lim : Int} {old : Nat → Int} {b p e r : Nat} (hl : lnQ B set) (h : LI B set lim old (b + 1) (3 * p + r) e N) (hb : b < 8) (hbt : set.testBit b = true) (hr : r < 3) : LI B set lim old b p e (mm_up N 49 r (N 49 r - N 9 b)) := by
  obtain ⟨h1, h2, h3, h4, h5, h6⟩ := h
  have hrr := rwF_r hl b p r
  have hbl := hl b hbt
  have e9 : N 9 = B 9 := h2 9 (by omega)
  have e49 := h3 r hr
  rw [rwF_s hbt hr, if_pos rfl] at e49
  refine ⟨R32_up h1 (by rw [e9, e49]; omega), fun i hi => ?_, fun q hq => ?_, fun i hi hi2 => ?_, h5, h6⟩
  · rw [mm_up_ne (by omega)]; exact h2 i hi
  · rw [mm_upa, e9, e49]
    by_cases c : q = r
    · rw [if_pos c, c]; omega
    · rw [if_neg c, h3 q hq, rwF_s hbt hr, if_neg (fun x => c x.symm)]; omega
  · rw [mm_up_ne (by decide)]
    have h := h4 i hi (hi2.imp (fun q => by omega) id)
    rw [asF_s hbt hr] at h
    by_cases c : i = b
    · exfalso
      rcases hi2 with q | q
      · omega
      · rw [c, hbt] at q; cases q
    · rw [if_neg c] at h; exact h
theorem LI_skip {B M : mm_M} {set : Nat} {lim : Int} {old : Nat → Int} {b p e : Nat} (hbt : ¬ set.testBit b = true) : LI B set lim old b p e M ↔ LI B set lim old (b + 1) p e M := by
  unfold LI
  constructor
  · rintro ⟨h1, h2, h3, h4, h5, h6⟩
    refine ⟨h1, h2, fun r hr => by rw [rwF_n hbt]; exact h3 r hr, fun i hi hi2 => ?_, h5, h6⟩
    rw [asF_n hbt]
    by_cases c : i = b
    · exact h4 i hi (Or.inr (by rw [c]; simpa using hbt))
    · exact h4 i hi (hi2.imp (fun q => by omega) id)
  · rintro ⟨h1, h2, h3, h4, h5, h6⟩
    refine ⟨h1, h2, fun r hr => by rw [h3 r hr, rwF_n hbt], fun i hi hi2 => ?_, h5, h6⟩
    rw [h4 i hi (hi2.imp (fun q => by omega) id), asF_n hbt]
theorem LI_leaf {B M : mm_M} {set : Nat} {lim : Int} {old : Nat → Int} {p : Nat} {v : Int} (hl : lnQ B set) (h : LI B set lim old 8 p p M) (hv : v = lgF set (B 9) 8 p) (hlt : v < M 46 3) : LI B set lim old 8 p (p + 1) (mm_cpy (mm_up M 46 3 v) 48 47 0 0 8) := by
  obtain ⟨h1, h2, h3, h4, h5, h6⟩ := h
  have hr := lgF_r hl 8 p
  subst hv
  have c : ∀ i, i ≠ 47 → mm_cpy (mm_up M 46 3 (lgF set (B 9) 8 p)) 48 47 0 0 8 i = mm_up M 46 3 (lgF set (B 9) 8 p) i := fun i hi => by funext q; unfold mm_cpy; rw [if_neg (by omega)]
  have c47 : ∀ i, i < 8 → mm_cpy (mm_up M 46 3 (lgF set (B 9) 8 p)) 48 47 0 0 8 47 i = M 48 i := fun i hi => by unfold mm_cpy; rw [if_pos (by omega), show 0 + (i - 0) = i by omega]; rfl
  have hst : stF set (B 9) lim old (p + 1) = (lgF set (B 9) 8 p, asF set 8 p) := by simp only [stF]; rw [if_pos (by omega)]
  refine ⟨fun i q hq => ?_, fun i hi => ?_, fun r hr => ?_, fun i hi hi2 => ?_, ?_, fun i hi => ?_⟩
  · have hR : R32 (mm_up M 46 3 (lgF set (B 9) 8 p)) := R32_up h1 (by omega)
    unfold mm_cpy
    split
    · exact hR _ _ (by simp [mm_isL])
    · exact hR i q hq
  · rw [c i (by omega), mm_up_ne (by omega)]; exact h2 i hi
  · rw [c 49 (by decide), mm_up_ne (by decide)]; exact h3 r hr
  · rw [c 48 (by decide), mm_up_ne (by decide)]; exact h4 i hi hi2
  · rw [c 46 (by decide), mm_up_eq, hst]
  · rw [c47 i hi, hst]; exact h4 i hi (Or.inl hi)
theorem LI_st {B M : mm_M} {set : Nat} {lim : Int} {old : Nat → Int} {b p e e2 : Nat} (h : LI B set lim old b p e M) (he : stF set (B 9) lim old e2 = stF set (B 9) lim old e) : LI B set lim old b p e2 M := by
  unfold LI at *; rw [he]; exact h
theorem c_X5_longestRow {X : Nat × (Nat → Int)} {d : Nat} {Po : mm_Po} {M : mm_M}  (hr : R32 M) (k : Po (some (v_i (max (M 49 0) (max (M 49 1) (M 49 2))))) Lam M) : mm_E X d 0 0 mi_X5_longestRow [v_r 46] Po Lam M := by
  show mm_G X d 0 0 mi_X5_longestRow Po 0 [(0, v_r 46)] [] Lam M 0 0
  have g0 : mm_r32 (M 49 0) := hr _ _ rfl
  have g1 : mm_r32 (M 49 1) := hr _ _ rfl
  have g2 : mm_r32 (M 49 2) := hr _ _ rfl
  refine mm_aload_n (mm_dc od_X5_longestRow_0 0 rfl) rfl ?_
  refine mm_getR (ci := 5) (k := 2) (mm_dc od_X5_longestRow_0 1 rfl) rfl in_X5 (by decide) wd_2_34 rfl rfl ?_
  refine mm_iconst (mm_dc od_X5_longestRow_0 2 rfl) ?_
  refine mm_iald (mm_dc od_X5_longestRow_0 3 rfl) rfl (by first | assumption | omega | exact hr _ _ rfl | exact mm_ti _ | exact mm_r3264 (hr _ _ rfl)) (by first | assumption | omega | exact hr _ _ rfl | exact mm_ti _ | exact mm_r3264 (hr _ _ rfl)) (by decide) ?_
  refine mm_cst (st' := [v_i (M 49 0)]) rfl ?_
  refine mm_aload_n (mm_dc od_X5_longestRow_0 4 rfl) rfl ?_
  refine mm_getR (ci := 5) (k := 2) (mm_dc od_X5_longestRow_0 5 rfl) rfl in_X5 (by decide) wd_2_34 rfl rfl ?_
  refine mm_iconst (mm_dc od_X5_longestRow_0 6 rfl) ?_
  refine mm_iald (mm_dc od_X5_longestRow_0 7 rfl) rfl (by first | assumption | omega | exact hr _ _ rfl | exact mm_ti _ | exact mm_r3264 (hr _ _ rfl)) (by first | assumption | omega | exact hr _ _ rfl | exact mm_ti _ | exact mm_r3264 (hr _ _ rfl)) (by decide) ?_
  refine mm_cst (st' := [v_i (M 49 1), v_i (M 49 0)]) rfl ?_
  refine mm_aload_n (mm_dc od_X5_longestRow_0 8 rfl) rfl ?_
  refine mm_getR (ci := 5) (k := 2) (mm_dc od_X5_longestRow_0 9 rfl) rfl in_X5 (by decide) wd_2_34 rfl rfl ?_
  refine mm_iconst (mm_dc od_X5_longestRow_0 10 rfl) ?_
  refine mm_iald (mm_dc od_X5_longestRow_0 11 rfl) rfl (by first | assumption | omega | exact hr _ _ rfl | exact mm_ti _ | exact mm_r3264 (hr _ _ rfl)) (by first | assumption | omega | exact hr _ _ rfl | exact mm_ti _ | exact mm_r3264 (hr _ _ rfl)) (by decide) ?_
  refine mm_cst (st' := [v_i (M 49 2), v_i (M 49 1), v_i (M 49 0)]) rfl ?_
  refine mm_mmax (mm_dc od_X5_longestRow_0 12 rfl) wd_4_95 wd_3_142 wd_1_14 wd_3_143 (by first | assumption | omega | exact hr _ _ rfl | exact mm_ti _ | exact mm_r3264 (hr _ _ rfl)) (by first | assumption | omega | exact hr _ _ rfl | exact mm_ti _ | exact mm_r3264 (hr _ _ rfl)) (Nat.le_of_ble_eq_true rfl) ?_
  refine mm_mmax (mm_dc od_X5_longestRow_0 13 rfl) wd_4_95 wd_3_142 wd_1_14 wd_3_143 (by first | assumption | omega | exact hr _ _ rfl | exact mm_ti _ | exact mm_r3264 (hr _ _ rfl)) (by first | assumption | omega | exact hr _ _ rfl | exact mm_ti _ | exact mm_r3264 (hr _ _ rfl)) (Nat.le_of_ble_eq_true rfl) ?_
  refine mm_iret (mm_dc od_X5_longestRow_0 14 rfl) rfl ?_
  exact mm_pi (by first | rfl | omega | (split <;> omega) | grind) k
theorem L_lay65 {X : Nat × (Nat → Int)} {d : Nat} {Po : mm_Po} {M : mm_M} {B : mm_M} (set b p : Nat) (lim : Int) (old : Nat → Int) (hset : set < 256) (hl : lnQ B set) (hb : b < 8) (hbt : set.testBit b = true) (ih : ∀ (p2 : Nat) (M2 : mm_M) (Po2 : mm_Po), LI B set lim old (b + 1) p2 (p2 * bsF set (7 - b)) M2 → (∀ N, LI B set lim old (b + 1) p2 ((p2 + 1) * bsF set (7 - b)) N → Po2 none Lam N) → mm_E X d 0 0 mi_X5_lay [v_r 46, v_r 9, v_i (set : Int), v_i ((b : Int) + 1)] Po2 Lam M2) (k : ∀ N, LI B set lim old b p ((3 * p + 2 + 1) * bsF set (7 - b)) N → Po none Lam N) (x : Int) (r : Nat) (hr3 : r ≤ 3) (hL : LI B set lim old b p ((3 * p + r) * bsF set (7 - b)) M) : mm_G X (d + 1) 0 0 mi_X5_lay Po 65 [(0, v_r 46), (1, v_r 9), (2, v_i (set : Int)), (3, v_i (b : Int)), (4, v_i x), (5, v_i (r : Int))] [] Lam M 0 0 := by
  have hr := hL.1
  have e9 : M 9 = B 9 := hL.2.1 9 (by omega)
  have hbl := hl b hbt
  have hbM := rwF_r hl b p r
  have h49 := hL.2.2.1 r
  refine mm_iload (mm_dc od_X5_lay_0 37 rfl) rfl ?_
  refine mm_iconst (mm_dc od_X5_lay_0 38 rfl) ?_
  refine mm_icmp_ge 120 (mm_dc od_X5_lay_0 39 rfl) (by omega) (by first | omega | assumption | exact hr _ _ rfl | (rw [e9, h49 (by omega)]; omega)) (by first | omega | assumption | exact hr _ _ rfl | (rw [e9, h49 (by omega)]; omega)) (fun c1 => ?_) (fun c1 => ?_)
  · refine mm_ret (mm_dc od_X5_lay_1 14 rfl) rfl ?_
    have e : r = 2 + 1 := by omega
    subst e
    exact k _ hL
  · refine mm_aload_n (mm_dc od_X5_lay_0 40 rfl) rfl ?_
    refine mm_getR (ci := 5) (k := 1) (mm_dc od_X5_lay_0 41 rfl) rfl in_X5 (by decide) wd_2_33 rfl rfl ?_
    refine mm_iload_n (mm_dc od_X5_lay_0 42 rfl) rfl ?_
    refine mm_iload (mm_dc od_X5_lay_0 43 rfl) rfl ?_
    refine mm_iast (mm_dc od_X5_lay_0 44 rfl) rfl (by first | omega | assumption | exact hr _ _ rfl | (rw [e9, h49 (by omega)]; omega)) (by first | omega | assumption | exact hr _ _ rfl | (rw [e9, h49 (by omega)]; omega)) (by decide) ?_
    refine mm_eqM (M' := mm_up M 48 b (r : Int)) rfl ?_
    refine mm_aload_n (mm_dc od_X5_lay_0 45 rfl) rfl ?_
    refine mm_getR (ci := 5) (k := 2) (mm_dc od_X5_lay_0 46 rfl) rfl in_X5 (by decide) wd_2_34 rfl rfl ?_
    refine mm_iload (mm_dc od_X5_lay_0 47 rfl) rfl ?_
    refine mm_dup2_ir (mm_dc od_X5_lay_0 48 rfl) ?_
    refine mm_iald (mm_dc od_X5_lay_0 49 rfl) rfl (by first | omega | assumption | exact hr _ _ rfl | (rw [e9, h49 (by omega)]; omega)) (by first | omega | assumption | exact hr _ _ rfl | (rw [e9, h49 (by omega)]; omega)) (by decide) ?_
    refine mm_cst (st' := [v_i (M 49 r), v_i (r : Int), v_r 49]) rfl ?_
    refine mm_aload_n (mm_dc od_X5_lay_0 50 rfl) rfl ?_
    refine mm_iload_n (mm_dc od_X5_lay_0 51 rfl) rfl ?_
    refine mm_iald (mm_dc od_X5_lay_0 52 rfl) rfl (by first | omega | assumption | exact hr _ _ rfl | (rw [e9, h49 (by omega)]; omega)) (by first | omega | assumption | exact hr _ _ rfl | (rw [e9, h49 (by omega)]; omega)) (by decide) ?_
    refine mm_cst (st' := [v_i (M 9 b), v_i (M 49 r), v_i (r : Int), v_r 49]) rfl ?_
    refine mm_iadd (mm_dc od_X5_lay_0 53 rfl) ?_
    refine mm_iast (mm_dc od_X5_lay_0 54 rfl) rfl (by first | omega | assumption | exact hr _ _ rfl | (rw [e9, h49 (by omega)]; omega)) (by first | omega | assumption | exact hr _ _ rfl | (rw [e9, h49 (by omega)]; omega)) (by decide) ?_
    refine mm_eqM (M' := mm_up (mm_up M 48 b (r : Int)) 49 r ((M 49 r) + (M 9 b))) rfl ?_
    refine mm_aload_n (mm_dc od_X5_lay_0 55 rfl) rfl ?_
    refine mm_aload_n (mm_dc od_X5_lay_0 56 rfl) rfl ?_
    refine mm_iload_n (mm_dc od_X5_lay_0 57 rfl) rfl ?_
    refine mm_iload_n (mm_dc od_X5_lay_0 58 rfl) rfl ?_
    refine mm_iconst (mm_dc od_X5_lay_0 59 rfl) ?_
    refine mm_iadd (mm_dc od_X5_lay_1 0 rfl) ?_
    have hd2 := LI_down hl hL hb hbt (show r < 3 by omega)
    refine mm_callS (mi' := mi_X5_lay) [v_r 46, v_r 9, v_i (set : Int), v_i ((b : Int) + 1)] [] (mm_dc od_X5_lay_1 1 rfl) rfl wd_4_88 wd_4_89 wd_1_10 wd_4_90 yk_X5_lay (Nat.le_of_ble_eq_true rfl) rfl (by decide) (ih (3 * p + r) _ _ hd2 (fun N hN => ⟨Nat.le_refl _, ?_⟩))
    have hr := hN.1
    have e49 := hN.2.2.1 r (by omega)
    have e9 : N 9 = B 9 := hN.2.1 9 (by omega)
    have hbN := rwF_r hl (b + 1) (3 * p + r) r
    refine mm_aload_n (mm_dc od_X5_lay_1 2 rfl) rfl ?_
    refine mm_getR (ci := 5) (k := 2) (mm_dc od_X5_lay_1 3 rfl) rfl in_X5 (by decide) wd_2_34 rfl rfl ?_
    refine mm_iload (mm_dc od_X5_lay_1 4 rfl) rfl ?_
    refine mm_dup2_ir (mm_dc od_X5_lay_1 5 rfl) ?_
    refine mm_iald (mm_dc od_X5_lay_1 6 rfl) rfl (by first | omega | assumption | exact hr _ _ rfl | (rw [e9, h49 (by omega)]; omega)) (by first | omega | assumption | exact hr _ _ rfl | (rw [e9, h49 (by omega)]; omega)) (by decide) ?_
    refine mm_cst (st' := [v_i (N 49 r), v_i (r : Int), v_r 49]) rfl ?_
    refine mm_aload_n (mm_dc od_X5_lay_1 7 rfl) rfl ?_
    refine mm_iload_n (mm_dc od_X5_lay_1 8 rfl) rfl ?_
    refine mm_iald (mm_dc od_X5_lay_1 9 rfl) rfl (by first | omega | assumption | exact hr _ _ rfl | (rw [e9, h49 (by omega)]; omega)) (by first | omega | assumption | exact hr _ _ rfl | (rw [e9, h49 (by omega)]; omega)) (by decide) ?_
    refine mm_cst (st' := [v_i (N 9 b), v_i (N 49 r), v_i (r : Int), v_r 49]) rfl ?_
    refine mm_isub (mm_dc od_X5_lay_1 10 rfl) ?_
    refine mm_iast (mm_dc od_X5_lay_1 11 rfl) rfl (by first | omega | assumption | exact hr _ _ rfl | (rw [e9, h49 (by omega)]; omega)) (by first | omega | assumption | exact hr _ _ rfl | (rw [e9, h49 (by omega)]; omega)) (by decide) ?_
    refine mm_eqM (M' := mm_up N 49 r ((N 49 r) - (N 9 b))) rfl ?_
    refine mm_iinc (L' := [(0, v_r 46), (1, v_r 9), (2, v_i (set : Int)), (3, v_i (b : Int)), (4, v_i x), (5, v_i ((r : Int) + 1))]) (mm_dc od_X5_lay_1 12 rfl) rfl (by decide) rfl ?_
    refine mm_goto 65 (mm_dc od_X5_lay_1 13 rfl) (by omega) ?_
    exact L_lay65 set b p lim old hset hl hb hbt ih k x (r + 1) (by omega) (LI_up hl hN hb hbt (by omega))
termination_by 3 - r
decreasing_by all_goals (first | omega | (simp_wf; omega))
theorem L_lay0 {X : Nat × (Nat → Int)} {d : Nat} {Po : mm_Po} {M : mm_M} {B : mm_M} (set b p : Nat) (lim : Int) (old : Nat → Int) (hset : set < 256) (hl : lnQ B set) (hb : b ≤ 8) (ih : b < 8 → ∀ (p2 : Nat) (M2 : mm_M) (Po2 : mm_Po), LI B set lim old (b + 1) p2 (p2 * bsF set (7 - b)) M2 → (∀ N, LI B set lim old (b + 1) p2 ((p2 + 1) * bsF set (7 - b)) N → Po2 none Lam N) → mm_E X d 0 0 mi_X5_lay [v_r 46, v_r 9, v_i (set : Int), v_i ((b : Int) + 1)] Po2 Lam M2) (k : ∀ N, LI B set lim old b p ((p + 1) * bsF set (8 - b)) N → Po none Lam N) (hL : LI B set lim old b p (p * bsF set (8 - b)) M) : mm_G X (d + 1) 0 0 mi_X5_lay Po 0 [(0, v_r 46), (1, v_r 9), (2, v_i (set : Int)), (3, v_i (b : Int))] [] Lam M 0 0 := by
  have hr := hL.1
  have g0 : mm_r32 (M 49 0) := hr _ _ rfl
  have g1 : mm_r32 (M 49 1) := hr _ _ rfl
  have g2 : mm_r32 (M 49 2) := hr _ _ rfl
  refine mm_aload_n (mm_dc od_X5_lay_0 0 rfl) rfl ?_
  refine mm_callV (b := 46) (mi' := mi_X5_longestRow) [] [] (mm_dc od_X5_lay_0 1 rfl) rfl wd_4_91 wd_4_93 wd_p_20 wd_1_10 wd_4_94 yk_X5_longestRow rfl rfl rfl (Nat.le_of_ble_eq_true rfl) rfl (by decide) (c_X5_longestRow  (by first | omega | assumption | exact hr _ _ rfl) ⟨Nat.le_refl _, ?_⟩)
  refine mm_istore (L' := [(0, v_r 46), (1, v_r 9), (2, v_i (set : Int)), (3, v_i (b : Int)), (4, v_i (max (M 49 0) (max (M 49 1) (M 49 2))))]) (mm_dc od_X5_lay_0 2 rfl) (by decide) rfl ?_
  refine mm_iload (mm_dc od_X5_lay_0 3 rfl) rfl ?_
  refine mm_aload_n (mm_dc od_X5_lay_0 4 rfl) rfl ?_
  refine mm_getI (ci := 5) (k := 3) (mm_dc od_X5_lay_0 5 rfl) rfl in_X5 (by decide) wd_2_35 rfl rfl ?_
  refine mm_icmp_lt 16 (mm_dc od_X5_lay_0 6 rfl) (by omega) (by first | omega | assumption | exact hr _ _ rfl) (by first | omega | assumption | exact hr _ _ rfl) (fun c1 => ?_) (fun c1 => ?_)
  · refine mm_iload_n (mm_dc od_X5_lay_0 8 rfl) rfl ?_
    refine mm_bipush (mm_dc od_X5_lay_0 9 rfl) (by decide) ?_
    refine mm_icmp_lt 44 (mm_dc od_X5_lay_0 10 rfl) (by omega) (by first | omega | assumption | exact hr _ _ rfl) (by first | omega | assumption | exact hr _ _ rfl) (fun c2 => ?_) (fun c2 => ?_)
    · refine mm_iload_n (mm_dc od_X5_lay_0 23 rfl) rfl ?_
      refine mm_iload_n (mm_dc od_X5_lay_0 24 rfl) rfl ?_
      refine mm_callN (mi' := mi_X9_has) [v_i (set : Int), v_i (b : Int)] [] (mm_dc od_X5_lay_0 25 rfl) rfl (List.mem_of_getElem? (i := 12) rfl) wd_2_171 wd_1_1 wd_2_172 yk_X9_has (Nat.le_of_ble_eq_true rfl) rfl (by decide) (c_X9_has (set : Int) (b : Int) (by first | omega | assumption | exact hr _ _ rfl) (by first | omega | assumption | exact hr _ _ rfl) (fun c3 => ⟨Nat.le_refl _, ?_⟩) (fun c3 => ⟨Nat.le_refl _, ?_⟩))
      · simp only [Int.toNat_natCast] at c3
        refine mm_if_ne 62 (mm_dc od_X5_lay_0 26 rfl) (by omega) (by first | omega | assumption | exact hr _ _ rfl) (fun _ => ?_) (fun h => absurd h (by decide))
        refine mm_iconst (mm_dc od_X5_lay_0 35 rfl) ?_
        refine mm_istore (L' := [(0, v_r 46), (1, v_r 9), (2, v_i (set : Int)), (3, v_i (b : Int)), (4, v_i (max (M 49 0) (max (M 49 1) (M 49 2)))), (5, v_i 0)]) (mm_dc od_X5_lay_0 36 rfl) (by decide) rfl ?_
        have hbt : set.testBit b = true := by simpa only [Int.toNat_natCast] using c3
        have e78 : bsF set (8 - b) = 3 * bsF set (7 - b) := by rw [show 8 - b = (7 - b) + 1 by omega]; simp only [bsF]; rw [show 7 - (7 - b) = b by omega, if_pos hbt]
        have e0 : p * (3 * bsF set (7 - b)) = (3 * p + 0) * bsF set (7 - b) := by rw [Nat.add_zero, ← Nat.mul_assoc, Nat.mul_comm p 3]
        have e3 : (p + 1) * (3 * bsF set (7 - b)) = (3 * p + 2 + 1) * bsF set (7 - b) := by rw [← Nat.mul_assoc, show (p + 1) * 3 = 3 * p + 2 + 1 by omega]
        rw [e78, e0] at hL
        rw [e78, e3] at k
        exact L_lay65 set b p lim old hset hl (by omega) hbt (ih (by omega)) k _ 0 (by omega) hL
      · simp only [Int.toNat_natCast] at c3
        refine mm_if_ne 62 (mm_dc od_X5_lay_0 26 rfl) (by omega) (by first | omega | assumption | exact hr _ _ rfl) (fun h => absurd h (by decide)) (fun _ => ?_)
        refine mm_aload_n (mm_dc od_X5_lay_0 27 rfl) rfl ?_
        refine mm_aload_n (mm_dc od_X5_lay_0 28 rfl) rfl ?_
        refine mm_iload_n (mm_dc od_X5_lay_0 29 rfl) rfl ?_
        refine mm_iload_n (mm_dc od_X5_lay_0 30 rfl) rfl ?_
        refine mm_iconst (mm_dc od_X5_lay_0 31 rfl) ?_
        refine mm_iadd (mm_dc od_X5_lay_0 32 rfl) ?_
        have hnb : ¬ set.testBit b = true := by simpa only [Int.toNat_natCast] using c3
        have e78 : bsF set (8 - b) = bsF set (7 - b) := by rw [show 8 - b = (7 - b) + 1 by omega]; simp only [bsF]; rw [show 7 - (7 - b) = b by omega, if_neg hnb]
        rw [e78] at hL k
        refine mm_callS (mi' := mi_X5_lay) [v_r 46, v_r 9, v_i (set : Int), v_i ((b : Int) + 1)] [] (mm_dc od_X5_lay_0 33 rfl) rfl wd_4_88 wd_4_89 wd_1_10 wd_4_90 yk_X5_lay (Nat.le_of_ble_eq_true rfl) rfl (by decide) (ih (by omega) p _ _ ((LI_skip hnb).mp hL) (fun N hN => ⟨Nat.le_refl _, ?_⟩))
        have hN2 := (LI_skip hnb).mpr hN
        refine mm_ret (mm_dc od_X5_lay_0 34 rfl) rfl ?_
        exact k _ hN2
    · refine mm_aload_n (mm_dc od_X5_lay_0 11 rfl) rfl ?_
      refine mm_iload (mm_dc od_X5_lay_0 12 rfl) rfl ?_
      refine mm_putI (ci := 5) (k := 3) (mm_dc od_X5_lay_0 13 rfl) rfl in_X5 tyX5_ok nmX5 (by decide) wd_2_35 rfl rfl rfl rfl ?_
      refine mm_aload_n (mm_dc od_X5_lay_0 14 rfl) rfl ?_
      refine mm_getR (ci := 5) (k := 1) (mm_dc od_X5_lay_0 15 rfl) rfl in_X5 (by decide) wd_2_33 rfl rfl ?_
      refine mm_iconst (mm_dc od_X5_lay_0 16 rfl) ?_
      refine mm_aload_n (mm_dc od_X5_lay_0 17 rfl) rfl ?_
      refine mm_getR (ci := 5) (k := 0) (mm_dc od_X5_lay_0 18 rfl) rfl in_X5 (by decide) wd_2_31 rfl rfl ?_
      refine mm_iconst (mm_dc od_X5_lay_0 19 rfl) ?_
      refine mm_bipush (mm_dc od_X5_lay_0 20 rfl) (by decide) ?_
      refine mm_cp (mm_dc od_X5_lay_0 21 rfl) wd_4_96 wd_3_25 wd_3_24 wd_1_15 (Nat.le_of_ble_eq_true rfl) rfl rfl (by first | omega | assumption | exact hr _ _ rfl) (by first | omega | assumption | exact hr _ _ rfl) (by first | omega | assumption | exact hr _ _ rfl) (by first | omega | assumption | exact hr _ _ rfl) (by first | omega | assumption | exact hr _ _ rfl) (by decide) (by decide) ?_
      refine mm_ret (mm_dc od_X5_lay_0 22 rfl) rfl ?_
      have e8 : b = 8 := by omega
      subst e8
      have hlo : lgF set (B 9) 8 p = max (M 49 0) (max (M 49 1) (M 49 2)) := by unfold lgF; rw [hL.2.2.1 0 (by decide), hL.2.2.1 1 (by decide), hL.2.2.1 2 (by decide)]
      have e1 : ∀ q, q * bsF set (8 - 8) = q := fun q => by simp [bsF]
      rw [e1] at *
      exact k _ (LI_leaf hl hL hlo.symm (by omega))
  · refine mm_ret (mm_dc od_X5_lay_0 7 rfl) rfl ?_
    have hlo : lgF set (B 9) b p = max (M 49 0) (max (M 49 1) (M 49 2)) := by unfold lgF; rw [hL.2.2.1 0 (by decide), hL.2.2.1 1 (by decide), hL.2.2.1 2 (by decide)]
    exact k _ (LI_st hL (st_prune hl (8 - b) b (by omega) p (by rw [hlo, ← hL.2.2.2.2.1]; omega)))
theorem c_X5_lay {X : Nat × (Nat → Int)} {B : mm_M} (set : Nat) (lim : Int) (old : Nat → Int) (hset : set < 256) (hl : lnQ B set) : ∀ (k b : Nat), b + k = 8 → ∀ (d p : Nat) (M : mm_M) (Po : mm_Po), LI B set lim old b p (p * bsF set k) M → (∀ N, LI B set lim old b p ((p + 1) * bsF set k) N → Po none Lam N) → mm_E X (d + k + 1) 0 0 mi_X5_lay [v_r 46, v_r 9, v_i (set : Int), v_i (b : Int)] Po Lam M := by
  intro k
  induction k with
  | zero =>
    intro b hb d p M Po hL hk
    have e : b = 8 := by omega
    subst e
    exact L_lay0 set 8 p lim old hset hl (by omega) (fun q => absurd q (by omega)) hk hL
  | succ k ih =>
    intro b hb d p M Po hL hk
    have e : k + 1 = 8 - b := by omega
    have e2 : k = 7 - b := by omega
    rw [e] at hL hk
    show mm_E X (d + k + 1 + 1) 0 0 mi_X5_lay [v_r 46, v_r 9, v_i (set : Int), v_i (b : Int)] Po Lam M
    refine L_lay0 set b p lim old hset hl (by omega) (fun q p2 M2 Po2 h1 h2 => ?_) hk hL
    rw [← e2] at h1 h2
    exact ih (b + 1) (by omega) d p2 M2 Po2 h1 h2
