/-! determinants over sets of columns -/
def cnN (T : Nat) : Nat → Nat
  | 0 => 0
  | n + 1 => cnN T n + (if T.testBit n then 1 else 0)
def sF (T l : Nat) : Nat → Nat
  | 0 => 0
  | n + 1 => if T.testBit n && Nat.beq (cnN T n) l then n else sF T l n
def elN (T l : Nat) : Nat := sF T l 7
def sgT (T j : Nat) : Int := sg (cnN (T / 2 ^ (j + 1)) 7)
def dm (B : Nat → Nat → Int) : Nat → Nat → Int
  | 0, _ => 1
  | i + 1, T => sumI (fun j => if T.testBit j then sgT T j * (B j i * dm B i (T - 2 ^ j)) else 0) 7
def sgC (a b : Nat) : Bool := Nat.beq (a % 2) (b % 2)
theorem sg_two : ∀ a : Nat, sg (a + 2) = sg a := fun a => by simp [sg]
theorem sg_mod : ∀ a : Nat, sg a = sg (a % 2)
  | 0 => rfl
  | 1 => rfl
  | a + 2 => by rw [sg_two, sg_mod a, show (a + 2) % 2 = a % 2 by omega]
def chk1 (T : Nat) : Bool := allB (fun n => !T.testBit n || Nat.beq (elN T (cnN T n)) n) 7
def chk2 (T : Nat) : Bool := allB (fun l => !Nat.blt l (cnN T 7) || (T.testBit (elN T l) && Nat.blt (elN T l) 7 && Nat.beq (cnN (T - 2 ^ elN T l) 7 + 1) (cnN T 7) && sgC (cnN (T / 2 ^ (elN T l + 1)) 7) (cnN T 7 - 1 - l) && allB (fun t => !Nat.blt (t + 1) (cnN T 7) || Nat.beq (elN (T - 2 ^ elN T l) t) (elN T (sk l t))) 7)) 7
def chk3 (T : Nat) : Bool := allB (fun j => allB (fun q => !T.testBit j || Nat.beq j q || (T - 2 ^ j).testBit q == T.testBit q) 7 && (!T.testBit j || !(T - 2 ^ j).testBit j)) 7
theorem chk_1 : allB chk1 128 = true := by decide +kernel
theorem chk_2 : allB chk2 128 = true := by decide +kernel
theorem chk_3 : allB chk3 128 = true := by decide +kernel
theorem el_cn {T n : Nat} (hT : T < 128) (hn : n < 7) (h : T.testBit n = true) : elN T (cnN T n) = n := by
  have h1 := allB_all 7 (allB_all 128 chk_1 T hT) n hn
  rw [h] at h1
  exact Nat.eq_of_beq_eq_true (by simpa using h1)
theorem el_all {T l : Nat} (hT : T < 128) (hl : l < 7) (h : l < cnN T 7) : T.testBit (elN T l) = true ∧ elN T l < 7 ∧ cnN (T - 2 ^ elN T l) 7 + 1 = cnN T 7 ∧ sgT T (elN T l) = sg (cnN T 7 - 1 - l) ∧ ∀ t, t < 7 → t + 1 < cnN T 7 → elN (T - 2 ^ elN T l) t = elN T (sk l t) := by
  have h1 := allB_all 7 (allB_all 128 chk_2 T hT) l hl
  have hb : Nat.blt l (cnN T 7) = true := by rw [Nat.blt_eq]; exact h
  rw [hb] at h1
  simp only [Bool.not_true, Bool.false_or, Bool.and_eq_true] at h1
  obtain ⟨⟨⟨⟨h2, h3⟩, h4⟩, h5⟩, h6⟩ := h1
  refine ⟨h2, by rw [Nat.blt_eq] at h3; exact h3, Nat.eq_of_beq_eq_true h4, ?_, fun t ht ht2 => ?_⟩
  · unfold sgT
    rw [sg_mod (cnN (T / 2 ^ (elN T l + 1)) 7), sg_mod (cnN T 7 - 1 - l), Nat.eq_of_beq_eq_true h5]
  · have h7 := allB_all 7 h6 t ht
    have hb2 : Nat.blt (t + 1) (cnN T 7) = true := by rw [Nat.blt_eq]; exact ht2
    rw [hb2] at h7
    exact Nat.eq_of_beq_eq_true (by simpa using h7)
theorem cn_le (T : Nat) : ∀ n : Nat, cnN T n ≤ n
  | 0 => Nat.le_refl _
  | n + 1 => by
    have := cn_le T n
    simp only [cnN]
    split <;> omega
theorem sum_el {T : Nat} (hT : T < 128) (f : Nat → Int) : ∀ n : Nat, n ≤ 7 → sumI (fun j => if T.testBit j then f j else 0) n = sumI (fun l => f (elN T l)) (cnN T n)
  | 0, _ => rfl
  | n + 1, hn => by
    have ih := sum_el hT f n (by omega)
    simp only [sumI, cnN]
    rw [ih]
    by_cases e : T.testBit n = true
    · rw [if_pos e, if_pos e]
      simp only [sumI]
      rw [el_cn hT (by omega) e]
    · rw [if_neg e, if_neg e]; simp
theorem dm_dt (B : Nat → Nat → Int) : ∀ (i T : Nat), T < 128 → cnN T 7 = i → dm B i T = dt i (fun t => B (elN T t))
  | 0, _, _, _ => rfl
  | i + 1, T, hT, hc => by
    have hi : i + 1 ≤ 7 := by have := cn_le T 7; omega
    rw [dm, sum_el hT (fun j => sgT T j * (B j i * dm B i (T - 2 ^ j))) 7 (Nat.le_refl _), hc, dt_last]
    refine sz_cong (i + 1) (fun l hl => ?_)
    obtain ⟨h1, h2, h3, h4, h5⟩ := el_all hT (show l < 7 by omega) (by omega)
    have ih := dm_dt B i (T - 2 ^ elN T l) (Nat.lt_of_le_of_lt (Nat.sub_le _ _) hT) (by omega)
    show sgT T (elN T l) * (B (elN T l) i * dm B i (T - 2 ^ elN T l)) = sg (i - l) * (B (elN T l) i * dt i (fun t => B (elN T (sk l t))))
    rw [ih, h4, hc, show i + 1 - 1 - l = i - l by omega]
    congr 2
    refine dt_cong i (fun c hc2 => ?_)
    rw [h5 c (by omega) (by omega)]
def fullQ (n : Nat) : Bool := Nat.beq (cnN (2 ^ n - 1) 7) n && allB (fun l => !Nat.blt l n || Nat.beq (elN (2 ^ n - 1) l) l) 7
theorem full_q : allB fullQ 7 = true := by decide +kernel
theorem dm_full (B : Nat → Nat → Int) {n : Nat} (hn : n ≤ 6) : dm B n (2 ^ n - 1) = dt n B := by
  have h := allB_all 7 full_q n (by omega)
  simp only [fullQ, Bool.and_eq_true] at h
  have hp : 2 ^ n ≤ 2 ^ 6 := Nat.pow_le_pow_right (by decide) hn
  rw [dm_dt B n (2 ^ n - 1) (by omega) (Nat.eq_of_beq_eq_true h.1)]
  refine dt_cong n (fun c hc => ?_)
  have h2 := allB_all 7 h.2 c (by omega)
  have hb : Nat.blt c n = true := by rw [Nat.blt_eq]; exact hc
  rw [hb] at h2
  rw [Nat.eq_of_beq_eq_true (show Nat.beq (elN (2 ^ n - 1) c) c = true by simpa using h2)]
/-! how large they are -/
def ab (x : Int) : Int := max x (-x)
theorem ab_mul (x y : Int) : ab (x * y) = ab x * ab y := by
  have e : ∀ z : Int, ab z = (z.natAbs : Int) := fun z => by unfold ab; omega
  rw [e, e, e, Int.natAbs_mul, Int.natCast_mul]
theorem ab_nn (x : Int) : 0 ≤ ab x := by unfold ab; omega
theorem ab_add (x y : Int) : ab (x + y) ≤ ab x + ab y := by unfold ab; omega
theorem ab_sum {f g : Nat → Int} : ∀ n : Nat, (∀ i, i < n → ab (f i) ≤ g i) → ab (sumI f n) ≤ sumI g n
  | 0, _ => by simp [sumI, ab]
  | n + 1, h => by
    have h1 := ab_sum n (fun i hi => h i (by omega))
    have h2 := h n (by omega)
    have h3 := ab_add (sumI f n) (f n)
    simp only [sumI]
    omega
theorem sg_ab : ∀ j : Nat, ab (sg j) = 1
  | 0 => rfl
  | j + 1 => by
    have h := sg_ab j
    unfold ab at *
    simp only [sg]; omega
def prA (a : Nat → Int) : Nat → Int
  | 0 => 1
  | k + 1 => prA a k * a k
theorem prA_nn {a : Nat → Int} (ha : ∀ i, 0 ≤ a i) : ∀ k : Nat, 0 ≤ prA a k
  | 0 => by simp [prA]
  | k + 1 => Int.mul_nonneg (prA_nn ha k) (ha k)
def bdN (q : Bool) (i : Nat) : Int := if q then 999 * ((i : Int) + 1) * 2 ^ i else 2 ^ i
theorem pw_nn : ∀ i : Nat, (0 : Int) < 2 ^ i
  | 0 => by decide
  | i + 1 => by have := pw_nn i; rw [Int.pow_succ]; omega
theorem bdN_nn (q : Bool) (i : Nat) : 0 ≤ bdN q i := by
  have := pw_nn i
  unfold bdN
  split
  · exact Int.mul_nonneg (by omega) (by omega)
  · omega
theorem dm_bd {B : Nat → Nat → Int} {a : Nat → Int} {q : Nat} (hq : q < 7) (ha : ∀ i, 0 ≤ a i) (h1 : ∀ r, r < 6 → sumI (fun c => if c = q then 0 else ab (B c r)) 7 ≤ 2 * a r) (h2 : ∀ r, r < 6 → ab (B q r) ≤ 999 * a r) : ∀ (i T : Nat), i ≤ 6 → T < 128 → ab (dm B i T) ≤ bdN (T.testBit q) i * prA a i
  | 0, T, _, _ => by
    show ab 1 ≤ _
    simp only [prA, bdN]
    split <;> decide
  | i + 1, T, hi, hT => by
    have hp := pw_nn i
    have hpr := prA_nn ha i
    have hai := ha i
    have c3 := allB_all 128 chk_3 T hT
    have hX : 0 ≤ bdN (T.testBit q) i * prA a i := Int.mul_nonneg (bdN_nn _ _) hpr
    have key : ∀ j, j < 7 → ab ((if T.testBit j then sgT T j * (B j i * dm B i (T - 2 ^ j)) else 0)) ≤ (if j = q then 0 else ab (B j i)) * (bdN (T.testBit q) i * prA a i) + (if j = q then (if T.testBit q = true then 999 * a i * (2 ^ i * prA a i) else 0) else 0) := by
      intro j hj
      have c4 := allB_all 7 c3 j hj
      rw [Bool.and_eq_true] at c4
      by_cases e : T.testBit j = true
      · rw [if_pos e]
        have ih := dm_bd hq ha h1 h2 i (T - 2 ^ j) (by omega) (Nat.lt_of_le_of_lt (Nat.sub_le _ _) hT)
        rw [ab_mul, ab_mul]
        have es : ab (sgT T j) = 1 := sg_ab _
        rw [es, Int.one_mul]
        by_cases ej : j = q
        · subst ej
          have hz : (T - 2 ^ j).testBit j = false := by
            have h := c4.2
            rw [e] at h
            simpa using h
          rw [hz] at ih
          rw [if_pos rfl, if_pos rfl, if_pos e, Int.zero_mul, Int.zero_add]
          have h3 := h2 i (by omega)
          have ih2 : ab (dm B i (T - 2 ^ j)) ≤ 2 ^ i * prA a i := by simpa [bdN] using ih
          exact Int.mul_le_mul h3 ih2 (ab_nn _) (by omega)
        · have hk : (T - 2 ^ j).testBit q = T.testBit q := by
            have h := allB_all 7 c4.1 q hq
            rw [e] at h
            have hne : Nat.beq j q = false := by
              rw [← Bool.not_eq_true]
              intro x
              exact ej (Nat.eq_of_beq_eq_true x)
            rw [hne] at h
            simpa using h
          rw [hk] at ih
          rw [if_neg ej, if_neg ej, Int.add_zero]
          exact Int.mul_le_mul (Int.le_refl _) ih (ab_nn _) (ab_nn _)
      · rw [if_neg e]
        have z : ab 0 = 0 := rfl
        rw [z]
        have n1 : 0 ≤ (if j = q then 0 else ab (B j i)) * (bdN (T.testBit q) i * prA a i) := by
          refine Int.mul_nonneg ?_ hX
          split
          · exact Int.le_refl _
          · exact ab_nn _
        have n2 : 0 ≤ (if j = q then (if T.testBit q = true then 999 * a i * (2 ^ i * prA a i) else 0) else 0) := by
          split
          · split
            · exact Int.mul_nonneg (by omega) (Int.mul_nonneg (by omega) hpr)
            · exact Int.le_refl _
          · exact Int.le_refl _
        omega
    have s := ab_sum 7 key
    rw [sz_add, sz_mulr, sz_one (p := q) 7 hq (fun j _ hj => if_neg hj), if_pos rfl] at s
    have h3 := Int.mul_le_mul_of_nonneg_right (h1 i (by omega)) hX
    have s2 : ab (dm B (i + 1) T) ≤ 2 * a i * (bdN (T.testBit q) i * prA a i) + (if T.testBit q = true then 999 * a i * (2 ^ i * prA a i) else 0) := Int.le_trans s (by omega)
    refine Int.le_trans s2 ?_
    have hY : 0 ≤ a i * (2 ^ i * prA a i) := Int.mul_nonneg hai (Int.mul_nonneg (by omega) hpr)
    simp only [prA, bdN]
    by_cases e : T.testBit q = true
    · rw [e]
      simp only [if_true]
      have r1 : 2 * a i * (999 * ((i : Int) + 1) * 2 ^ i * prA a i) + 999 * a i * (2 ^ i * prA a i) = (a i * (2 ^ i * prA a i)) * (1998 * (i : Int) + 2997) := by grind
      have r2 : 999 * (((i + 1 : Nat) : Int) + 1) * 2 ^ (i + 1) * (prA a i * a i) = (a i * (2 ^ i * prA a i)) * (1998 * (i : Int) + 3996) := by
        rw [Int.pow_succ]
        have : ((i + 1 : Nat) : Int) = (i : Int) + 1 := by omega
        rw [this]; grind
      rw [r1, r2]
      exact Int.mul_le_mul_of_nonneg_left (by omega) hY
    · rw [show T.testBit q = false by simpa using e]
      simp only [Bool.false_eq_true, if_false]
      rw [Int.pow_succ]
      have r1 : 2 * a i * (2 ^ i * prA a i) + 0 = 2 ^ i * 2 * (prA a i * a i) := by grind
      rw [r1]
      exact Int.le_refl _
/-! products of numbers with a bounded sum -/
def amC (m : Nat) : Bool := allB (fun a => allB (fun t => Nat.ble ((m + 1) ^ (m + 1) * a * t ^ m) (m ^ m * (a + t) ^ (m + 1))) 81) 81
theorem am_c : allB amC 6 = true := by decide +kernel
theorem am_step {m : Nat} (hm : m < 6) {a t : Nat} (ha : a ≤ 80) (ht : t ≤ 80) : (m + 1) ^ (m + 1) * a * t ^ m ≤ m ^ m * (a + t) ^ (m + 1) :=
  Nat.le_of_ble_eq_true (allB_all 81 (allB_all 81 (allB_all 6 am_c m hm) a (by omega)) t (by omega))
theorem am_one {m : Nat} (hm : m < 6) {p a t : Nat} (ha : a ≤ 80) (ht : t ≤ 80) (h : m ^ m * p ≤ t ^ m) : (m + 1) ^ (m + 1) * (p * a) ≤ (a + t) ^ (m + 1) := by
  have h1 := am_step hm ha ht
  have hpos : 0 < m ^ m := by
    rcases (show m = 0 ∨ 0 < m by omega) with e | e
    · subst e; decide
    · exact Nat.pow_pos e
  refine Nat.le_of_mul_le_mul_left ?_ hpos
  refine Nat.le_trans ?_ h1
  have h2 : (m + 1) ^ (m + 1) * a * (m ^ m * p) ≤ (m + 1) ^ (m + 1) * a * t ^ m := Nat.mul_le_mul_left _ h
  refine Nat.le_trans (Nat.le_of_eq ?_) h2
  grind
def prN (a : Nat → Int) : Nat → Nat
  | 0 => 1
  | k + 1 => prN a k * (a k).toNat
theorem prN_A {a : Nat → Int} (ha : ∀ i, 0 ≤ a i) : ∀ k : Nat, prA a k = (prN a k : Int)
  | 0 => rfl
  | k + 1 => by
    simp only [prA, prN]
    rw [prN_A ha k, Int.natCast_mul, Int.toNat_of_nonneg (ha k)]
theorem sz_mono {a : Nat → Int} (ha : ∀ i, 0 ≤ a i) {k : Nat} : ∀ n : Nat, k ≤ n → sumI a k ≤ sumI a n
  | 0, h => by rw [show k = 0 by omega]; exact Int.le_refl _
  | n + 1, h => by
    by_cases e : k = n + 1
    · rw [e]; exact Int.le_refl _
    · have h1 := sz_mono ha n (show k ≤ n by omega)
      have h2 := ha n
      simp only [sumI]; omega
theorem pr_am {a : Nat → Int} (ha : ∀ i, 0 ≤ a i) : ∀ k : Nat, k ≤ 6 → sumI a k ≤ 80 → k ^ k * prN a k ≤ (sumI a k).toNat ^ k
  | 0, _, _ => by simp [prN]
  | k + 1, hk, hs => by
    have h0 := sumI_nn k (fun i _ => ha i)
    have h1 := ha k
    simp only [sumI] at hs
    have ih := pr_am ha k (by omega) (by omega)
    have h := am_one (m := k) (by omega) (a := (a k).toNat) (t := (sumI a k).toNat) (by omega) (by omega) ih
    simp only [prN, sumI]
    rw [show (sumI a k + a k).toNat = (a k).toNat + (sumI a k).toNat by omega]
    exact h
def amD (k : Nat) : Bool := Nat.ble (80 ^ k) (k ^ k * (if Nat.ble k 5 then 1048576 else 5618656))
theorem am_d : allB amD 7 = true := by decide +kernel
theorem pr_le {k p t : Nat} (hk : k ≤ 6) (ht : t ≤ 80) (h : k ^ k * p ≤ t ^ k) : p ≤ 5618656 ∧ (k ≤ 5 → p ≤ 1048576) := by
  have h1 := Nat.le_of_ble_eq_true (allB_all 7 am_d k (by omega))
  have h2 : t ^ k ≤ 80 ^ k := Nat.pow_le_pow_left ht k
  have hpos : 0 < k ^ k := by
    rcases (show k = 0 ∨ 0 < k by omega) with e | e
    · subst e; decide
    · exact Nat.pow_pos e
  have h3 : p ≤ (if Nat.ble k 5 then 1048576 else 5618656) := Nat.le_of_mul_le_mul_left (Nat.le_trans h (Nat.le_trans h2 h1)) hpos
  split at h3
  · omega
  · next e =>
    refine ⟨h3, fun q => absurd ?_ e⟩
    rw [Nat.ble_eq]; exact q
theorem prA_le {a : Nat → Int} (ha : ∀ i, 0 ≤ a i) {k : Nat} (hk : k ≤ 6) (hs : sumI a k ≤ 80) : prA a k ≤ 5618656 ∧ (k ≤ 5 → prA a k ≤ 1048576) := by
  have h := pr_le hk (by omega) (pr_am ha k hk hs)
  rw [prN_A ha]
  omega
theorem sum_two_le {a : Nat → Int} (ha : ∀ i, 0 ≤ a i) {k i : Nat} (hi : k ≤ i) : ∀ n : Nat, i < n → sumI a k + a i ≤ sumI a n
  | 0, h => by omega
  | n + 1, h => by
    simp only [sumI]
    by_cases e : i = n
    · subst e
      have := sz_mono ha i hi
      omega
    · have h1 := sum_two_le ha hi n (by omega)
      have h2 := ha n
      omega
theorem prA_le2 {a : Nat → Int} (ha : ∀ i, 0 ≤ a i) {k i n : Nat} (hk : k ≤ i) (hi : i < n) (hn : n ≤ 6) (hs : sumI a n ≤ 80) : prA a k * a i ≤ 5618656 := by
  have h0 := sumI_nn k (fun i _ => ha i)
  have h1 := ha i
  have h2 := sum_two_le ha hk n hi
  have h3 := pr_am ha k (by omega) (by omega)
  have h4 := am_one (m := k) (by omega) (a := (a i).toNat) (t := (sumI a k).toNat) (by omega) (by omega) h3
  have h5 := (pr_le (k := k + 1) (by omega) (by omega) h4).1
  rw [prN_A ha, show a i = (((a i).toNat : Nat) : Int) by omega, ← Int.natCast_mul]
  omega
