/-! the elimination without fractions -/
def cc (A : Nat → Nat → Int) (k i j : Nat) : Int := if i < k then dt k (rc A i (A j)) else dt k A * A j i - sumI (fun l => A l i * dt k (rc A l (A j))) k
theorem cc_sum (A : Nat → Nat → Int) (k i j : Nat) : sumI (fun l => A l i * cc A k l j) k = sumI (fun l => A l i * dt k (rc A l (A j))) k :=
  sz_cong k (fun l hl => by unfold cc; rw [if_pos hl])
theorem cc_lt {A : Nat → Nat → Int} {k i : Nat} (j : Nat) (h : i < k) : sumI (fun l => A l i * cc A k l j) k = dt k A * A j i := by
  rw [cc_sum]; exact dt_cr k A (A j) i h
theorem cc_ge {A : Nat → Nat → Int} {k i : Nat} (j : Nat) (h : ¬ i < k) : sumI (fun l => A l i * cc A k l j) k + cc A k i j = dt k A * A j i := by
  rw [cc_sum]
  unfold cc
  rw [if_neg h]
  omega
theorem cc_kk (A : Nat → Nat → Int) (k : Nat) : cc A k k k = dt (k + 1) A := by
  unfold cc
  rw [if_neg (Nat.lt_irrefl k)]
  rfl
theorem cc_row (A : Nat → Nat → Int) (k j : Nat) : cc A (k + 1) k j = cc A k k j := by
  unfold cc
  rw [if_pos (Nat.lt_succ_self k), if_neg (Nat.lt_irrefl k), dt_end]
theorem cc_zero (A : Nat → Nat → Int) (i j : Nat) : cc A 0 i j = A j i := by
  unfold cc
  rw [if_neg (Nat.not_lt_zero i)]
  simp [dt, sumI]
def qf (A : Nat → Nat → Int) (k : Nat) (z : Nat → Int) : Int := sumI (fun i => z i * sumI (fun c => A c i * z c) k) k
def PD (A : Nat → Nat → Int) (n : Nat) : Prop := ∀ k, k ≤ n → ∀ z, 0 ≤ qf A k z ∧ (qf A k z = 0 → ∀ l, l < k → z l = 0)
theorem pd_inj {A : Nat → Nat → Int} {n k : Nat} (h : PD A n) (hk : k ≤ n) {z : Nat → Int} (hz : ∀ i, i < k → sumI (fun c => A c i * z c) k = 0) : ∀ l, l < k → z l = 0 := by
  refine (h k hk z).2 ?_
  unfold qf
  refine sz_zero k (fun i hi => ?_)
  rw [hz i hi, Int.mul_zero]
theorem sq_pos {a b : Int} (ha : 0 < a) (h : 0 < a * b) : 0 < b := by
  rcases Int.lt_or_le 0 b with q | q
  · exact q
  · have := Int.mul_le_mul_of_nonneg_left q (Int.le_of_lt ha)
    rw [Int.mul_zero] at this
    omega
theorem dt_pos {A : Nat → Nat → Int} {n : Nat} (h : PD A n) : ∀ k : Nat, k ≤ n → 0 < dt k A
  | 0, _ => by simp [dt]
  | k + 1, hk => by
    have ih := dt_pos h k (by omega)
    obtain ⟨z, hz⟩ : ∃ z : Nat → Int, z = fun l => if l < k then - cc A k l k else dt k A := ⟨_, rfl⟩
    have zk : z k = dt k A := by rw [hz]; exact if_neg (Nat.lt_irrefl k)
    have zl : ∀ l, l < k → z l = - cc A k l k := fun l hl => by rw [hz]; exact if_pos hl
    have inner : ∀ i, sumI (fun c => A c i * z c) (k + 1) = dt k A * A k i - sumI (fun l => A l i * cc A k l k) k := by
      intro i
      show sumI (fun c => A c i * z c) k + A k i * z k = _
      have e : sumI (fun c => A c i * z c) k = sumI (fun l => A l i * cc A k l k) k * (-1) := by
        rw [← sz_mulr]
        refine sz_cong k (fun c hc => ?_)
        rw [zl c hc]
        grind
      rw [e, zk]
      grind
    have hq : qf A (k + 1) z = dt k A * dt (k + 1) A := by
      unfold qf
      show sumI (fun i => z i * sumI (fun c => A c i * z c) (k + 1)) k + z k * sumI (fun c => A c k * z c) (k + 1) = _
      rw [sz_zero k (fun i hi => by rw [inner i, cc_lt k hi, Int.sub_self, Int.mul_zero]), inner k, zk, Int.zero_add]
      have := cc_ge (A := A) (i := k) k (Nat.lt_irrefl k)
      rw [cc_kk] at this
      congr 1
      omega
    have hn := h (k + 1) hk z
    rw [hq] at hn
    refine sq_pos ih ?_
    rcases Int.lt_or_eq_of_le hn.1 with q | q
    · exact q
    · have := hn.2 q.symm k (Nat.lt_succ_self k)
      rw [zk] at this
      omega
theorem cc_step {A : Nat → Nat → Int} {n k : Nat} (h : PD A n) (hk : k < n) (i j : Nat) (hi : i ≠ k) : dt (k + 1) A * cc A k i j - cc A k i k * cc A k k j = dt k A * cc A (k + 1) i j := by
  obtain ⟨z, hz⟩ : ∃ z : Nat → Int, z = fun l => if l < k then dt (k + 1) A * cc A k l j - cc A k l k * cc A k k j - dt k A * cc A (k + 1) l j else 0 := ⟨_, rfl⟩
  have zk : z k = 0 := by rw [hz]; exact if_neg (Nat.lt_irrefl k)
  have zl : ∀ l, l < k → z l = dt (k + 1) A * cc A k l j - cc A k l k * cc A k k j - dt k A * cc A (k + 1) l j := fun l hl => by rw [hz]; exact if_pos hl
  have inner : ∀ i, sumI (fun c => A c i * z c) (k + 1) = dt (k + 1) A * sumI (fun l => A l i * cc A k l j) k - sumI (fun l => A l i * cc A k l k) k * cc A k k j - dt k A * (sumI (fun l => A l i * cc A (k + 1) l j) (k + 1) - A k i * cc A k k j) := by
    intro i
    have e0 : sumI (fun l => A l i * cc A (k + 1) l j) (k + 1) = sumI (fun l => A l i * cc A (k + 1) l j) k + A k i * cc A (k + 1) k j := rfl
    rw [e0, cc_row]
    have e1 : dt k A * (sumI (fun l => A l i * cc A (k + 1) l j) k + A k i * cc A k k j - A k i * cc A k k j) = dt k A * sumI (fun l => A l i * cc A (k + 1) l j) k := by
      congr 1; omega
    rw [e1, ← sz_mull, ← sz_mulr, ← sz_mull, ← sz_sub, ← sz_sub]
    show sumI (fun c => A c i * z c) k + A k i * z k = _
    rw [zk, Int.mul_zero, Int.add_zero]
    refine sz_cong k (fun c hc => ?_)
    rw [zl c hc]
    grind
  have h0 : ∀ l, l < k + 1 → z l = 0 := by
    refine pd_inj h (by omega) (fun i hi => ?_)
    rw [inner i, cc_lt j hi]
    by_cases e : i < k
    · rw [cc_lt j e, cc_lt k e]
      grind
    · have e2 : i = k := by omega
      subst e2
      have g1 := cc_ge (A := A) (i := i) j (Nat.lt_irrefl i)
      have g2 := cc_ge (A := A) (i := i) i (Nat.lt_irrefl i)
      rw [cc_kk] at g2
      grind
  by_cases e : i < k
  · have := h0 i (by omega)
    rw [zl i e] at this
    omega
  · have g1 := cc_ge (A := A) (i := i) j e
    have g2 := cc_ge (A := A) (i := i) k e
    have g3 := cc_ge (A := A) (k := k + 1) (i := i) j (by omega)
    have g4 := inner i
    rw [sz_zero (k + 1) (fun c hc => by rw [h0 c hc, Int.mul_zero])] at g4
    grind
/-! how large all is -/
def LQ (A : Nat → Nat → Int) (n : Nat) (a : Nat → Int) : Prop := n ≤ 6 ∧ PD A n ∧ (∀ i l, i < n → l < n → A l i = A i l) ∧ (∀ i, 0 ≤ a i) ∧ sumI a n ≤ 80 ∧ (∀ r, r < 6 → sumI (fun c => ab (A c r)) 6 ≤ 2 * a r) ∧ (∀ c r, c ≤ 6 → r < 6 → ab (A c r) ≤ 999 * a r) ∧ ∀ r, r < n → A r r = a r
theorem dt_le {A : Nat → Nat → Int} {n : Nat} {a : Nat → Int} (h : LQ A n a) : ∀ k : Nat, k ≤ n → dt k A ≤ prA a k
  | 0, _ => by simp [dt, prA]
  | k + 1, hk => by
    obtain ⟨h6, hpd, hsy, ha, hs, hl1, hen, hdi⟩ := h
    have ih := dt_le ⟨h6, hpd, hsy, ha, hs, hl1, hen, hdi⟩ k (by omega)
    have hp := dt_pos hpd k (by omega)
    have hq := (hpd k (by omega) (fun l => cc A k l k)).1
    have e : qf A k (fun l => cc A k l k) = dt k A * sumI (fun l => A l k * cc A k l k) k := by
      unfold qf
      rw [← sz_mull]
      refine sz_cong k (fun i hi => ?_)
      rw [cc_lt k hi, hsy i k (by omega) (by omega)]
      grind
    have hnn : 0 ≤ sumI (fun l => A l k * cc A k l k) k := by
      rcases Int.lt_or_le (sumI (fun l => A l k * cc A k l k) k) 0 with q | q
      · have := Int.mul_neg_of_pos_of_neg hp q
        omega
      · exact q
    have g := cc_ge (A := A) (i := k) k (Nat.lt_irrefl k)
    rw [cc_kk] at g
    have h1 : dt (k + 1) A ≤ dt k A * a k := by rw [← hdi k (by omega)]; omega
    exact Int.le_trans h1 (Int.mul_le_mul_of_nonneg_right ih (ha k))
theorem zr_sum {A : Nat → Nat → Int} {a : Nat → Int} {q r : Nat} (u : Nat → Int) (h : sumI (fun c => ab (A c r)) 6 ≤ 2 * a r) : sumI (fun c => if c = q then 0 else ab (rc (rc A q u) 6 (fun _ => 0) c r)) 7 ≤ 2 * a r := by
  refine Int.le_trans ?_ h
  have e : sumI (fun c => if c = q then 0 else ab (rc (rc A q u) 6 (fun _ => 0) c r)) 7 = sumI (fun c => if c = q then 0 else ab (rc (rc A q u) 6 (fun _ => 0) c r)) 6 + (if 6 = q then 0 else ab (rc (rc A q u) 6 (fun _ => 0) 6 r)) := rfl
  have e2 : (if 6 = q then 0 else ab (rc (rc A q u) 6 (fun _ => 0) 6 r)) = 0 := by
    rw [rc_at]; split <;> rfl
  rw [e, e2, Int.add_zero]
  refine sumI_le 6 (fun c hc => ?_)
  by_cases q1 : c = q
  · rw [if_pos q1]; exact ab_nn _
  · rw [if_neg q1, rc_ne (by omega), rc_ne q1]; exact Int.le_refl _
/-- the reference's matrix: the q-th column changed -/
def mtR (A : Nat → Nat → Int) (q : Nat) (u : Nat → Int) : Nat → Nat → Int := rc (rc A q u) 6 (fun _ => 0)
theorem mt_bd {A : Nat → Nat → Int} {n : Nat} {a : Nat → Int} (h : LQ A n a) {q : Nat} (hq : q ≤ 6) {u : Nat → Int} (hu : ∀ r, r < 6 → ab (u r) ≤ 999 * a r) {i T : Nat} (hi : i ≤ n) (hT : T < 128) : ab (dm (mtR A q u) i T) ≤ 999 * ((i : Int) + 1) * 2 ^ i * prA a i := by
  obtain ⟨h6, hpd, hsy, ha, hs, hl1, hen, hdi⟩ := h
  have h1 := dm_bd (B := mtR A q u) (q := q) (by omega) ha (fun r hr => zr_sum u (hl1 r hr)) (fun r hr => by
    unfold mtR
    by_cases e : q = 6
    · rw [e, rc_at]
      have := ha r
      show ab 0 ≤ _
      have z : ab 0 = 0 := rfl
      omega
    · rw [rc_ne e, rc_at]; exact hu r hr) i T (by omega) hT
  refine Int.le_trans h1 (Int.mul_le_mul_of_nonneg_right ?_ (prA_nn ha i))
  have hp := pw_nn i
  unfold bdN
  split
  · exact Int.le_refl _
  · have : (1 : Int) * 2 ^ i ≤ 999 * ((i : Int) + 1) * 2 ^ i := Int.mul_le_mul_of_nonneg_right (by omega) (by omega)
    omega
theorem mt_dt {A : Nat → Nat → Int} {q k : Nat} {u : Nat → Int} (hk : k ≤ 6) : dt k (mtR A q u) = dt k (rc A q u) := dt_cong k (fun c hc => rc_ne (by omega))
def f7 : Nat → Bool := fun i => Nat.ble ((i + 1) * 2 ^ i) (if Nat.ble i 5 then 192 else 448)
theorem f7_c : allB f7 7 = true := by decide +kernel
theorem f7_le {i : Nat} (hi : i ≤ 6) : ((i : Int) + 1) * 2 ^ i ≤ 448 ∧ (i ≤ 5 → ((i : Int) + 1) * 2 ^ i ≤ 192) := by
  have h := Nat.le_of_ble_eq_true (allB_all 7 f7_c i (by omega))
  have e : ((i : Int) + 1) * 2 ^ i = (((i + 1) * 2 ^ i : Nat) : Int) := by
    rw [Int.natCast_mul, Int.natCast_pow]; rfl
  rw [e]
  split at h
  · omega
  · next q =>
    refine ⟨by omega, fun x => absurd ?_ q⟩
    rw [Nat.ble_eq]; exact x
theorem sum_le_n {A : Nat → Nat → Int} {n : Nat} {a : Nat → Int} (h : LQ A n a) {k : Nat} (hk : k ≤ n) : sumI a k ≤ 80 := by
  have := sz_mono h.2.2.2.1 n hk
  have := h.2.2.2.2.1
  omega
theorem mt_r {A : Nat → Nat → Int} {n : Nat} {a : Nat → Int} (h : LQ A n a) {q : Nat} (hq : q ≤ 6) {u : Nat → Int} (hu : ∀ r, r < 6 → ab (u r) ≤ 999 * a r) {i T : Nat} (hi : i ≤ n) (hT : T < 128) : ab (dm (mtR A q u) i T) ≤ 2514640730112 := by
  have h1 := mt_bd h hq hu hi hT
  have h6 := h.1
  have h2 := (f7_le (i := i) (by omega)).1
  have h3 := (prA_le h.2.2.2.1 (k := i) (by omega) (sum_le_n h hi)).1
  have h4 := prA_nn h.2.2.2.1 i
  have h5 : 999 * ((i : Int) + 1) * 2 ^ i * prA a i ≤ 447552 * prA a i := by
    refine Int.mul_le_mul_of_nonneg_right ?_ h4
    rw [Int.mul_assoc]; omega
  omega
theorem cc_r {A : Nat → Nat → Int} {n : Nat} {a : Nat → Int} (h : LQ A n a) {k i j : Nat} (hk : k ≤ n) (hi : i < n) (hj : j ≤ 6) : ab (cc A k i j) ≤ 2514640730112 := by
  have h6 := h.1
  have hu : ∀ r, r < 6 → ab (A j r) ≤ 999 * a r := fun r hr => h.2.2.2.2.2.2.1 j r hj hr
  have hdt : ∀ l, l < k → dt k (rc A l (A j)) = dm (mtR A l (A j)) k (2 ^ k - 1) := fun l hl => by rw [dm_full _ (by omega), mt_dt (by omega)]
  have hT : 2 ^ k - 1 < 128 := by
    have : 2 ^ k ≤ 2 ^ 6 := Nat.pow_le_pow_right (by decide) (by omega)
    omega
  unfold cc
  by_cases e : i < k
  · rw [if_pos e, hdt i e]
    exact mt_r h (by omega) hu hk hT
  · rw [if_neg e]
    have ha := h.2.2.2.1
    have hp := dt_pos h.2.1 k hk
    have hd := dt_le h k hk
    have hpr := prA_nn ha k
    have hai := ha i
    have h3 := prA_le2 ha (k := k) (i := i) (n := n) (by omega) hi h6 h.2.2.2.2.1
    have f := (f7_le (i := k) (by omega)).2 (by omega)
    have b1 : ab (dt k A * A j i) ≤ prA a k * (999 * a i) := by
      rw [ab_mul]
      have : ab (dt k A) = dt k A := by unfold ab; omega
      rw [this]
      exact Int.mul_le_mul hd (hu i (by omega)) (ab_nn _) hpr
    have b2 : ab (sumI (fun l => A l i * dt k (rc A l (A j))) k) ≤ sumI (fun l => ab (A l i) * (191808 * prA a k)) k := by
      refine ab_sum k (fun l hl => ?_)
      rw [ab_mul]
      refine Int.mul_le_mul (Int.le_refl _) ?_ (ab_nn _) (ab_nn _)
      rw [hdt l hl]
      refine Int.le_trans (mt_bd h (by omega) hu hk hT) (Int.mul_le_mul_of_nonneg_right ?_ hpr)
      rw [Int.mul_assoc]; omega
    rw [sz_mulr] at b2
    have b3 : sumI (fun l => ab (A l i)) k ≤ 2 * a i := Int.le_trans (sz_mono (fun l => ab_nn _) 6 (by omega)) (h.2.2.2.2.2.1 i (by omega))
    have b4 := Int.mul_le_mul_of_nonneg_right b3 (show 0 ≤ 191808 * prA a k by omega)
    have b5 : prA a k * (999 * a i) = 999 * (prA a k * a i) := by grind
    have b6 : 2 * a i * (191808 * prA a k) = 383616 * (prA a k * a i) := by grind
    have b7 : ab (dt k A * A j i - sumI (fun l => A l i * dt k (rc A l (A j))) k) ≤ ab (dt k A * A j i) + ab (sumI (fun l => A l i * dt k (rc A l (A j))) k) := by unfold ab; omega
    omega
theorem dt_5 {A : Nat → Nat → Int} {n : Nat} {a : Nat → Int} (h : LQ A n a) {k : Nat} (hk : k ≤ n) : 0 < dt k A ∧ dt k A ≤ 5618656 ∧ (k ≤ 5 → dt k A ≤ 1048576) := by
  have h1 := dt_le h k hk
  have h6 := h.1
  have h2 := prA_le h.2.2.2.1 (k := k) (by omega) (sum_le_n h hk)
  have h3 := dt_pos h.2.1 k hk
  omega
theorem cr_r {A : Nat → Nat → Int} {n : Nat} {a : Nat → Int} (h : LQ A n a) {k i j : Nat} (hk : k < n) (hi : i < n) (hj : j ≤ 6) : mm_r64 (dt k A * cc A (k + 1) i j) := by
  have h1 := cc_r h (k := k + 1) (by omega) hi hj
  have h2 := dt_5 h (k := k) (by omega)
  have h6 := h.1
  have h3 : ab (dt k A * cc A (k + 1) i j) ≤ 1048576 * 2514640730112 := by
    rw [ab_mul]
    have : ab (dt k A) = dt k A := by unfold ab; omega
    rw [this]
    exact Int.mul_le_mul (h2.2.2 (by omega)) h1 (ab_nn _) (by decide)
  unfold ab at h3
  constructor <;> omega
