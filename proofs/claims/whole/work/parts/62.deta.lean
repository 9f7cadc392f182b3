/-! sums -/
theorem sz_cong {f g : Nat → Int} : ∀ n : Nat, (∀ i, i < n → f i = g i) → sumI f n = sumI g n
  | 0, _ => rfl
  | n + 1, h => by
    simp only [sumI]
    rw [sz_cong n (fun i hi => h i (by omega)), h n (by omega)]
theorem sz_add {f g : Nat → Int} : ∀ n : Nat, sumI (fun i => f i + g i) n = sumI f n + sumI g n
  | 0 => rfl
  | n + 1 => by simp only [sumI]; rw [sz_add n]; omega
theorem sz_sub {f g : Nat → Int} : ∀ n : Nat, sumI (fun i => f i - g i) n = sumI f n - sumI g n
  | 0 => rfl
  | n + 1 => by simp only [sumI]; rw [sz_sub n]; omega
theorem sz_mulr {f : Nat → Int} {c : Int} : ∀ n : Nat, sumI (fun i => f i * c) n = sumI f n * c
  | 0 => by simp [sumI]
  | n + 1 => by simp only [sumI]; rw [sz_mulr n, Int.add_mul]
theorem sz_mull {f : Nat → Int} {c : Int} : ∀ n : Nat, sumI (fun i => c * f i) n = c * sumI f n
  | 0 => by simp [sumI]
  | n + 1 => by simp only [sumI]; rw [sz_mull n, Int.mul_add]
theorem sz_zero {f : Nat → Int} : ∀ n : Nat, (∀ i, i < n → f i = 0) → sumI f n = 0
  | 0, _ => rfl
  | n + 1, h => by simp only [sumI]; rw [sz_zero n (fun i hi => h i (by omega)), h n (by omega)]; rfl
theorem sz_one {f : Nat → Int} {p : Nat} : ∀ n : Nat, p < n → (∀ i, i < n → i ≠ p → f i = 0) → sumI f n = f p
  | 0, h, _ => by omega
  | n + 1, h, hz => by
    simp only [sumI]
    by_cases e : p = n
    · subst e
      rw [sz_zero p (fun i hi => hz i (by omega) (by omega))]; omega
    · rw [sz_one n (by omega) (fun i hi => hz i (by omega)), hz n (by omega) (fun q => e q.symm)]; omega
theorem sz_two {f : Nat → Int} {p q : Nat} : ∀ n : Nat, p < n → q < n → p ≠ q → (∀ i, i < n → i ≠ p → i ≠ q → f i = 0) → sumI f n = f p + f q
  | 0, h, _, _, _ => by omega
  | n + 1, h, h2, hn, hz => by
    simp only [sumI]
    by_cases e : p = n
    · rw [sz_one (p := q) n (by omega) (fun i hi hq => hz i (by omega) (by omega) hq), e]; omega
    · by_cases e2 : q = n
      · rw [sz_one (p := p) n (by omega) (fun i hi hq => hz i (by omega) hq (by omega)), e2]
      · rw [sz_two n (by omega) (by omega) hn (fun i hi => hz i (by omega)), hz n (by omega) (fun q => e q.symm) (fun q => e2 q.symm)]; omega
theorem sz_swap {H : Nat → Nat → Int} {m : Nat} : ∀ n : Nat, sumI (fun i => sumI (fun j => H i j) m) n = sumI (fun j => sumI (fun i => H i j) n) m
  | 0 => by
    simp only [sumI]
    rw [sz_zero m (fun _ _ => rfl)]
  | n + 1 => by
    simp only [sumI]
    rw [sz_swap n, ← sz_add]
theorem sz_anti {H : Nat → Nat → Int} : ∀ n : Nat, (∀ i j, i < n → j < n → i ≠ j → H i j + H j i = 0) → sumI (fun i => sumI (fun j => H i j) n) n = sumI (fun i => H i i) n
  | 0, _ => rfl
  | n + 1, h => by
    have ih := sz_anti (H := H) n (fun i j hi hj => h i j (by omega) (by omega))
    have e : sumI (fun i => sumI (fun j => H i j) (n + 1)) n = sumI (fun i => sumI (fun j => H i j) n) n + sumI (fun i => H i n) n := by
      rw [← sz_add]; rfl
    have e2 : sumI (fun i => H i n) n + sumI (fun j => H n j) n = 0 := by
      rw [← sz_add]
      exact sz_zero n (fun i hi => h i n (by omega) (by omega) (by omega))
    have e3 : sumI (fun j => H n j) (n + 1) = sumI (fun j => H n j) n + H n n := rfl
    show sumI (fun i => sumI (fun j => H i j) (n + 1)) n + sumI (fun j => H n j) (n + 1) = sumI (fun i => H i i) n + H n n
    rw [e, e3, ih]
    omega
theorem sz_ext {f : Nat → Int} {n : Nat} : ∀ m : Nat, n ≤ m → (∀ i, n ≤ i → i < m → f i = 0) → sumI f m = sumI f n
  | 0, h, _ => by rw [show n = 0 by omega]
  | m + 1, h, hz => by
    by_cases e : n = m + 1
    · rw [e]
    · simp only [sumI]
      rw [sz_ext m (by omega) (fun i h1 h2 => hz i h1 (by omega)), hz m (by omega) (by omega)]; omega
/-! determinants: a matrix by its columns -/
def rc (B : Nat → Nat → Int) (l : Nat) (w : Nat → Int) : Nat → Nat → Int := fun c => if c = l then w else B c
theorem rc_at (B : Nat → Nat → Int) (l : Nat) (w : Nat → Int) : rc B l w l = w := if_pos rfl
theorem rc_ne {B : Nat → Nat → Int} {l c : Nat} {w : Nat → Int} (h : c ≠ l) : rc B l w c = B c := if_neg h
theorem rc_rc (B : Nat → Nat → Int) (l : Nat) (w u : Nat → Int) : rc (rc B l w) l u = rc B l u := by
  funext c
  unfold rc
  split <;> rfl
theorem rc_comm {B : Nat → Nat → Int} {l p : Nat} {w u : Nat → Int} (h : l ≠ p) : rc (rc B l w) p u = rc (rc B p u) l w := by
  funext c
  unfold rc
  by_cases e : c = p
  · subst e; rw [if_pos rfl, if_neg (fun q => h q.symm), if_pos rfl]
  · rw [if_neg e, if_neg e]
theorem rc_self (B : Nat → Nat → Int) (l : Nat) : rc B l (B l) = B := by
  funext c
  unfold rc
  split
  · next e => rw [e]
  · rfl
def dt : Nat → (Nat → Nat → Int) → Int
  | 0, _ => 1
  | k + 1, B => dt k B * B k k - sumI (fun l => B l k * dt k (rc B l (B k))) k
theorem dt_s (k : Nat) (B : Nat → Nat → Int) : dt (k + 1) B = dt k B * B k k - sumI (fun l => B l k * dt k (rc B l (B k))) k := rfl
theorem dt_cong : ∀ (k : Nat) {B C : Nat → Nat → Int}, (∀ c, c < k → B c = C c) → dt k B = dt k C
  | 0, _, _, _ => rfl
  | k + 1, B, C, h => by
    rw [dt_s, dt_s, dt_cong k (fun c hc => h c (by omega)), h k (by omega)]
    congr 1
    refine sz_cong k (fun l hl => ?_)
    rw [h l (by omega), dt_cong k (B := rc B l (C k)) (C := rc C l (C k)) (fun c hc => ?_)]
    unfold rc
    split
    · rfl
    · exact h c (by omega)
theorem dt_sw : ∀ (k : Nat) (B : Nat → Nat → Int) (l p : Nat) (w u : Nat → Int), l < k → p < k → l ≠ p → dt k (rc (rc B l w) p u) + dt k (rc (rc B l u) p w) = 0
  | 0, _, _, _, _, _, h, _, _ => by omega
  | k + 1, B, l, p, w, u, hl, hp, hn => by
    have last : ∀ (l : Nat) (w u : Nat → Int), l < k → dt (k + 1) (rc (rc B l w) k u) + dt (k + 1) (rc (rc B l u) k w) = 0 := by
      intro l w u hl
      rw [dt_s, dt_s, rc_at, rc_at]
      have c1 : dt k (rc (rc B l w) k u) = dt k (rc B l w) := dt_cong k (fun c hc => rc_ne (by omega))
      have c2 : dt k (rc (rc B l u) k w) = dt k (rc B l u) := dt_cong k (fun c hc => rc_ne (by omega))
      have s : sumI (fun q => rc (rc B l w) k u q k * dt k (rc (rc (rc B l w) k u) q u) + rc (rc B l u) k w q k * dt k (rc (rc (rc B l u) k w) q w)) k = w k * dt k (rc B l u) + u k * dt k (rc B l w) := by
        have t : ∀ (q : Nat) (x y : Nat → Int), q < k → dt k (rc (rc (rc B l x) k y) q y) = dt k (rc (rc B l x) q y) := by
          intro q x y hq
          refine dt_cong k (fun c hc => ?_)
          by_cases e : c = q
          · rw [e, rc_at, rc_at]
          · rw [rc_ne e, rc_ne e, rc_ne (by omega)]
        rw [sz_one (p := l) k hl]
        · have f1 : ∀ x y : Nat → Int, rc (rc B l x) k y l = x := fun x y => by rw [rc_ne (show l ≠ k by omega), rc_at]
          rw [t l w u hl, t l u w hl, rc_rc, rc_rc, f1, f1]
        · intro q hq hql
          have f1 : ∀ x y : Nat → Int, rc (rc B l x) k y q = B q := fun x y => by rw [rc_ne (show q ≠ k by omega), rc_ne hql]
          rw [t q w u hq, t q u w hq, f1, f1, ← Int.mul_add, dt_sw k B l q w u hl hq (fun e => hql e.symm), Int.mul_zero]
      rw [sz_add] at s
      rw [c1, c2]
      have e1 := Int.mul_comm (dt k (rc B l w)) (u k)
      have e2 := Int.mul_comm (dt k (rc B l u)) (w k)
      omega
    by_cases hp2 : p = k
    · subst hp2
      exact last l w u (by omega)
    · by_cases hl2 : l = k
      · subst hl2
        rw [rc_comm hn, rc_comm hn]
        exact last p u w (by omega)
      · rw [dt_s, dt_s]
        have hk1 : rc (rc B l w) p u k = B k := by rw [rc_ne (fun e => hp2 e.symm), rc_ne (fun e => hl2 e.symm)]
        have hk2 : rc (rc B l u) p w k = B k := by rw [rc_ne (fun e => hp2 e.symm), rc_ne (fun e => hl2 e.symm)]
        rw [hk1, hk2]
        have i0 := dt_sw k B l p w u (by omega) (by omega) hn
        have s : sumI (fun q => rc (rc B l w) p u q k * dt k (rc (rc (rc B l w) p u) q (B k)) + rc (rc B l u) p w q k * dt k (rc (rc (rc B l u) p w) q (B k))) k = 0 := by
          rw [sz_two (p := l) (q := p) k (by omega) (by omega) hn]
          · have i1 := dt_sw k B l p (B k) u (by omega) (by omega) hn
            have i2 := dt_sw k B l p (B k) w (by omega) (by omega) hn
            have a1 : rc (rc (rc B l w) p u) l (B k) = rc (rc B l (B k)) p u := by rw [rc_comm (fun e => hn e.symm), rc_rc]
            have a2 : rc (rc (rc B l u) p w) l (B k) = rc (rc B l (B k)) p w := by rw [rc_comm (fun e => hn e.symm), rc_rc]
            rw [a1, a2, rc_rc, rc_rc, rc_at, rc_at, rc_ne hn, rc_ne hn, rc_at, rc_at]
            have j1 : dt k (rc (rc B l u) p (B k)) = - dt k (rc (rc B l (B k)) p u) := by omega
            have j2 : dt k (rc (rc B l w) p (B k)) = - dt k (rc (rc B l (B k)) p w) := by omega
            rw [j1, j2, Int.mul_neg, Int.mul_neg]
            omega
          · intro q hq h1 h2
            have i3 := dt_sw k (rc B q (B k)) l p w u (by omega) (by omega) hn
            have a1 : rc (rc (rc B l w) p u) q (B k) = rc (rc (rc B q (B k)) l w) p u := by rw [rc_comm (fun e => h2 e.symm), rc_comm (B := B) (fun e => h1 e.symm)]
            have a2 : rc (rc (rc B l u) p w) q (B k) = rc (rc (rc B q (B k)) l u) p w := by rw [rc_comm (fun e => h2 e.symm), rc_comm (B := B) (fun e => h1 e.symm)]
            rw [a1, a2, rc_ne h2, rc_ne h2, rc_ne h1, rc_ne h1, ← Int.mul_add, i3, Int.mul_zero]
        rw [sz_add] at s
        have e1 : dt k (rc (rc B l u) p w) = - dt k (rc (rc B l w) p u) := by omega
        rw [e1, Int.neg_mul]
        omega
/-- what a column put in for the l-th one gives -/
theorem dt_in {m l : Nat} {B : Nat → Nat → Int} {w : Nat → Int} (hl : l < m) : dt (m + 1) (rc B l w) = dt m (rc B l w) * B m m - (w m - B l m) * dt m (rc B l (B m)) - sumI (fun q => B q m * dt m (rc (rc B l w) q (B m))) m := by
  rw [dt_s, rc_ne (show m ≠ l by omega)]
  have s : sumI (fun q => rc B l w q m * dt m (rc (rc B l w) q (B m)) - B q m * dt m (rc (rc B l w) q (B m))) m = (w m - B l m) * dt m (rc B l (B m)) := by
    rw [sz_one (p := l) m hl]
    · rw [rc_at, rc_rc, Int.sub_mul]
    · intro i _ hi
      rw [rc_ne hi]; omega
  rw [sz_sub] at s
  omega
theorem dt_end {m : Nat} {B : Nat → Nat → Int} {w : Nat → Int} : dt (m + 1) (rc B m w) = dt m B * w m - sumI (fun q => B q m * dt m (rc B q w)) m := by
  rw [dt_s, rc_at]
  have c1 : dt m (rc B m w) = dt m B := dt_cong m (fun c hc => rc_ne (by omega))
  have c2 : sumI (fun l => rc B m w l m * dt m (rc (rc B m w) l w)) m = sumI (fun q => B q m * dt m (rc B q w)) m := by
    refine sz_cong m (fun l hl => ?_)
    rw [rc_ne (by omega)]
    congr 1
    refine dt_cong m (fun c hc => ?_)
    by_cases e : c = l
    · rw [e, rc_at, rc_at]
    · rw [rc_ne e, rc_ne e, rc_ne (by omega)]
  rw [c1, c2]
theorem dt_cr : ∀ (k : Nat) (B : Nat → Nat → Int) (w : Nat → Int) (i : Nat), i < k → sumI (fun l => B l i * dt k (rc B l w)) k = dt k B * w i
  | 0, _, _, _, h => by omega
  | m + 1, B, w, i, hi => by
    have s1 : sumI (fun l => B l i * dt (m + 1) (rc B l w)) m = sumI (fun l => B l i * dt m (rc B l w)) m * B m m - sumI (fun l => B l i * dt m (rc B l (B m))) m * w m + sumI (fun l => B l i * (B l m * dt m (rc B l (B m)))) m - sumI (fun l => sumI (fun q => B l i * (B q m * dt m (rc (rc B l w) q (B m)))) m) m := by
      rw [← sz_mulr, ← sz_mulr, ← sz_sub, ← sz_add, ← sz_sub]
      refine sz_cong m (fun l hl => ?_)
      rw [dt_in hl, sz_mull]
      grind
    have s0 : sumI (fun l => B l i * dt (m + 1) (rc B l w)) (m + 1) = sumI (fun l => B l i * dt (m + 1) (rc B l w)) m + B m i * dt (m + 1) (rc B m w) := rfl
    rw [s0, s1, dt_end, dt_s]
    by_cases him : i < m
    · have i1 := dt_cr m B w i him
      have i2 := dt_cr m B (B m) i him
      have i3 : ∀ q, q < m → sumI (fun l => B l i * (B q m * dt m (rc (rc B l w) q (B m)))) m = w i * (B q m * dt m (rc B q (B m))) + B q i * (B q m * dt m (rc B q (B m))) - B m i * (B q m * dt m (rc B q w)) := by
        intro q hq
        have h := dt_cr m (rc B q (B m)) w i him
        have s : sumI (fun l => rc B q (B m) l i * dt m (rc (rc B q (B m)) l w) - B l i * dt m (rc (rc B l w) q (B m))) m = B m i * dt m (rc B q w) - B q i * dt m (rc B q (B m)) := by
          rw [sz_one (p := q) m hq]
          · rw [rc_at, rc_rc, rc_rc]
          · intro l hl hlq
            rw [rc_ne hlq, rc_comm hlq]; omega
        rw [sz_sub, h] at s
        have e : sumI (fun l => B l i * (B q m * dt m (rc (rc B l w) q (B m)))) m = B q m * sumI (fun l => B l i * dt m (rc (rc B l w) q (B m))) m := by
          rw [← sz_mull]
          refine sz_cong m (fun l _ => ?_)
          grind
        rw [e]
        grind
      rw [sz_swap, sz_cong m i3, sz_sub, sz_add, sz_mull, sz_mull, i1, i2]
      grind
    · have hm : i = m := by omega
      subst hm
      have an : sumI (fun l => sumI (fun q => B l i * (B q i * dt i (rc (rc B l w) q (B i)))) i) i = sumI (fun l => B l i * (B l i * dt i (rc (rc B l w) l (B i)))) i := by
        refine sz_anti i (fun l q hl hq hn => ?_)
        have h := dt_sw i B l q w (B i) hl hq hn
        rw [rc_comm (l := q) (p := l) (fun e => hn e.symm)]
        grind
      have an2 : sumI (fun l => B l i * (B l i * dt i (rc (rc B l w) l (B i)))) i = sumI (fun l => B l i * (B l i * dt i (rc B l (B i)))) i := sz_cong i (fun l _ => by rw [rc_rc])
      rw [an, an2]
      grind
/-! by the last row -/
def sg : Nat → Int
  | 0 => 1
  | j + 1 => - sg j
theorem sg_sq : ∀ j : Nat, sg j * sg j = 1
  | 0 => rfl
  | j + 1 => by
    have h := sg_sq j
    simp only [sg]
    rw [Int.neg_mul_neg]; exact h
def sk (l t : Nat) : Nat := if t < l then t else t + 1
theorem dt_sk : ∀ (j m l : Nat) (v : Nat → Nat → Int), l + j + 1 = m → dt m (fun t => v (sk l t)) = sg j * dt m (rc v l (v m))
  | 0, m, l, v, h => by
    rw [sg, Int.one_mul]
    refine dt_cong m (fun c hc => ?_)
    unfold sk rc
    by_cases e : c = l
    · rw [if_pos e, if_neg (by omega), show c + 1 = m by omega]
    · rw [if_neg e, if_pos (by omega)]
  | j + 1, m, l, v, h => by
    have ih := dt_sk j m (l + 1) (fun c => if c = l then v (l + 1) else if c = l + 1 then v l else v c) (by omega)
    have e1 : dt m (fun t => (fun c => if c = l then v (l + 1) else if c = l + 1 then v l else v c) (sk (l + 1) t)) = dt m (fun t => v (sk l t)) := by
      refine dt_cong m (fun c hc => ?_)
      unfold sk
      by_cases q1 : c < l
      · simp only [if_pos q1, if_pos (show c < l + 1 by omega), if_neg (show ¬ c = l by omega), if_neg (show ¬ c = l + 1 by omega)]
      · by_cases q2 : c = l
        · subst q2
          simp
        · simp only [if_neg q1, if_neg (show ¬ c < l + 1 by omega), if_neg (show ¬ c + 1 = l by omega), if_neg (show ¬ c + 1 = l + 1 by omega)]
    have e2 : rc (fun c => if c = l then v (l + 1) else if c = l + 1 then v l else v c) (l + 1) (v m) = rc (rc v l (v (l + 1))) (l + 1) (v m) := by
      funext c
      unfold rc
      by_cases q1 : c = l + 1
      · rw [if_pos q1, if_pos q1]
      · rw [if_neg q1, if_neg q1]
        by_cases q2 : c = l
        · dsimp only
          rw [if_pos q2, if_pos q2]
        · dsimp only
          rw [if_neg q2, if_neg q2, if_neg q1]
    have e3 : rc (rc v l (v m)) (l + 1) (v (l + 1)) = rc v l (v m) := by
      have h := rc_self (rc v l (v m)) (l + 1)
      rw [rc_ne (show l + 1 ≠ l by omega)] at h
      exact h
    have e4 := dt_sw m v l (l + 1) (v (l + 1)) (v m) (by omega) (by omega) (by omega)
    rw [e3] at e4
    rw [e1] at ih
    simp only [if_neg (show ¬ m = l by omega), if_neg (show ¬ m = l + 1 by omega)] at ih
    rw [ih, e2, sg]
    have e5 : dt m (rc (rc v l (v (l + 1))) (l + 1) (v m)) = - dt m (rc v l (v m)) := by omega
    rw [e5, Int.mul_neg, Int.neg_mul]
theorem dt_last (m : Nat) (v : Nat → Nat → Int) : dt (m + 1) v = sumI (fun l => sg (m - l) * (v l m * dt m (fun t => v (sk l t)))) (m + 1) := by
  have e : sumI (fun l => sg (m - l) * (v l m * dt m (fun t => v (sk l t)))) (m + 1) = sumI (fun l => sg (m - l) * (v l m * dt m (fun t => v (sk l t)))) m + sg (m - m) * (v m m * dt m (fun t => v (sk m t))) := rfl
  have e1 : dt m (fun t => v (sk m t)) = dt m v := dt_cong m (fun c hc => by unfold sk; rw [if_pos hc])
  have e2 : sumI (fun l => sg (m - l) * (v l m * dt m (fun t => v (sk l t)))) m = sumI (fun l => (v l m * dt m (rc v l (v m))) * (-1)) m := by
    refine sz_cong m (fun l hl => ?_)
    have h := dt_sk (m - l - 1) m l v (by omega)
    have h2 := sg_sq (m - l - 1)
    rw [h, show m - l = (m - l - 1) + 1 by omega, sg, show m - l - 1 + 1 - 1 = m - l - 1 by omega]
    grind
  rw [e, e2, sz_mulr, e1, dt_s, Nat.sub_self, sg]
  have := Int.mul_comm (dt m v) (v m m)
  omega
