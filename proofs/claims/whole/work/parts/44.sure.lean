/-! counting -/
section MML
variable {X : Nat × (Nat → Int)} {d mc ms : Nat} {mi : mm_Mi} {Po : mm_Po} {pc : Nat} {L L' : List (Nat × mm_V)} {st : List mm_V} {La : List mm_S} {M : mm_M} {ck cs : Nat}
theorem mm_cL (h : L = L') (k : mm_G X d mc ms mi Po pc L' st La M ck cs) : mm_G X d mc ms mi Po pc L st La M ck cs := h ▸ k
end MML
def rowc (C : Nat → Bool) : Nat → Int
  | 0 => 0
  | j + 1 => rowc C j + if C j then 1 else 0
def totc (C : Nat → Nat → Bool) : Nat → Int
  | 0 => 0
  | i + 1 => totc C i + rowc (C i) i
theorem rowc_t {C : Nat → Bool} {t : Int} {j : Nat} (h : C j = true) : t + rowc C j + 1 = t + rowc C (j + 1) := by simp [rowc, h]; omega
theorem rowc_f {C : Nat → Bool} {t : Int} {j : Nat} (h : C j = false) : t + rowc C j = t + rowc C (j + 1) := by simp [rowc, h]
theorem rowc_r (C : Nat → Bool) : ∀ j : Nat, 0 ≤ rowc C j ∧ rowc C j ≤ j
  | 0 => by simp [rowc]
  | j + 1 => by
    have h := rowc_r C j
    simp only [rowc]
    split <;> omega
theorem totc_r (C : Nat → Nat → Bool) : ∀ i : Nat, 0 ≤ totc C i ∧ totc C i ≤ i * i
  | 0 => by simp [totc]
  | i + 1 => by
    have h := totc_r C i
    have h2 := rowc_r (C i) i
    have h3 : ((i + 1 : Nat) : Int) * ((i + 1 : Nat) : Int) = i * i + 2 * i + 1 := by rw [Int.natCast_add, Int.add_mul, Int.mul_add, Int.mul_add]; omega
    rw [h3]
    simp only [totc]
    omega
theorem rowc_cong {C D : Nat → Bool} : ∀ {j : Nat}, (∀ k, k < j → C k = D k) → rowc C j = rowc D j
  | 0, _ => rfl
  | j + 1, h => by simp only [rowc]; rw [rowc_cong (fun k hk => h k (by omega)), h j (by omega)]
theorem totc_cong {C D : Nat → Nat → Bool} : ∀ {i : Nat}, (∀ k, k < i → ∀ j, j < k → C k j = D k j) → totc C i = totc D i
  | 0, _ => rfl
  | i + 1, h => by simp only [totc]; rw [totc_cong (fun k hk => h k (by omega)), rowc_cong (h i (by omega))]
/-! races: who is surely better -/
def byOf (f g l : Nat → Int) (x y : Int) (r : Nat) : Int := if f r = x ∧ g r = y then l r else if f r = y ∧ g r = x then -l r else 0
theorem fx_or_b {a b : Int} (ha : a = 0 ∨ a = 1) (hb : b = 0 ∨ b = 1) : fx_or a b = if a = 1 ∨ b = 1 then 1 else 0 := by
  rcases ha with rfl | rfl <;> rcases hb with rfl | rfl <;> decide
theorem c_X4_leadOver {X : Nat × (Nat → Int)} {d : Nat} {Po : mm_Po} {M : mm_M} (x : Int) (y : Int) (r : Int) (h0 : 0 ≤ r ∧ r < M 10 0) (hx : mm_r32 x) (hy : mm_r32 y) (hJr : JRc M) (hr : R32 M) (k : Po (some (v_i (byOf (M 11) (M 12) (M 13) x y r.toNat))) Lam M) : mm_E X d 0 0 mi_X4_leadOver [v_r 10, v_i x, v_i y, v_i r] Po Lam M := by
  show mm_G X d 0 0 mi_X4_leadOver Po 0 [(0, v_r 10), (1, v_i x), (2, v_i y), (3, v_i r)] [] Lam M 0 0
  have hJr2 := hJr
  obtain ⟨hr0, hr40, hRr⟩ := hJr2
  have hR1 := hRr r.toNat
  refine mm_aload_n (mm_dc od_X4_leadOver_0 0 rfl) rfl ?_
  refine mm_getR (ci := 4) (k := 1) (mm_dc od_X4_leadOver_0 1 rfl) rfl in_X4 (by decide) wd_1_86 rfl rfl ?_
  refine mm_iload_n (mm_dc od_X4_leadOver_0 2 rfl) rfl ?_
  refine mm_iald (mm_dc od_X4_leadOver_0 3 rfl) rfl (by first | assumption | omega | exact hr _ _ rfl | exact mm_r3264 (hr _ _ rfl)) (by first | assumption | omega | exact hr _ _ rfl | exact mm_r3264 (hr _ _ rfl)) (by decide) ?_
  refine mm_iload_n (mm_dc od_X4_leadOver_0 4 rfl) rfl ?_
  refine mm_icmp_ne 27 (mm_dc od_X4_leadOver_0 5 rfl) (by omega) (by first | assumption | omega | exact hr _ _ rfl | exact mm_r3264 (hr _ _ rfl)) (by first | assumption | omega | exact hr _ _ rfl | exact mm_r3264 (hr _ _ rfl)) (fun c1 => ?_) (fun c1 => ?_)
  · refine mm_aload_n (mm_dc od_X4_leadOver_0 17 rfl) rfl ?_
    refine mm_getR (ci := 4) (k := 1) (mm_dc od_X4_leadOver_0 18 rfl) rfl in_X4 (by decide) wd_1_86 rfl rfl ?_
    refine mm_iload_n (mm_dc od_X4_leadOver_0 19 rfl) rfl ?_
    refine mm_iald (mm_dc od_X4_leadOver_0 20 rfl) rfl (by first | assumption | omega | exact hr _ _ rfl | exact mm_r3264 (hr _ _ rfl)) (by first | assumption | omega | exact hr _ _ rfl | exact mm_r3264 (hr _ _ rfl)) (by decide) ?_
    refine mm_iload_n (mm_dc od_X4_leadOver_0 21 rfl) rfl ?_
    refine mm_icmp_ne 57 (mm_dc od_X4_leadOver_0 22 rfl) (by omega) (by first | assumption | omega | exact hr _ _ rfl | exact mm_r3264 (hr _ _ rfl)) (by first | assumption | omega | exact hr _ _ rfl | exact mm_r3264 (hr _ _ rfl)) (fun c2 => ?_) (fun c2 => ?_)
    · refine mm_iconst (mm_dc od_X4_leadOver_0 35 rfl) ?_
      refine mm_iret (mm_dc od_X4_leadOver_0 36 rfl) rfl ?_
      exact mm_pi (by unfold byOf; split <;> first | rfl | omega | (split <;> first | rfl | omega)) k
    · refine mm_aload_n (mm_dc od_X4_leadOver_0 23 rfl) rfl ?_
      refine mm_getR (ci := 4) (k := 2) (mm_dc od_X4_leadOver_0 24 rfl) rfl in_X4 (by decide) wd_1_87 rfl rfl ?_
      refine mm_iload_n (mm_dc od_X4_leadOver_0 25 rfl) rfl ?_
      refine mm_iald (mm_dc od_X4_leadOver_0 26 rfl) rfl (by first | assumption | omega | exact hr _ _ rfl | exact mm_r3264 (hr _ _ rfl)) (by first | assumption | omega | exact hr _ _ rfl | exact mm_r3264 (hr _ _ rfl)) (by decide) ?_
      refine mm_iload_n (mm_dc od_X4_leadOver_0 27 rfl) rfl ?_
      refine mm_icmp_ne 57 (mm_dc od_X4_leadOver_0 28 rfl) (by omega) (by first | assumption | omega | exact hr _ _ rfl | exact mm_r3264 (hr _ _ rfl)) (by first | assumption | omega | exact hr _ _ rfl | exact mm_r3264 (hr _ _ rfl)) (fun c3 => ?_) (fun c3 => ?_)
      · refine mm_iconst (mm_dc od_X4_leadOver_0 35 rfl) ?_
        refine mm_iret (mm_dc od_X4_leadOver_0 36 rfl) rfl ?_
        exact mm_pi (by unfold byOf; split <;> first | rfl | omega | (split <;> first | rfl | omega)) k
      · refine mm_aload_n (mm_dc od_X4_leadOver_0 29 rfl) rfl ?_
        refine mm_getR (ci := 4) (k := 3) (mm_dc od_X4_leadOver_0 30 rfl) rfl in_X4 (by decide) wd_1_88 rfl rfl ?_
        refine mm_iload_n (mm_dc od_X4_leadOver_0 31 rfl) rfl ?_
        refine mm_iald (mm_dc od_X4_leadOver_0 32 rfl) rfl (by first | assumption | omega | exact hr _ _ rfl | exact mm_r3264 (hr _ _ rfl)) (by first | assumption | omega | exact hr _ _ rfl | exact mm_r3264 (hr _ _ rfl)) (by decide) ?_
        refine mm_ineg (mm_dc od_X4_leadOver_0 33 rfl) ?_
        refine mm_goto 58 (mm_dc od_X4_leadOver_0 34 rfl) (by omega) ?_
        refine mm_iret (mm_dc od_X4_leadOver_0 36 rfl) rfl ?_
        exact mm_pi (by unfold byOf; split <;> first | rfl | omega | (split <;> first | rfl | omega)) k
  · refine mm_aload_n (mm_dc od_X4_leadOver_0 6 rfl) rfl ?_
    refine mm_getR (ci := 4) (k := 2) (mm_dc od_X4_leadOver_0 7 rfl) rfl in_X4 (by decide) wd_1_87 rfl rfl ?_
    refine mm_iload_n (mm_dc od_X4_leadOver_0 8 rfl) rfl ?_
    refine mm_iald (mm_dc od_X4_leadOver_0 9 rfl) rfl (by first | assumption | omega | exact hr _ _ rfl | exact mm_r3264 (hr _ _ rfl)) (by first | assumption | omega | exact hr _ _ rfl | exact mm_r3264 (hr _ _ rfl)) (by decide) ?_
    refine mm_iload_n (mm_dc od_X4_leadOver_0 10 rfl) rfl ?_
    refine mm_icmp_ne 27 (mm_dc od_X4_leadOver_0 11 rfl) (by omega) (by first | assumption | omega | exact hr _ _ rfl | exact mm_r3264 (hr _ _ rfl)) (by first | assumption | omega | exact hr _ _ rfl | exact mm_r3264 (hr _ _ rfl)) (fun c4 => ?_) (fun c4 => ?_)
    · refine mm_aload_n (mm_dc od_X4_leadOver_0 17 rfl) rfl ?_
      refine mm_getR (ci := 4) (k := 1) (mm_dc od_X4_leadOver_0 18 rfl) rfl in_X4 (by decide) wd_1_86 rfl rfl ?_
      refine mm_iload_n (mm_dc od_X4_leadOver_0 19 rfl) rfl ?_
      refine mm_iald (mm_dc od_X4_leadOver_0 20 rfl) rfl (by first | assumption | omega | exact hr _ _ rfl | exact mm_r3264 (hr _ _ rfl)) (by first | assumption | omega | exact hr _ _ rfl | exact mm_r3264 (hr _ _ rfl)) (by decide) ?_
      refine mm_iload_n (mm_dc od_X4_leadOver_0 21 rfl) rfl ?_
      refine mm_icmp_ne 57 (mm_dc od_X4_leadOver_0 22 rfl) (by omega) (by first | assumption | omega | exact hr _ _ rfl | exact mm_r3264 (hr _ _ rfl)) (by first | assumption | omega | exact hr _ _ rfl | exact mm_r3264 (hr _ _ rfl)) (fun c5 => ?_) (fun c5 => ?_)
      · refine mm_iconst (mm_dc od_X4_leadOver_0 35 rfl) ?_
        refine mm_iret (mm_dc od_X4_leadOver_0 36 rfl) rfl ?_
        exact mm_pi (by unfold byOf; split <;> first | rfl | omega | (split <;> first | rfl | omega)) k
      · refine mm_aload_n (mm_dc od_X4_leadOver_0 23 rfl) rfl ?_
        refine mm_getR (ci := 4) (k := 2) (mm_dc od_X4_leadOver_0 24 rfl) rfl in_X4 (by decide) wd_1_87 rfl rfl ?_
        refine mm_iload_n (mm_dc od_X4_leadOver_0 25 rfl) rfl ?_
        refine mm_iald (mm_dc od_X4_leadOver_0 26 rfl) rfl (by first | assumption | omega | exact hr _ _ rfl | exact mm_r3264 (hr _ _ rfl)) (by first | assumption | omega | exact hr _ _ rfl | exact mm_r3264 (hr _ _ rfl)) (by decide) ?_
        refine mm_iload_n (mm_dc od_X4_leadOver_0 27 rfl) rfl ?_
        refine mm_icmp_ne 57 (mm_dc od_X4_leadOver_0 28 rfl) (by omega) (by first | assumption | omega | exact hr _ _ rfl | exact mm_r3264 (hr _ _ rfl)) (by first | assumption | omega | exact hr _ _ rfl | exact mm_r3264 (hr _ _ rfl)) (fun c6 => ?_) (fun c6 => ?_)
        · refine mm_iconst (mm_dc od_X4_leadOver_0 35 rfl) ?_
          refine mm_iret (mm_dc od_X4_leadOver_0 36 rfl) rfl ?_
          exact mm_pi (by unfold byOf; split <;> first | rfl | omega | (split <;> first | rfl | omega)) k
        · refine mm_aload_n (mm_dc od_X4_leadOver_0 29 rfl) rfl ?_
          refine mm_getR (ci := 4) (k := 3) (mm_dc od_X4_leadOver_0 30 rfl) rfl in_X4 (by decide) wd_1_88 rfl rfl ?_
          refine mm_iload_n (mm_dc od_X4_leadOver_0 31 rfl) rfl ?_
          refine mm_iald (mm_dc od_X4_leadOver_0 32 rfl) rfl (by first | assumption | omega | exact hr _ _ rfl | exact mm_r3264 (hr _ _ rfl)) (by first | assumption | omega | exact hr _ _ rfl | exact mm_r3264 (hr _ _ rfl)) (by decide) ?_
          refine mm_ineg (mm_dc od_X4_leadOver_0 33 rfl) ?_
          refine mm_goto 58 (mm_dc od_X4_leadOver_0 34 rfl) (by omega) ?_
          refine mm_iret (mm_dc od_X4_leadOver_0 36 rfl) rfl ?_
          exact mm_pi (by unfold byOf; split <;> first | rfl | omega | (split <;> first | rfl | omega)) k
    · refine mm_aload_n (mm_dc od_X4_leadOver_0 12 rfl) rfl ?_
      refine mm_getR (ci := 4) (k := 3) (mm_dc od_X4_leadOver_0 13 rfl) rfl in_X4 (by decide) wd_1_88 rfl rfl ?_
      refine mm_iload_n (mm_dc od_X4_leadOver_0 14 rfl) rfl ?_
      refine mm_iald (mm_dc od_X4_leadOver_0 15 rfl) rfl (by first | assumption | omega | exact hr _ _ rfl | exact mm_r3264 (hr _ _ rfl)) (by first | assumption | omega | exact hr _ _ rfl | exact mm_r3264 (hr _ _ rfl)) (by decide) ?_
      refine mm_iret (mm_dc od_X4_leadOver_0 16 rfl) rfl ?_
      exact mm_pi (by unfold byOf; split <;> first | rfl | omega | (split <;> first | rfl | omega)) k
def sureQ (f : Nat → Int) (bt wo : Int) (n : Nat) : Prop := (bt = 1 ↔ ∃ i : Nat, i < n ∧ 0 < f i) ∧ (bt = 0 ∨ bt = 1) ∧ (wo = 1 ↔ ∃ i : Nat, i < n ∧ f i < 0) ∧ (wo = 0 ∨ wo = 1)
theorem sureQ_0 {f : Nat → Int} : sureQ f 0 0 0 := ⟨⟨fun h => by omega, fun ⟨i, h, _⟩ => by omega⟩, Or.inl rfl, ⟨fun h => by omega, fun ⟨i, h, _⟩ => by omega⟩, Or.inl rfl⟩
theorem sureQ_s {f : Nat → Int} {bt wo b2 w2 : Int} {n : Nat} (h : sureQ f bt wo n) (hb : b2 = if bt = 1 ∨ 0 < f n then 1 else 0) (hw : w2 = if wo = 1 ∨ f n < 0 then 1 else 0) : sureQ f b2 w2 (n + 1) := by
  obtain ⟨h1, h2, h3, h4⟩ := h
  refine ⟨?_, ?_, ?_, ?_⟩
  · rw [hb]
    constructor
    · intro h5
      by_cases e : bt = 1 ∨ 0 < f n
      · rcases e with e | e
        · obtain ⟨i, a, b⟩ := h1.mp e
          exact ⟨i, by omega, b⟩
        · exact ⟨n, by omega, e⟩
      · rw [if_neg e] at h5; omega
    · rintro ⟨i, a, b⟩
      rw [if_pos]
      by_cases e : i = n
      · exact Or.inr (e ▸ b)
      · exact Or.inl (h1.mpr ⟨i, by omega, b⟩)
  · rw [hb]; split <;> omega
  · rw [hw]
    constructor
    · intro h5
      by_cases e : wo = 1 ∨ f n < 0
      · rcases e with e | e
        · obtain ⟨i, a, b⟩ := h3.mp e
          exact ⟨i, by omega, b⟩
        · exact ⟨n, by omega, e⟩
      · rw [if_neg e] at h5; omega
    · rintro ⟨i, a, b⟩
      rw [if_pos]
      by_cases e : i = n
      · exact Or.inr (e ▸ b)
      · exact Or.inl (h3.mpr ⟨i, by omega, b⟩)
  · rw [hw]; split <;> omega
theorem sureQ_one {f g : Nat → Int} {b w b2 w2 : Int} {n : Nat} (h : sureQ f b w n) (h2 : sureQ g b2 w2 n) (he : ∀ i, i < n → f i = g i) : b = b2 ∧ w = w2 := by
  obtain ⟨a1, a2, a3, a4⟩ := h
  obtain ⟨c1, c2, c3, c4⟩ := h2
  have e1 : (∃ i : Nat, i < n ∧ 0 < f i) ↔ (∃ i : Nat, i < n ∧ 0 < g i) := ⟨fun ⟨i, p, q⟩ => ⟨i, p, he i p ▸ q⟩, fun ⟨i, p, q⟩ => ⟨i, p, (he i p).symm ▸ q⟩⟩
  have e2 : (∃ i : Nat, i < n ∧ f i < 0) ↔ (∃ i : Nat, i < n ∧ g i < 0) := ⟨fun ⟨i, p, q⟩ => ⟨i, p, he i p ▸ q⟩, fun ⟨i, p, q⟩ => ⟨i, p, (he i p).symm ▸ q⟩⟩
  have p1 : b = 1 ↔ b2 = 1 := a1.trans (e1.trans c1.symm)
  have p2 : w = 1 ↔ w2 = 1 := a3.trans (e2.trans c3.symm)
  clear a1 a3 c1 c3 e1 e2 he
  omega
theorem sureQ_ex (f : Nat → Int) : ∀ n : Nat, ∃ b w : Int, sureQ f b w n
  | 0 => ⟨0, 0, sureQ_0⟩
  | n + 1 => by
    obtain ⟨b, w, h⟩ := sureQ_ex f n
    exact ⟨_, _, sureQ_s h rfl rfl⟩
def sureA (bt wo : Int) : Int := if bt = wo then 0 else if bt = 1 then 1 else 2
theorem L_sure {X : Nat × (Nat → Int)} {d : Nat} {Po : mm_Po} {M : mm_M} (x y : Int) (hx : mm_r32 x) (hy : mm_r32 y) (hJr : JRc M) (hr : R32 M) (k : ∀ r : Int, (∃ bt wo : Int, sureQ (byOf (M 11) (M 12) (M 13) x y) bt wo (M 10 0).toNat ∧ r = sureA bt wo) → Po (some (v_i r)) Lam M) (bt wo : Int) (j : Nat) (hs : sureQ (byOf (M 11) (M 12) (M 13) x y) bt wo j) (hj : (j : Int) ≤ M 10 0) : mm_G X (d + 1) 0 0 mi_X4_whoIsSurelyBetter Po 8 [(0, v_r 10), (1, v_i x), (2, v_i y), (3, v_i bt), (4, v_i wo), (5, v_i (j : Int))] [] Lam M 0 0 := by
  have hJr2 := hJr
  obtain ⟨hr0, hr40, hRr⟩ := hJr2
  have hR1 := hRr j
  have hs2 := hs.2.1
  have hs4 := hs.2.2.2
  have hby : (j : Int) < M 10 0 → -999 ≤ byOf (M 11) (M 12) (M 13) x y j ∧ byOf (M 11) (M 12) (M 13) x y j ≤ 999 := (by intro h; have h9 := hR1 h; unfold byOf; split; omega; split <;> omega)
  refine mm_iload (mm_dc od_X4_whoIsSurelyBetter_0 6 rfl) rfl ?_
  refine mm_aload_n (mm_dc od_X4_whoIsSurelyBetter_0 7 rfl) rfl ?_
  refine mm_getI (ci := 4) (k := 0) (mm_dc od_X4_whoIsSurelyBetter_0 8 rfl) rfl in_X4 (by decide) wd_1_84 rfl rfl ?_
  refine mm_icmp_ge 61 (mm_dc od_X4_whoIsSurelyBetter_0 9 rfl) (by omega) (by first | assumption | omega | exact hr _ _ rfl | exact mm_r3264 (hr _ _ rfl)) (by first | assumption | omega | exact hr _ _ rfl | exact mm_r3264 (hr _ _ rfl)) (fun c1 => ?_) (fun c1 => ?_)
  · refine mm_iload_n (mm_dc od_X4_whoIsSurelyBetter_0 34 rfl) rfl ?_
    refine mm_iload (mm_dc od_X4_whoIsSurelyBetter_0 35 rfl) rfl ?_
    refine mm_icmp_ne 69 (mm_dc od_X4_whoIsSurelyBetter_0 36 rfl) (by omega) (by first | assumption | omega | exact hr _ _ rfl | exact mm_r3264 (hr _ _ rfl)) (by first | assumption | omega | exact hr _ _ rfl | exact mm_r3264 (hr _ _ rfl)) (fun c2 => ?_) (fun c2 => ?_)
    · refine mm_iload_n (mm_dc od_X4_whoIsSurelyBetter_0 39 rfl) rfl ?_
      refine mm_if_eq 77 (mm_dc od_X4_whoIsSurelyBetter_0 40 rfl) (by omega) (by first | assumption | omega | exact hr _ _ rfl | exact mm_r3264 (hr _ _ rfl)) (fun c3 => ?_) (fun c3 => ?_)
      · refine mm_iconst (mm_dc od_X4_whoIsSurelyBetter_0 43 rfl) ?_
        refine mm_iret (mm_dc od_X4_whoIsSurelyBetter_0 44 rfl) rfl ?_
        exact k _ ⟨bt, wo, (by have e : (M 10 0).toNat = j := (by omega); rw [e]; exact hs), (by unfold sureA; split <;> first | omega | (split <;> omega))⟩
      · refine mm_iconst (mm_dc od_X4_whoIsSurelyBetter_0 41 rfl) ?_
        refine mm_goto 78 (mm_dc od_X4_whoIsSurelyBetter_0 42 rfl) (by omega) ?_
        refine mm_iret (mm_dc od_X4_whoIsSurelyBetter_0 44 rfl) rfl ?_
        exact k _ ⟨bt, wo, (by have e : (M 10 0).toNat = j := (by omega); rw [e]; exact hs), (by unfold sureA; split <;> first | omega | (split <;> omega))⟩
    · refine mm_iconst (mm_dc od_X4_whoIsSurelyBetter_0 37 rfl) ?_
      refine mm_iret (mm_dc od_X4_whoIsSurelyBetter_0 38 rfl) rfl ?_
      exact k _ ⟨bt, wo, (by have e : (M 10 0).toNat = j := (by omega); rw [e]; exact hs), (by unfold sureA; split <;> first | omega | (split <;> omega))⟩
  · refine mm_aload_n (mm_dc od_X4_whoIsSurelyBetter_0 10 rfl) rfl ?_
    refine mm_iload_n (mm_dc od_X4_whoIsSurelyBetter_0 11 rfl) rfl ?_
    refine mm_iload_n (mm_dc od_X4_whoIsSurelyBetter_0 12 rfl) rfl ?_
    refine mm_iload (mm_dc od_X4_whoIsSurelyBetter_0 13 rfl) rfl ?_
    refine mm_callV (b := 10) (mi' := mi_X4_leadOver) [v_i x, v_i y, v_i (j : Int)] [] (mm_dc od_X4_whoIsSurelyBetter_0 14 rfl) rfl wd_3_2 wd_3_4 wd_p_5 wd_1_3 wd_3_5 yk_X4_leadOver rfl rfl rfl (Nat.le_of_ble_eq_true rfl) rfl (by decide) (c_X4_leadOver x y (j : Int) (by first | assumption | omega | exact hr _ _ rfl | exact mm_r3264 (hr _ _ rfl)) (by first | assumption | omega | exact hr _ _ rfl | exact mm_r3264 (hr _ _ rfl)) (by first | assumption | omega | exact hr _ _ rfl | exact mm_r3264 (hr _ _ rfl)) hJr (by first | assumption | omega | exact hr _ _ rfl | exact mm_r3264 (hr _ _ rfl)) ⟨Nat.le_refl _, ?_⟩)
    refine mm_cst (st' := [v_i (byOf (M 11) (M 12) (M 13) x y j)]) rfl ?_
    refine mm_istore (L' := [(0, v_r 10), (1, v_i x), (2, v_i y), (3, v_i bt), (4, v_i wo), (5, v_i (j : Int)), (6, v_i (byOf (M 11) (M 12) (M 13) x y j))]) (mm_dc od_X4_whoIsSurelyBetter_0 15 rfl) (by decide) rfl ?_
    refine mm_iload_n (mm_dc od_X4_whoIsSurelyBetter_0 16 rfl) rfl ?_
    refine mm_iload (mm_dc od_X4_whoIsSurelyBetter_0 17 rfl) rfl ?_
    refine mm_if_le 37 (mm_dc od_X4_whoIsSurelyBetter_0 18 rfl) (by omega) (by first | assumption | omega | exact hr _ _ rfl | exact mm_r3264 (hr _ _ rfl)) (fun c4 => ?_) (fun c4 => ?_)
    · refine mm_iconst (mm_dc od_X4_whoIsSurelyBetter_0 21 rfl) ?_
      refine mm_ior (mm_dc od_X4_whoIsSurelyBetter_0 22 rfl) ?_
      refine mm_istore_n (L' := [(0, v_r 10), (1, v_i x), (2, v_i y), (3, v_i (fx_or bt 0)), (4, v_i wo), (5, v_i (j : Int)), (6, v_i (byOf (M 11) (M 12) (M 13) x y j))]) (mm_dc od_X4_whoIsSurelyBetter_0 23 rfl) (by decide) rfl ?_
      refine mm_iload (mm_dc od_X4_whoIsSurelyBetter_0 24 rfl) rfl ?_
      refine mm_iload (mm_dc od_X4_whoIsSurelyBetter_0 25 rfl) rfl ?_
      refine mm_if_ge 51 (mm_dc od_X4_whoIsSurelyBetter_0 26 rfl) (by omega) (by first | assumption | omega | exact hr _ _ rfl | exact mm_r3264 (hr _ _ rfl)) (fun c5 => ?_) (fun c5 => ?_)
      · refine mm_iconst (mm_dc od_X4_whoIsSurelyBetter_0 29 rfl) ?_
        refine mm_ior (mm_dc od_X4_whoIsSurelyBetter_0 30 rfl) ?_
        refine mm_istore (L' := [(0, v_r 10), (1, v_i x), (2, v_i y), (3, v_i (fx_or bt 0)), (4, v_i (fx_or wo 0)), (5, v_i (j : Int)), (6, v_i (byOf (M 11) (M 12) (M 13) x y j))]) (mm_dc od_X4_whoIsSurelyBetter_0 31 rfl) (by decide) rfl ?_
        refine mm_iinc (L' := [(0, v_r 10), (1, v_i x), (2, v_i y), (3, v_i (fx_or bt 0)), (4, v_i (fx_or wo 0)), (5, v_i ((j : Int) + 1)), (6, v_i (byOf (M 11) (M 12) (M 13) x y j))]) (mm_dc od_X4_whoIsSurelyBetter_0 32 rfl) rfl (by decide) rfl ?_
        refine mm_goto 8 (mm_dc od_X4_whoIsSurelyBetter_0 33 rfl) (by omega) ?_
        exact mm_less [0, 1, 2, 3, 4, 5] rfl (L_sure x y hx hy hJr hr k (fx_or bt 0) (fx_or wo 0) (j + 1) (sureQ_s hs (by rw [fx_or_b hs2 (Or.inl rfl)]; split <;> split <;> omega) (by rw [fx_or_b hs4 (Or.inl rfl)]; split <;> split <;> omega)) (by omega))
      · refine mm_iconst (mm_dc od_X4_whoIsSurelyBetter_0 27 rfl) ?_
        refine mm_goto 52 (mm_dc od_X4_whoIsSurelyBetter_0 28 rfl) (by omega) ?_
        refine mm_ior (mm_dc od_X4_whoIsSurelyBetter_0 30 rfl) ?_
        refine mm_istore (L' := [(0, v_r 10), (1, v_i x), (2, v_i y), (3, v_i (fx_or bt 0)), (4, v_i (fx_or wo 1)), (5, v_i (j : Int)), (6, v_i (byOf (M 11) (M 12) (M 13) x y j))]) (mm_dc od_X4_whoIsSurelyBetter_0 31 rfl) (by decide) rfl ?_
        refine mm_iinc (L' := [(0, v_r 10), (1, v_i x), (2, v_i y), (3, v_i (fx_or bt 0)), (4, v_i (fx_or wo 1)), (5, v_i ((j : Int) + 1)), (6, v_i (byOf (M 11) (M 12) (M 13) x y j))]) (mm_dc od_X4_whoIsSurelyBetter_0 32 rfl) rfl (by decide) rfl ?_
        refine mm_goto 8 (mm_dc od_X4_whoIsSurelyBetter_0 33 rfl) (by omega) ?_
        exact mm_less [0, 1, 2, 3, 4, 5] rfl (L_sure x y hx hy hJr hr k (fx_or bt 0) (fx_or wo 1) (j + 1) (sureQ_s hs (by rw [fx_or_b hs2 (Or.inl rfl)]; split <;> split <;> omega) (by rw [fx_or_b hs4 (Or.inr rfl)]; split <;> split <;> omega)) (by omega))
    · refine mm_iconst (mm_dc od_X4_whoIsSurelyBetter_0 19 rfl) ?_
      refine mm_goto 38 (mm_dc od_X4_whoIsSurelyBetter_0 20 rfl) (by omega) ?_
      refine mm_ior (mm_dc od_X4_whoIsSurelyBetter_0 22 rfl) ?_
      refine mm_istore_n (L' := [(0, v_r 10), (1, v_i x), (2, v_i y), (3, v_i (fx_or bt 1)), (4, v_i wo), (5, v_i (j : Int)), (6, v_i (byOf (M 11) (M 12) (M 13) x y j))]) (mm_dc od_X4_whoIsSurelyBetter_0 23 rfl) (by decide) rfl ?_
      refine mm_iload (mm_dc od_X4_whoIsSurelyBetter_0 24 rfl) rfl ?_
      refine mm_iload (mm_dc od_X4_whoIsSurelyBetter_0 25 rfl) rfl ?_
      refine mm_if_ge 51 (mm_dc od_X4_whoIsSurelyBetter_0 26 rfl) (by omega) (by first | assumption | omega | exact hr _ _ rfl | exact mm_r3264 (hr _ _ rfl)) (fun c6 => ?_) (fun c6 => ?_)
      · refine mm_iconst (mm_dc od_X4_whoIsSurelyBetter_0 29 rfl) ?_
        refine mm_ior (mm_dc od_X4_whoIsSurelyBetter_0 30 rfl) ?_
        refine mm_istore (L' := [(0, v_r 10), (1, v_i x), (2, v_i y), (3, v_i (fx_or bt 1)), (4, v_i (fx_or wo 0)), (5, v_i (j : Int)), (6, v_i (byOf (M 11) (M 12) (M 13) x y j))]) (mm_dc od_X4_whoIsSurelyBetter_0 31 rfl) (by decide) rfl ?_
        refine mm_iinc (L' := [(0, v_r 10), (1, v_i x), (2, v_i y), (3, v_i (fx_or bt 1)), (4, v_i (fx_or wo 0)), (5, v_i ((j : Int) + 1)), (6, v_i (byOf (M 11) (M 12) (M 13) x y j))]) (mm_dc od_X4_whoIsSurelyBetter_0 32 rfl) rfl (by decide) rfl ?_
        refine mm_goto 8 (mm_dc od_X4_whoIsSurelyBetter_0 33 rfl) (by omega) ?_
        exact mm_less [0, 1, 2, 3, 4, 5] rfl (L_sure x y hx hy hJr hr k (fx_or bt 1) (fx_or wo 0) (j + 1) (sureQ_s hs (by rw [fx_or_b hs2 (Or.inr rfl)]; split <;> split <;> omega) (by rw [fx_or_b hs4 (Or.inl rfl)]; split <;> split <;> omega)) (by omega))
      · refine mm_iconst (mm_dc od_X4_whoIsSurelyBetter_0 27 rfl) ?_
        refine mm_goto 52 (mm_dc od_X4_whoIsSurelyBetter_0 28 rfl) (by omega) ?_
        refine mm_ior (mm_dc od_X4_whoIsSurelyBetter_0 30 rfl) ?_
        refine mm_istore (L' := [(0, v_r 10), (1, v_i x), (2, v_i y), (3, v_i (fx_or bt 1)), (4, v_i (fx_or wo 1)), (5, v_i (j : Int)), (6, v_i (byOf (M 11) (M 12) (M 13) x y j))]) (mm_dc od_X4_whoIsSurelyBetter_0 31 rfl) (by decide) rfl ?_
        refine mm_iinc (L' := [(0, v_r 10), (1, v_i x), (2, v_i y), (3, v_i (fx_or bt 1)), (4, v_i (fx_or wo 1)), (5, v_i ((j : Int) + 1)), (6, v_i (byOf (M 11) (M 12) (M 13) x y j))]) (mm_dc od_X4_whoIsSurelyBetter_0 32 rfl) rfl (by decide) rfl ?_
        refine mm_goto 8 (mm_dc od_X4_whoIsSurelyBetter_0 33 rfl) (by omega) ?_
        exact mm_less [0, 1, 2, 3, 4, 5] rfl (L_sure x y hx hy hJr hr k (fx_or bt 1) (fx_or wo 1) (j + 1) (sureQ_s hs (by rw [fx_or_b hs2 (Or.inr rfl)]; split <;> split <;> omega) (by rw [fx_or_b hs4 (Or.inr rfl)]; split <;> split <;> omega)) (by omega))
termination_by (M 10 0).toNat - j
decreasing_by all_goals (first | omega | (simp_wf; omega))
theorem c_X4_whoIsSurelyBetter {X : Nat × (Nat → Int)} {d : Nat} {Po : mm_Po} {M : mm_M} (x : Int) (y : Int) (hx : mm_r32 x) (hy : mm_r32 y) (hJr : JRc M) (hr : R32 M) (k : ∀ r : Int, (∃ bt wo : Int, sureQ (byOf (M 11) (M 12) (M 13) x y) bt wo (M 10 0).toNat ∧ r = sureA bt wo) → Po (some (v_i r)) Lam M) : mm_E X (d + 1) 0 0 mi_X4_whoIsSurelyBetter [v_r 10, v_i x, v_i y] Po Lam M := by
  show mm_G X (d + 1) 0 0 mi_X4_whoIsSurelyBetter Po 0 [(0, v_r 10), (1, v_i x), (2, v_i y)] [] Lam M 0 0
  refine mm_iconst (mm_dc od_X4_whoIsSurelyBetter_0 0 rfl) ?_
  refine mm_istore_n (L' := [(0, v_r 10), (1, v_i x), (2, v_i y), (3, v_i 0)]) (mm_dc od_X4_whoIsSurelyBetter_0 1 rfl) (by decide) rfl ?_
  refine mm_iconst (mm_dc od_X4_whoIsSurelyBetter_0 2 rfl) ?_
  refine mm_istore (L' := [(0, v_r 10), (1, v_i x), (2, v_i y), (3, v_i 0), (4, v_i 0)]) (mm_dc od_X4_whoIsSurelyBetter_0 3 rfl) (by decide) rfl ?_
  refine mm_iconst (mm_dc od_X4_whoIsSurelyBetter_0 4 rfl) ?_
  refine mm_istore (L' := [(0, v_r 10), (1, v_i x), (2, v_i y), (3, v_i 0), (4, v_i 0), (5, v_i 0)]) (mm_dc od_X4_whoIsSurelyBetter_0 5 rfl) (by decide) rfl ?_
  exact L_sure x y hx hy hJr hr k 0 0 0 sureQ_0 (by have := hJr.1; omega)
theorem c_X9_sure {X : Nat × (Nat → Int)} {d : Nat} {Po : mm_Po} {M : mm_M} (x : Int) (y : Int) (hx : mm_r32 x) (hy : mm_r32 y) (hJr : JRc M) (hr : R32 M) (k1 : (¬ ((0 ≤ x ∧ x < M 1 0) ∧ (0 ≤ y ∧ y < M 1 0))) → Po (some (v_i (-1))) Lam M) (k2 : ((0 ≤ x ∧ x < M 1 0) ∧ (0 ≤ y ∧ y < M 1 0)) → x = y → Po (some (v_i (-2))) Lam M) (k3 : ∀ (r : Int), ((0 ≤ x ∧ x < M 1 0) ∧ (0 ≤ y ∧ y < M 1 0)) → x ≠ y → (∃ bt wo : Int, sureQ (byOf (M 11) (M 12) (M 13) x y) bt wo (M 10 0).toNat ∧ r = sureA bt wo) → Po (some (v_i r)) Lam M) : mm_E X (d + 2) 0 0 mi_X9_sure [v_r 0, v_i x, v_i y] Po Lam M := by
  show mm_G X (d + 2) 0 0 mi_X9_sure Po 0 [(0, v_r 0), (1, v_i x), (2, v_i y)] [] Lam M 0 0
  refine mm_aload_n (mm_dc od_X9_sure_0 0 rfl) rfl ?_
  refine mm_getR (ci := 9) (k := 0) (mm_dc od_X9_sure_0 1 rfl) rfl in_X9 (by decide) wd_2_45 rfl rfl ?_
  refine mm_iload_n (mm_dc od_X9_sure_0 2 rfl) rfl ?_
  refine mm_callV (b := 1) (mi' := mi_X0_hasOar) [v_i x] [] (mm_dc od_X9_sure_0 3 rfl) rfl wd_2_99 wd_2_100 wd_2_101 wd_1_2 wd_2_102 yk_X0_hasOar rfl rfl rfl (Nat.le_of_ble_eq_true rfl) rfl (by decide) (c_X0_hasOar x (by first | assumption | omega | exact hr _ _ rfl | exact mm_r3264 (hr _ _ rfl)) (by first | assumption | omega | exact hr _ _ rfl | exact mm_r3264 (hr _ _ rfl)) (fun c1 => ⟨Nat.le_refl _, ?_⟩) (fun c1 => ⟨Nat.le_refl _, ?_⟩))
  · refine mm_if_eq 22 (mm_dc od_X9_sure_0 4 rfl) (by omega) (by first | assumption | omega | exact hr _ _ rfl | exact mm_r3264 (hr _ _ rfl)) (fun h => absurd h (by decide)) (fun _ => ?_)
    refine mm_aload_n (mm_dc od_X9_sure_0 5 rfl) rfl ?_
    refine mm_getR (ci := 9) (k := 0) (mm_dc od_X9_sure_0 6 rfl) rfl in_X9 (by decide) wd_2_45 rfl rfl ?_
    refine mm_iload_n (mm_dc od_X9_sure_0 7 rfl) rfl ?_
    refine mm_callV (b := 1) (mi' := mi_X0_hasOar) [v_i y] [] (mm_dc od_X9_sure_0 8 rfl) rfl wd_2_99 wd_2_100 wd_2_101 wd_1_2 wd_2_102 yk_X0_hasOar rfl rfl rfl (Nat.le_of_ble_eq_true rfl) rfl (by decide) (c_X0_hasOar y (by first | assumption | omega | exact hr _ _ rfl | exact mm_r3264 (hr _ _ rfl)) (by first | assumption | omega | exact hr _ _ rfl | exact mm_r3264 (hr _ _ rfl)) (fun c2 => ⟨Nat.le_refl _, ?_⟩) (fun c2 => ⟨Nat.le_refl _, ?_⟩))
    · refine mm_if_ne 24 (mm_dc od_X9_sure_0 9 rfl) (by omega) (by first | assumption | omega | exact hr _ _ rfl | exact mm_r3264 (hr _ _ rfl)) (fun _ => ?_) (fun h => absurd h (by decide))
      refine mm_iload_n (mm_dc od_X9_sure_0 12 rfl) rfl ?_
      refine mm_iload_n (mm_dc od_X9_sure_0 13 rfl) rfl ?_
      refine mm_icmp_ne 34 (mm_dc od_X9_sure_0 14 rfl) (by omega) (by first | assumption | omega | exact hr _ _ rfl | exact mm_r3264 (hr _ _ rfl)) (by first | assumption | omega | exact hr _ _ rfl | exact mm_r3264 (hr _ _ rfl)) (fun c3 => ?_) (fun c3 => ?_)
      · refine mm_aload_n (mm_dc od_X9_sure_0 17 rfl) rfl ?_
        refine mm_getR (ci := 9) (k := 1) (mm_dc od_X9_sure_0 18 rfl) rfl in_X9 (by decide) wd_2_46 rfl rfl ?_
        refine mm_iload_n (mm_dc od_X9_sure_0 19 rfl) rfl ?_
        refine mm_iload_n (mm_dc od_X9_sure_0 20 rfl) rfl ?_
        refine mm_callV (b := 10) (mi' := mi_X4_whoIsSurelyBetter) [v_i x, v_i y] [] (mm_dc od_X9_sure_0 21 rfl) rfl wd_2_238 wd_2_239 wd_3_0 wd_1_3 wd_3_1 yk_X4_whoIsSurelyBetter rfl rfl rfl (Nat.le_of_ble_eq_true rfl) rfl (by decide) (c_X4_whoIsSurelyBetter x y (by first | assumption | omega | exact hr _ _ rfl | exact mm_r3264 (hr _ _ rfl)) (by first | assumption | omega | exact hr _ _ rfl | exact mm_r3264 (hr _ _ rfl)) hJr (by first | assumption | omega | exact hr _ _ rfl | exact mm_r3264 (hr _ _ rfl)) (fun r4 hq5 => ⟨Nat.le_refl _, ?_⟩))
        refine mm_iret (mm_dc od_X9_sure_0 22 rfl) rfl ?_
        first | exact k3 _ (by first | assumption | omega) (by first | assumption | omega) (by first | assumption | omega) | exact mm_pm (by omega) rfl (k3 _ (by first | assumption | omega) (by first | assumption | omega) (by first | assumption | omega)) | (exfalso; omega)
      · refine mm_bipush (mm_dc od_X9_sure_0 15 rfl) (by decide) ?_
        refine mm_goto 43 (mm_dc od_X9_sure_0 16 rfl) (by omega) ?_
        refine mm_iret (mm_dc od_X9_sure_0 22 rfl) rfl ?_
        first | exact k2 (by first | assumption | omega) (by first | assumption | omega) | (exfalso; omega)
    · refine mm_if_ne 24 (mm_dc od_X9_sure_0 9 rfl) (by omega) (by first | assumption | omega | exact hr _ _ rfl | exact mm_r3264 (hr _ _ rfl)) (fun h => absurd h (by decide)) (fun _ => ?_)
      refine mm_iconst (mm_dc od_X9_sure_0 10 rfl) ?_
      refine mm_iret (mm_dc od_X9_sure_0 11 rfl) rfl ?_
      first | exact k1 (by first | assumption | omega) | (exfalso; omega)
  · refine mm_if_eq 22 (mm_dc od_X9_sure_0 4 rfl) (by omega) (by first | assumption | omega | exact hr _ _ rfl | exact mm_r3264 (hr _ _ rfl)) (fun _ => ?_) (fun h => absurd h (by decide))
    refine mm_iconst (mm_dc od_X9_sure_0 10 rfl) ?_
    refine mm_iret (mm_dc od_X9_sure_0 11 rfl) rfl ?_
    first | exact k1 (by first | assumption | omega) | (exfalso; omega)
def JRm (M : mm_M) : Prop := 0 ≤ M 50 16 ∧ M 50 16 ≤ 40 ∧ ∀ r : Nat, (r : Int) < M 50 16 → (0 ≤ M 61 r ∧ M 61 r < 16) ∧ (0 ≤ M 62 r ∧ M 62 r < 16) ∧ M 61 r ≠ M 62 r ∧ (-999 ≤ M 63 r ∧ M 63 r ≤ 999)
theorem inv_JRm {M : mm_M} (hI : inv M) : JRm M := by
  have hI0 := hI
  obtain ⟨hr, hJo, hJb, hJr, hJom, hJbm, v0, v1, v2, v3, v4, v5, v6, v7, v8, v9⟩ := hI0
  have jo := hJo; have jb := hJb; have jr := hJr; have jom := hJom; have jbm := hJbm
  obtain ⟨ho0, ho16, hO⟩ := jo
  obtain ⟨hb0, hb8, hB⟩ := jb
  obtain ⟨hr0, hr40, hRr⟩ := jr
  obtain ⟨go0, go16, gO⟩ := jom
  obtain ⟨gb0, gb8, gB⟩ := jbm
  have w1 := v1.1; have w2 := v2.1; have w3 := v3.1; have w4 := v4.1; have w5 := v5.1; have w6 := v6.1; have w7 := v7.1.1; have w7b := v7.2.1.1; have w8 := v8.1; have w8b := v8.2.2.2.1
  refine ⟨by omega, by omega, fun r hr1 => ?_⟩
  have h1 := hRr r (by omega)
  have h2 := v3.2 r (by omega)
  omega
theorem L_sureB {X : Nat × (Nat → Int)} {d : Nat} {Po : mm_Po} {M : mm_M} (x y : Int) (hx : mm_r32 x) (hy : mm_r32 y) (hJrm : JRm M) (hr : R32 M) (k : ∀ r : Int, (∃ bt wo : Int, sureQ (byOf (M 61) (M 62) (M 63) x y) bt wo (M 50 16).toNat ∧ r = sureA bt wo) → Po (some (v_i r)) Lam M) (bt wo : Int) (j : Nat) (hs : sureQ (byOf (M 61) (M 62) (M 63) x y) bt wo j) (hj : (j : Int) ≤ M 50 16) (hc : (j : Int) < M 50 16) (K : ∀ b2 w2 : Int, sureQ (byOf (M 61) (M 62) (M 63) x y) b2 w2 (j + 1) → mm_G X (d + 1) 0 0 mi_X10_sure Po 34 [(0, v_r 50), (1, v_i x), (2, v_i y), (3, v_i b2), (4, v_i w2), (5, v_i ((j : Int) + 1))] [] Lam M 0 0) : mm_G X (d + 1) 0 0 mi_X10_sure Po 109 [(0, v_r 50), (1, v_i x), (2, v_i y), (3, v_i bt), (4, v_i wo), (5, v_i (j : Int))] [v_i (byOf (M 61) (M 62) (M 63) x y j)] Lam M 0 0 := by
  have hJr2 := hJrm
  obtain ⟨hr0, hr40, hRr⟩ := hJr2
  have hR1 := hRr j hc
  have hs2 := hs.2.1
  have hs4 := hs.2.2.2
  have hby : -999 ≤ byOf (M 61) (M 62) (M 63) x y j ∧ byOf (M 61) (M 62) (M 63) x y j ≤ 999 := (by unfold byOf; split; omega; split <;> omega)
  refine mm_istore (L' := [(0, v_r 50), (1, v_i x), (2, v_i y), (3, v_i bt), (4, v_i wo), (5, v_i (j : Int)), (6, v_i (byOf (M 61) (M 62) (M 63) x y j))]) (mm_dc od_X10_sure_1 1 rfl) (by decide) rfl ?_
  refine mm_iload_n (mm_dc od_X10_sure_1 2 rfl) rfl ?_
  refine mm_if_ne 120 (mm_dc od_X10_sure_1 3 rfl) (by omega) (by first | assumption | omega | exact hr _ _ rfl | exact mm_r3264 (hr _ _ rfl)) (fun c1 => ?_) (fun c1 => ?_)
  · refine mm_iconst (mm_dc od_X10_sure_1 6 rfl) ?_
    refine mm_goto 125 (mm_dc od_X10_sure_1 7 rfl) (by omega) ?_
    refine mm_istore_n (L' := [(0, v_r 50), (1, v_i x), (2, v_i y), (3, v_i 1), (4, v_i wo), (5, v_i (j : Int)), (6, v_i (byOf (M 61) (M 62) (M 63) x y j))]) (mm_dc od_X10_sure_1 9 rfl) (by decide) rfl ?_
    refine mm_iload (mm_dc od_X10_sure_1 10 rfl) rfl ?_
    refine mm_if_ne 136 (mm_dc od_X10_sure_1 11 rfl) (by omega) (by first | assumption | omega | exact hr _ _ rfl | exact mm_r3264 (hr _ _ rfl)) (fun c2 => ?_) (fun c2 => ?_)
    · refine mm_iconst (mm_dc od_X10_sure_1 14 rfl) ?_
      refine mm_goto 141 (mm_dc od_X10_sure_1 15 rfl) (by omega) ?_
      refine mm_istore (L' := [(0, v_r 50), (1, v_i x), (2, v_i y), (3, v_i 1), (4, v_i 1), (5, v_i (j : Int)), (6, v_i (byOf (M 61) (M 62) (M 63) x y j))]) (mm_dc od_X10_sure_1 17 rfl) (by decide) rfl ?_
      refine mm_iinc (L' := [(0, v_r 50), (1, v_i x), (2, v_i y), (3, v_i 1), (4, v_i 1), (5, v_i ((j : Int) + 1)), (6, v_i (byOf (M 61) (M 62) (M 63) x y j))]) (mm_dc od_X10_sure_1 18 rfl) rfl (by decide) rfl ?_
      refine mm_goto 34 (mm_dc od_X10_sure_1 19 rfl) (by omega) ?_
      exact mm_less [0, 1, 2, 3, 4, 5] rfl (K 1 1 (sureQ_s hs (by split <;> omega) (by split <;> omega)))
    · refine mm_iload (mm_dc od_X10_sure_1 12 rfl) rfl ?_
      refine mm_if_ge 140 (mm_dc od_X10_sure_1 13 rfl) (by omega) (by first | assumption | omega | exact hr _ _ rfl | exact mm_r3264 (hr _ _ rfl)) (fun c3 => ?_) (fun c3 => ?_)
      · refine mm_iconst (mm_dc od_X10_sure_1 16 rfl) ?_
        refine mm_istore (L' := [(0, v_r 50), (1, v_i x), (2, v_i y), (3, v_i 1), (4, v_i 0), (5, v_i (j : Int)), (6, v_i (byOf (M 61) (M 62) (M 63) x y j))]) (mm_dc od_X10_sure_1 17 rfl) (by decide) rfl ?_
        refine mm_iinc (L' := [(0, v_r 50), (1, v_i x), (2, v_i y), (3, v_i 1), (4, v_i 0), (5, v_i ((j : Int) + 1)), (6, v_i (byOf (M 61) (M 62) (M 63) x y j))]) (mm_dc od_X10_sure_1 18 rfl) rfl (by decide) rfl ?_
        refine mm_goto 34 (mm_dc od_X10_sure_1 19 rfl) (by omega) ?_
        exact mm_less [0, 1, 2, 3, 4, 5] rfl (K 1 0 (sureQ_s hs (by split <;> omega) (by split <;> omega)))
      · refine mm_iconst (mm_dc od_X10_sure_1 14 rfl) ?_
        refine mm_goto 141 (mm_dc od_X10_sure_1 15 rfl) (by omega) ?_
        refine mm_istore (L' := [(0, v_r 50), (1, v_i x), (2, v_i y), (3, v_i 1), (4, v_i 1), (5, v_i (j : Int)), (6, v_i (byOf (M 61) (M 62) (M 63) x y j))]) (mm_dc od_X10_sure_1 17 rfl) (by decide) rfl ?_
        refine mm_iinc (L' := [(0, v_r 50), (1, v_i x), (2, v_i y), (3, v_i 1), (4, v_i 1), (5, v_i ((j : Int) + 1)), (6, v_i (byOf (M 61) (M 62) (M 63) x y j))]) (mm_dc od_X10_sure_1 18 rfl) rfl (by decide) rfl ?_
        refine mm_goto 34 (mm_dc od_X10_sure_1 19 rfl) (by omega) ?_
        exact mm_less [0, 1, 2, 3, 4, 5] rfl (K 1 1 (sureQ_s hs (by split <;> omega) (by split <;> omega)))
  · refine mm_iload (mm_dc od_X10_sure_1 4 rfl) rfl ?_
    refine mm_if_le 124 (mm_dc od_X10_sure_1 5 rfl) (by omega) (by first | assumption | omega | exact hr _ _ rfl | exact mm_r3264 (hr _ _ rfl)) (fun c4 => ?_) (fun c4 => ?_)
    · refine mm_iconst (mm_dc od_X10_sure_1 8 rfl) ?_
      refine mm_istore_n (L' := [(0, v_r 50), (1, v_i x), (2, v_i y), (3, v_i 0), (4, v_i wo), (5, v_i (j : Int)), (6, v_i (byOf (M 61) (M 62) (M 63) x y j))]) (mm_dc od_X10_sure_1 9 rfl) (by decide) rfl ?_
      refine mm_iload (mm_dc od_X10_sure_1 10 rfl) rfl ?_
      refine mm_if_ne 136 (mm_dc od_X10_sure_1 11 rfl) (by omega) (by first | assumption | omega | exact hr _ _ rfl | exact mm_r3264 (hr _ _ rfl)) (fun c5 => ?_) (fun c5 => ?_)
      · refine mm_iconst (mm_dc od_X10_sure_1 14 rfl) ?_
        refine mm_goto 141 (mm_dc od_X10_sure_1 15 rfl) (by omega) ?_
        refine mm_istore (L' := [(0, v_r 50), (1, v_i x), (2, v_i y), (3, v_i 0), (4, v_i 1), (5, v_i (j : Int)), (6, v_i (byOf (M 61) (M 62) (M 63) x y j))]) (mm_dc od_X10_sure_1 17 rfl) (by decide) rfl ?_
        refine mm_iinc (L' := [(0, v_r 50), (1, v_i x), (2, v_i y), (3, v_i 0), (4, v_i 1), (5, v_i ((j : Int) + 1)), (6, v_i (byOf (M 61) (M 62) (M 63) x y j))]) (mm_dc od_X10_sure_1 18 rfl) rfl (by decide) rfl ?_
        refine mm_goto 34 (mm_dc od_X10_sure_1 19 rfl) (by omega) ?_
        exact mm_less [0, 1, 2, 3, 4, 5] rfl (K 0 1 (sureQ_s hs (by split <;> omega) (by split <;> omega)))
      · refine mm_iload (mm_dc od_X10_sure_1 12 rfl) rfl ?_
        refine mm_if_ge 140 (mm_dc od_X10_sure_1 13 rfl) (by omega) (by first | assumption | omega | exact hr _ _ rfl | exact mm_r3264 (hr _ _ rfl)) (fun c6 => ?_) (fun c6 => ?_)
        · refine mm_iconst (mm_dc od_X10_sure_1 16 rfl) ?_
          refine mm_istore (L' := [(0, v_r 50), (1, v_i x), (2, v_i y), (3, v_i 0), (4, v_i 0), (5, v_i (j : Int)), (6, v_i (byOf (M 61) (M 62) (M 63) x y j))]) (mm_dc od_X10_sure_1 17 rfl) (by decide) rfl ?_
          refine mm_iinc (L' := [(0, v_r 50), (1, v_i x), (2, v_i y), (3, v_i 0), (4, v_i 0), (5, v_i ((j : Int) + 1)), (6, v_i (byOf (M 61) (M 62) (M 63) x y j))]) (mm_dc od_X10_sure_1 18 rfl) rfl (by decide) rfl ?_
          refine mm_goto 34 (mm_dc od_X10_sure_1 19 rfl) (by omega) ?_
          exact mm_less [0, 1, 2, 3, 4, 5] rfl (K 0 0 (sureQ_s hs (by split <;> omega) (by split <;> omega)))
        · refine mm_iconst (mm_dc od_X10_sure_1 14 rfl) ?_
          refine mm_goto 141 (mm_dc od_X10_sure_1 15 rfl) (by omega) ?_
          refine mm_istore (L' := [(0, v_r 50), (1, v_i x), (2, v_i y), (3, v_i 0), (4, v_i 1), (5, v_i (j : Int)), (6, v_i (byOf (M 61) (M 62) (M 63) x y j))]) (mm_dc od_X10_sure_1 17 rfl) (by decide) rfl ?_
          refine mm_iinc (L' := [(0, v_r 50), (1, v_i x), (2, v_i y), (3, v_i 0), (4, v_i 1), (5, v_i ((j : Int) + 1)), (6, v_i (byOf (M 61) (M 62) (M 63) x y j))]) (mm_dc od_X10_sure_1 18 rfl) rfl (by decide) rfl ?_
          refine mm_goto 34 (mm_dc od_X10_sure_1 19 rfl) (by omega) ?_
          exact mm_less [0, 1, 2, 3, 4, 5] rfl (K 0 1 (sureQ_s hs (by split <;> omega) (by split <;> omega)))
    · refine mm_iconst (mm_dc od_X10_sure_1 6 rfl) ?_
      refine mm_goto 125 (mm_dc od_X10_sure_1 7 rfl) (by omega) ?_
      refine mm_istore_n (L' := [(0, v_r 50), (1, v_i x), (2, v_i y), (3, v_i 1), (4, v_i wo), (5, v_i (j : Int)), (6, v_i (byOf (M 61) (M 62) (M 63) x y j))]) (mm_dc od_X10_sure_1 9 rfl) (by decide) rfl ?_
      refine mm_iload (mm_dc od_X10_sure_1 10 rfl) rfl ?_
      refine mm_if_ne 136 (mm_dc od_X10_sure_1 11 rfl) (by omega) (by first | assumption | omega | exact hr _ _ rfl | exact mm_r3264 (hr _ _ rfl)) (fun c7 => ?_) (fun c7 => ?_)
      · refine mm_iconst (mm_dc od_X10_sure_1 14 rfl) ?_
        refine mm_goto 141 (mm_dc od_X10_sure_1 15 rfl) (by omega) ?_
        refine mm_istore (L' := [(0, v_r 50), (1, v_i x), (2, v_i y), (3, v_i 1), (4, v_i 1), (5, v_i (j : Int)), (6, v_i (byOf (M 61) (M 62) (M 63) x y j))]) (mm_dc od_X10_sure_1 17 rfl) (by decide) rfl ?_
        refine mm_iinc (L' := [(0, v_r 50), (1, v_i x), (2, v_i y), (3, v_i 1), (4, v_i 1), (5, v_i ((j : Int) + 1)), (6, v_i (byOf (M 61) (M 62) (M 63) x y j))]) (mm_dc od_X10_sure_1 18 rfl) rfl (by decide) rfl ?_
        refine mm_goto 34 (mm_dc od_X10_sure_1 19 rfl) (by omega) ?_
        exact mm_less [0, 1, 2, 3, 4, 5] rfl (K 1 1 (sureQ_s hs (by split <;> omega) (by split <;> omega)))
      · refine mm_iload (mm_dc od_X10_sure_1 12 rfl) rfl ?_
        refine mm_if_ge 140 (mm_dc od_X10_sure_1 13 rfl) (by omega) (by first | assumption | omega | exact hr _ _ rfl | exact mm_r3264 (hr _ _ rfl)) (fun c8 => ?_) (fun c8 => ?_)
        · refine mm_iconst (mm_dc od_X10_sure_1 16 rfl) ?_
          refine mm_istore (L' := [(0, v_r 50), (1, v_i x), (2, v_i y), (3, v_i 1), (4, v_i 0), (5, v_i (j : Int)), (6, v_i (byOf (M 61) (M 62) (M 63) x y j))]) (mm_dc od_X10_sure_1 17 rfl) (by decide) rfl ?_
          refine mm_iinc (L' := [(0, v_r 50), (1, v_i x), (2, v_i y), (3, v_i 1), (4, v_i 0), (5, v_i ((j : Int) + 1)), (6, v_i (byOf (M 61) (M 62) (M 63) x y j))]) (mm_dc od_X10_sure_1 18 rfl) rfl (by decide) rfl ?_
          refine mm_goto 34 (mm_dc od_X10_sure_1 19 rfl) (by omega) ?_
          exact mm_less [0, 1, 2, 3, 4, 5] rfl (K 1 0 (sureQ_s hs (by split <;> omega) (by split <;> omega)))
        · refine mm_iconst (mm_dc od_X10_sure_1 14 rfl) ?_
          refine mm_goto 141 (mm_dc od_X10_sure_1 15 rfl) (by omega) ?_
          refine mm_istore (L' := [(0, v_r 50), (1, v_i x), (2, v_i y), (3, v_i 1), (4, v_i 1), (5, v_i (j : Int)), (6, v_i (byOf (M 61) (M 62) (M 63) x y j))]) (mm_dc od_X10_sure_1 17 rfl) (by decide) rfl ?_
          refine mm_iinc (L' := [(0, v_r 50), (1, v_i x), (2, v_i y), (3, v_i 1), (4, v_i 1), (5, v_i ((j : Int) + 1)), (6, v_i (byOf (M 61) (M 62) (M 63) x y j))]) (mm_dc od_X10_sure_1 18 rfl) rfl (by decide) rfl ?_
          refine mm_goto 34 (mm_dc od_X10_sure_1 19 rfl) (by omega) ?_
          exact mm_less [0, 1, 2, 3, 4, 5] rfl (K 1 1 (sureQ_s hs (by split <;> omega) (by split <;> omega)))
theorem L_sureM {X : Nat × (Nat → Int)} {d : Nat} {Po : mm_Po} {M : mm_M} (x y : Int) (hx : mm_r32 x) (hy : mm_r32 y) (hJrm : JRm M) (hr : R32 M) (k : ∀ r : Int, (∃ bt wo : Int, sureQ (byOf (M 61) (M 62) (M 63) x y) bt wo (M 50 16).toNat ∧ r = sureA bt wo) → Po (some (v_i r)) Lam M) (bt wo : Int) (j : Nat) (hs : sureQ (byOf (M 61) (M 62) (M 63) x y) bt wo j) (hj : (j : Int) ≤ M 50 16) : mm_G X (d + 1) 0 0 mi_X10_sure Po 34 [(0, v_r 50), (1, v_i x), (2, v_i y), (3, v_i bt), (4, v_i wo), (5, v_i (j : Int))] [] Lam M 0 0 := by
  have hJr2 := hJrm
  obtain ⟨hr0, hr40, hRr⟩ := hJr2
  have hR1 := hRr j
  have hs2 := hs.2.1
  have hs4 := hs.2.2.2
  refine mm_iload (mm_dc od_X10_sure_0 21 rfl) rfl ?_
  refine mm_aload_n (mm_dc od_X10_sure_0 22 rfl) rfl ?_
  refine mm_getI (ci := 10) (k := 16) (mm_dc od_X10_sure_0 23 rfl) rfl in_X10 (by decide) wd_4_128 rfl rfl ?_
  refine mm_icmp_ge 149 (mm_dc od_X10_sure_0 24 rfl) (by omega) (by first | assumption | omega | exact hr _ _ rfl | exact mm_r3264 (hr _ _ rfl)) (by first | assumption | omega | exact hr _ _ rfl | exact mm_r3264 (hr _ _ rfl)) (fun c1 => ?_) (fun c1 => ?_)
  · refine mm_iload_n (mm_dc od_X10_sure_1 20 rfl) rfl ?_
    refine mm_if_eq 162 (mm_dc od_X10_sure_1 21 rfl) (by omega) (by first | assumption | omega | exact hr _ _ rfl | exact mm_r3264 (hr _ _ rfl)) (fun c2 => ?_) (fun c2 => ?_)
    · refine mm_iload (mm_dc od_X10_sure_1 26 rfl) rfl ?_
      refine mm_if_eq 175 (mm_dc od_X10_sure_1 27 rfl) (by omega) (by first | assumption | omega | exact hr _ _ rfl | exact mm_r3264 (hr _ _ rfl)) (fun c3 => ?_) (fun c3 => ?_)
      · refine mm_iconst (mm_dc od_X10_sure_1 32 rfl) ?_
        refine mm_iret (mm_dc od_X10_sure_1 33 rfl) rfl ?_
        exact k _ ⟨bt, wo, (by have e : (M 50 16).toNat = j := (by omega); rw [e]; exact hs), (by unfold sureA; split <;> first | omega | (split <;> omega))⟩
      · refine mm_iload_n (mm_dc od_X10_sure_1 28 rfl) rfl ?_
        refine mm_if_ne 175 (mm_dc od_X10_sure_1 29 rfl) (by omega) (by first | assumption | omega | exact hr _ _ rfl | exact mm_r3264 (hr _ _ rfl)) (fun c4 => ?_) (fun c4 => ?_)
        · refine mm_iconst (mm_dc od_X10_sure_1 32 rfl) ?_
          refine mm_iret (mm_dc od_X10_sure_1 33 rfl) rfl ?_
          exact k _ ⟨bt, wo, (by have e : (M 50 16).toNat = j := (by omega); rw [e]; exact hs), (by unfold sureA; split <;> first | omega | (split <;> omega))⟩
        · refine mm_iconst (mm_dc od_X10_sure_1 30 rfl) ?_
          refine mm_goto 176 (mm_dc od_X10_sure_1 31 rfl) (by omega) ?_
          refine mm_iret (mm_dc od_X10_sure_1 33 rfl) rfl ?_
          exact k _ ⟨bt, wo, (by have e : (M 50 16).toNat = j := (by omega); rw [e]; exact hs), (by unfold sureA; split <;> first | omega | (split <;> omega))⟩
    · refine mm_iload (mm_dc od_X10_sure_1 22 rfl) rfl ?_
      refine mm_if_ne 162 (mm_dc od_X10_sure_1 23 rfl) (by omega) (by first | assumption | omega | exact hr _ _ rfl | exact mm_r3264 (hr _ _ rfl)) (fun c5 => ?_) (fun c5 => ?_)
      · refine mm_iload (mm_dc od_X10_sure_1 26 rfl) rfl ?_
        refine mm_if_eq 175 (mm_dc od_X10_sure_1 27 rfl) (by omega) (by first | assumption | omega | exact hr _ _ rfl | exact mm_r3264 (hr _ _ rfl)) (fun c6 => ?_) (fun c6 => ?_)
        · refine mm_iconst (mm_dc od_X10_sure_1 32 rfl) ?_
          refine mm_iret (mm_dc od_X10_sure_1 33 rfl) rfl ?_
          exact k _ ⟨bt, wo, (by have e : (M 50 16).toNat = j := (by omega); rw [e]; exact hs), (by unfold sureA; split <;> first | omega | (split <;> omega))⟩
        · refine mm_iload_n (mm_dc od_X10_sure_1 28 rfl) rfl ?_
          refine mm_if_ne 175 (mm_dc od_X10_sure_1 29 rfl) (by omega) (by first | assumption | omega | exact hr _ _ rfl | exact mm_r3264 (hr _ _ rfl)) (fun c7 => ?_) (fun c7 => ?_)
          · refine mm_iconst (mm_dc od_X10_sure_1 32 rfl) ?_
            refine mm_iret (mm_dc od_X10_sure_1 33 rfl) rfl ?_
            exact k _ ⟨bt, wo, (by have e : (M 50 16).toNat = j := (by omega); rw [e]; exact hs), (by unfold sureA; split <;> first | omega | (split <;> omega))⟩
          · refine mm_iconst (mm_dc od_X10_sure_1 30 rfl) ?_
            refine mm_goto 176 (mm_dc od_X10_sure_1 31 rfl) (by omega) ?_
            refine mm_iret (mm_dc od_X10_sure_1 33 rfl) rfl ?_
            exact k _ ⟨bt, wo, (by have e : (M 50 16).toNat = j := (by omega); rw [e]; exact hs), (by unfold sureA; split <;> first | omega | (split <;> omega))⟩
      · refine mm_iconst (mm_dc od_X10_sure_1 24 rfl) ?_
        refine mm_goto 176 (mm_dc od_X10_sure_1 25 rfl) (by omega) ?_
        refine mm_iret (mm_dc od_X10_sure_1 33 rfl) rfl ?_
        exact k _ ⟨bt, wo, (by have e : (M 50 16).toNat = j := (by omega); rw [e]; exact hs), (by unfold sureA; split <;> first | omega | (split <;> omega))⟩
  · refine mm_aload_n (mm_dc od_X10_sure_0 25 rfl) rfl ?_
    refine mm_getR (ci := 10) (k := 12) (mm_dc od_X10_sure_0 26 rfl) rfl in_X10 (by decide) wd_4_124 rfl rfl ?_
    refine mm_iload (mm_dc od_X10_sure_0 27 rfl) rfl ?_
    refine mm_iald (mm_dc od_X10_sure_0 28 rfl) rfl (by first | assumption | omega | exact hr _ _ rfl | exact mm_r3264 (hr _ _ rfl)) (by first | assumption | omega | exact hr _ _ rfl | exact mm_r3264 (hr _ _ rfl)) (by decide) ?_
    refine mm_cst (st' := [v_i (M 61 j)]) rfl ?_
    refine mm_iload_n (mm_dc od_X10_sure_0 29 rfl) rfl ?_
    refine mm_icmp_ne 75 (mm_dc od_X10_sure_0 30 rfl) (by omega) (by first | assumption | omega | exact hr _ _ rfl | exact mm_r3264 (hr _ _ rfl)) (by first | assumption | omega | exact hr _ _ rfl | exact mm_r3264 (hr _ _ rfl)) (fun c8 => ?_) (fun c8 => ?_)
    · refine mm_aload_n (mm_dc od_X10_sure_0 42 rfl) rfl ?_
      refine mm_getR (ci := 10) (k := 12) (mm_dc od_X10_sure_0 43 rfl) rfl in_X10 (by decide) wd_4_124 rfl rfl ?_
      refine mm_iload (mm_dc od_X10_sure_0 44 rfl) rfl ?_
      refine mm_iald (mm_dc od_X10_sure_0 45 rfl) rfl (by first | assumption | omega | exact hr _ _ rfl | exact mm_r3264 (hr _ _ rfl)) (by first | assumption | omega | exact hr _ _ rfl | exact mm_r3264 (hr _ _ rfl)) (by decide) ?_
      refine mm_cst (st' := [v_i (M 61 j)]) rfl ?_
      refine mm_iload_n (mm_dc od_X10_sure_0 46 rfl) rfl ?_
      refine mm_icmp_ne 108 (mm_dc od_X10_sure_0 47 rfl) (by omega) (by first | assumption | omega | exact hr _ _ rfl | exact mm_r3264 (hr _ _ rfl)) (by first | assumption | omega | exact hr _ _ rfl | exact mm_r3264 (hr _ _ rfl)) (fun c9 => ?_) (fun c9 => ?_)
      · refine mm_iconst (mm_dc od_X10_sure_1 0 rfl) ?_
        refine mm_cst (st' := [v_i (byOf (M 61) (M 62) (M 63) x y j)]) (by unfold byOf; split <;> first | rfl | omega | (split <;> first | rfl | omega)) ?_
        exact L_sureB x y hx hy hJrm hr k bt wo j hs hj (by assumption) (fun b2 w2 h2 => L_sureM x y hx hy hJrm hr k b2 w2 (j + 1) h2 (by omega))
      · refine mm_aload_n (mm_dc od_X10_sure_0 48 rfl) rfl ?_
        refine mm_getR (ci := 10) (k := 13) (mm_dc od_X10_sure_0 49 rfl) rfl in_X10 (by decide) wd_4_125 rfl rfl ?_
        refine mm_iload (mm_dc od_X10_sure_0 50 rfl) rfl ?_
        refine mm_iald (mm_dc od_X10_sure_0 51 rfl) rfl (by first | assumption | omega | exact hr _ _ rfl | exact mm_r3264 (hr _ _ rfl)) (by first | assumption | omega | exact hr _ _ rfl | exact mm_r3264 (hr _ _ rfl)) (by decide) ?_
        refine mm_cst (st' := [v_i (M 62 j)]) rfl ?_
        refine mm_iload_n (mm_dc od_X10_sure_0 52 rfl) rfl ?_
        refine mm_icmp_ne 108 (mm_dc od_X10_sure_0 53 rfl) (by omega) (by first | assumption | omega | exact hr _ _ rfl | exact mm_r3264 (hr _ _ rfl)) (by first | assumption | omega | exact hr _ _ rfl | exact mm_r3264 (hr _ _ rfl)) (fun c10 => ?_) (fun c10 => ?_)
        · refine mm_iconst (mm_dc od_X10_sure_1 0 rfl) ?_
          refine mm_cst (st' := [v_i (byOf (M 61) (M 62) (M 63) x y j)]) (by unfold byOf; split <;> first | rfl | omega | (split <;> first | rfl | omega)) ?_
          exact L_sureB x y hx hy hJrm hr k bt wo j hs hj (by assumption) (fun b2 w2 h2 => L_sureM x y hx hy hJrm hr k b2 w2 (j + 1) h2 (by omega))
        · refine mm_aload_n (mm_dc od_X10_sure_0 54 rfl) rfl ?_
          refine mm_getR (ci := 10) (k := 14) (mm_dc od_X10_sure_0 55 rfl) rfl in_X10 (by decide) wd_4_126 rfl rfl ?_
          refine mm_iload (mm_dc od_X10_sure_0 56 rfl) rfl ?_
          refine mm_iald (mm_dc od_X10_sure_0 57 rfl) rfl (by first | assumption | omega | exact hr _ _ rfl | exact mm_r3264 (hr _ _ rfl)) (by first | assumption | omega | exact hr _ _ rfl | exact mm_r3264 (hr _ _ rfl)) (by decide) ?_
          refine mm_cst (st' := [v_i (M 63 j)]) rfl ?_
          refine mm_ineg (mm_dc od_X10_sure_0 58 rfl) ?_
          refine mm_goto 109 (mm_dc od_X10_sure_0 59 rfl) (by omega) ?_
          refine mm_cst (st' := [v_i (byOf (M 61) (M 62) (M 63) x y j)]) (by unfold byOf; split <;> first | rfl | omega | (split <;> first | rfl | omega)) ?_
          exact L_sureB x y hx hy hJrm hr k bt wo j hs hj (by assumption) (fun b2 w2 h2 => L_sureM x y hx hy hJrm hr k b2 w2 (j + 1) h2 (by omega))
    · refine mm_aload_n (mm_dc od_X10_sure_0 31 rfl) rfl ?_
      refine mm_getR (ci := 10) (k := 13) (mm_dc od_X10_sure_0 32 rfl) rfl in_X10 (by decide) wd_4_125 rfl rfl ?_
      refine mm_iload (mm_dc od_X10_sure_0 33 rfl) rfl ?_
      refine mm_iald (mm_dc od_X10_sure_0 34 rfl) rfl (by first | assumption | omega | exact hr _ _ rfl | exact mm_r3264 (hr _ _ rfl)) (by first | assumption | omega | exact hr _ _ rfl | exact mm_r3264 (hr _ _ rfl)) (by decide) ?_
      refine mm_cst (st' := [v_i (M 62 j)]) rfl ?_
      refine mm_iload_n (mm_dc od_X10_sure_0 35 rfl) rfl ?_
      refine mm_icmp_ne 75 (mm_dc od_X10_sure_0 36 rfl) (by omega) (by first | assumption | omega | exact hr _ _ rfl | exact mm_r3264 (hr _ _ rfl)) (by first | assumption | omega | exact hr _ _ rfl | exact mm_r3264 (hr _ _ rfl)) (fun c11 => ?_) (fun c11 => ?_)
      · refine mm_aload_n (mm_dc od_X10_sure_0 42 rfl) rfl ?_
        refine mm_getR (ci := 10) (k := 12) (mm_dc od_X10_sure_0 43 rfl) rfl in_X10 (by decide) wd_4_124 rfl rfl ?_
        refine mm_iload (mm_dc od_X10_sure_0 44 rfl) rfl ?_
        refine mm_iald (mm_dc od_X10_sure_0 45 rfl) rfl (by first | assumption | omega | exact hr _ _ rfl | exact mm_r3264 (hr _ _ rfl)) (by first | assumption | omega | exact hr _ _ rfl | exact mm_r3264 (hr _ _ rfl)) (by decide) ?_
        refine mm_cst (st' := [v_i (M 61 j)]) rfl ?_
        refine mm_iload_n (mm_dc od_X10_sure_0 46 rfl) rfl ?_
        refine mm_icmp_ne 108 (mm_dc od_X10_sure_0 47 rfl) (by omega) (by first | assumption | omega | exact hr _ _ rfl | exact mm_r3264 (hr _ _ rfl)) (by first | assumption | omega | exact hr _ _ rfl | exact mm_r3264 (hr _ _ rfl)) (fun c12 => ?_) (fun c12 => ?_)
        · refine mm_iconst (mm_dc od_X10_sure_1 0 rfl) ?_
          refine mm_cst (st' := [v_i (byOf (M 61) (M 62) (M 63) x y j)]) (by unfold byOf; split <;> first | rfl | omega | (split <;> first | rfl | omega)) ?_
          exact L_sureB x y hx hy hJrm hr k bt wo j hs hj (by assumption) (fun b2 w2 h2 => L_sureM x y hx hy hJrm hr k b2 w2 (j + 1) h2 (by omega))
        · refine mm_aload_n (mm_dc od_X10_sure_0 48 rfl) rfl ?_
          refine mm_getR (ci := 10) (k := 13) (mm_dc od_X10_sure_0 49 rfl) rfl in_X10 (by decide) wd_4_125 rfl rfl ?_
          refine mm_iload (mm_dc od_X10_sure_0 50 rfl) rfl ?_
          refine mm_iald (mm_dc od_X10_sure_0 51 rfl) rfl (by first | assumption | omega | exact hr _ _ rfl | exact mm_r3264 (hr _ _ rfl)) (by first | assumption | omega | exact hr _ _ rfl | exact mm_r3264 (hr _ _ rfl)) (by decide) ?_
          refine mm_cst (st' := [v_i (M 62 j)]) rfl ?_
          refine mm_iload_n (mm_dc od_X10_sure_0 52 rfl) rfl ?_
          refine mm_icmp_ne 108 (mm_dc od_X10_sure_0 53 rfl) (by omega) (by first | assumption | omega | exact hr _ _ rfl | exact mm_r3264 (hr _ _ rfl)) (by first | assumption | omega | exact hr _ _ rfl | exact mm_r3264 (hr _ _ rfl)) (fun c13 => ?_) (fun c13 => ?_)
          · refine mm_iconst (mm_dc od_X10_sure_1 0 rfl) ?_
            refine mm_cst (st' := [v_i (byOf (M 61) (M 62) (M 63) x y j)]) (by unfold byOf; split <;> first | rfl | omega | (split <;> first | rfl | omega)) ?_
            exact L_sureB x y hx hy hJrm hr k bt wo j hs hj (by assumption) (fun b2 w2 h2 => L_sureM x y hx hy hJrm hr k b2 w2 (j + 1) h2 (by omega))
          · refine mm_aload_n (mm_dc od_X10_sure_0 54 rfl) rfl ?_
            refine mm_getR (ci := 10) (k := 14) (mm_dc od_X10_sure_0 55 rfl) rfl in_X10 (by decide) wd_4_126 rfl rfl ?_
            refine mm_iload (mm_dc od_X10_sure_0 56 rfl) rfl ?_
            refine mm_iald (mm_dc od_X10_sure_0 57 rfl) rfl (by first | assumption | omega | exact hr _ _ rfl | exact mm_r3264 (hr _ _ rfl)) (by first | assumption | omega | exact hr _ _ rfl | exact mm_r3264 (hr _ _ rfl)) (by decide) ?_
            refine mm_cst (st' := [v_i (M 63 j)]) rfl ?_
            refine mm_ineg (mm_dc od_X10_sure_0 58 rfl) ?_
            refine mm_goto 109 (mm_dc od_X10_sure_0 59 rfl) (by omega) ?_
            refine mm_cst (st' := [v_i (byOf (M 61) (M 62) (M 63) x y j)]) (by unfold byOf; split <;> first | rfl | omega | (split <;> first | rfl | omega)) ?_
            exact L_sureB x y hx hy hJrm hr k bt wo j hs hj (by assumption) (fun b2 w2 h2 => L_sureM x y hx hy hJrm hr k b2 w2 (j + 1) h2 (by omega))
      · refine mm_aload_n (mm_dc od_X10_sure_0 37 rfl) rfl ?_
        refine mm_getR (ci := 10) (k := 14) (mm_dc od_X10_sure_0 38 rfl) rfl in_X10 (by decide) wd_4_126 rfl rfl ?_
        refine mm_iload (mm_dc od_X10_sure_0 39 rfl) rfl ?_
        refine mm_iald (mm_dc od_X10_sure_0 40 rfl) rfl (by first | assumption | omega | exact hr _ _ rfl | exact mm_r3264 (hr _ _ rfl)) (by first | assumption | omega | exact hr _ _ rfl | exact mm_r3264 (hr _ _ rfl)) (by decide) ?_
        refine mm_cst (st' := [v_i (M 63 j)]) rfl ?_
        refine mm_goto 109 (mm_dc od_X10_sure_0 41 rfl) (by omega) ?_
        refine mm_cst (st' := [v_i (byOf (M 61) (M 62) (M 63) x y j)]) (by unfold byOf; split <;> first | rfl | omega | (split <;> first | rfl | omega)) ?_
        exact L_sureB x y hx hy hJrm hr k bt wo j hs hj (by assumption) (fun b2 w2 h2 => L_sureM x y hx hy hJrm hr k b2 w2 (j + 1) h2 (by omega))
termination_by (M 50 16).toNat - j
decreasing_by all_goals (first | omega | (simp_wf; omega))
theorem c_X10_sure {X : Nat × (Nat → Int)} {d : Nat} {Po : mm_Po} {M : mm_M} (x : Int) (y : Int) (hx : mm_r32 x) (hy : mm_r32 y) (hJrm : JRm M) (hr : R32 M) (k1 : (¬ ((0 ≤ x ∧ x < M 50 10) ∧ (0 ≤ y ∧ y < M 50 10))) → Po (some (v_i (-1))) Lam M) (k2 : ((0 ≤ x ∧ x < M 50 10) ∧ (0 ≤ y ∧ y < M 50 10)) → x = y → Po (some (v_i (-2))) Lam M) (k3 : ∀ (r : Int), ((0 ≤ x ∧ x < M 50 10) ∧ (0 ≤ y ∧ y < M 50 10)) → x ≠ y → (∃ bt wo : Int, sureQ (byOf (M 61) (M 62) (M 63) x y) bt wo (M 50 16).toNat ∧ r = sureA bt wo) → Po (some (v_i r)) Lam M) : mm_E X (d + 1) 0 0 mi_X10_sure [v_r 50, v_i x, v_i y] Po Lam M := by
  show mm_G X (d + 1) 0 0 mi_X10_sure Po 0 [(0, v_r 50), (1, v_i x), (2, v_i y)] [] Lam M 0 0
  refine mm_aload_n (mm_dc od_X10_sure_0 0 rfl) rfl ?_
  refine mm_iload_n (mm_dc od_X10_sure_0 1 rfl) rfl ?_
  refine mm_callV (b := 50) (mi' := mi_X10_isOar) [v_i x] [] (mm_dc od_X10_sure_0 2 rfl) rfl wd_5_51 wd_5_53 wd_p_21 wd_1_12 wd_5_54 yk_X10_isOar rfl rfl rfl (Nat.le_of_ble_eq_true rfl) rfl (by decide) (c_X10_isOar x (by first | assumption | omega | exact hr _ _ rfl | exact mm_r3264 (hr _ _ rfl)) (by first | assumption | omega | exact hr _ _ rfl | exact mm_r3264 (hr _ _ rfl)) (fun c1 => ⟨Nat.le_refl _, ?_⟩) (fun c1 => ⟨Nat.le_refl _, ?_⟩))
  · refine mm_if_eq 16 (mm_dc od_X10_sure_0 3 rfl) (by omega) (by first | assumption | omega | exact hr _ _ rfl | exact mm_r3264 (hr _ _ rfl)) (fun h => absurd h (by decide)) (fun _ => ?_)
    refine mm_aload_n (mm_dc od_X10_sure_0 4 rfl) rfl ?_
    refine mm_iload_n (mm_dc od_X10_sure_0 5 rfl) rfl ?_
    refine mm_callV (b := 50) (mi' := mi_X10_isOar) [v_i y] [] (mm_dc od_X10_sure_0 6 rfl) rfl wd_5_51 wd_5_53 wd_p_21 wd_1_12 wd_5_54 yk_X10_isOar rfl rfl rfl (Nat.le_of_ble_eq_true rfl) rfl (by decide) (c_X10_isOar y (by first | assumption | omega | exact hr _ _ rfl | exact mm_r3264 (hr _ _ rfl)) (by first | assumption | omega | exact hr _ _ rfl | exact mm_r3264 (hr _ _ rfl)) (fun c2 => ⟨Nat.le_refl _, ?_⟩) (fun c2 => ⟨Nat.le_refl _, ?_⟩))
    · refine mm_if_ne 18 (mm_dc od_X10_sure_0 7 rfl) (by omega) (by first | assumption | omega | exact hr _ _ rfl | exact mm_r3264 (hr _ _ rfl)) (fun _ => ?_) (fun h => absurd h (by decide))
      refine mm_iload_n (mm_dc od_X10_sure_0 10 rfl) rfl ?_
      refine mm_iload_n (mm_dc od_X10_sure_0 11 rfl) rfl ?_
      refine mm_icmp_ne 26 (mm_dc od_X10_sure_0 12 rfl) (by omega) (by first | assumption | omega | exact hr _ _ rfl | exact mm_r3264 (hr _ _ rfl)) (by first | assumption | omega | exact hr _ _ rfl | exact mm_r3264 (hr _ _ rfl)) (fun c3 => ?_) (fun c3 => ?_)
      · refine mm_iconst (mm_dc od_X10_sure_0 15 rfl) ?_
        refine mm_istore_n (L' := [(0, v_r 50), (1, v_i x), (2, v_i y), (3, v_i 0)]) (mm_dc od_X10_sure_0 16 rfl) (by decide) rfl ?_
        refine mm_iconst (mm_dc od_X10_sure_0 17 rfl) ?_
        refine mm_istore (L' := [(0, v_r 50), (1, v_i x), (2, v_i y), (3, v_i 0), (4, v_i 0)]) (mm_dc od_X10_sure_0 18 rfl) (by decide) rfl ?_
        refine mm_iconst (mm_dc od_X10_sure_0 19 rfl) ?_
        refine mm_istore (L' := [(0, v_r 50), (1, v_i x), (2, v_i y), (3, v_i 0), (4, v_i 0), (5, v_i 0)]) (mm_dc od_X10_sure_0 20 rfl) (by decide) rfl ?_
        exact L_sureM x y hx hy hJrm hr (fun r h => k3 r (by omega) (by omega) h) 0 0 0 sureQ_0 (by have := hJrm.1; omega)
      · refine mm_bipush (mm_dc od_X10_sure_0 13 rfl) (by decide) ?_
        refine mm_iret (mm_dc od_X10_sure_0 14 rfl) rfl ?_
        first | exact k2 (by first | assumption | omega) (by first | assumption | omega) | (exfalso; omega)
    · refine mm_if_ne 18 (mm_dc od_X10_sure_0 7 rfl) (by omega) (by first | assumption | omega | exact hr _ _ rfl | exact mm_r3264 (hr _ _ rfl)) (fun h => absurd h (by decide)) (fun _ => ?_)
      refine mm_iconst (mm_dc od_X10_sure_0 8 rfl) ?_
      refine mm_iret (mm_dc od_X10_sure_0 9 rfl) rfl ?_
      first | exact k1 (by first | assumption | omega) | (exfalso; omega)
  · refine mm_if_eq 16 (mm_dc od_X10_sure_0 3 rfl) (by omega) (by first | assumption | omega | exact hr _ _ rfl | exact mm_r3264 (hr _ _ rfl)) (fun _ => ?_) (fun h => absurd h (by decide))
    refine mm_iconst (mm_dc od_X10_sure_0 8 rfl) ?_
    refine mm_iret (mm_dc od_X10_sure_0 9 rfl) rfl ?_
    first | exact k1 (by first | assumption | omega) | (exfalso; omega)
theorem pair_sure {M : mm_M} (hI : inv M) (x y : Int) (hx : mm_r32 x) (hy : mm_r32 y) : Pair mi_X9_sure mi_X10_sure v_i [v_i x, v_i y] M := by
  have hI0 := hI
  obtain ⟨hr, hJo, hJb, hJr, hJom, hJbm, v0, v1, v2, v3, v4, v5, v6, v7, v8, v9⟩ := hI0
  have jo := hJo; have jb := hJb; have jr := hJr; have jom := hJom; have jbm := hJbm
  obtain ⟨ho0, ho16, hO⟩ := jo
  obtain ⟨hb0, hb8, hB⟩ := jb
  obtain ⟨hr0, hr40, hRr⟩ := jr
  obtain ⟨go0, go16, gO⟩ := jom
  obtain ⟨gb0, gb8, gB⟩ := jbm
  have w1 := v1.1; have w2 := v2.1; have w3 := v3.1; have w4 := v4.1; have w5 := v5.1; have w6 := v6.1; have w7 := v7.1.1; have w7b := v7.2.1.1; have w8 := v8.1; have w8b := v8.2.2.2.1
  have hJrm := inv_JRm hI
  by_cases hv : (0 ≤ x ∧ x < M 1 0) ∧ (0 ≤ y ∧ y < M 1 0)
  · by_cases hf : x = y
    · exact Pair_i (-2) M M (fun X d Po k => c_X9_sure (d := d + 10) x y hx hy hJr hr (fun q => absurd hv q) (fun _ _ => k) (fun r _ q _ => absurd hf q)) (fun X d Po k => c_X10_sure (d := d + 11) x y hx hy hJrm hr (fun q => by exfalso; omega) (fun _ _ => k) (fun r _ q _ => absurd hf q)) (by decide) hI
    · obtain ⟨bt, wo, hs⟩ := sureQ_ex (byOf (M 11) (M 12) (M 13) x y) (M 10 0).toNat
      have hrA : mm_r32 (sureA bt wo) := by unfold sureA; split; decide; split <;> decide
      refine Pair_i (sureA bt wo) M M (fun X d Po k => c_X9_sure (d := d + 10) x y hx hy hJr hr (fun q => absurd hv q) (fun _ q => absurd q hf) (fun r _ _ q => ?_)) (fun X d Po k => c_X10_sure (d := d + 11) x y hx hy hJrm hr (fun q => by exfalso; omega) (fun _ q => absurd q hf) (fun r _ _ q => ?_)) hrA hI
      · obtain ⟨b2, w2, h2, rfl⟩ := q
        obtain ⟨rfl, rfl⟩ := sureQ_one h2 hs (fun _ _ => rfl)
        exact k
      · obtain ⟨b2, w2, h2, rfl⟩ := q
        rw [w3] at h2
        obtain ⟨rfl, rfl⟩ := sureQ_one h2 hs (fun i hi => by have h := v3.2 i (by omega); unfold byOf; rw [h.1, h.2.1, h.2.2])
        exact k
  · exact Pair_i (-1) M M (fun X d Po k => c_X9_sure (d := d + 10) x y hx hy hJr hr (fun _ => k) (fun q _ => absurd q hv) (fun r q _ _ => absurd q hv)) (fun X d Po k => c_X10_sure (d := d + 11) x y hx hy hJrm hr (fun _ => k) (fun q _ => by exfalso; omega) (fun r q _ _ => by exfalso; omega)) (by decide) hI
