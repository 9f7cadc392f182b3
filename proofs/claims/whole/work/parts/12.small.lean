/-! small methods of the class -/
section MMS
variable {X : Nat × (Nat → Int)} {d mc ms : Nat} {mi : mm_Mi} {Po : mm_Po} {pc : Nat} {L : List (Nat × mm_V)} {st st' : List mm_V} {La : List mm_S} {M : mm_M} {ck cs : Nat}
theorem mm_cst (h : st = st') (k : mm_G X d mc ms mi Po pc L st' La M ck cs) : mm_G X d mc ms mi Po pc L st La M ck cs := h ▸ k
theorem mm_ldcn {i : Nat} {z : Int} {v : Int64} (hd : decode mi.2.1 pc = .ok (.ldc2_w i, 3)) (w : Cond.constantLong mi.1.cls i v ∈ mm_tbl) (hv : v = Int64.ofInt z) (k : mm_G X d mc ms mi Po (pc + 3) L (v_l z :: st) La M ck cs) : mm_G X d mc ms mi Po pc L st La M ck cs := by
  subst hv
  exact mm_ldc2 hd w k
theorem mm_r3264 {z : Int} (h : mm_r32 z) : mm_r64 z := ⟨by have := h.1; omega, by have := h.2; omega⟩
end MMS
/-- the places that hold longs -/
def mm_isL (i k : Nat) : Bool := i == 14 || i == 16 || i == 66 || i == 67 || i == 68 || i == 69 || (i == 10 && k == 5) || (i == 50 && k == 23)
def R32 (M : mm_M) : Prop := ∀ i k, mm_isL i k = false → mm_r32 (M i k)
theorem R32_up {M : mm_M} {i k : Nat} {v : Int} (h : R32 M) (hv : mm_r32 v) : R32 (mm_up M i k v) := by
  intro a b hab
  unfold mm_up
  split
  · exact hv
  · exact h a b hab
/-- the last place below n with a property, -1 if there is none; the first -/
def lastP (P : Nat → Prop) (f : Int) (n : Nat) : Prop := (f = -1 ∧ ∀ i : Nat, i < n → ¬ P i) ∨ (0 ≤ f ∧ f < n ∧ P f.toNat ∧ ∀ i : Nat, f < i → i < n → ¬ P i)
def firstP (P : Nat → Prop) (f : Int) (n : Nat) : Prop := (f = -1 ∧ ∀ i : Nat, i < n → ¬ P i) ∨ (0 ≤ f ∧ f < n ∧ P f.toNat ∧ ∀ i : Nat, i < f → ¬ P i)
theorem lastP_0 {P : Nat → Prop} : lastP P (-1) 0 := Or.inl ⟨rfl, fun i h => absurd h (Nat.not_lt_zero i)⟩
theorem lastP_new {P : Nat → Prop} {j : Nat} (h : P j) : lastP P (j : Int) (j + 1) := Or.inr ⟨by omega, by omega, h, fun i a b => by omega⟩
theorem lastP_old {P : Nat → Prop} {f : Int} {j : Nat} (h : lastP P f j) (hn : ¬ P j) : lastP P f (j + 1) := by
  rcases h with ⟨h1, h2⟩ | ⟨h1, h2, h3, h4⟩
  · exact Or.inl ⟨h1, lt_s h2 hn⟩
  · refine Or.inr ⟨h1, by omega, h3, fun i a b => ?_⟩
    rcases Nat.lt_or_ge i j with q | q
    · exact h4 i a q
    · have e : i = j := by omega
      rw [e]; exact hn
theorem lastP_rng {P : Nat → Prop} {f : Int} {n : Nat} (h : lastP P f n) : -1 ≤ f ∧ f < n ∨ f = -1 := by
  rcases h with ⟨h1, h2⟩ | ⟨h1, h2, h3, h4⟩ <;> omega
theorem lastP_one {P : Nat → Prop} {f g : Int} {n : Nat} (h : lastP P f n) (h2 : lastP P g n) : f = g := by
  rcases h with ⟨h1, a⟩ | ⟨h1, b1, c1, d1⟩ <;> rcases h2 with ⟨g1, e⟩ | ⟨g1, b2, c2, d2⟩
  · omega
  · exact absurd c2 (a _ (by omega))
  · exact absurd c1 (e _ (by omega))
  · rcases Int.lt_or_le f g with q | q
    · exact absurd c2 (d1 g.toNat (by omega) (by omega))
    · rcases Int.lt_or_le g f with q2 | q2
      · exact absurd c1 (d2 f.toNat (by omega) (by omega))
      · omega
theorem firstP_one {P : Nat → Prop} {f g : Int} {n : Nat} (h : firstP P f n) (h2 : firstP P g n) : f = g := by
  rcases h with ⟨h1, a⟩ | ⟨h1, b1, c1, d1⟩ <;> rcases h2 with ⟨g1, e⟩ | ⟨g1, b2, c2, d2⟩
  · omega
  · exact absurd c2 (a _ (by omega))
  · exact absurd c1 (e _ (by omega))
  · rcases Int.lt_or_le f g with q | q
    · exact absurd c1 (d2 f.toNat (by omega))
    · rcases Int.lt_or_le g f with q2 | q2
      · exact absurd c2 (d1 g.toNat (by omega))
      · omega
theorem firstP_ex {P : Nat → Prop} (n : Nat) : ∃ r, firstP P r n := by
  induction n with
  | zero => exact ⟨-1, Or.inl ⟨rfl, fun i h => absurd h (Nat.not_lt_zero i)⟩⟩
  | succ n ih =>
    obtain ⟨r, h⟩ := ih
    rcases h with ⟨h1, h2⟩ | ⟨h1, h2, h3, h4⟩
    · by_cases hp : P n
      · exact ⟨n, Or.inr ⟨by omega, by omega, hp, fun i hi => h2 i (by omega)⟩⟩
      · exact ⟨-1, Or.inl ⟨rfl, lt_s h2 hp⟩⟩
    · exact ⟨r, Or.inr ⟨h1, by omega, h3, h4⟩⟩
theorem firstP_rng {P : Nat → Prop} {f : Int} {n : Nat} (h : firstP P f n) : -1 ≤ f ∧ f < n ∨ f = -1 := by
  rcases h with ⟨h1, h2⟩ | ⟨h1, h2, h3, h4⟩ <;> omega
theorem lastP_ex {P : Nat → Prop} (n : Nat) : ∃ r, lastP P r n := by
  induction n with
  | zero => exact ⟨-1, lastP_0⟩
  | succ n ih =>
    obtain ⟨r, h⟩ := ih
    by_cases hp : P n
    · exact ⟨n, lastP_new hp⟩
    · exact ⟨r, lastP_old h hp⟩
/-- the class's oars and boats, as far as its own cells tell -/
def JO (M : mm_M) : Prop := 0 ≤ M 1 0 ∧ M 1 0 ≤ 16 ∧ ∀ o : Nat, (o : Int) < M 1 0 → (0 ≤ M 2 o ∧ M 2 o < 5) ∧ (30 ≤ M 3 o ∧ M 3 o ≤ 150) ∧ (M 4 o = 0 ∨ M 4 o = 1) ∧ (M 5 o = -1 ∨ (0 ≤ M 5 o ∧ M 5 o < 80))
def JB (M : mm_M) : Prop := 0 ≤ M 1 5 ∧ M 1 5 ≤ 8 ∧ ∀ b : Nat, (b : Int) < M 1 5 → (0 ≤ M 6 b ∧ M 6 b < 5) ∧ (30 ≤ M 7 b ∧ M 7 b ≤ 150) ∧ (30 ≤ M 8 b ∧ M 8 b ≤ 150) ∧ (1 ≤ M 9 b ∧ M 9 b ≤ 99)
theorem mm_seats_le (j : Nat) (h : j < 5) : 1 ≤ mm_seats j ∧ mm_seats j ≤ 8 := by
  rcases (show j = 0 ∨ j = 1 ∨ j = 2 ∨ j = 3 ∨ j = 4 by omega) with rfl | rfl | rfl | rfl | rfl <;> decide
theorem c_X9_within {X : Nat × (Nat → Int)} {d : Nat} {Po : mm_Po} {M : mm_M} (a : Int) (b : Int) (c : Int) (ha : mm_r32 a) (hb : mm_r32 b) (hc : mm_r32 c) (kt : b ≤ a ∧ a ≤ c → Po (some (v_i 1)) Lam M) (kf : ¬ (b ≤ a ∧ a ≤ c) → Po (some (v_i 0)) Lam M) : mm_E X d 0 0 mi_X9_within [v_i a, v_i b, v_i c] Po Lam M := by
  show mm_G X d 0 0 mi_X9_within Po 0 [(0, v_i a), (1, v_i b), (2, v_i c)] [] Lam M 0 0
  refine mm_iload_n (mm_dc od_X9_within_0 0 rfl) rfl ?_
  refine mm_iload_n (mm_dc od_X9_within_0 1 rfl) rfl ?_
  refine mm_icmp_lt 14 (mm_dc od_X9_within_0 2 rfl) (by omega) (by first | assumption | omega | exact hr _ _ rfl | exact mm_r3264 (hr _ _ rfl)) (by first | assumption | omega | exact hr _ _ rfl | exact mm_r3264 (hr _ _ rfl)) (fun c1 => ?_) (fun c1 => ?_)
  · refine mm_iconst (mm_dc od_X9_within_0 8 rfl) ?_
    refine mm_zret .boolean (mm_dc od_X9_within_0 9 rfl) rfl rfl ?_
    exact kf (by first | assumption | omega)
  · refine mm_iload_n (mm_dc od_X9_within_0 3 rfl) rfl ?_
    refine mm_iload_n (mm_dc od_X9_within_0 4 rfl) rfl ?_
    refine mm_icmp_gt 14 (mm_dc od_X9_within_0 5 rfl) (by omega) (by first | assumption | omega | exact hr _ _ rfl | exact mm_r3264 (hr _ _ rfl)) (by first | assumption | omega | exact hr _ _ rfl | exact mm_r3264 (hr _ _ rfl)) (fun c2 => ?_) (fun c2 => ?_)
    · refine mm_iconst (mm_dc od_X9_within_0 8 rfl) ?_
      refine mm_zret .boolean (mm_dc od_X9_within_0 9 rfl) rfl rfl ?_
      exact kf (by first | assumption | omega)
    · refine mm_iconst (mm_dc od_X9_within_0 6 rfl) ?_
      refine mm_goto 15 (mm_dc od_X9_within_0 7 rfl) (by omega) ?_
      refine mm_zret .boolean (mm_dc od_X9_within_0 9 rfl) rfl rfl ?_
      exact kt (by first | assumption | omega)
theorem c_X9_isHour {X : Nat × (Nat → Int)} {d : Nat} {Po : mm_Po} {M : mm_M} (a : Int) (ha : mm_r32 a) (kt : 0 ≤ a ∧ a ≤ 23 → Po (some (v_i 1)) Lam M) (kf : ¬ (0 ≤ a ∧ a ≤ 23) → Po (some (v_i 0)) Lam M) : mm_E X (d + 1) 0 0 mi_X9_isHour [v_i a] Po Lam M := by
  show mm_G X (d + 1) 0 0 mi_X9_isHour Po 0 [(0, v_i a)] [] Lam M 0 0
  refine mm_iload_n (mm_dc od_X9_isHour_0 0 rfl) rfl ?_
  refine mm_iconst (mm_dc od_X9_isHour_0 1 rfl) ?_
  refine mm_bipush (mm_dc od_X9_isHour_0 2 rfl) (by decide) ?_
  refine mm_callS (mi' := mi_X9_within) [v_i a, v_i 0, v_i 23] [] (mm_dc od_X9_isHour_0 3 rfl) rfl wd_2_80 wd_2_81 wd_1_1 wd_2_82 yk_X9_within (Nat.le_of_ble_eq_true rfl) rfl (by decide) (c_X9_within a 0 23 (by first | assumption | omega | exact hr _ _ rfl | exact mm_r3264 (hr _ _ rfl)) (by first | assumption | omega | exact hr _ _ rfl | exact mm_r3264 (hr _ _ rfl)) (by first | assumption | omega | exact hr _ _ rfl | exact mm_r3264 (hr _ _ rfl)) (fun c1 => ⟨Nat.le_refl _, ?_⟩) (fun c1 => ⟨Nat.le_refl _, ?_⟩))
  · refine mm_zret .boolean (mm_dc od_X9_isHour_0 4 rfl) rfl rfl ?_
    exact kt (by first | assumption | omega)
  · refine mm_zret .boolean (mm_dc od_X9_isHour_0 4 rfl) rfl rfl ?_
    exact kf (by first | assumption | omega)
theorem c_X0_hasOar {X : Nat × (Nat → Int)} {d : Nat} {Po : mm_Po} {M : mm_M} (o : Int) (ho : mm_r32 o) (hr : R32 M) (kt : 0 ≤ o ∧ o < M 1 0 → Po (some (v_i 1)) Lam M) (kf : ¬ (0 ≤ o ∧ o < M 1 0) → Po (some (v_i 0)) Lam M) : mm_E X d 0 0 mi_X0_hasOar [v_r 1, v_i o] Po Lam M := by
  show mm_G X d 0 0 mi_X0_hasOar Po 0 [(0, v_r 1), (1, v_i o)] [] Lam M 0 0
  refine mm_iload_n (mm_dc od_X0_hasOar_0 0 rfl) rfl ?_
  refine mm_if_lt 16 (mm_dc od_X0_hasOar_0 1 rfl) (by omega) (by first | assumption | omega | exact hr _ _ rfl | exact mm_r3264 (hr _ _ rfl)) (fun c1 => ?_) (fun c1 => ?_)
  · refine mm_iconst (mm_dc od_X0_hasOar_0 8 rfl) ?_
    refine mm_zret .boolean (mm_dc od_X0_hasOar_0 9 rfl) rfl rfl ?_
    exact kf (by first | assumption | omega)
  · refine mm_iload_n (mm_dc od_X0_hasOar_0 2 rfl) rfl ?_
    refine mm_aload_n (mm_dc od_X0_hasOar_0 3 rfl) rfl ?_
    refine mm_getI (ci := 0) (k := 0) (mm_dc od_X0_hasOar_0 4 rfl) rfl in_X0 (by decide) wd_1_34 rfl rfl ?_
    refine mm_icmp_ge 16 (mm_dc od_X0_hasOar_0 5 rfl) (by omega) (by first | assumption | omega | exact hr _ _ rfl | exact mm_r3264 (hr _ _ rfl)) (by first | assumption | omega | exact hr _ _ rfl | exact mm_r3264 (hr _ _ rfl)) (fun c2 => ?_) (fun c2 => ?_)
    · refine mm_iconst (mm_dc od_X0_hasOar_0 8 rfl) ?_
      refine mm_zret .boolean (mm_dc od_X0_hasOar_0 9 rfl) rfl rfl ?_
      exact kf (by first | assumption | omega)
    · refine mm_iconst (mm_dc od_X0_hasOar_0 6 rfl) ?_
      refine mm_goto 17 (mm_dc od_X0_hasOar_0 7 rfl) (by omega) ?_
      refine mm_zret .boolean (mm_dc od_X0_hasOar_0 9 rfl) rfl rfl ?_
      exact kt (by first | assumption | omega)
theorem c_X0_hasBoat {X : Nat × (Nat → Int)} {d : Nat} {Po : mm_Po} {M : mm_M} (b : Int) (hb : mm_r32 b) (hr : R32 M) (kt : 0 ≤ b ∧ b < M 1 5 → Po (some (v_i 1)) Lam M) (kf : ¬ (0 ≤ b ∧ b < M 1 5) → Po (some (v_i 0)) Lam M) : mm_E X d 0 0 mi_X0_hasBoat [v_r 1, v_i b] Po Lam M := by
  show mm_G X d 0 0 mi_X0_hasBoat Po 0 [(0, v_r 1), (1, v_i b)] [] Lam M 0 0
  refine mm_iload_n (mm_dc od_X0_hasBoat_0 0 rfl) rfl ?_
  refine mm_if_lt 16 (mm_dc od_X0_hasBoat_0 1 rfl) (by omega) (by first | assumption | omega | exact hr _ _ rfl | exact mm_r3264 (hr _ _ rfl)) (fun c1 => ?_) (fun c1 => ?_)
  · refine mm_iconst (mm_dc od_X0_hasBoat_0 8 rfl) ?_
    refine mm_zret .boolean (mm_dc od_X0_hasBoat_0 9 rfl) rfl rfl ?_
    exact kf (by first | assumption | omega)
  · refine mm_iload_n (mm_dc od_X0_hasBoat_0 2 rfl) rfl ?_
    refine mm_aload_n (mm_dc od_X0_hasBoat_0 3 rfl) rfl ?_
    refine mm_getI (ci := 0) (k := 5) (mm_dc od_X0_hasBoat_0 4 rfl) rfl in_X0 (by decide) wd_1_46 rfl rfl ?_
    refine mm_icmp_ge 16 (mm_dc od_X0_hasBoat_0 5 rfl) (by omega) (by first | assumption | omega | exact hr _ _ rfl | exact mm_r3264 (hr _ _ rfl)) (by first | assumption | omega | exact hr _ _ rfl | exact mm_r3264 (hr _ _ rfl)) (fun c2 => ?_) (fun c2 => ?_)
    · refine mm_iconst (mm_dc od_X0_hasBoat_0 8 rfl) ?_
      refine mm_zret .boolean (mm_dc od_X0_hasBoat_0 9 rfl) rfl rfl ?_
      exact kf (by first | assumption | omega)
    · refine mm_iconst (mm_dc od_X0_hasBoat_0 6 rfl) ?_
      refine mm_goto 17 (mm_dc od_X0_hasBoat_0 7 rfl) (by omega) ?_
      refine mm_zret .boolean (mm_dc od_X0_hasBoat_0 9 rfl) rfl rfl ?_
      exact kt (by first | assumption | omega)
theorem c_X0_seats {X : Nat × (Nat → Int)} {d : Nat} {Po : mm_Po} {M : mm_M} (b : Int) (h0 : 0 ≤ b ∧ b < M 1 5) (hJb : JB M) (hr : R32 M) (k : Po (some (v_i (mm_seats (M 6 b.toNat).toNat))) Lam M) : mm_E X d 0 0 mi_X0_seats [v_r 1, v_i b] Po Lam M := by
  show mm_G X d 0 0 mi_X0_seats Po 0 [(0, v_r 1), (1, v_i b)] [] Lam M 0 0
  have hJb2 := hJb
  obtain ⟨hb0, hb8, hB⟩ := hJb2
  have hB1 := hB b.toNat
  refine mm_getS0 (mm_dc od_X0_seats_0 0 rfl) wd_2_123 ?_
  refine mm_aload_n (mm_dc od_X0_seats_0 1 rfl) rfl ?_
  refine mm_getR (ci := 0) (k := 6) (mm_dc od_X0_seats_0 2 rfl) rfl in_X0 (by decide) wd_1_48 rfl rfl ?_
  refine mm_iload_n (mm_dc od_X0_seats_0 3 rfl) rfl ?_
  refine mm_iald (mm_dc od_X0_seats_0 4 rfl) rfl (by first | assumption | omega | exact hr _ _ rfl | exact mm_r3264 (hr _ _ rfl)) (by first | assumption | omega | exact hr _ _ rfl | exact mm_r3264 (hr _ _ rfl)) (by decide) ?_
  refine mm_ald0 (mm_dc od_X0_seats_0 5 rfl) (by first | assumption | omega | exact hr _ _ rfl | exact mm_r3264 (hr _ _ rfl)) (by first | assumption | omega | exact hr _ _ rfl | exact mm_r3264 (hr _ _ rfl)) ?_
  refine mm_iret (mm_dc od_X0_seats_0 6 rfl) rfl ?_
  exact mm_pi (by first | rfl | omega | (split <;> omega) | grind) k
theorem c_X0_hasCox {X : Nat × (Nat → Int)} {d : Nat} {Po : mm_Po} {M : mm_M} (b : Int) (h0 : 0 ≤ b ∧ b < M 1 5) (hJb : JB M) (hr : R32 M) (kt : M 6 b.toNat = 1 ∨ M 6 b.toNat = 2 → Po (some (v_i 1)) Lam M) (kf : ¬ (M 6 b.toNat = 1 ∨ M 6 b.toNat = 2) → Po (some (v_i 0)) Lam M) : mm_E X d 0 0 mi_X0_hasCox [v_r 1, v_i b] Po Lam M := by
  show mm_G X d 0 0 mi_X0_hasCox Po 0 [(0, v_r 1), (1, v_i b)] [] Lam M 0 0
  have hJb2 := hJb
  obtain ⟨hb0, hb8, hB⟩ := hJb2
  have hB1 := hB b.toNat
  refine mm_aload_n (mm_dc od_X0_hasCox_0 0 rfl) rfl ?_
  refine mm_getR (ci := 0) (k := 6) (mm_dc od_X0_hasCox_0 1 rfl) rfl in_X0 (by decide) wd_1_48 rfl rfl ?_
  refine mm_iload_n (mm_dc od_X0_hasCox_0 2 rfl) rfl ?_
  refine mm_iald (mm_dc od_X0_hasCox_0 3 rfl) rfl (by first | assumption | omega | exact hr _ _ rfl | exact mm_r3264 (hr _ _ rfl)) (by first | assumption | omega | exact hr _ _ rfl | exact mm_r3264 (hr _ _ rfl)) (by decide) ?_
  refine mm_iconst (mm_dc od_X0_hasCox_0 4 rfl) ?_
  refine mm_icmp_eq 20 (mm_dc od_X0_hasCox_0 5 rfl) (by omega) (by first | assumption | omega | exact hr _ _ rfl | exact mm_r3264 (hr _ _ rfl)) (by first | assumption | omega | exact hr _ _ rfl | exact mm_r3264 (hr _ _ rfl)) (fun c1 => ?_) (fun c1 => ?_)
  · refine mm_iconst (mm_dc od_X0_hasCox_0 12 rfl) ?_
    refine mm_goto 25 (mm_dc od_X0_hasCox_0 13 rfl) (by omega) ?_
    refine mm_zret .boolean (mm_dc od_X0_hasCox_0 15 rfl) rfl rfl ?_
    exact kt (by first | assumption | omega)
  · refine mm_aload_n (mm_dc od_X0_hasCox_0 6 rfl) rfl ?_
    refine mm_getR (ci := 0) (k := 6) (mm_dc od_X0_hasCox_0 7 rfl) rfl in_X0 (by decide) wd_1_48 rfl rfl ?_
    refine mm_iload_n (mm_dc od_X0_hasCox_0 8 rfl) rfl ?_
    refine mm_iald (mm_dc od_X0_hasCox_0 9 rfl) rfl (by first | assumption | omega | exact hr _ _ rfl | exact mm_r3264 (hr _ _ rfl)) (by first | assumption | omega | exact hr _ _ rfl | exact mm_r3264 (hr _ _ rfl)) (by decide) ?_
    refine mm_iconst (mm_dc od_X0_hasCox_0 10 rfl) ?_
    refine mm_icmp_ne 24 (mm_dc od_X0_hasCox_0 11 rfl) (by omega) (by first | assumption | omega | exact hr _ _ rfl | exact mm_r3264 (hr _ _ rfl)) (by first | assumption | omega | exact hr _ _ rfl | exact mm_r3264 (hr _ _ rfl)) (fun c2 => ?_) (fun c2 => ?_)
    · refine mm_iconst (mm_dc od_X0_hasCox_0 14 rfl) ?_
      refine mm_zret .boolean (mm_dc od_X0_hasCox_0 15 rfl) rfl rfl ?_
      exact kf (by first | assumption | omega)
    · refine mm_iconst (mm_dc od_X0_hasCox_0 12 rfl) ?_
      refine mm_goto 25 (mm_dc od_X0_hasCox_0 13 rfl) (by omega) ?_
      refine mm_zret .boolean (mm_dc od_X0_hasCox_0 15 rfl) rfl rfl ?_
      exact kt (by first | assumption | omega)
theorem c_X0_hasSeat {X : Nat × (Nat → Int)} {d : Nat} {Po : mm_Po} {M : mm_M} (b : Int) (s : Int) (hb : mm_r32 b) (hs : mm_r32 s) (hJb : JB M) (hr : R32 M) (kt : (0 ≤ b ∧ b < M 1 5) ∧ ((s = 8 ∧ (M 6 b.toNat = 1 ∨ M 6 b.toNat = 2)) ∨ (s ≠ 8 ∧ 0 ≤ s ∧ s < mm_seats (M 6 b.toNat).toNat)) → Po (some (v_i 1)) Lam M) (kf : ¬ ((0 ≤ b ∧ b < M 1 5) ∧ ((s = 8 ∧ (M 6 b.toNat = 1 ∨ M 6 b.toNat = 2)) ∨ (s ≠ 8 ∧ 0 ≤ s ∧ s < mm_seats (M 6 b.toNat).toNat))) → Po (some (v_i 0)) Lam M) : mm_E X (d + 1) 0 0 mi_X0_hasSeat [v_r 1, v_i b, v_i s] Po Lam M := by
  show mm_G X (d + 1) 0 0 mi_X0_hasSeat Po 0 [(0, v_r 1), (1, v_i b), (2, v_i s)] [] Lam M 0 0
  have hJb2 := hJb
  obtain ⟨hb0, hb8, hB⟩ := hJb2
  have hB1 := hB b.toNat
  have hs1 := mm_seats_le (M 6 b.toNat).toNat
  refine mm_aload_n (mm_dc od_X0_hasSeat_0 0 rfl) rfl ?_
  refine mm_iload_n (mm_dc od_X0_hasSeat_0 1 rfl) rfl ?_
  refine mm_callV (b := 1) (mi' := mi_X0_hasBoat) [v_i b] [] (mm_dc od_X0_hasSeat_0 2 rfl) rfl wd_2_111 wd_2_112 wd_2_113 wd_1_2 wd_2_114 yk_X0_hasBoat rfl rfl rfl (Nat.le_of_ble_eq_true rfl) rfl (by decide) (c_X0_hasBoat b (by first | assumption | omega | exact hr _ _ rfl | exact mm_r3264 (hr _ _ rfl)) (by first | assumption | omega | exact hr _ _ rfl | exact mm_r3264 (hr _ _ rfl)) (fun c1 => ⟨Nat.le_refl _, ?_⟩) (fun c1 => ⟨Nat.le_refl _, ?_⟩))
  · refine mm_if_ne 10 (mm_dc od_X0_hasSeat_0 3 rfl) (by omega) (by first | assumption | omega | exact hr _ _ rfl | exact mm_r3264 (hr _ _ rfl)) (fun _ => ?_) (fun h => absurd h (by decide))
    refine mm_iload_n (mm_dc od_X0_hasSeat_0 6 rfl) rfl ?_
    refine mm_bipush (mm_dc od_X0_hasSeat_0 7 rfl) (by decide) ?_
    refine mm_icmp_ne 24 (mm_dc od_X0_hasSeat_0 8 rfl) (by omega) (by first | assumption | omega | exact hr _ _ rfl | exact mm_r3264 (hr _ _ rfl)) (by first | assumption | omega | exact hr _ _ rfl | exact mm_r3264 (hr _ _ rfl)) (fun c2 => ?_) (fun c2 => ?_)
    · refine mm_iload_n (mm_dc od_X0_hasSeat_0 13 rfl) rfl ?_
      refine mm_iconst (mm_dc od_X0_hasSeat_0 14 rfl) ?_
      refine mm_aload_n (mm_dc od_X0_hasSeat_0 15 rfl) rfl ?_
      refine mm_iload_n (mm_dc od_X0_hasSeat_0 16 rfl) rfl ?_
      refine mm_callV (b := 1) (mi' := mi_X0_seats) [v_i b] [v_i 0, v_i s] (mm_dc od_X0_hasSeat_0 17 rfl) rfl wd_2_119 wd_2_120 wd_2_121 wd_1_2 wd_2_122 yk_X0_seats rfl rfl rfl (Nat.le_of_ble_eq_true rfl) rfl (by decide) (c_X0_seats b (by first | assumption | omega | exact hr _ _ rfl | exact mm_r3264 (hr _ _ rfl)) hJb (by first | assumption | omega | exact hr _ _ rfl | exact mm_r3264 (hr _ _ rfl)) ⟨Nat.le_refl _, ?_⟩)
      refine mm_iconst (mm_dc od_X0_hasSeat_0 18 rfl) ?_
      refine mm_isub (mm_dc od_X0_hasSeat_0 19 rfl) ?_
      refine mm_callN (mi' := mi_X9_within) [v_i s, v_i 0, v_i ((mm_seats (M 6 b.toNat).toNat) - 1)] [] (mm_dc od_X0_hasSeat_0 20 rfl) rfl (List.mem_of_getElem? (i := 8) rfl) wd_2_81 wd_1_1 wd_2_82 yk_X9_within (Nat.le_of_ble_eq_true rfl) rfl (by decide) (c_X9_within s 0 ((mm_seats (M 6 b.toNat).toNat) - 1) (by first | assumption | omega | exact hr _ _ rfl | exact mm_r3264 (hr _ _ rfl)) (by first | assumption | omega | exact hr _ _ rfl | exact mm_r3264 (hr _ _ rfl)) (by first | assumption | omega | exact hr _ _ rfl | exact mm_r3264 (hr _ _ rfl)) (fun c3 => ⟨Nat.le_refl _, ?_⟩) (fun c3 => ⟨Nat.le_refl _, ?_⟩))
      · refine mm_zret .boolean (mm_dc od_X0_hasSeat_0 21 rfl) rfl rfl ?_
        exact kt (by first | assumption | omega)
      · refine mm_zret .boolean (mm_dc od_X0_hasSeat_0 21 rfl) rfl rfl ?_
        exact kf (by first | assumption | omega)
    · refine mm_aload_n (mm_dc od_X0_hasSeat_0 9 rfl) rfl ?_
      refine mm_iload_n (mm_dc od_X0_hasSeat_0 10 rfl) rfl ?_
      refine mm_callV (b := 1) (mi' := mi_X0_hasCox) [v_i b] [] (mm_dc od_X0_hasSeat_0 11 rfl) rfl wd_2_115 wd_2_116 wd_2_117 wd_1_2 wd_2_118 yk_X0_hasCox rfl rfl rfl (Nat.le_of_ble_eq_true rfl) rfl (by decide) (c_X0_hasCox b (by first | assumption | omega | exact hr _ _ rfl | exact mm_r3264 (hr _ _ rfl)) hJb (by first | assumption | omega | exact hr _ _ rfl | exact mm_r3264 (hr _ _ rfl)) (fun c4 => ⟨Nat.le_refl _, ?_⟩) (fun c4 => ⟨Nat.le_refl _, ?_⟩))
      · refine mm_goto 36 (mm_dc od_X0_hasSeat_0 12 rfl) (by omega) ?_
        refine mm_zret .boolean (mm_dc od_X0_hasSeat_0 21 rfl) rfl rfl ?_
        exact kt (by first | assumption | omega)
      · refine mm_goto 36 (mm_dc od_X0_hasSeat_0 12 rfl) (by omega) ?_
        refine mm_zret .boolean (mm_dc od_X0_hasSeat_0 21 rfl) rfl rfl ?_
        exact kf (by first | assumption | omega)
  · refine mm_if_ne 10 (mm_dc od_X0_hasSeat_0 3 rfl) (by omega) (by first | assumption | omega | exact hr _ _ rfl | exact mm_r3264 (hr _ _ rfl)) (fun h => absurd h (by decide)) (fun _ => ?_)
    refine mm_iconst (mm_dc od_X0_hasSeat_0 4 rfl) ?_
    refine mm_zret .boolean (mm_dc od_X0_hasSeat_0 5 rfl) rfl rfl ?_
    exact kf (by first | assumption | omega)
theorem c_X0_sitsIn {X : Nat × (Nat → Int)} {d : Nat} {Po : mm_Po} {M : mm_M} (o : Int) (b : Int) (h0 : 0 ≤ o ∧ o < M 1 0) (hb1 : mm_r32 b) (hJo : JO M) (hr : R32 M) (kt : M 5 o.toNat ≠ -1 ∧ M 5 o.toNat / 10 = b → Po (some (v_i 1)) Lam M) (kf : ¬ (M 5 o.toNat ≠ -1 ∧ M 5 o.toNat / 10 = b) → Po (some (v_i 0)) Lam M) : mm_E X d 0 0 mi_X0_sitsIn [v_r 1, v_i o, v_i b] Po Lam M := by
  show mm_G X d 0 0 mi_X0_sitsIn Po 0 [(0, v_r 1), (1, v_i o), (2, v_i b)] [] Lam M 0 0
  have hJo2 := hJo
  obtain ⟨ho0, ho16, hO⟩ := hJo2
  have hO1 := hO o.toNat
  have e10 : 0 ≤ M 5 o.toNat → (M 5 o.toNat).tdiv 10 = M 5 o.toNat / 10 := fun h => Int.tdiv_eq_ediv_of_nonneg h
  refine mm_aload_n (mm_dc od_X0_sitsIn_0 0 rfl) rfl ?_
  refine mm_getR (ci := 0) (k := 4) (mm_dc od_X0_sitsIn_0 1 rfl) rfl in_X0 (by decide) wd_1_43 rfl rfl ?_
  refine mm_iload_n (mm_dc od_X0_sitsIn_0 2 rfl) rfl ?_
  refine mm_iald (mm_dc od_X0_sitsIn_0 3 rfl) rfl (by first | assumption | omega | exact hr _ _ rfl | exact mm_r3264 (hr _ _ rfl)) (by first | assumption | omega | exact hr _ _ rfl | exact mm_r3264 (hr _ _ rfl)) (by decide) ?_
  refine mm_iconst (mm_dc od_X0_sitsIn_0 4 rfl) ?_
  refine mm_icmp_eq 27 (mm_dc od_X0_sitsIn_0 5 rfl) (by omega) (by first | assumption | omega | exact hr _ _ rfl | exact mm_r3264 (hr _ _ rfl)) (by first | assumption | omega | exact hr _ _ rfl | exact mm_r3264 (hr _ _ rfl)) (fun c1 => ?_) (fun c1 => ?_)
  · refine mm_iconst (mm_dc od_X0_sitsIn_0 16 rfl) ?_
    refine mm_zret .boolean (mm_dc od_X0_sitsIn_0 17 rfl) rfl rfl ?_
    exact kf (by first | assumption | omega)
  · refine mm_aload_n (mm_dc od_X0_sitsIn_0 6 rfl) rfl ?_
    refine mm_getR (ci := 0) (k := 4) (mm_dc od_X0_sitsIn_0 7 rfl) rfl in_X0 (by decide) wd_1_43 rfl rfl ?_
    refine mm_iload_n (mm_dc od_X0_sitsIn_0 8 rfl) rfl ?_
    refine mm_iald (mm_dc od_X0_sitsIn_0 9 rfl) rfl (by first | assumption | omega | exact hr _ _ rfl | exact mm_r3264 (hr _ _ rfl)) (by first | assumption | omega | exact hr _ _ rfl | exact mm_r3264 (hr _ _ rfl)) (by decide) ?_
    refine mm_bipush (mm_dc od_X0_sitsIn_0 10 rfl) (by decide) ?_
    refine mm_idiv (mm_dc od_X0_sitsIn_0 11 rfl) (by first | assumption | omega | exact hr _ _ rfl | exact mm_r3264 (hr _ _ rfl)) (by first | assumption | omega | exact hr _ _ rfl | exact mm_r3264 (hr _ _ rfl)) (by first | assumption | omega | exact hr _ _ rfl | exact mm_r3264 (hr _ _ rfl)) ?_
    refine mm_iload_n (mm_dc od_X0_sitsIn_0 12 rfl) rfl ?_
    refine mm_icmp_ne 27 (mm_dc od_X0_sitsIn_0 13 rfl) (by omega) (by first | assumption | omega | exact hr _ _ rfl | exact mm_r3264 (hr _ _ rfl)) (by first | assumption | omega | exact hr _ _ rfl | exact mm_r3264 (hr _ _ rfl)) (fun c2 => ?_) (fun c2 => ?_)
    · refine mm_iconst (mm_dc od_X0_sitsIn_0 16 rfl) ?_
      refine mm_zret .boolean (mm_dc od_X0_sitsIn_0 17 rfl) rfl rfl ?_
      exact kf (by first | assumption | omega)
    · refine mm_iconst (mm_dc od_X0_sitsIn_0 14 rfl) ?_
      refine mm_goto 28 (mm_dc od_X0_sitsIn_0 15 rfl) (by omega) ?_
      refine mm_zret .boolean (mm_dc od_X0_sitsIn_0 17 rfl) rfl rfl ?_
      exact kt (by first | assumption | omega)
theorem c_X0_isCox {X : Nat × (Nat → Int)} {d : Nat} {Po : mm_Po} {M : mm_M} (o : Int) (h0 : 0 ≤ o ∧ o < M 1 0) (hJo : JO M) (hr : R32 M) (kt : M 5 o.toNat ≠ -1 ∧ M 5 o.toNat % 10 = 8 → Po (some (v_i 1)) Lam M) (kf : ¬ (M 5 o.toNat ≠ -1 ∧ M 5 o.toNat % 10 = 8) → Po (some (v_i 0)) Lam M) : mm_E X d 0 0 mi_X0_isCox [v_r 1, v_i o] Po Lam M := by
  show mm_G X d 0 0 mi_X0_isCox Po 0 [(0, v_r 1), (1, v_i o)] [] Lam M 0 0
  have hJo2 := hJo
  obtain ⟨ho0, ho16, hO⟩ := hJo2
  have hO1 := hO o.toNat
  have e10 : 0 ≤ M 5 o.toNat → (M 5 o.toNat).tmod 10 = M 5 o.toNat % 10 := fun h => Int.tmod_eq_emod_of_nonneg h
  refine mm_aload_n (mm_dc od_X0_isCox_0 0 rfl) rfl ?_
  refine mm_getR (ci := 0) (k := 4) (mm_dc od_X0_isCox_0 1 rfl) rfl in_X0 (by decide) wd_1_43 rfl rfl ?_
  refine mm_iload_n (mm_dc od_X0_isCox_0 2 rfl) rfl ?_
  refine mm_iald (mm_dc od_X0_isCox_0 3 rfl) rfl (by first | assumption | omega | exact hr _ _ rfl | exact mm_r3264 (hr _ _ rfl)) (by first | assumption | omega | exact hr _ _ rfl | exact mm_r3264 (hr _ _ rfl)) (by decide) ?_
  refine mm_iconst (mm_dc od_X0_isCox_0 4 rfl) ?_
  refine mm_icmp_eq 28 (mm_dc od_X0_isCox_0 5 rfl) (by omega) (by first | assumption | omega | exact hr _ _ rfl | exact mm_r3264 (hr _ _ rfl)) (by first | assumption | omega | exact hr _ _ rfl | exact mm_r3264 (hr _ _ rfl)) (fun c1 => ?_) (fun c1 => ?_)
  · refine mm_iconst (mm_dc od_X0_isCox_0 16 rfl) ?_
    refine mm_zret .boolean (mm_dc od_X0_isCox_0 17 rfl) rfl rfl ?_
    exact kf (by first | assumption | omega)
  · refine mm_aload_n (mm_dc od_X0_isCox_0 6 rfl) rfl ?_
    refine mm_getR (ci := 0) (k := 4) (mm_dc od_X0_isCox_0 7 rfl) rfl in_X0 (by decide) wd_1_43 rfl rfl ?_
    refine mm_iload_n (mm_dc od_X0_isCox_0 8 rfl) rfl ?_
    refine mm_iald (mm_dc od_X0_isCox_0 9 rfl) rfl (by first | assumption | omega | exact hr _ _ rfl | exact mm_r3264 (hr _ _ rfl)) (by first | assumption | omega | exact hr _ _ rfl | exact mm_r3264 (hr _ _ rfl)) (by decide) ?_
    refine mm_bipush (mm_dc od_X0_isCox_0 10 rfl) (by decide) ?_
    refine mm_irem (mm_dc od_X0_isCox_0 11 rfl) (by first | assumption | omega | exact hr _ _ rfl | exact mm_r3264 (hr _ _ rfl)) (by first | assumption | omega | exact hr _ _ rfl | exact mm_r3264 (hr _ _ rfl)) (by first | assumption | omega | exact hr _ _ rfl | exact mm_r3264 (hr _ _ rfl)) ?_
    refine mm_bipush (mm_dc od_X0_isCox_0 12 rfl) (by decide) ?_
    refine mm_icmp_ne 28 (mm_dc od_X0_isCox_0 13 rfl) (by omega) (by first | assumption | omega | exact hr _ _ rfl | exact mm_r3264 (hr _ _ rfl)) (by first | assumption | omega | exact hr _ _ rfl | exact mm_r3264 (hr _ _ rfl)) (fun c2 => ?_) (fun c2 => ?_)
    · refine mm_iconst (mm_dc od_X0_isCox_0 16 rfl) ?_
      refine mm_zret .boolean (mm_dc od_X0_isCox_0 17 rfl) rfl rfl ?_
      exact kf (by first | assumption | omega)
    · refine mm_iconst (mm_dc od_X0_isCox_0 14 rfl) ?_
      refine mm_goto 29 (mm_dc od_X0_isCox_0 15 rfl) (by omega) ?_
      refine mm_zret .boolean (mm_dc od_X0_isCox_0 17 rfl) rfl rfl ?_
      exact kt (by first | assumption | omega)
theorem c_X0_maySit {X : Nat × (Nat → Int)} {d : Nat} {Po : mm_Po} {M : mm_M} (o : Int) (s : Int) (h0 : 0 ≤ o ∧ o < M 1 0) (hs1 : mm_r32 s) (hJo : JO M) (hr : R32 M) (kt : M 4 o.toNat = 0 ∧ (s ≠ 8 ∨ M 3 o.toNat ≤ 70) → Po (some (v_i 1)) Lam M) (kf : ¬ (M 4 o.toNat = 0 ∧ (s ≠ 8 ∨ M 3 o.toNat ≤ 70)) → Po (some (v_i 0)) Lam M) : mm_E X d 0 0 mi_X0_maySit [v_r 1, v_i o, v_i s] Po Lam M := by
  show mm_G X d 0 0 mi_X0_maySit Po 0 [(0, v_r 1), (1, v_i o), (2, v_i s)] [] Lam M 0 0
  have hJo2 := hJo
  obtain ⟨ho0, ho16, hO⟩ := hJo2
  have hO1 := hO o.toNat
  refine mm_aload_n (mm_dc od_X0_maySit_0 0 rfl) rfl ?_
  refine mm_getR (ci := 0) (k := 3) (mm_dc od_X0_maySit_0 1 rfl) rfl in_X0 (by decide) wd_1_41 rfl rfl ?_
  refine mm_iload_n (mm_dc od_X0_maySit_0 2 rfl) rfl ?_
  refine mm_iald (mm_dc od_X0_maySit_0 3 rfl) rfl (by first | assumption | omega | exact hr _ _ rfl | exact mm_r3264 (hr _ _ rfl)) (by first | assumption | omega | exact hr _ _ rfl | exact mm_r3264 (hr _ _ rfl)) (by decide) ?_
  refine mm_if_ne 30 (mm_dc od_X0_maySit_0 4 rfl) (by omega) (by first | assumption | omega | exact hr _ _ rfl | exact mm_r3264 (hr _ _ rfl)) (fun c1 => ?_) (fun c1 => ?_)
  · refine mm_iconst (mm_dc od_X0_maySit_0 16 rfl) ?_
    refine mm_zret .boolean (mm_dc od_X0_maySit_0 17 rfl) rfl rfl ?_
    exact kf (by first | assumption | omega)
  · refine mm_iload_n (mm_dc od_X0_maySit_0 5 rfl) rfl ?_
    refine mm_bipush (mm_dc od_X0_maySit_0 6 rfl) (by decide) ?_
    refine mm_icmp_ne 26 (mm_dc od_X0_maySit_0 7 rfl) (by omega) (by first | assumption | omega | exact hr _ _ rfl | exact mm_r3264 (hr _ _ rfl)) (by first | assumption | omega | exact hr _ _ rfl | exact mm_r3264 (hr _ _ rfl)) (fun c2 => ?_) (fun c2 => ?_)
    · refine mm_iconst (mm_dc od_X0_maySit_0 14 rfl) ?_
      refine mm_goto 31 (mm_dc od_X0_maySit_0 15 rfl) (by omega) ?_
      refine mm_zret .boolean (mm_dc od_X0_maySit_0 17 rfl) rfl rfl ?_
      exact kt (by first | assumption | omega)
    · refine mm_aload_n (mm_dc od_X0_maySit_0 8 rfl) rfl ?_
      refine mm_getR (ci := 0) (k := 2) (mm_dc od_X0_maySit_0 9 rfl) rfl in_X0 (by decide) wd_1_39 rfl rfl ?_
      refine mm_iload_n (mm_dc od_X0_maySit_0 10 rfl) rfl ?_
      refine mm_iald (mm_dc od_X0_maySit_0 11 rfl) rfl (by first | assumption | omega | exact hr _ _ rfl | exact mm_r3264 (hr _ _ rfl)) (by first | assumption | omega | exact hr _ _ rfl | exact mm_r3264 (hr _ _ rfl)) (by decide) ?_
      refine mm_bipush (mm_dc od_X0_maySit_0 12 rfl) (by decide) ?_
      refine mm_icmp_gt 30 (mm_dc od_X0_maySit_0 13 rfl) (by omega) (by first | assumption | omega | exact hr _ _ rfl | exact mm_r3264 (hr _ _ rfl)) (by first | assumption | omega | exact hr _ _ rfl | exact mm_r3264 (hr _ _ rfl)) (fun c3 => ?_) (fun c3 => ?_)
      · refine mm_iconst (mm_dc od_X0_maySit_0 16 rfl) ?_
        refine mm_zret .boolean (mm_dc od_X0_maySit_0 17 rfl) rfl rfl ?_
        exact kf (by first | assumption | omega)
      · refine mm_iconst (mm_dc od_X0_maySit_0 14 rfl) ?_
        refine mm_goto 31 (mm_dc od_X0_maySit_0 15 rfl) (by omega) ?_
        refine mm_zret .boolean (mm_dc od_X0_maySit_0 17 rfl) rfl rfl ?_
        exact kt (by first | assumption | omega)
theorem c_X0_mayBeOut {X : Nat × (Nat → Int)} {d : Nat} {Po : mm_Po} {M : mm_M} (o : Int) (hour : Int) (h0 : 0 ≤ o ∧ o < M 1 0) (hs1 : mm_r32 hour) (hJo : JO M) (hr : R32 M) (kt : M 4 o.toNat = 0 ∧ (M 2 o.toNat ≠ 4 ∨ 7 ≤ hour) → Po (some (v_i 1)) Lam M) (kf : ¬ (M 4 o.toNat = 0 ∧ (M 2 o.toNat ≠ 4 ∨ 7 ≤ hour)) → Po (some (v_i 0)) Lam M) : mm_E X d 0 0 mi_X0_mayBeOut [v_r 1, v_i o, v_i hour] Po Lam M := by
  show mm_G X d 0 0 mi_X0_mayBeOut Po 0 [(0, v_r 1), (1, v_i o), (2, v_i hour)] [] Lam M 0 0
  have hJo2 := hJo
  obtain ⟨ho0, ho16, hO⟩ := hJo2
  have hO1 := hO o.toNat
  refine mm_aload_n (mm_dc od_X0_mayBeOut_0 0 rfl) rfl ?_
  refine mm_getR (ci := 0) (k := 3) (mm_dc od_X0_mayBeOut_0 1 rfl) rfl in_X0 (by decide) wd_1_41 rfl rfl ?_
  refine mm_iload_n (mm_dc od_X0_mayBeOut_0 2 rfl) rfl ?_
  refine mm_iald (mm_dc od_X0_mayBeOut_0 3 rfl) rfl (by first | assumption | omega | exact hr _ _ rfl | exact mm_r3264 (hr _ _ rfl)) (by first | assumption | omega | exact hr _ _ rfl | exact mm_r3264 (hr _ _ rfl)) (by decide) ?_
  refine mm_if_ne 29 (mm_dc od_X0_mayBeOut_0 4 rfl) (by omega) (by first | assumption | omega | exact hr _ _ rfl | exact mm_r3264 (hr _ _ rfl)) (fun c1 => ?_) (fun c1 => ?_)
  · refine mm_iconst (mm_dc od_X0_mayBeOut_0 16 rfl) ?_
    refine mm_zret .boolean (mm_dc od_X0_mayBeOut_0 17 rfl) rfl rfl ?_
    exact kf (by first | assumption | omega)
  · refine mm_aload_n (mm_dc od_X0_mayBeOut_0 5 rfl) rfl ?_
    refine mm_getR (ci := 0) (k := 1) (mm_dc od_X0_mayBeOut_0 6 rfl) rfl in_X0 (by decide) wd_1_37 rfl rfl ?_
    refine mm_iload_n (mm_dc od_X0_mayBeOut_0 7 rfl) rfl ?_
    refine mm_iald (mm_dc od_X0_mayBeOut_0 8 rfl) rfl (by first | assumption | omega | exact hr _ _ rfl | exact mm_r3264 (hr _ _ rfl)) (by first | assumption | omega | exact hr _ _ rfl | exact mm_r3264 (hr _ _ rfl)) (by decide) ?_
    refine mm_iconst (mm_dc od_X0_mayBeOut_0 9 rfl) ?_
    refine mm_icmp_ne 25 (mm_dc od_X0_mayBeOut_0 10 rfl) (by omega) (by first | assumption | omega | exact hr _ _ rfl | exact mm_r3264 (hr _ _ rfl)) (by first | assumption | omega | exact hr _ _ rfl | exact mm_r3264 (hr _ _ rfl)) (fun c2 => ?_) (fun c2 => ?_)
    · refine mm_iconst (mm_dc od_X0_mayBeOut_0 14 rfl) ?_
      refine mm_goto 30 (mm_dc od_X0_mayBeOut_0 15 rfl) (by omega) ?_
      refine mm_zret .boolean (mm_dc od_X0_mayBeOut_0 17 rfl) rfl rfl ?_
      exact kt (by first | assumption | omega)
    · refine mm_iload_n (mm_dc od_X0_mayBeOut_0 11 rfl) rfl ?_
      refine mm_bipush (mm_dc od_X0_mayBeOut_0 12 rfl) (by decide) ?_
      refine mm_icmp_lt 29 (mm_dc od_X0_mayBeOut_0 13 rfl) (by omega) (by first | assumption | omega | exact hr _ _ rfl | exact mm_r3264 (hr _ _ rfl)) (by first | assumption | omega | exact hr _ _ rfl | exact mm_r3264 (hr _ _ rfl)) (fun c3 => ?_) (fun c3 => ?_)
      · refine mm_iconst (mm_dc od_X0_mayBeOut_0 16 rfl) ?_
        refine mm_zret .boolean (mm_dc od_X0_mayBeOut_0 17 rfl) rfl rfl ?_
        exact kf (by first | assumption | omega)
      · refine mm_iconst (mm_dc od_X0_mayBeOut_0 14 rfl) ?_
        refine mm_goto 30 (mm_dc od_X0_mayBeOut_0 15 rfl) (by omega) ?_
        refine mm_zret .boolean (mm_dc od_X0_mayBeOut_0 17 rfl) rfl rfl ?_
        exact kt (by first | assumption | omega)
theorem c_X0_addOar {X : Nat × (Nat → Int)} {d : Nat} {Po : mm_Po} {M : mm_M} (kind : Int) (w : Int) (h0 : 0 ≤ M 1 0 ∧ M 1 0 < 16) (hr : R32 M) (k : Po (some (v_i (M 1 0))) Lam (mm_up (mm_up (mm_up (mm_up (mm_up M 2 (M 1 0).toNat kind) 3 (M 1 0).toNat w) 4 (M 1 0).toNat 0) 5 (M 1 0).toNat (-1)) 1 0 (M 1 0 + 1))) : mm_E X d 0 0 mi_X0_addOar [v_r 1, v_i kind, v_i w] Po Lam M := by
  show mm_G X d 0 0 mi_X0_addOar Po 0 [(0, v_r 1), (1, v_i kind), (2, v_i w)] [] Lam M 0 0
  refine mm_aload_n (mm_dc od_X0_addOar_0 0 rfl) rfl ?_
  refine mm_getR (ci := 0) (k := 1) (mm_dc od_X0_addOar_0 1 rfl) rfl in_X0 (by decide) wd_1_37 rfl rfl ?_
  refine mm_aload_n (mm_dc od_X0_addOar_0 2 rfl) rfl ?_
  refine mm_getI (ci := 0) (k := 0) (mm_dc od_X0_addOar_0 3 rfl) rfl in_X0 (by decide) wd_1_34 rfl rfl ?_
  refine mm_iload_n (mm_dc od_X0_addOar_0 4 rfl) rfl ?_
  refine mm_iast (mm_dc od_X0_addOar_0 5 rfl) rfl (by first | assumption | omega | exact hr _ _ rfl | exact mm_r3264 (hr _ _ rfl)) (by first | assumption | omega | exact hr _ _ rfl | exact mm_r3264 (hr _ _ rfl)) (by decide) ?_
  refine mm_aload_n (mm_dc od_X0_addOar_0 6 rfl) rfl ?_
  refine mm_getR (ci := 0) (k := 2) (mm_dc od_X0_addOar_0 7 rfl) rfl in_X0 (by decide) wd_1_39 rfl rfl ?_
  refine mm_aload_n (mm_dc od_X0_addOar_0 8 rfl) rfl ?_
  refine mm_getI (ci := 0) (k := 0) (mm_dc od_X0_addOar_0 9 rfl) rfl in_X0 (by decide) wd_1_34 rfl rfl ?_
  refine mm_cst (st' := [v_i (M 1 0), v_r 3]) rfl ?_
  refine mm_iload_n (mm_dc od_X0_addOar_0 10 rfl) rfl ?_
  refine mm_iast (mm_dc od_X0_addOar_0 11 rfl) rfl (by first | assumption | omega | exact hr _ _ rfl | exact mm_r3264 (hr _ _ rfl)) (by first | assumption | omega | exact hr _ _ rfl | exact mm_r3264 (hr _ _ rfl)) (by decide) ?_
  refine mm_aload_n (mm_dc od_X0_addOar_0 12 rfl) rfl ?_
  refine mm_getR (ci := 0) (k := 3) (mm_dc od_X0_addOar_0 13 rfl) rfl in_X0 (by decide) wd_1_41 rfl rfl ?_
  refine mm_aload_n (mm_dc od_X0_addOar_0 14 rfl) rfl ?_
  refine mm_getI (ci := 0) (k := 0) (mm_dc od_X0_addOar_0 15 rfl) rfl in_X0 (by decide) wd_1_34 rfl rfl ?_
  refine mm_cst (st' := [v_i (M 1 0), v_r 4]) rfl ?_
  refine mm_iconst (mm_dc od_X0_addOar_0 16 rfl) ?_
  refine mm_iast (mm_dc od_X0_addOar_0 17 rfl) rfl (by first | assumption | omega | exact hr _ _ rfl | exact mm_r3264 (hr _ _ rfl)) (by first | assumption | omega | exact hr _ _ rfl | exact mm_r3264 (hr _ _ rfl)) (by decide) ?_
  refine mm_aload_n (mm_dc od_X0_addOar_0 18 rfl) rfl ?_
  refine mm_getR (ci := 0) (k := 4) (mm_dc od_X0_addOar_0 19 rfl) rfl in_X0 (by decide) wd_1_43 rfl rfl ?_
  refine mm_aload_n (mm_dc od_X0_addOar_0 20 rfl) rfl ?_
  refine mm_getI (ci := 0) (k := 0) (mm_dc od_X0_addOar_0 21 rfl) rfl in_X0 (by decide) wd_1_34 rfl rfl ?_
  refine mm_cst (st' := [v_i (M 1 0), v_r 5]) rfl ?_
  refine mm_iconst (mm_dc od_X0_addOar_0 22 rfl) ?_
  refine mm_iast (mm_dc od_X0_addOar_0 23 rfl) rfl (by first | assumption | omega | exact hr _ _ rfl | exact mm_r3264 (hr _ _ rfl)) (by first | assumption | omega | exact hr _ _ rfl | exact mm_r3264 (hr _ _ rfl)) (by decide) ?_
  refine mm_aload_n (mm_dc od_X0_addOar_0 24 rfl) rfl ?_
  refine mm_dup_r (mm_dc od_X0_addOar_0 25 rfl) ?_
  refine mm_getI (ci := 0) (k := 0) (mm_dc od_X0_addOar_0 26 rfl) rfl in_X0 (by decide) wd_1_34 rfl rfl ?_
  refine mm_cst (st' := [v_i (M 1 0), v_r 1]) rfl ?_
  refine mm_iconst (mm_dc od_X0_addOar_0 27 rfl) ?_
  refine mm_iadd (mm_dc od_X0_addOar_0 28 rfl) ?_
  refine mm_putI (ci := 0) (k := 0) (mm_dc od_X0_addOar_0 29 rfl) rfl in_X0 tyX0_ok nmX0 (by decide) wd_1_34 rfl rfl rfl rfl ?_
  refine mm_aload_n (mm_dc od_X0_addOar_0 30 rfl) rfl ?_
  refine mm_getI (ci := 0) (k := 0) (mm_dc od_X0_addOar_0 31 rfl) rfl in_X0 (by decide) wd_1_34 rfl rfl ?_
  refine mm_cst (st' := [v_i ((M 1 0) + 1)]) rfl ?_
  refine mm_iconst (mm_dc od_X0_addOar_0 32 rfl) ?_
  refine mm_isub (mm_dc od_X0_addOar_0 33 rfl) ?_
  refine mm_iret (mm_dc od_X0_addOar_0 34 rfl) rfl ?_
  exact mm_pi (by first | rfl | omega | (split <;> omega) | grind) k
theorem c_X0_addBoat {X : Nat × (Nat → Int)} {d : Nat} {Po : mm_Po} {M : mm_M} (kind : Int) (least : Int) (most : Int) (len : Int) (h0 : 0 ≤ M 1 5 ∧ M 1 5 < 8) (hr : R32 M) (k : Po (some (v_i (M 1 5))) Lam (mm_up (mm_up (mm_up (mm_up (mm_up M 6 (M 1 5).toNat kind) 7 (M 1 5).toNat least) 8 (M 1 5).toNat most) 9 (M 1 5).toNat len) 1 5 (M 1 5 + 1))) : mm_E X d 0 0 mi_X0_addBoat [v_r 1, v_i kind, v_i least, v_i most, v_i len] Po Lam M := by
  show mm_G X d 0 0 mi_X0_addBoat Po 0 [(0, v_r 1), (1, v_i kind), (2, v_i least), (3, v_i most), (4, v_i len)] [] Lam M 0 0
  refine mm_aload_n (mm_dc od_X0_addBoat_0 0 rfl) rfl ?_
  refine mm_getR (ci := 0) (k := 6) (mm_dc od_X0_addBoat_0 1 rfl) rfl in_X0 (by decide) wd_1_48 rfl rfl ?_
  refine mm_aload_n (mm_dc od_X0_addBoat_0 2 rfl) rfl ?_
  refine mm_getI (ci := 0) (k := 5) (mm_dc od_X0_addBoat_0 3 rfl) rfl in_X0 (by decide) wd_1_46 rfl rfl ?_
  refine mm_iload_n (mm_dc od_X0_addBoat_0 4 rfl) rfl ?_
  refine mm_iast (mm_dc od_X0_addBoat_0 5 rfl) rfl (by first | assumption | omega | exact hr _ _ rfl | exact mm_r3264 (hr _ _ rfl)) (by first | assumption | omega | exact hr _ _ rfl | exact mm_r3264 (hr _ _ rfl)) (by decide) ?_
  refine mm_aload_n (mm_dc od_X0_addBoat_0 6 rfl) rfl ?_
  refine mm_getR (ci := 0) (k := 7) (mm_dc od_X0_addBoat_0 7 rfl) rfl in_X0 (by decide) wd_1_50 rfl rfl ?_
  refine mm_aload_n (mm_dc od_X0_addBoat_0 8 rfl) rfl ?_
  refine mm_getI (ci := 0) (k := 5) (mm_dc od_X0_addBoat_0 9 rfl) rfl in_X0 (by decide) wd_1_46 rfl rfl ?_
  refine mm_cst (st' := [v_i (M 1 5), v_r 7]) rfl ?_
  refine mm_iload_n (mm_dc od_X0_addBoat_0 10 rfl) rfl ?_
  refine mm_iast (mm_dc od_X0_addBoat_0 11 rfl) rfl (by first | assumption | omega | exact hr _ _ rfl | exact mm_r3264 (hr _ _ rfl)) (by first | assumption | omega | exact hr _ _ rfl | exact mm_r3264 (hr _ _ rfl)) (by decide) ?_
  refine mm_aload_n (mm_dc od_X0_addBoat_0 12 rfl) rfl ?_
  refine mm_getR (ci := 0) (k := 8) (mm_dc od_X0_addBoat_0 13 rfl) rfl in_X0 (by decide) wd_1_52 rfl rfl ?_
  refine mm_aload_n (mm_dc od_X0_addBoat_0 14 rfl) rfl ?_
  refine mm_getI (ci := 0) (k := 5) (mm_dc od_X0_addBoat_0 15 rfl) rfl in_X0 (by decide) wd_1_46 rfl rfl ?_
  refine mm_cst (st' := [v_i (M 1 5), v_r 8]) rfl ?_
  refine mm_iload_n (mm_dc od_X0_addBoat_0 16 rfl) rfl ?_
  refine mm_iast (mm_dc od_X0_addBoat_0 17 rfl) rfl (by first | assumption | omega | exact hr _ _ rfl | exact mm_r3264 (hr _ _ rfl)) (by first | assumption | omega | exact hr _ _ rfl | exact mm_r3264 (hr _ _ rfl)) (by decide) ?_
  refine mm_aload_n (mm_dc od_X0_addBoat_0 18 rfl) rfl ?_
  refine mm_getR (ci := 0) (k := 9) (mm_dc od_X0_addBoat_0 19 rfl) rfl in_X0 (by decide) wd_1_54 rfl rfl ?_
  refine mm_aload_n (mm_dc od_X0_addBoat_0 20 rfl) rfl ?_
  refine mm_getI (ci := 0) (k := 5) (mm_dc od_X0_addBoat_0 21 rfl) rfl in_X0 (by decide) wd_1_46 rfl rfl ?_
  refine mm_cst (st' := [v_i (M 1 5), v_r 9]) rfl ?_
  refine mm_iload (mm_dc od_X0_addBoat_0 22 rfl) rfl ?_
  refine mm_iast (mm_dc od_X0_addBoat_0 23 rfl) rfl (by first | assumption | omega | exact hr _ _ rfl | exact mm_r3264 (hr _ _ rfl)) (by first | assumption | omega | exact hr _ _ rfl | exact mm_r3264 (hr _ _ rfl)) (by decide) ?_
  refine mm_aload_n (mm_dc od_X0_addBoat_0 24 rfl) rfl ?_
  refine mm_dup_r (mm_dc od_X0_addBoat_0 25 rfl) ?_
  refine mm_getI (ci := 0) (k := 5) (mm_dc od_X0_addBoat_0 26 rfl) rfl in_X0 (by decide) wd_1_46 rfl rfl ?_
  refine mm_cst (st' := [v_i (M 1 5), v_r 1]) rfl ?_
  refine mm_iconst (mm_dc od_X0_addBoat_0 27 rfl) ?_
  refine mm_iadd (mm_dc od_X0_addBoat_0 28 rfl) ?_
  refine mm_putI (ci := 0) (k := 5) (mm_dc od_X0_addBoat_0 29 rfl) rfl in_X0 tyX0_ok nmX0 (by decide) wd_1_46 rfl rfl rfl rfl ?_
  refine mm_aload_n (mm_dc od_X0_addBoat_0 30 rfl) rfl ?_
  refine mm_getI (ci := 0) (k := 5) (mm_dc od_X0_addBoat_0 31 rfl) rfl in_X0 (by decide) wd_1_46 rfl rfl ?_
  refine mm_cst (st' := [v_i ((M 1 5) + 1)]) rfl ?_
  refine mm_iconst (mm_dc od_X0_addBoat_0 32 rfl) ?_
  refine mm_isub (mm_dc od_X0_addBoat_0 33 rfl) ?_
  refine mm_iret (mm_dc od_X0_addBoat_0 34 rfl) rfl ?_
  exact mm_pi (by first | rfl | omega | (split <;> omega) | grind) k
theorem L_whoSits {X : Nat × (Nat → Int)} {d : Nat} {Po : mm_Po} {M : mm_M} (b s : Int) (hb1 : 0 ≤ b ∧ b < 8) (hs1 : 0 ≤ s ∧ s < 10) (hJo : JO M) (hr : R32 M) (k : ∀ r : Int, firstP (fun i => M 5 i = 10 * b + s) r (M 1 0).toNat → Po (some (v_i r)) Lam M) (j : Nat) (hj : ∀ i : Nat, i < j → M 5 i ≠ 10 * b + s) (hj2 : (j : Int) ≤ M 1 0) : mm_G X d 0 0 mi_X0_whoSits Po 2 [(0, v_r 1), (1, v_i b), (2, v_i s), (3, v_i (j : Int))] [] Lam M 0 0 := by
  have hJo2 := hJo
  obtain ⟨ho0, ho16, hO⟩ := hJo2
  have hO1 := hO j
  refine mm_iload_n (mm_dc od_X0_whoSits_0 2 rfl) rfl ?_
  refine mm_aload_n (mm_dc od_X0_whoSits_0 3 rfl) rfl ?_
  refine mm_getI (ci := 0) (k := 0) (mm_dc od_X0_whoSits_0 4 rfl) rfl in_X0 (by decide) wd_1_34 rfl rfl ?_
  refine mm_icmp_ge 33 (mm_dc od_X0_whoSits_0 5 rfl) (by omega) (by first | assumption | omega | exact hr _ _ rfl | exact mm_r3264 (hr _ _ rfl)) (by first | assumption | omega | exact hr _ _ rfl | exact mm_r3264 (hr _ _ rfl)) (fun c1 => ?_) (fun c1 => ?_)
  · refine mm_iconst (mm_dc od_X0_whoSits_0 20 rfl) ?_
    refine mm_iret (mm_dc od_X0_whoSits_0 21 rfl) rfl ?_
    exact k _ (Or.inl ⟨rfl, fun i hi => hj i (by omega)⟩)
  · refine mm_aload_n (mm_dc od_X0_whoSits_0 6 rfl) rfl ?_
    refine mm_getR (ci := 0) (k := 4) (mm_dc od_X0_whoSits_0 7 rfl) rfl in_X0 (by decide) wd_1_43 rfl rfl ?_
    refine mm_iload_n (mm_dc od_X0_whoSits_0 8 rfl) rfl ?_
    refine mm_iald (mm_dc od_X0_whoSits_0 9 rfl) rfl (by first | assumption | omega | exact hr _ _ rfl | exact mm_r3264 (hr _ _ rfl)) (by first | assumption | omega | exact hr _ _ rfl | exact mm_r3264 (hr _ _ rfl)) (by decide) ?_
    refine mm_cst (st' := [v_i (M 5 j)]) rfl ?_
    refine mm_bipush (mm_dc od_X0_whoSits_0 10 rfl) (by decide) ?_
    refine mm_iload_n (mm_dc od_X0_whoSits_0 11 rfl) rfl ?_
    refine mm_imul (mm_dc od_X0_whoSits_0 12 rfl) ?_
    refine mm_iload_n (mm_dc od_X0_whoSits_0 13 rfl) rfl ?_
    refine mm_iadd (mm_dc od_X0_whoSits_0 14 rfl) ?_
    refine mm_icmp_ne 27 (mm_dc od_X0_whoSits_0 15 rfl) (by omega) (by first | assumption | omega | exact hr _ _ rfl | exact mm_r3264 (hr _ _ rfl)) (by first | assumption | omega | exact hr _ _ rfl | exact mm_r3264 (hr _ _ rfl)) (fun c2 => ?_) (fun c2 => ?_)
    · refine mm_iinc (L' := [(0, v_r 1), (1, v_i b), (2, v_i s), (3, v_i ((j : Int) + 1))]) (mm_dc od_X0_whoSits_0 18 rfl) rfl (by decide) rfl ?_
      refine mm_goto 2 (mm_dc od_X0_whoSits_0 19 rfl) (by omega) ?_
      exact L_whoSits b s hb1 hs1 hJo hr k (j + 1) (lt_s (p := fun i => M 5 i ≠ 10 * b + s) hj (by assumption)) (by omega)
    · refine mm_iload_n (mm_dc od_X0_whoSits_0 16 rfl) rfl ?_
      refine mm_iret (mm_dc od_X0_whoSits_0 17 rfl) rfl ?_
      exact k _ (Or.inr ⟨by omega, by omega, (show M 5 j = 10 * b + s by assumption), fun i hi => hj i (by omega)⟩)
termination_by (M 1 0).toNat - j
decreasing_by all_goals (first | omega | (simp_wf; omega))
theorem c_X0_whoSits {X : Nat × (Nat → Int)} {d : Nat} {Po : mm_Po} {M : mm_M} (b : Int) (s : Int) (hb1 : 0 ≤ b ∧ b < 8) (hs1 : 0 ≤ s ∧ s < 10) (hJo : JO M) (hr : R32 M) (k : ∀ r : Int, (firstP (fun i => M 5 i = 10 * b + s) r (M 1 0).toNat) → Po (some (v_i r)) Lam M) : mm_E X d 0 0 mi_X0_whoSits [v_r 1, v_i b, v_i s] Po Lam M := by
  show mm_G X d 0 0 mi_X0_whoSits Po 0 [(0, v_r 1), (1, v_i b), (2, v_i s)] [] Lam M 0 0
  refine mm_iconst (mm_dc od_X0_whoSits_0 0 rfl) ?_
  refine mm_istore_n (L' := [(0, v_r 1), (1, v_i b), (2, v_i s), (3, v_i 0)]) (mm_dc od_X0_whoSits_0 1 rfl) (by decide) rfl ?_
  exact L_whoSits b s hb1 hs1 hJo hr k 0 (fun i hi => by omega) (by have := hJo.1; omega)
