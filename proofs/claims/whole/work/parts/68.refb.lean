/-! the reference's tape -/
def sgS (M : mm_M) : Int := if M 50 36 < M 50 29 then M 74 (M 50 36).toNat else -1
def JTm (M : mm_M) : Prop := 0 ≤ M 50 36 ∧ M 50 36 ≤ M 50 29 ∧ M 50 29 ≤ 120
theorem sgS_r {M : mm_M} (h : R32 M) : mm_r32 (sgS M) := by
  unfold sgS
  split
  · exact h _ _ rfl
  · decide
theorem sgS_b {M : mm_M} {b : Int} (hb : 0 ≤ b) : sgS M = b ↔ (M 50 36 < M 50 29 ∧ M 74 (M 50 36).toNat = b) := by
  unfold sgS
  split <;> omega
theorem c_X10_sign {X : Nat × (Nat → Int)} {d : Nat} {Po : mm_Po} {M : mm_M}  (hJt : JTm M) (hr : R32 M) (k : Po (some (v_i (sgS M))) Lam M) : mm_E X d 0 0 mi_X10_sign [v_r 50] Po Lam M := by
  show mm_G X d 0 0 mi_X10_sign Po 0 [(0, v_r 50)] [] Lam M 0 0
  have hJt2 := hJt
  obtain ⟨j1, j2, j3⟩ := hJt2
  refine mm_aload_n (mm_dc od_X10_sign_0 0 rfl) rfl ?_
  refine mm_getI (ci := 10) (k := 36) (mm_dc od_X10_sign_0 1 rfl) rfl in_X10 (by decide) wd_4_148 rfl rfl ?_
  refine mm_aload_n (mm_dc od_X10_sign_0 2 rfl) rfl ?_
  refine mm_getI (ci := 10) (k := 29) (mm_dc od_X10_sign_0 3 rfl) rfl in_X10 (by decide) wd_4_141 rfl rfl ?_
  refine mm_icmp_ge 23 (mm_dc od_X10_sign_0 4 rfl) (by omega) (by first | omega | assumption | exact hr _ _ rfl) (by first | omega | assumption | exact hr _ _ rfl) (fun c1 => ?_) (fun c1 => ?_)
  · refine mm_iconst (mm_dc od_X10_sign_0 11 rfl) ?_
    refine mm_iret (mm_dc od_X10_sign_0 12 rfl) rfl ?_
    exact mm_pi (by unfold sgS; rw [if_neg (by omega)]) k
  · refine mm_aload_n (mm_dc od_X10_sign_0 5 rfl) rfl ?_
    refine mm_getR (ci := 10) (k := 28) (mm_dc od_X10_sign_0 6 rfl) rfl in_X10 (by decide) wd_4_140 rfl rfl ?_
    refine mm_aload_n (mm_dc od_X10_sign_0 7 rfl) rfl ?_
    refine mm_getI (ci := 10) (k := 36) (mm_dc od_X10_sign_0 8 rfl) rfl in_X10 (by decide) wd_4_148 rfl rfl ?_
    refine mm_iald (mm_dc od_X10_sign_0 9 rfl) rfl (by first | omega | assumption | exact hr _ _ rfl) (by first | omega | assumption | exact hr _ _ rfl) (by decide) ?_
    refine mm_goto 24 (mm_dc od_X10_sign_0 10 rfl) (by omega) ?_
    refine mm_iret (mm_dc od_X10_sign_0 12 rfl) rfl ?_
    exact mm_pi (by unfold sgS; rw [if_pos (by omega)]) k
theorem c_X10_takes {X : Nat × (Nat → Int)} {d : Nat} {Po : mm_Po} {M : mm_M} (ch : Int) (hch : mm_r32 ch) (hJt : JTm M) (hr : R32 M) (k1 : sgS M = ch → Po (some (v_i 1)) Lam (mm_up M 50 36 (M 50 36 + 1))) (k2 : (¬ sgS M = ch) → Po (some (v_i 0)) Lam M) : mm_E X (d + 1) 0 0 mi_X10_takes [v_r 50, v_i ch] Po Lam M := by
  show mm_G X (d + 1) 0 0 mi_X10_takes Po 0 [(0, v_r 50), (1, v_i ch)] [] Lam M 0 0
  have hJt2 := hJt
  obtain ⟨j1, j2, j3⟩ := hJt2
  have hsr := sgS_r hr
  refine mm_aload_n (mm_dc od_X10_takes_0 0 rfl) rfl ?_
  refine mm_callV (b := 50) (mi' := mi_X10_sign) [] [] (mm_dc od_X10_takes_0 1 rfl) rfl wd_5_209 wd_5_211 wd_p_39 wd_1_12 wd_5_212 yk_X10_sign rfl rfl rfl (Nat.le_of_ble_eq_true rfl) rfl (by decide) (c_X10_sign  hJt (by first | omega | assumption | exact hr _ _ rfl) ⟨Nat.le_refl _, ?_⟩)
  refine mm_iload_n (mm_dc od_X10_takes_0 2 rfl) rfl ?_
  refine mm_icmp_eq 10 (mm_dc od_X10_takes_0 3 rfl) (by omega) (by first | omega | assumption | exact hr _ _ rfl) (by first | omega | assumption | exact hr _ _ rfl) (fun c1 => ?_) (fun c1 => ?_)
  · refine mm_aload_n (mm_dc od_X10_takes_0 6 rfl) rfl ?_
    refine mm_dup_r (mm_dc od_X10_takes_0 7 rfl) ?_
    refine mm_getI (ci := 10) (k := 36) (mm_dc od_X10_takes_0 8 rfl) rfl in_X10 (by decide) wd_4_148 rfl rfl ?_
    refine mm_iconst (mm_dc od_X10_takes_0 9 rfl) ?_
    refine mm_iadd (mm_dc od_X10_takes_0 10 rfl) ?_
    refine mm_putI (ci := 10) (k := 36) (mm_dc od_X10_takes_0 11 rfl) rfl in_X10 tyX10_ok nmX10 (by decide) wd_4_148 rfl rfl rfl rfl ?_
    refine mm_iconst (mm_dc od_X10_takes_0 12 rfl) ?_
    refine mm_zret .boolean (mm_dc od_X10_takes_0 13 rfl) rfl rfl ?_
    first | exact k1 (by first | assumption | omega) | (exfalso; omega)
  · refine mm_iconst (mm_dc od_X10_takes_0 4 rfl) ?_
    refine mm_zret .boolean (mm_dc od_X10_takes_0 5 rfl) rfl rfl ?_
    first | exact k2 (by first | assumption | omega) | (exfalso; omega)
theorem c_X10_isDigit {X : Nat × (Nat → Int)} {d : Nat} {Po : mm_Po} {M : mm_M} (b : Int) (hb : mm_r32 b) (kt : 48 ≤ b ∧ b ≤ 57 → Po (some (v_i 1)) Lam M) (kf : ¬ (48 ≤ b ∧ b ≤ 57) → Po (some (v_i 0)) Lam M) : mm_E X d 0 0 mi_X10_isDigit [v_i b] Po Lam M := by
  show mm_G X d 0 0 mi_X10_isDigit Po 0 [(0, v_i b)] [] Lam M 0 0
  refine mm_iload_n (mm_dc od_X10_isDigit_0 0 rfl) rfl ?_
  refine mm_bipush (mm_dc od_X10_isDigit_0 1 rfl) (by decide) ?_
  refine mm_icmp_lt 16 (mm_dc od_X10_isDigit_0 2 rfl) (by omega) (by first | assumption | omega | exact hr _ _ rfl | exact mm_ti _ | exact mm_r3264 (hr _ _ rfl)) (by first | assumption | omega | exact hr _ _ rfl | exact mm_ti _ | exact mm_r3264 (hr _ _ rfl)) (fun c1 => ?_) (fun c1 => ?_)
  · refine mm_iconst (mm_dc od_X10_isDigit_0 8 rfl) ?_
    refine mm_zret .boolean (mm_dc od_X10_isDigit_0 9 rfl) rfl rfl ?_
    exact kf (by first | assumption | omega)
  · refine mm_iload_n (mm_dc od_X10_isDigit_0 3 rfl) rfl ?_
    refine mm_bipush (mm_dc od_X10_isDigit_0 4 rfl) (by decide) ?_
    refine mm_icmp_gt 16 (mm_dc od_X10_isDigit_0 5 rfl) (by omega) (by first | assumption | omega | exact hr _ _ rfl | exact mm_ti _ | exact mm_r3264 (hr _ _ rfl)) (by first | assumption | omega | exact hr _ _ rfl | exact mm_ti _ | exact mm_r3264 (hr _ _ rfl)) (fun c2 => ?_) (fun c2 => ?_)
    · refine mm_iconst (mm_dc od_X10_isDigit_0 8 rfl) ?_
      refine mm_zret .boolean (mm_dc od_X10_isDigit_0 9 rfl) rfl rfl ?_
      exact kf (by first | assumption | omega)
    · refine mm_iconst (mm_dc od_X10_isDigit_0 6 rfl) ?_
      refine mm_goto 17 (mm_dc od_X10_isDigit_0 7 rfl) (by omega) ?_
      refine mm_zret .boolean (mm_dc od_X10_isDigit_0 9 rfl) rfl rfl ?_
      exact kt (by first | assumption | omega)
theorem L_ft5 {X : Nat × (Nat → Int)} {d : Nat} {Po : mm_Po} {M : mm_M} (w b p : Nat) (hw : w < 16) (hb : b + p ≤ 120) (hp120 : p < 200) (hat : M 50 36 = ((b + p : Nat) : Int)) (hr : R32 M) (kt : (∀ q, q < p → lt w q = M 74 (b + q)) → Po (some (v_i 1)) Lam M) (kf : ¬ (∀ q, q < p → lt w q = M 74 (b + q)) → Po (some (v_i 0)) Lam M) (x : Int) (j : Nat) (hj : j ≤ p) (hx : (x = 1 ∧ ∀ q, q < j → lt w q = M 74 (b + q)) ∨ (x = 0 ∧ ¬ ∀ q, q < j → lt w q = M 74 (b + q))) : mm_G X (d + 3) 0 0 mi_X10_fits Po 5 [(0, v_r 50), (1, v_i (w : Int)), (2, v_i (b : Int)), (3, v_i x), (4, v_i ((b + j : Nat) : Int))] [] Lam M 0 0 := by
  have hx01 : x = 0 ∨ x = 1 := (by rcases hx with ⟨e, _⟩ | ⟨e, _⟩ <;> omega)
  have hnx : narrow .boolean (.int (Int32.ofInt x)) = .int (Int32.ofInt x) := (by rcases hx01 with e | e <;> subst e <;> rfl)
  have hxx : (x ≠ 0 → ∀ q, q < j → lt w q = M 74 (b + q)) ∧ True := (by
    refine ⟨fun h => ?_, trivial⟩
    rcases hx with ⟨_, e⟩ | ⟨e, _⟩
    · exact e
    · exact absurd e h)
  have hlt : lt ((w : Int)).toNat (((b + j : Nat) : Int) - (b : Int)).toNat = lt w j := (by rw [Int.toNat_natCast, show (((b + j : Nat) : Int) - (b : Int)).toNat = j by omega])
  have hlr : mm_r32 (lt w j) := (by
    by_cases q : j < wl w
    · have h0 := (lt_dg w hw).1
      have h := (lt_dg w hw).2.2 j (by omega) q
      omega
    · rw [lt_out (by omega)]; decide)
  refine mm_iload (mm_dc od_X10_fits_0 4 rfl) rfl ?_
  refine mm_aload_n (mm_dc od_X10_fits_0 5 rfl) rfl ?_
  refine mm_getI (ci := 10) (k := 36) (mm_dc od_X10_fits_0 6 rfl) rfl in_X10 (by decide) wd_4_148 rfl rfl ?_
  refine mm_icmp_ge 48 (mm_dc od_X10_fits_0 7 rfl) (by omega) (by first | omega | assumption | exact hr _ _ rfl) (by first | omega | assumption | exact hr _ _ rfl) (fun c1 => ?_) (fun c1 => ?_)
  · refine mm_iload_n (mm_dc od_X10_fits_0 26 rfl) rfl ?_
    refine mm_zret .boolean (mm_dc od_X10_fits_0 27 rfl) rfl (by first | rfl | (split <;> rfl) | assumption) ?_
    have e : j = p := by omega
    subst e
    rcases hx with ⟨e1, e2⟩ | ⟨e1, e2⟩
    · subst e1; exact kt e2
    · subst e1; exact kf e2
  · refine mm_iload_n (mm_dc od_X10_fits_0 8 rfl) rfl ?_
    refine mm_if_eq 40 (mm_dc od_X10_fits_0 9 rfl) (by omega) (by first | omega | assumption | exact hr _ _ rfl) (fun c2 => ?_) (fun c2 => ?_)
    · refine mm_iconst (mm_dc od_X10_fits_0 22 rfl) ?_
      refine mm_istore_n (L' := [(0, v_r 50), (1, v_i (w : Int)), (2, v_i (b : Int)), (3, v_i 0), (4, v_i ((b + j : Nat) : Int))]) (mm_dc od_X10_fits_0 23 rfl) (by decide) rfl ?_
      refine mm_iinc (L' := [(0, v_r 50), (1, v_i (w : Int)), (2, v_i (b : Int)), (3, v_i 0), (4, v_i (((b + j : Nat) : Int) + 1))]) (mm_dc od_X10_fits_0 24 rfl) rfl (by decide) rfl ?_
      refine mm_goto 5 (mm_dc od_X10_fits_0 25 rfl) (by omega) ?_
      exact L_ft5 w b p hw hb hp120 hat hr kt kf 0 (j + 1) (by omega) (Or.inr ⟨rfl, fun h => by
        rcases hx with ⟨e1, e2⟩ | ⟨e1, e2⟩
        · first
          | (exfalso; omega)
          | (have h2 := h j (by omega)
             contradiction)
        · exact e2 (fun q hq => h q (by omega))⟩)
    · refine mm_iload_n (mm_dc od_X10_fits_0 10 rfl) rfl ?_
      refine mm_iload (mm_dc od_X10_fits_0 11 rfl) rfl ?_
      refine mm_iload_n (mm_dc od_X10_fits_0 12 rfl) rfl ?_
      refine mm_isub (mm_dc od_X10_fits_0 13 rfl) ?_
      refine mm_callS (mi' := mi_X10_letter) [v_i (w : Int), v_i (((b + j : Nat) : Int) - (b : Int))] [] (mm_dc od_X10_fits_0 14 rfl) rfl wd_5_198 wd_5_199 wd_1_12 wd_5_200 yk_X10_letter (Nat.le_of_ble_eq_true rfl) rfl (by decide) (c_X10_letter _ _ (by omega) (by omega) ⟨Nat.le_refl _, ?_⟩)
      refine mm_cst (st' := [v_i (lt w j)]) (by rw [hlt]; rfl) ?_
      refine mm_aload_n (mm_dc od_X10_fits_0 15 rfl) rfl ?_
      refine mm_getR (ci := 10) (k := 28) (mm_dc od_X10_fits_0 16 rfl) rfl in_X10 (by decide) wd_4_140 rfl rfl ?_
      refine mm_iload (mm_dc od_X10_fits_0 17 rfl) rfl ?_
      refine mm_iald (mm_dc od_X10_fits_0 18 rfl) rfl (by first | omega | assumption | exact hr _ _ rfl) (by first | omega | assumption | exact hr _ _ rfl) (by decide) ?_
      refine mm_icmp_ne 40 (mm_dc od_X10_fits_0 19 rfl) (by omega) (by first | omega | assumption | exact hr _ _ rfl) (by first | omega | assumption | exact hr _ _ rfl) (fun c3 => ?_) (fun c3 => ?_)
      · refine mm_iconst (mm_dc od_X10_fits_0 22 rfl) ?_
        refine mm_istore_n (L' := [(0, v_r 50), (1, v_i (w : Int)), (2, v_i (b : Int)), (3, v_i 0), (4, v_i ((b + j : Nat) : Int))]) (mm_dc od_X10_fits_0 23 rfl) (by decide) rfl ?_
        refine mm_iinc (L' := [(0, v_r 50), (1, v_i (w : Int)), (2, v_i (b : Int)), (3, v_i 0), (4, v_i (((b + j : Nat) : Int) + 1))]) (mm_dc od_X10_fits_0 24 rfl) rfl (by decide) rfl ?_
        refine mm_goto 5 (mm_dc od_X10_fits_0 25 rfl) (by omega) ?_
        exact L_ft5 w b p hw hb hp120 hat hr kt kf 0 (j + 1) (by omega) (Or.inr ⟨rfl, fun h => by
          rcases hx with ⟨e1, e2⟩ | ⟨e1, e2⟩
          · first
            | (exfalso; omega)
            | (have h2 := h j (by omega)
               contradiction)
          · exact e2 (fun q hq => h q (by omega))⟩)
      · refine mm_iconst (mm_dc od_X10_fits_0 20 rfl) ?_
        refine mm_goto 41 (mm_dc od_X10_fits_0 21 rfl) (by omega) ?_
        refine mm_istore_n (L' := [(0, v_r 50), (1, v_i (w : Int)), (2, v_i (b : Int)), (3, v_i 1), (4, v_i ((b + j : Nat) : Int))]) (mm_dc od_X10_fits_0 23 rfl) (by decide) rfl ?_
        refine mm_iinc (L' := [(0, v_r 50), (1, v_i (w : Int)), (2, v_i (b : Int)), (3, v_i 1), (4, v_i (((b + j : Nat) : Int) + 1))]) (mm_dc od_X10_fits_0 24 rfl) rfl (by decide) rfl ?_
        refine mm_goto 5 (mm_dc od_X10_fits_0 25 rfl) (by omega) ?_
        exact L_ft5 w b p hw hb hp120 hat hr kt kf 1 (j + 1) (by omega) (Or.inl ⟨rfl, fun q hq => by
          by_cases e : q = j
          · subst e; assumption
          · exact hxx.1 (by omega) q (by omega)⟩)
termination_by p - j
decreasing_by all_goals (first | omega | (simp_wf; omega))
theorem c_ft {X : Nat × (Nat → Int)} {d : Nat} {Po : mm_Po} {M : mm_M} (w b p : Nat) (hw : w < 16) (hb : b + p ≤ 120) (hat : M 50 36 = ((b + p : Nat) : Int)) (hr : R32 M) (kt : (∀ q, q < p → lt w q = M 74 (b + q)) → Po (some (v_i 1)) Lam M) (kf : ¬ (∀ q, q < p → lt w q = M 74 (b + q)) → Po (some (v_i 0)) Lam M) : mm_G X (d + 3) 0 0 mi_X10_fits Po 0 [(0, v_r 50), (1, v_i (w : Int)), (2, v_i (b : Int))] [] Lam M 0 0 := by
  refine mm_iconst (mm_dc od_X10_fits_0 0 rfl) ?_
  refine mm_istore_n (L' := [(0, v_r 50), (1, v_i (w : Int)), (2, v_i (b : Int)), (3, v_i 1)]) (mm_dc od_X10_fits_0 1 rfl) (by decide) rfl ?_
  refine mm_iload_n (mm_dc od_X10_fits_0 2 rfl) rfl ?_
  refine mm_istore (L' := [(0, v_r 50), (1, v_i (w : Int)), (2, v_i (b : Int)), (3, v_i 1), (4, v_i (b : Int))]) (mm_dc od_X10_fits_0 3 rfl) (by decide) rfl ?_
  exact L_ft5 w b p hw hb (by omega) hat hr kt kf 1 0 (by omega) (Or.inl ⟨rfl, fun q hq => by omega⟩)
/-! a word -/
def fM (B N : mm_M) (a : Int) : Prop := R32 N ∧ (∀ i, i ≠ 50 → N i = B i) ∧ (∀ q, q ≠ 36 → N 50 q = B 50 q) ∧ N 50 36 = a
theorem fM_0 {B : mm_M} (h : R32 B) : fM B B (B 50 36) := ⟨h, fun _ _ => rfl, fun _ _ => rfl, rfl⟩
theorem fM_up {B N : mm_M} {a b : Int} (h : fM B N a) (hb : mm_r32 b) : fM B (mm_up N 50 36 b) b := ⟨R32_up h.1 hb, fun i hi => by rw [mm_up_ne hi]; exact h.2.1 i hi, fun q hq => by rw [mm_upa, if_neg hq]; exact h.2.2.1 q hq, mm_up_eq⟩
theorem fM_tr {A B C : mm_M} {a b : Int} (h : fM A B a) (h2 : fM B C b) : fM A C b := ⟨h2.1, fun i hi => by rw [h2.2.1 i hi, h.2.1 i hi], fun q hq => by rw [h2.2.2.1 q hq, h.2.2.1 q hq], h2.2.2.2⟩
theorem cq_ex (len : Int) (tp : Nat → Int) (p : Nat) (w : Nat → Int) : ∀ L : Nat, ∃ r, cq len tp p w L r
  | 0 => ⟨0, by omega, fun k hk => by omega, fun h => by omega⟩
  | L + 1 => by
    obtain ⟨r, h1, h2, h3⟩ := cq_ex len tp p w L
    by_cases e : r < L
    · exact ⟨r, by omega, h2, fun _ => h3 e⟩
    · by_cases q : ((p + r : Nat) : Int) < len ∧ tp (p + r) = w r
      · refine ⟨r + 1, by omega, fun k hk => ?_, fun h => by omega⟩
        by_cases e2 : k = r
        · rw [e2]; exact q
        · exact h2 k (by omega)
      · exact ⟨r, by omega, h2, fun _ => q⟩
def WR (fr to : Nat) (len : Int) (tp : Nat → Int) (p : Nat) (r : Int) (adv : Nat) : Prop := (∃ w : Nat, fr ≤ w ∧ w ≤ to ∧ r = w ∧ cq len tp p (lt w) (wl w) (wl w) ∧ adv = wl w) ∨ (r = -1 ∧ (∀ w, fr ≤ w → w ≤ to → ∃ c, c < wl w ∧ c ≤ adv ∧ cq len tp p (lt w) (wl w) c) ∧ (adv = 0 ∨ ∃ w, fr ≤ w ∧ w ≤ to ∧ cq len tp p (lt w) (wl w) adv))
def WI (fr to : Nat) (len : Int) (tp : Nat → Int) (b p : Nat) : Prop := ((b + p : Nat) : Int) ≤ len ∧ (p = 0 ∨ ∃ w c, fr ≤ w ∧ w ≤ to ∧ p ≤ c ∧ cq len tp b (lt w) (wl w) c) ∧ ∀ w, fr ≤ w → w ≤ to → cq len tp b (lt w) (wl w) (wl w) → p ≤ wl w
def IN (fr j : Nat) (len : Int) (tp : Nat → Int) (b p : Nat) (cd dn : Int) : Prop := (0 ≤ cd ∧ cd ≤ j) ∧ ((cd = 0 ∧ ∀ u, fr ≤ u → u < j → ∃ c, c ≤ p ∧ cq len tp b (lt u) (wl u) c) ∨ (0 < cd ∧ ∃ u c, fr ≤ u ∧ u < j ∧ p + 1 ≤ c ∧ cq len tp b (lt u) (wl u) c)) ∧ ((dn = -1 ∧ ∀ u, fr ≤ u → u < j → ¬ (cq len tp b (lt u) (wl u) (wl u) ∧ wl u = p)) ∨ ∃ u : Nat, fr ≤ u ∧ u < j ∧ dn = u ∧ cq len tp b (lt u) (wl u) (wl u) ∧ wl u = p)
theorem IN_c {fr j : Nat} {len : Int} {tp : Nat → Int} {b p c : Nat} {cd dn : Int} (h : IN fr j len tp b p cd dn) (hc : cq len tp b (lt j) (wl j) c) (hl : c ≤ p) : (0 ≤ cd ∧ cd ≤ ((j + 1 : Nat) : Int)) ∧ ((cd = 0 ∧ ∀ u, fr ≤ u → u < j + 1 → ∃ c, c ≤ p ∧ cq len tp b (lt u) (wl u) c) ∨ (0 < cd ∧ ∃ u c, fr ≤ u ∧ u < j + 1 ∧ p + 1 ≤ c ∧ cq len tp b (lt u) (wl u) c)) := by
  obtain ⟨h1, h2, _⟩ := h
  refine ⟨by omega, ?_⟩
  rcases h2 with ⟨q1, q2⟩ | ⟨q1, u, c2, q2, q3, q4, q5⟩
  · refine Or.inl ⟨q1, fun u hu1 hu2 => ?_⟩
    by_cases e : u = j
    · rw [e]; exact ⟨c, hl, hc⟩
    · exact q2 u hu1 (by omega)
  · exact Or.inr ⟨q1, u, c2, q2, by omega, q4, q5⟩
theorem IN_no {fr j : Nat} {len : Int} {tp : Nat → Int} {b p c : Nat} {cd dn : Int} (h : IN fr j len tp b p cd dn) (hc : cq len tp b (lt j) (wl j) c) (hl : c ≤ p) (hn : ¬ (c = wl j ∧ wl j = p)) : IN fr (j + 1) len tp b p cd dn := by
  have hx := IN_c h hc hl
  refine ⟨hx.1, hx.2, ?_⟩
  rcases h.2.2 with ⟨q1, q2⟩ | ⟨u, q1, q2, q3, q4⟩
  · refine Or.inl ⟨q1, fun u hu1 hu2 q => ?_⟩
    by_cases e : u = j
    · subst e; exact hn ⟨cq_one hc q.1, q.2⟩
    · exact q2 u hu1 (by omega) q
  · exact Or.inr ⟨u, q1, by omega, q3, q4⟩
theorem IN_dn {fr j : Nat} {len : Int} {tp : Nat → Int} {b p c : Nat} {cd dn : Int} (h : IN fr j len tp b p cd dn) (hf : fr ≤ j) (hc : cq len tp b (lt j) (wl j) c) (h1 : c = wl j) (h2 : wl j = p) : IN fr (j + 1) len tp b p cd j := by
  have hx := IN_c h hc (by omega)
  exact ⟨hx.1, hx.2, Or.inr ⟨j, hf, by omega, rfl, h1 ▸ hc, h2⟩⟩
theorem IN_cd {fr j : Nat} {len : Int} {tp : Nat → Int} {b p c : Nat} {cd dn : Int} (h : IN fr j len tp b p cd dn) (hf : fr ≤ j) (hc : cq len tp b (lt j) (wl j) c) (hl : p + 1 ≤ c) : IN fr (j + 1) len tp b p (cd + 1) dn := by
  obtain ⟨h1, h2, h3⟩ := h
  refine ⟨by omega, Or.inr ⟨by omega, j, c, hf, by omega, hl, hc⟩, ?_⟩
  rcases h3 with ⟨q1, q2⟩ | ⟨u, q1, q2, q3, q4⟩
  · refine Or.inl ⟨q1, fun u hu1 hu2 q => ?_⟩
    by_cases e : u = j
    · subst e
      have := cq_one hc q.1
      omega
    · exact q2 u hu1 (by omega) q
  · exact Or.inr ⟨u, q1, by omega, q3, q4⟩
theorem ft_le {fr to j : Nat} {len : Int} {tp : Nat → Int} {b p : Nat} (h : WI fr to len tp b p) (h1 : fr ≤ j) (h2 : j ≤ to) (hf : ∀ q, q < p → lt j q = tp (b + q)) : p ≤ wl j := by
  apply Classical.byContradiction
  intro hn
  have hcq : cq len tp b (lt j) (wl j) (wl j) := ⟨Nat.le_refl _, fun k hk => ⟨by have := h.1; omega, (hf k (by omega)).symm⟩, fun q => by omega⟩
  exact hn (h.2.2 j h1 h2 hcq)
theorem ft_ge {len : Int} {tp : Nat → Int} {b p c L : Nat} {w : Nat → Int} (hc : cq len tp b w L c) (hp : p ≤ L) (hl : ((b + p : Nat) : Int) ≤ len) (hf : ∀ q, q < p → w q = tp (b + q)) : p ≤ c := by
  apply Classical.byContradiction
  intro hn
  exact hc.2.2 (by omega) ⟨by omega, (hf c (by omega)).symm⟩
theorem ft_lt {len : Int} {tp : Nat → Int} {b p c L : Nat} {w : Nat → Int} (hc : cq len tp b w L c) (hf : ¬ ∀ q, q < p → w q = tp (b + q)) : c < p := by
  apply Classical.byContradiction
  intro hn
  exact hf (fun q hq => (hc.2.1 q (by omega)).2.symm)
theorem L_wd14 {X : Nat × (Nat → Int)} {d : Nat} {Po : mm_Po} {M : mm_M} (fr to b p : Nat) (hto : to < 16) (hJt : JTm M) (hr : R32 M) (hat : M 50 36 = ((b + p : Nat) : Int)) (hI : WI fr to (M 50 29) (M 74) b p) (K : ∀ cd dn : Int, IN fr (to + 1) (M 50 29) (M 74) b p cd dn → mm_G X (d + 4) 0 0 mi_X10_word Po 81 [(0, v_r 50), (1, v_i (fr : Int)), (2, v_i (to : Int)), (3, v_i (b : Int)), (4, v_i cd), (5, v_i dn), (6, v_i ((to + 1 : Nat) : Int))] [] Lam M 0 0) (cd dn : Int) (j : Nat) (hfj : fr ≤ j) (hj : j ≤ to + 1) (hN : IN fr j (M 50 29) (M 74) b p cd dn) : mm_G X (d + 4) 0 0 mi_X10_word Po 14 [(0, v_r 50), (1, v_i (fr : Int)), (2, v_i (to : Int)), (3, v_i (b : Int)), (4, v_i cd), (5, v_i dn), (6, v_i (j : Int))] [] Lam M 0 0 := by
  have hJt2 := hJt
  obtain ⟨j1, j2, j3⟩ := hJt2
  have hcd := hN.1
  have hat2 : (M 50 36).toNat = b + p := (by omega)
  have hsr := sgS_r hr
  have hltp : lt ((j : Int)).toNat (M 50 36 - (b : Int)).toNat = lt j p := (by rw [Int.toNat_natCast, show (M 50 36 - (b : Int)).toNat = p by omega])
  have hlr : j < 16 → 0 ≤ lt j p ∧ lt j p < 128 ∧ (lt j p = 0 → wl j ≤ p) ∧ (wl j ≤ p → lt j p = 0) := (fun hw => by
    by_cases q : p < wl j
    · have h0 := (lt_dg j hw).1
      have h := (lt_dg j hw).2.2 p (by omega) q
      omega
    · have h := lt_out (w := j) (k := p) (by omega)
      omega)
  have hcL : ∀ c, cq (M 50 29) (M 74) b (lt j) (wl j) c → c ≤ wl j := fun c h => h.1
  refine mm_iload (mm_dc od_X10_word_0 9 rfl) rfl ?_
  refine mm_iload_n (mm_dc od_X10_word_0 10 rfl) rfl ?_
  refine mm_icmp_gt 81 (mm_dc od_X10_word_0 11 rfl) (by omega) (by first | omega | assumption | exact hr _ _ rfl) (by first | omega | assumption | exact hr _ _ rfl) (fun c1 => ?_) (fun c1 => ?_)
  · have e : j = to + 1 := by omega
    subst e
    exact K cd dn hN
  · refine mm_aload_n (mm_dc od_X10_word_0 12 rfl) rfl ?_
    refine mm_iload (mm_dc od_X10_word_0 13 rfl) rfl ?_
    refine mm_iload_n (mm_dc od_X10_word_0 14 rfl) rfl ?_
    obtain ⟨c, hc⟩ := cq_ex (M 50 29) (M 74) b (lt j) (wl j)
    refine mm_callV (b := 50) (mi' := mi_X10_fits) [v_i (j : Int), v_i (b : Int)] [] (mm_dc od_X10_word_0 15 rfl) rfl wd_5_194 wd_5_196 wd_p_38 wd_1_12 wd_5_197 yk_X10_fits rfl rfl rfl (Nat.le_of_ble_eq_true rfl) rfl (by decide) (c_ft j b p (by omega) (by omega) hat hr (fun hft => ⟨Nat.le_refl _, ?_⟩) (fun hft => ⟨Nat.le_refl _, ?_⟩))
    · have hcl2 := hcL c hc
      have hple := ft_le hI hfj (by omega) hft
      have hpc := ft_ge hc hple hI.1 hft
      refine mm_if_ne 33 (mm_dc od_X10_word_0 16 rfl) (by omega) (by first | omega | assumption | exact hr _ _ rfl) (fun _ => ?_) (fun h => absurd h (by decide))
      refine mm_iload (mm_dc od_X10_word_0 18 rfl) rfl ?_
      refine mm_aload_n (mm_dc od_X10_word_0 19 rfl) rfl ?_
      refine mm_getI (ci := 10) (k := 36) (mm_dc od_X10_word_0 20 rfl) rfl in_X10 (by decide) wd_4_148 rfl rfl ?_
      refine mm_iload_n (mm_dc od_X10_word_0 21 rfl) rfl ?_
      refine mm_isub (mm_dc od_X10_word_0 22 rfl) ?_
      refine mm_callS (mi' := mi_X10_letter) [v_i (j : Int), v_i ((M 50 36) - (b : Int))] [] (mm_dc od_X10_word_0 23 rfl) rfl wd_5_198 wd_5_199 wd_1_12 wd_5_200 yk_X10_letter (Nat.le_of_ble_eq_true rfl) rfl (by decide) (c_X10_letter _ _ (by omega) (by omega) ⟨Nat.le_refl _, ?_⟩)
      refine mm_cst (st' := [v_i (lt j p)]) (by rw [hltp]; rfl) ?_
      refine mm_if_ne 54 (mm_dc od_X10_word_0 24 rfl) (by omega) (by first | omega | assumption | exact hr _ _ rfl) (fun c2 => ?_) (fun c2 => ?_)
      · refine mm_iload (mm_dc od_X10_word_0 28 rfl) rfl ?_
        refine mm_aload_n (mm_dc od_X10_word_0 29 rfl) rfl ?_
        refine mm_getI (ci := 10) (k := 36) (mm_dc od_X10_word_0 30 rfl) rfl in_X10 (by decide) wd_4_148 rfl rfl ?_
        refine mm_iload_n (mm_dc od_X10_word_0 31 rfl) rfl ?_
        refine mm_isub (mm_dc od_X10_word_0 32 rfl) ?_
        refine mm_callS (mi' := mi_X10_letter) [v_i (j : Int), v_i ((M 50 36) - (b : Int))] [] (mm_dc od_X10_word_0 33 rfl) rfl wd_5_198 wd_5_199 wd_1_12 wd_5_200 yk_X10_letter (Nat.le_of_ble_eq_true rfl) rfl (by decide) (c_X10_letter _ _ (by omega) (by omega) ⟨Nat.le_refl _, ?_⟩)
        refine mm_cst (st' := [v_i (lt j p)]) (by rw [hltp]; rfl) ?_
        refine mm_aload_n (mm_dc od_X10_word_0 34 rfl) rfl ?_
        refine mm_callV (b := 50) (mi' := mi_X10_sign) [] [v_i (lt j p)] (mm_dc od_X10_word_0 35 rfl) rfl wd_5_209 wd_5_211 wd_p_39 wd_1_12 wd_5_212 yk_X10_sign rfl rfl rfl (Nat.le_of_ble_eq_true rfl) rfl (by decide) (c_X10_sign  hJt (by first | omega | assumption | exact hr _ _ rfl) ⟨Nat.le_refl _, ?_⟩)
        refine mm_icmp_ne 75 (mm_dc od_X10_word_0 36 rfl) (by omega) (by first | omega | assumption | exact hr _ _ rfl) (by first | omega | assumption | exact hr _ _ rfl) (fun c3 => ?_) (fun c3 => ?_)
        · refine mm_iinc (L' := [(0, v_r 50), (1, v_i (fr : Int)), (2, v_i (to : Int)), (3, v_i (b : Int)), (4, v_i cd), (5, v_i dn), (6, v_i ((j : Int) + 1))]) (mm_dc od_X10_word_0 38 rfl) rfl (by decide) rfl ?_
          refine mm_goto 14 (mm_dc od_X10_word_0 39 rfl) (by omega) ?_
          exact L_wd14 fr to b p hto hJt hr hat hI K cd dn (j + 1) (by omega) (by omega) (by
            first
            | exact IN_no hN hc (by omega) (by omega)
            | (refine IN_no hN hc ?_ (by omega)
               apply Classical.byContradiction
               intro q
               have hq := hc.2.1 p (by omega)
               have hs : sgS M = lt j p := (sgS_b (by omega)).mpr (by rw [hat2]; exact ⟨by omega, hq.2⟩)
               omega))
        · refine mm_iinc (L' := [(0, v_r 50), (1, v_i (fr : Int)), (2, v_i (to : Int)), (3, v_i (b : Int)), (4, v_i (cd + 1)), (5, v_i dn), (6, v_i (j : Int))]) (mm_dc od_X10_word_0 37 rfl) rfl (by decide) rfl ?_
          refine mm_iinc (L' := [(0, v_r 50), (1, v_i (fr : Int)), (2, v_i (to : Int)), (3, v_i (b : Int)), (4, v_i (cd + 1)), (5, v_i dn), (6, v_i ((j : Int) + 1))]) (mm_dc od_X10_word_0 38 rfl) rfl (by decide) rfl ?_
          refine mm_goto 14 (mm_dc od_X10_word_0 39 rfl) (by omega) ?_
          exact L_wd14 fr to b p hto hJt hr hat hI K (cd + 1) dn (j + 1) (by omega) (by omega) (IN_cd hN hfj hc (by have hq := (sgS_b (M := M) (b := lt j p) (by omega)).mp (by omega); rw [hat2] at hq; exact Classical.byContradiction (fun q => hc.2.2 (by omega) (by rw [show c = p by omega]; exact ⟨by omega, hq.2⟩))))
      · refine mm_iload (mm_dc od_X10_word_0 25 rfl) rfl ?_
        refine mm_istore (L' := [(0, v_r 50), (1, v_i (fr : Int)), (2, v_i (to : Int)), (3, v_i (b : Int)), (4, v_i cd), (5, v_i (j : Int)), (6, v_i (j : Int))]) (mm_dc od_X10_word_0 26 rfl) (by decide) rfl ?_
        refine mm_goto 75 (mm_dc od_X10_word_0 27 rfl) (by omega) ?_
        refine mm_iinc (L' := [(0, v_r 50), (1, v_i (fr : Int)), (2, v_i (to : Int)), (3, v_i (b : Int)), (4, v_i cd), (5, v_i (j : Int)), (6, v_i ((j : Int) + 1))]) (mm_dc od_X10_word_0 38 rfl) rfl (by decide) rfl ?_
        refine mm_goto 14 (mm_dc od_X10_word_0 39 rfl) (by omega) ?_
        exact L_wd14 fr to b p hto hJt hr hat hI K cd (j : Int) (j + 1) (by omega) (by omega) (IN_dn hN hfj hc (by omega) (by omega))
    · have hpc := ft_lt hc hft
      refine mm_if_ne 33 (mm_dc od_X10_word_0 16 rfl) (by omega) (by first | omega | assumption | exact hr _ _ rfl) (fun h => absurd h (by decide)) (fun _ => ?_)
      refine mm_goto 75 (mm_dc od_X10_word_0 17 rfl) (by omega) ?_
      refine mm_iinc (L' := [(0, v_r 50), (1, v_i (fr : Int)), (2, v_i (to : Int)), (3, v_i (b : Int)), (4, v_i cd), (5, v_i dn), (6, v_i ((j : Int) + 1))]) (mm_dc od_X10_word_0 38 rfl) rfl (by decide) rfl ?_
      refine mm_goto 14 (mm_dc od_X10_word_0 39 rfl) (by omega) ?_
      exact L_wd14 fr to b p hto hJt hr hat hI K cd dn (j + 1) (by omega) (by omega) (by
        first
        | exact IN_no hN hc (by omega) (by omega)
        | (refine IN_no hN hc ?_ (by omega)
           apply Classical.byContradiction
           intro q
           have hq := hc.2.1 p (by omega)
           have hs : sgS M = lt j p := (sgS_b (by omega)).mpr (by rw [hat2]; exact ⟨by omega, hq.2⟩)
           omega))
termination_by to + 1 - j
decreasing_by all_goals (first | omega | (simp_wf; omega))
theorem L_wd81 {X : Nat × (Nat → Int)} {d : Nat} {Po : mm_Po} {M : mm_M} {B : mm_M} (fr to b p : Nat) (hto : to < 16) (hJt : JTm M) (hfM : fM B M ((b + p : Nat) : Int)) (hI : WI fr to (B 50 29) (B 74) b p) (k : ∀ (N : mm_M) (r : Int) (adv : Nat), fM B N ((b + adv : Nat) : Int) → WR fr to (B 50 29) (B 74) b r adv → Po (some (v_i r)) Lam N) (cd dn : Int) (hN : IN fr (to + 1) (B 50 29) (B 74) b p cd dn) (K : WI fr to (B 50 29) (B 74) b (p + 1) → mm_G X (d + 4) 0 0 mi_X10_word Po 5 [(0, v_r 50), (1, v_i (fr : Int)), (2, v_i (to : Int)), (3, v_i (b : Int))] [] Lam (mm_up M 50 36 ((b + (p + 1) : Nat) : Int)) 0 0) : mm_G X (d + 4) 0 0 mi_X10_word Po 81 [(0, v_r 50), (1, v_i (fr : Int)), (2, v_i (to : Int)), (3, v_i (b : Int)), (4, v_i cd), (5, v_i dn), (6, v_i ((to + 1 : Nat) : Int))] [] Lam M 0 0 := by
  have hJt2 := hJt
  obtain ⟨j1, j2, j3⟩ := hJt2
  have hr := hfM.1
  have hat := hfM.2.2.2
  have hcd := hN.1
  have hdn : dn = -1 ∨ (0 ≤ dn ∧ dn ≤ 16) := (by rcases hN.2.2 with ⟨q, _⟩ | ⟨u, _, q, q2, _⟩ <;> omega)
  refine mm_iload (mm_dc od_X10_word_0 40 rfl) rfl ?_
  refine mm_if_lt 89 (mm_dc od_X10_word_0 41 rfl) (by omega) (by first | omega | assumption | exact hr _ _ rfl) (fun c1 => ?_) (fun c1 => ?_)
  · refine mm_iload (mm_dc od_X10_word_0 44 rfl) rfl ?_
    refine mm_if_ne 96 (mm_dc od_X10_word_0 45 rfl) (by omega) (by first | omega | assumption | exact hr _ _ rfl) (fun c2 => ?_) (fun c2 => ?_)
    · refine mm_aload_n (mm_dc od_X10_word_0 48 rfl) rfl ?_
      refine mm_dup_r (mm_dc od_X10_word_0 49 rfl) ?_
      refine mm_getI (ci := 10) (k := 36) (mm_dc od_X10_word_0 50 rfl) rfl in_X10 (by decide) wd_4_148 rfl rfl ?_
      refine mm_iconst (mm_dc od_X10_word_0 51 rfl) ?_
      refine mm_iadd (mm_dc od_X10_word_0 52 rfl) ?_
      refine mm_putI (ci := 10) (k := 36) (mm_dc od_X10_word_0 53 rfl) rfl in_X10 tyX10_ok nmX10 (by decide) wd_4_148 rfl rfl rfl rfl ?_
      refine mm_goto 5 (mm_dc od_X10_word_0 54 rfl) (by omega) ?_
      rw [show M 50 36 + 1 = ((b + (p + 1) : Nat) : Int) by omega]
      refine mm_less [0, 1, 2, 3] rfl (K ?_)
      rcases hN.2.1 with ⟨q, _⟩ | ⟨_, u, c, q1, q2, q3, q4⟩
      · omega
      · refine ⟨?_, Or.inr ⟨u, c, q1, by omega, q3, q4⟩, fun w h1 h2 h3 => ?_⟩
        · have := (q4.2.1 p (by omega)).1
          omega
        · have h4 := hI.2.2 w h1 h2 h3
          apply Classical.byContradiction
          intro q5
          rcases hN.2.2 with ⟨_, q6⟩ | ⟨u2, _, _, q6, _⟩
          · exact q6 w h1 (by omega) ⟨h3, by omega⟩
          · omega
    · refine mm_iconst (mm_dc od_X10_word_0 46 rfl) ?_
      refine mm_iret (mm_dc od_X10_word_0 47 rfl) rfl ?_
      refine k M (-1) p hfM (Or.inr ⟨rfl, fun w h1 h2 => ?_, ?_⟩)
      · rcases hN.2.1 with ⟨_, q⟩ | ⟨q, _⟩
        · obtain ⟨c, q1, q2⟩ := q w h1 (by omega)
          refine ⟨c, ?_, q1, q2⟩
          have hcl := q2.1
          apply Classical.byContradiction
          intro q3
          have e : c = wl w := by omega
          rw [e] at q2
          have h3 := hI.2.2 w h1 h2 q2
          rcases hN.2.2 with ⟨_, q4⟩ | ⟨u, _, _, q4, _⟩
          · exact q4 w h1 (by omega) ⟨q2, by omega⟩
          · omega
        · omega
      · rcases hI.2.1 with q | ⟨w, c, h1, h2, h3, h4⟩
        · exact Or.inl q
        · refine Or.inr ⟨w, h1, h2, ?_⟩
          rcases hN.2.1 with ⟨_, q⟩ | ⟨q, _⟩
          · obtain ⟨c2, q1, q2⟩ := q w h1 (by omega)
            have e := cq_one h4 q2
            rw [show p = c2 by omega]; exact q2
          · omega
  · refine mm_iload (mm_dc od_X10_word_0 42 rfl) rfl ?_
    refine mm_iret (mm_dc od_X10_word_0 43 rfl) rfl ?_
    rcases hN.2.2 with ⟨q, _⟩ | ⟨u, q1, q2, q3, q4, q5⟩
    · omega
    · rw [q3]
      exact k M _ p hfM (Or.inl ⟨u, q1, by omega, rfl, q4, q5.symm⟩)
theorem L_wd5 {X : Nat × (Nat → Int)} {d : Nat} {Po : mm_Po} {M : mm_M} {B : mm_M} (fr to b : Nat) (hft : fr ≤ to) (hto : to < 16) (hB : 0 ≤ B 50 29 ∧ B 50 29 ≤ 120) (k : ∀ (N : mm_M) (r : Int) (adv : Nat), fM B N ((b + adv : Nat) : Int) → WR fr to (B 50 29) (B 74) b r adv → Po (some (v_i r)) Lam N) (p : Nat) (hfM : fM B M ((b + p : Nat) : Int)) (hI : WI fr to (B 50 29) (B 74) b p) : mm_G X (d + 4) 0 0 mi_X10_word Po 5 [(0, v_r 50), (1, v_i (fr : Int)), (2, v_i (to : Int)), (3, v_i (b : Int))] [] Lam M 0 0 := by
  have hr := hfM.1
  have hat := hfM.2.2.2
  have e29 : M 50 29 = B 50 29 := hfM.2.2.1 29 (by decide)
  have e74 : M 74 = B 74 := hfM.2.1 74 (by decide)
  have hI1 := hI.1
  have hJt : JTm M := (by unfold JTm; omega)
  have hIM : WI fr to (M 50 29) (M 74) b p := (by rw [e29, e74]; exact hI)
  have hp7 : p ≤ 6 := (by
    rcases hI.2.1 with q | ⟨w, c, h1, h2, h3, h4⟩
    · omega
    · have h5 := h4.1
      have h6 := (lt_dg w (by omega)).1
      omega)
  refine mm_iconst (mm_dc od_X10_word_0 3 rfl) ?_
  refine mm_istore (L' := [(0, v_r 50), (1, v_i (fr : Int)), (2, v_i (to : Int)), (3, v_i (b : Int)), (4, v_i 0)]) (mm_dc od_X10_word_0 4 rfl) (by decide) rfl ?_
  refine mm_iconst (mm_dc od_X10_word_0 5 rfl) ?_
  refine mm_istore (L' := [(0, v_r 50), (1, v_i (fr : Int)), (2, v_i (to : Int)), (3, v_i (b : Int)), (4, v_i 0), (5, v_i (-1))]) (mm_dc od_X10_word_0 6 rfl) (by decide) rfl ?_
  refine mm_iload_n (mm_dc od_X10_word_0 7 rfl) rfl ?_
  refine mm_istore (L' := [(0, v_r 50), (1, v_i (fr : Int)), (2, v_i (to : Int)), (3, v_i (b : Int)), (4, v_i 0), (5, v_i (-1)), (6, v_i (fr : Int))]) (mm_dc od_X10_word_0 8 rfl) (by decide) rfl ?_
  refine L_wd14 fr to b p hto hJt hr hat hIM (fun cd dn hN => ?_) 0 (-1) fr (Nat.le_refl _) (by omega) ⟨by omega, Or.inl ⟨rfl, fun u h1 h2 => by omega⟩, Or.inl ⟨rfl, fun u h1 h2 => by omega⟩⟩
  rw [e29, e74] at hN
  exact L_wd81 fr to b p hto hJt hfM hI k cd dn hN (fun hI2 => L_wd5 fr to b hft hto hB k (p + 1) (fM_up hfM (by have := hI2.1; omega)) hI2)
termination_by 8 - p
decreasing_by all_goals omega
theorem c_wd {X : Nat × (Nat → Int)} {d : Nat} {Po : mm_Po} {M : mm_M} (fr to : Nat) (hft : fr ≤ to) (hto : to < 16) (hJt : JTm M) (hr : R32 M) (k : ∀ (N : mm_M) (r : Int) (adv : Nat), fM M N (M 50 36 + adv) → WR fr to (M 50 29) (M 74) (M 50 36).toNat r adv → Po (some (v_i r)) Lam N) : mm_G X (d + 4) 0 0 mi_X10_word Po 0 [(0, v_r 50), (1, v_i (fr : Int)), (2, v_i (to : Int))] [] Lam M 0 0 := by
  refine mm_aload_n (mm_dc od_X10_word_0 0 rfl) rfl ?_
  refine mm_getI (ci := 10) (k := 36) (mm_dc od_X10_word_0 1 rfl) rfl in_X10 (by decide) wd_4_148 rfl rfl ?_
  refine mm_istore_n (L' := [(0, v_r 50), (1, v_i (fr : Int)), (2, v_i (to : Int)), (3, v_i (M 50 36))]) (mm_dc od_X10_word_0 2 rfl) (by decide) rfl ?_
  obtain ⟨j1, j2, j3⟩ := hJt
  obtain ⟨b, hb⟩ : ∃ b : Nat, M 50 36 = b := ⟨(M 50 36).toNat, by omega⟩
  refine mm_cL (L' := [(0, v_r 50), (1, v_i (fr : Int)), (2, v_i (to : Int)), (3, v_i (b : Int))]) (by rw [hb]) ?_
  have hf0 : fM M M ((b + 0 : Nat) : Int) := by have h := fM_0 hr; rw [hb] at h; exact h
  refine L_wd5 (B := M) fr to b hft hto (by omega) (fun N r adv h1 h2 => k N r adv (by rw [hb]; exact h1) (by rw [hb, Int.toNat_natCast]; exact h2)) 0 hf0 ⟨by omega, Or.inl rfl, fun w _ _ _ => by omega⟩
