/-! the two ways to read a word -/
theorem cq_w {len : Int} {tp : Nat → Int} {p : Nat} {w w2 : Nat → Int} {L r : Nat} (h : cq len tp p w L r) (hw : ∀ k, k < L → w k = w2 k) : cq len tp p w2 L r := by
  obtain ⟨h1, h2, h3⟩ := h
  exact ⟨h1, fun k hk => by rw [← hw k (by omega)]; exact h2 k hk, fun q => by rw [← hw r q]; exact h3 q⟩
theorem cq_tp {len : Int} {tp tp2 : Nat → Int} {p : Nat} {w : Nat → Int} {L r : Nat} (h : cq len tp p w L r) (ht : ∀ k : Nat, (k : Int) < len → tp k = tp2 k) : cq len tp2 p w L r := by
  obtain ⟨h1, h2, h3⟩ := h
  refine ⟨h1, fun k hk => ?_, fun q x => h3 q ?_⟩
  · have h := h2 k hk
    rw [← ht _ h.1]; exact h
  · rw [ht _ x.1]; exact x
theorem WR_tp {fr to : Nat} {len : Int} {tp tp2 : Nat → Int} {p : Nat} {r : Int} {adv : Nat} (h : WR fr to len tp p r adv) (ht : ∀ k : Nat, (k : Int) < len → tp k = tp2 k) : WR fr to len tp2 p r adv := by
  rcases h with ⟨w, h1, h2, h3, h4, h5⟩ | ⟨h1, h2, h3⟩
  · exact Or.inl ⟨w, h1, h2, h3, cq_tp h4 ht, h5⟩
  · refine Or.inr ⟨h1, fun w q1 q2 => ?_, h3.imp id (fun ⟨w, q1, q2, q3⟩ => ⟨w, q1, q2, cq_tp q3 ht⟩)⟩
    obtain ⟨c, c1, c2, c3⟩ := h2 w q1 q2
    exact ⟨c, c1, c2, cq_tp c3 ht⟩
def tabQ (i fr K : Nat) : Prop := ∀ t, t < K → wL i t = wl (fr + t) ∧ ∀ q, q < wL i t → wd i t q = lt (fr + t) q
theorem tabK : tabQ 1 0 6 := by unfold tabQ; decide +kernel
theorem tabF : tabQ 3 8 7 := by unfold tabQ; decide +kernel
def pfB (fr K : Nat) : Bool := allB (fun t => allB (fun u => Nat.beq t u || !(allB (fun q => !(Nat.blt q (wl (fr + t)) && Nat.blt q (wl (fr + u)) && !(decide (lt (fr + t) q = lt (fr + u) q)))) 7)) K) K
theorem pfK : pfB 0 6 = true := by decide +kernel
theorem pfF : pfB 8 7 = true := by decide +kernel
theorem pfV : pfB 6 2 = true := by decide +kernel
theorem pf_ne {fr K t u : Nat} (h : pfB fr K = true) (ht : t < K) (hu : u < K) {len : Int} {tp : Nat → Int} {p : Nat} (h1 : cq len tp p (lt (fr + t)) (wl (fr + t)) (wl (fr + t))) (h2 : cq len tp p (lt (fr + u)) (wl (fr + u)) (wl (fr + u))) : t = u := by
  apply Classical.byContradiction
  intro hn
  have h3 := allB_all K (allB_all K h t ht) u hu
  have hb : Nat.beq t u = false := by
    rw [← Bool.not_eq_true]
    intro x
    exact hn (Nat.eq_of_beq_eq_true x)
  rw [hb, Bool.false_or] at h3
  have h4 : allB (fun q => !(Nat.blt q (wl (fr + t)) && Nat.blt q (wl (fr + u)) && !(decide (lt (fr + t) q = lt (fr + u) q)))) 7 = true := by
    have key : ∀ n : Nat, allB (fun q => !(Nat.blt q (wl (fr + t)) && Nat.blt q (wl (fr + u)) && !(decide (lt (fr + t) q = lt (fr + u) q)))) n = true := by
      intro n
      induction n with
      | zero => rfl
      | succ n ih =>
        rw [allB, ih, Bool.and_true]
        by_cases a : n < wl (fr + t)
        · by_cases b : n < wl (fr + u)
          · have e : lt (fr + t) n = lt (fr + u) n := by rw [← (h1.2.1 n a).2, ← (h2.2.1 n b).2]
            simp [e]
          · have e : Nat.blt n (wl (fr + u)) = false := by
              rw [← Bool.not_eq_true, Nat.blt_eq]; exact b
            simp [e]
        · have e : Nat.blt n (wl (fr + t)) = false := by
            rw [← Bool.not_eq_true, Nat.blt_eq]; exact a
          simp [e]
    exact key 7
  rw [h4] at h3
  cases h3
theorem link {i fr K : Nat} {len : Int} {tp : Nat → Int} {p : Nat} {r r2 : Int} {adv adv2 : Nat} (htab : tabQ i fr K) (hpf : pfB fr K = true) (hK : 0 < K) (h1 : TW i K len tp p r adv) (h2 : WR fr (fr + K - 1) len tp p r2 adv2) : adv2 = adv ∧ ((r = -1 ∧ r2 = -1) ∨ (0 ≤ r ∧ r < K ∧ r2 = r + fr)) := by
  have cv : ∀ t c, t < K → cq len tp p (wd i t) (wL i t) c → cq len tp p (lt (fr + t)) (wl (fr + t)) c := fun t c ht hc => by
    have h := htab t ht
    have h3 := cq_w hc h.2
    rw [h.1] at h3; exact h3
  rcases h1 with ⟨t, a1, a2, a3, a4⟩ | ⟨a1, a2, a3⟩
  · have ht := htab t a1
    have c1 := cv t _ a1 a3
    rw [ht.1] at c1
    rcases h2 with ⟨w, b1, b2, b3, b4, b5⟩ | ⟨b1, b2, b3⟩
    · obtain ⟨u, rfl⟩ : ∃ u, w = fr + u := ⟨w - fr, by omega⟩
      have e := pf_ne hpf a1 (show u < K by omega) c1 b4
      subst e
      exact ⟨by omega, Or.inr ⟨by omega, by omega, by omega⟩⟩
    · obtain ⟨c, c2, _, c3⟩ := b2 (fr + t) (by omega) (by omega)
      have := cq_one c1 c3
      omega
  · rcases h2 with ⟨w, b1, b2, b3, b4, b5⟩ | ⟨b1, b2, b3⟩
    · obtain ⟨u, rfl⟩ : ∃ u, w = fr + u := ⟨w - fr, by omega⟩
      obtain ⟨c, c1, _, c3⟩ := a2 u (by omega)
      have := cq_one (cv u c (by omega) c3) b4
      have := (htab u (by omega)).1
      omega
    · refine ⟨?_, Or.inl ⟨a1, b1⟩⟩
      have l1 : adv ≤ adv2 := by
        rcases a3 with q | ⟨t, q1, q2⟩
        · omega
        · obtain ⟨c, _, c2, c3⟩ := b2 (fr + t) (by omega) (by omega)
          have := cq_one (cv t _ q1 q2) c3
          omega
      have l2 : adv2 ≤ adv := by
        rcases b3 with q | ⟨w, q1, q2, q3⟩
        · omega
        · obtain ⟨u, rfl⟩ : ∃ u, w = fr + u := ⟨w - fr, by omega⟩
          obtain ⟨c, _, c2, c3⟩ := a2 u (by omega)
          have := cq_one (cv u c (by omega) c3) q3
          omega
      omega
theorem cq_cut {len : Int} {tp : Nat → Int} {p : Nat} {w w2 : Nat → Int} {L L2 r : Nat} (h : cq len tp p w L r) (hL : L2 ≤ L) (hw : ∀ k, k < L2 → w k = w2 k) : cq len tp p w2 L2 (min r L2) := by
  obtain ⟨h1, h2, h3⟩ := h
  refine ⟨by omega, fun k hk => by rw [← hw k (by omega)]; exact h2 k (by omega), fun q => ?_⟩
  have e : min r L2 = r := by omega
  rw [e] at q ⊢
  rw [← hw r (by omega)]
  exact h3 (by omega)
theorem tabV : ∀ t : Nat, t < 2 → wL 0 t = 4 ∧ wl (6 + t) = 3 ∧ wd 0 t 3 = 32 ∧ ∀ q : Nat, q < 3 → wd 0 t q = lt (6 + t) q := by decide +kernel
/-- let and bar, with the blank behind them -/
theorem linkV {len : Int} {tp : Nat → Int} {p : Nat} {r r2 : Int} {adv adv2 : Nat} (h1 : TW 0 2 len tp p r adv) (h2 : WR 6 7 len tp p r2 adv2) : (r ≠ -1 ∧ 0 ≤ r ∧ r < 2 ∧ r2 = r + 6 ∧ adv2 = 3 ∧ adv = 4 ∧ (((p + 3 : Nat) : Int) < len ∧ tp (p + 3) = 32)) ∨ (r = -1 ∧ r2 = -1 ∧ adv2 = adv) ∨ (r = -1 ∧ 0 ≤ r2 ∧ adv2 = 3 ∧ adv = 3 ∧ ¬ (((p + 3 : Nat) : Int) < len ∧ tp (p + 3) = 32)) := by
  have cv : ∀ t c, t < 2 → cq len tp p (wd 0 t) (wL 0 t) c → cq len tp p (lt (6 + t)) (wl (6 + t)) (min c 3) := fun t c ht hc => by
    have h := tabV t ht
    rw [h.1] at hc
    rw [h.2.1]
    exact cq_cut hc (by decide) h.2.2.2
  rcases h1 with ⟨t, a1, a2, a3, a4⟩ | ⟨a1, a2, a3⟩
  · have ht := tabV t a1
    have c1 := cv t _ a1 a3
    rw [ht.1, show min 4 3 = 3 from rfl] at c1
    have hb := a3.2.1 3 (by omega)
    rw [ht.2.2.1] at hb
    have c1' : cq len tp p (lt (6 + t)) (wl (6 + t)) (wl (6 + t)) := by rw [ht.2.1] at c1 ⊢; exact c1
    rcases h2 with ⟨w, b1, b2, b3, b4, b5⟩ | ⟨b1, b2, b3⟩
    · obtain ⟨u, rfl⟩ : ∃ u, w = 6 + u := ⟨w - 6, by omega⟩
      have e := pf_ne pfV a1 (show u < 2 by omega) c1' b4
      subst e
      exact Or.inl ⟨by omega, by omega, by omega, by omega, by omega, by omega, hb⟩
    · obtain ⟨c, c2, _, c3⟩ := b2 (6 + t) (by omega) (by omega)
      have := cq_one c1' c3
      omega
  · rcases h2 with ⟨w, b1, b2, b3, b4, b5⟩ | ⟨b1, b2, b3⟩
    · obtain ⟨u, rfl⟩ : ∃ u, w = 6 + u := ⟨w - 6, by omega⟩
      have hu := tabV u (by omega)
      obtain ⟨c, c1, c2, c3⟩ := a2 u (by omega)
      have e := cq_one (cv u c (by omega) c3) b4
      have e3 : c = 3 := by omega
      refine Or.inr (Or.inr ⟨a1, by omega, by omega, ?_, ?_⟩)
      · rcases a3 with q | ⟨t, q1, q2⟩
        · omega
        · obtain ⟨c5, c6, c7, c8⟩ := a2 t q1
          have := cq_one q2 c8
          have := (tabV t q1).1
          omega
      · have h3 := c3.2.2 c1
        rw [e3, hu.2.2.1] at h3
        exact h3
    · refine Or.inr (Or.inl ⟨a1, b1, ?_⟩)
      have lo : ∀ t c, t < 2 → cq len tp p (wd 0 t) (wL 0 t) c → cq len tp p (lt (6 + t)) (wl (6 + t)) c ∧ c < 3 := fun t c ht hc => by
        obtain ⟨c2, c3, _, c4⟩ := b2 (6 + t) (by omega) (by omega)
        have e := cq_one (cv t c ht hc) c4
        have := (tabV t ht).2.1
        have e2 : c = c2 := by omega
        rw [e2]; exact ⟨c4, by omega⟩
      have l1 : adv ≤ adv2 := by
        rcases a3 with q | ⟨t, q1, q2⟩
        · omega
        · obtain ⟨c, _, c2, c3⟩ := b2 (6 + t) (by omega) (by omega)
          have := cq_one (lo t _ q1 q2).1 c3
          omega
      have l2 : adv2 ≤ adv := by
        rcases b3 with q | ⟨w, q1, q2, q3⟩
        · omega
        · obtain ⟨u, rfl⟩ : ∃ u, w = 6 + u := ⟨w - 6, by omega⟩
          obtain ⟨c, _, c2, c3⟩ := a2 u (by omega)
          have := cq_one (lo u c (by omega) c3).1 q3
          omega
      omega
theorem tabI : wL 2 0 = 4 ∧ wd 2 0 0 = 32 ∧ wd 2 0 3 = 32 ∧ wl 15 = 2 ∧ ∀ q : Nat, q < 2 → wd 2 0 (q + 1) = lt 15 q := by decide +kernel
theorem TW2 {len : Int} {tp : Nat → Int} {p : Nat} {r : Int} {adv : Nat} (h : TW 2 1 len tp p r adv) : cq len tp p (wd 2 0) 4 adv ∧ ((r = -1 ∧ adv < 4) ∨ (r = 0 ∧ adv = 4)) := by
  have h4 := tabI.1
  rcases h with ⟨t, a1, a2, a3, a4⟩ | ⟨a1, a2, a3⟩
  · have e : t = 0 := by omega
    subst e
    rw [h4] at a3 a4
    subst a4
    exact ⟨a3, Or.inr ⟨by omega, rfl⟩⟩
  · obtain ⟨c, c1, c2, c3⟩ := a2 0 (by decide)
    rw [h4] at c1 c3
    have e : adv = c := by
      rcases a3 with q | ⟨t, q1, q2⟩
      · omega
      · have e : t = 0 := by omega
        subst e
        rw [h4] at q2
        exact cq_one q2 c3
    rw [e]
    exact ⟨c3, Or.inl ⟨a1, c1⟩⟩
theorem linkI {len : Int} {tp : Nat → Int} {p adv : Nat} {r2 : Int} {adv2 : Nat} (h : cq len tp p (wd 2 0) 4 adv) (h1 : 1 ≤ adv) (h2 : WR 15 15 len tp (p + 1) r2 adv2) : (r2 = -1 ∧ adv < 3 ∧ adv2 = adv - 1) ∨ (r2 = 15 ∧ 3 ≤ adv ∧ adv2 = 2) := by
  have ht := tabI
  have hc : cq len tp (p + 1) (lt 15) (wl 15) (min (adv - 1) 2) := by
    obtain ⟨a1, a2, a3⟩ := h
    have hs : cq len tp (p + 1) (fun q => wd 2 0 (q + 1)) 3 (adv - 1) := by
      refine ⟨by omega, fun k hk => ?_, fun q x => ?_⟩
      · have := a2 (k + 1) (by omega)
        rw [show p + 1 + k = p + (k + 1) by omega]; exact this
      · have e : adv - 1 + 1 = adv := by omega
        have h5 := a3 (by omega)
        dsimp only at x
        rw [show p + 1 + (adv - 1) = p + adv by omega, e] at x
        exact h5 x
    rw [ht.2.2.2.1]
    exact cq_cut hs (by decide) ht.2.2.2.2
  rcases h2 with ⟨w, b1, b2, b3, b4, b5⟩ | ⟨b1, b2, b3⟩
  · have e : w = 15 := by omega
    subst e
    have := cq_one hc b4
    exact Or.inr ⟨by omega, by omega, by omega⟩
  · obtain ⟨c, c1, c2, c3⟩ := b2 15 (by omega) (by omega)
    have e := cq_one hc c3
    refine Or.inl ⟨b1, by omega, ?_⟩
    rcases b3 with q | ⟨w, q1, q2, q3⟩
    · omega
    · have e2 : w = 15 := by omega
      subst e2
      have := cq_one hc q3
      omega
def opc (r : Int) : Int := if r = 0 then 61 else if r = 1 then 60 else 62
theorem tabS : ∀ t : Nat, t < 3 → wL 4 t = 1 ∧ wd 4 t 0 = opc (t : Int) := by decide +kernel
theorem TW4 {len : Int} {tp : Nat → Int} {p : Nat} {r : Int} {adv : Nat} (h : TW 4 3 len tp p r adv) : (r = -1 ∧ adv = 0 ∧ ¬ ((p : Int) < len ∧ (tp p = 61 ∨ tp p = 60 ∨ tp p = 62))) ∨ (0 ≤ r ∧ r < 3 ∧ adv = 1 ∧ (p : Int) < len ∧ tp p = opc r) := by
  rcases h with ⟨t, a1, a2, a3, a4⟩ | ⟨a1, a2, a3⟩
  · have ht := tabS t a1
    rw [ht.1] at a3 a4
    have h := a3.2.1 0 (by decide)
    rw [ht.2] at h
    exact Or.inr ⟨by omega, by omega, a4, h.1, by rw [a2]; exact h.2⟩
  · have no : ∀ t : Nat, t < 3 → ¬ ((p : Int) < len ∧ tp p = opc (t : Int)) := fun t ht q => by
      obtain ⟨c, c1, _, c3⟩ := a2 t ht
      have hs := tabS t ht
      rw [hs.1] at c1 c3
      have e : c = 0 := by omega
      subst e
      have h := c3.2.2 (by decide)
      rw [hs.2] at h
      exact h q
    refine Or.inl ⟨a1, ?_, fun q => ?_⟩
    · rcases a3 with q | ⟨t, q1, q2⟩
      · exact q
      · obtain ⟨c, c1, _, c3⟩ := a2 t q1
        have := cq_one q2 c3
        have := (tabS t q1).1
        omega
    · rcases q.2 with e | e | e
      · exact no 0 (by decide) ⟨q.1, e⟩
      · exact no 1 (by decide) ⟨q.1, e⟩
      · exact no 2 (by decide) ⟨q.1, e⟩
theorem sgS_t {M : mm_M} {len : Int} {tp : Nat → Int} {p : Nat} {b : Int} (hl : M 50 29 = len) (ht : ∀ k : Nat, (k : Int) < len → M 74 k = tp k) (hp : M 50 36 = (p : Int)) (hb : 0 ≤ b) : sgS M = b ↔ ((p : Int) < len ∧ tp p = b) := by
  rw [sgS_b hb, hp, hl, Int.toNat_natCast]
  constructor
  · intro q; exact ⟨q.1, by rw [← ht p q.1]; exact q.2⟩
  · intro q; exact ⟨q.1, by rw [ht p q.1]; exact q.2⟩
theorem sgS_d {M : mm_M} {len : Int} {tp : Nat → Int} {p : Nat} (hl : M 50 29 = len) (ht : ∀ k : Nat, (k : Int) < len → M 74 k = tp k) (hp : M 50 36 = (p : Int)) : (48 ≤ sgS M ∧ sgS M ≤ 57) ↔ ((p : Int) < len ∧ 48 ≤ tp p ∧ tp p ≤ 57) := by
  unfold sgS
  rw [hp, hl, Int.toNat_natCast]
  by_cases e : (p : Int) < len
  · rw [if_pos e, ht p e]; exact ⟨fun q => ⟨e, q⟩, fun q => q.2⟩
  · rw [if_neg e]; omega
theorem sgS_v {M : mm_M} {len : Int} {tp : Nat → Int} {p : Nat} (hl : M 50 29 = len) (ht : ∀ k : Nat, (k : Int) < len → M 74 k = tp k) (hp : M 50 36 = (p : Int)) (h : (p : Int) < len) : sgS M = tp p := by
  unfold sgS
  rw [hp, hl, Int.toNat_natCast, if_pos h, ht p h]
