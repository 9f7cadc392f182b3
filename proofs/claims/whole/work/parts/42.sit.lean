/-! what the tie rests on -/
def liveA : List Nat := [2, 3, 4, 5, 6, 7, 8, 9, 11, 12, 13, 22, 23, 25, 27, 28, 29, 30, 31, 32, 33, 36, 37, 38, 39, 40, 41, 42, 44, 45, 47, 51, 52, 53, 54, 55, 56, 57, 58, 59, 60, 61, 62, 63, 72, 73, 74, 75, 76, 77, 78, 79, 80, 81, 82, 83, 84, 85, 86, 87, 88]
def liveF : List (Nat × Nat) := [(1, 0), (1, 5), (10, 0), (0, 9), (24, 0), (26, 0), (35, 0), (35, 5), (43, 0), (43, 1), (50, 10), (50, 11), (50, 16), (50, 29), (50, 30), (50, 31), (50, 44), (50, 45), (50, 48), (50, 49)]
theorem inv_cong {M N : mm_M} (hI : inv M) (h32 : R32 N) (ha : ∀ j, j ∈ liveA → N j = M j) (hf : ∀ q, q ∈ liveF → N q.1 q.2 = M q.1 q.2) : inv N := by
  obtain ⟨hr, hJo, hJb, hJr, hJom, hJbm, v0, v1, v2, v3, v4, v5, v6, v7, v8, v9⟩ := hI
  have a2 := ha 2 (by decide)
  have a3 := ha 3 (by decide)
  have a4 := ha 4 (by decide)
  have a5 := ha 5 (by decide)
  have a6 := ha 6 (by decide)
  have a7 := ha 7 (by decide)
  have a8 := ha 8 (by decide)
  have a9 := ha 9 (by decide)
  have a11 := ha 11 (by decide)
  have a12 := ha 12 (by decide)
  have a13 := ha 13 (by decide)
  have a22 := ha 22 (by decide)
  have a23 := ha 23 (by decide)
  have a25 := ha 25 (by decide)
  have a27 := ha 27 (by decide)
  have a28 := ha 28 (by decide)
  have a29 := ha 29 (by decide)
  have a30 := ha 30 (by decide)
  have a31 := ha 31 (by decide)
  have a32 := ha 32 (by decide)
  have a33 := ha 33 (by decide)
  have a36 := ha 36 (by decide)
  have a37 := ha 37 (by decide)
  have a38 := ha 38 (by decide)
  have a39 := ha 39 (by decide)
  have a40 := ha 40 (by decide)
  have a41 := ha 41 (by decide)
  have a42 := ha 42 (by decide)
  have a44 := ha 44 (by decide)
  have a45 := ha 45 (by decide)
  have a47 := ha 47 (by decide)
  have a51 := ha 51 (by decide)
  have a52 := ha 52 (by decide)
  have a53 := ha 53 (by decide)
  have a54 := ha 54 (by decide)
  have a55 := ha 55 (by decide)
  have a56 := ha 56 (by decide)
  have a57 := ha 57 (by decide)
  have a58 := ha 58 (by decide)
  have a59 := ha 59 (by decide)
  have a60 := ha 60 (by decide)
  have a61 := ha 61 (by decide)
  have a62 := ha 62 (by decide)
  have a63 := ha 63 (by decide)
  have a72 := ha 72 (by decide)
  have a73 := ha 73 (by decide)
  have a74 := ha 74 (by decide)
  have a75 := ha 75 (by decide)
  have a76 := ha 76 (by decide)
  have a77 := ha 77 (by decide)
  have a78 := ha 78 (by decide)
  have a79 := ha 79 (by decide)
  have a80 := ha 80 (by decide)
  have a81 := ha 81 (by decide)
  have a82 := ha 82 (by decide)
  have a83 := ha 83 (by decide)
  have a84 := ha 84 (by decide)
  have a85 := ha 85 (by decide)
  have a86 := ha 86 (by decide)
  have a87 := ha 87 (by decide)
  have a88 := ha 88 (by decide)
  have f1_0 := hf (1, 0) (by decide)
  have f1_5 := hf (1, 5) (by decide)
  have f10_0 := hf (10, 0) (by decide)
  have f0_9 := hf (0, 9) (by decide)
  have f24_0 := hf (24, 0) (by decide)
  have f26_0 := hf (26, 0) (by decide)
  have f35_0 := hf (35, 0) (by decide)
  have f35_5 := hf (35, 5) (by decide)
  have f43_0 := hf (43, 0) (by decide)
  have f43_1 := hf (43, 1) (by decide)
  have f50_10 := hf (50, 10) (by decide)
  have f50_11 := hf (50, 11) (by decide)
  have f50_16 := hf (50, 16) (by decide)
  have f50_29 := hf (50, 29) (by decide)
  have f50_30 := hf (50, 30) (by decide)
  have f50_31 := hf (50, 31) (by decide)
  have f50_44 := hf (50, 44) (by decide)
  have f50_45 := hf (50, 45) (by decide)
  have f50_48 := hf (50, 48) (by decide)
  have f50_49 := hf (50, 49) (by decide)
  simp only at f1_0 f1_5 f10_0 f0_9 f24_0 f26_0 f35_0 f35_5 f43_0 f43_1 f50_10 f50_11 f50_16 f50_29 f50_30 f50_31 f50_44 f50_45 f50_48 f50_49
  refine ⟨h32, ?_, ?_, ?_, ?_, ?_, ?_, ?_, ?_, ?_, ?_, ?_, ?_, ?_, ?_, ?_⟩
  · unfold JO at *; simp only [a2, a3, a4, a5, a6, a7, a8, a9, a11, a12, a13, a22, a23, a25, a27, a28, a29, a30, a31, a32, a33, a36, a37, a38, a39, a40, a41, a42, a44, a45, a47, a51, a52, a53, a54, a55, a56, a57, a58, a59, a60, a61, a62, a63, a72, a73, a74, a75, a76, a77, a78, a79, a80, a81, a82, a83, a84, a85, a86, a87, a88, f1_0, f1_5, f10_0, f0_9, f24_0, f26_0, f35_0, f35_5, f43_0, f43_1, f50_10, f50_11, f50_16, f50_29, f50_30, f50_31, f50_44, f50_45, f50_48, f50_49]; exact hJo
  · unfold JB at *; simp only [a2, a3, a4, a5, a6, a7, a8, a9, a11, a12, a13, a22, a23, a25, a27, a28, a29, a30, a31, a32, a33, a36, a37, a38, a39, a40, a41, a42, a44, a45, a47, a51, a52, a53, a54, a55, a56, a57, a58, a59, a60, a61, a62, a63, a72, a73, a74, a75, a76, a77, a78, a79, a80, a81, a82, a83, a84, a85, a86, a87, a88, f1_0, f1_5, f10_0, f0_9, f24_0, f26_0, f35_0, f35_5, f43_0, f43_1, f50_10, f50_11, f50_16, f50_29, f50_30, f50_31, f50_44, f50_45, f50_48, f50_49]; exact hJb
  · unfold JRc at *; simp only [a2, a3, a4, a5, a6, a7, a8, a9, a11, a12, a13, a22, a23, a25, a27, a28, a29, a30, a31, a32, a33, a36, a37, a38, a39, a40, a41, a42, a44, a45, a47, a51, a52, a53, a54, a55, a56, a57, a58, a59, a60, a61, a62, a63, a72, a73, a74, a75, a76, a77, a78, a79, a80, a81, a82, a83, a84, a85, a86, a87, a88, f1_0, f1_5, f10_0, f0_9, f24_0, f26_0, f35_0, f35_5, f43_0, f43_1, f50_10, f50_11, f50_16, f50_29, f50_30, f50_31, f50_44, f50_45, f50_48, f50_49]; exact hJr
  · unfold JOm at *; simp only [a2, a3, a4, a5, a6, a7, a8, a9, a11, a12, a13, a22, a23, a25, a27, a28, a29, a30, a31, a32, a33, a36, a37, a38, a39, a40, a41, a42, a44, a45, a47, a51, a52, a53, a54, a55, a56, a57, a58, a59, a60, a61, a62, a63, a72, a73, a74, a75, a76, a77, a78, a79, a80, a81, a82, a83, a84, a85, a86, a87, a88, f1_0, f1_5, f10_0, f0_9, f24_0, f26_0, f35_0, f35_5, f43_0, f43_1, f50_10, f50_11, f50_16, f50_29, f50_30, f50_31, f50_44, f50_45, f50_48, f50_49]; exact hJom
  · unfold JBm at *; simp only [a2, a3, a4, a5, a6, a7, a8, a9, a11, a12, a13, a22, a23, a25, a27, a28, a29, a30, a31, a32, a33, a36, a37, a38, a39, a40, a41, a42, a44, a45, a47, a51, a52, a53, a54, a55, a56, a57, a58, a59, a60, a61, a62, a63, a72, a73, a74, a75, a76, a77, a78, a79, a80, a81, a82, a83, a84, a85, a86, a87, a88, f1_0, f1_5, f10_0, f0_9, f24_0, f26_0, f35_0, f35_5, f43_0, f43_1, f50_10, f50_11, f50_16, f50_29, f50_30, f50_31, f50_44, f50_45, f50_48, f50_49]; exact hJbm
  · unfold V0 at *; simp only [a2, a3, a4, a5, a6, a7, a8, a9, a11, a12, a13, a22, a23, a25, a27, a28, a29, a30, a31, a32, a33, a36, a37, a38, a39, a40, a41, a42, a44, a45, a47, a51, a52, a53, a54, a55, a56, a57, a58, a59, a60, a61, a62, a63, a72, a73, a74, a75, a76, a77, a78, a79, a80, a81, a82, a83, a84, a85, a86, a87, a88, f1_0, f1_5, f10_0, f0_9, f24_0, f26_0, f35_0, f35_5, f43_0, f43_1, f50_10, f50_11, f50_16, f50_29, f50_30, f50_31, f50_44, f50_45, f50_48, f50_49]; exact v0
  · unfold V1 at *; simp only [a2, a3, a4, a5, a6, a7, a8, a9, a11, a12, a13, a22, a23, a25, a27, a28, a29, a30, a31, a32, a33, a36, a37, a38, a39, a40, a41, a42, a44, a45, a47, a51, a52, a53, a54, a55, a56, a57, a58, a59, a60, a61, a62, a63, a72, a73, a74, a75, a76, a77, a78, a79, a80, a81, a82, a83, a84, a85, a86, a87, a88, f1_0, f1_5, f10_0, f0_9, f24_0, f26_0, f35_0, f35_5, f43_0, f43_1, f50_10, f50_11, f50_16, f50_29, f50_30, f50_31, f50_44, f50_45, f50_48, f50_49]; exact v1
  · unfold V2 at *; simp only [a2, a3, a4, a5, a6, a7, a8, a9, a11, a12, a13, a22, a23, a25, a27, a28, a29, a30, a31, a32, a33, a36, a37, a38, a39, a40, a41, a42, a44, a45, a47, a51, a52, a53, a54, a55, a56, a57, a58, a59, a60, a61, a62, a63, a72, a73, a74, a75, a76, a77, a78, a79, a80, a81, a82, a83, a84, a85, a86, a87, a88, f1_0, f1_5, f10_0, f0_9, f24_0, f26_0, f35_0, f35_5, f43_0, f43_1, f50_10, f50_11, f50_16, f50_29, f50_30, f50_31, f50_44, f50_45, f50_48, f50_49]; exact v2
  · unfold V3 at *; simp only [a2, a3, a4, a5, a6, a7, a8, a9, a11, a12, a13, a22, a23, a25, a27, a28, a29, a30, a31, a32, a33, a36, a37, a38, a39, a40, a41, a42, a44, a45, a47, a51, a52, a53, a54, a55, a56, a57, a58, a59, a60, a61, a62, a63, a72, a73, a74, a75, a76, a77, a78, a79, a80, a81, a82, a83, a84, a85, a86, a87, a88, f1_0, f1_5, f10_0, f0_9, f24_0, f26_0, f35_0, f35_5, f43_0, f43_1, f50_10, f50_11, f50_16, f50_29, f50_30, f50_31, f50_44, f50_45, f50_48, f50_49]; exact v3
  · unfold V4 at *; simp only [a2, a3, a4, a5, a6, a7, a8, a9, a11, a12, a13, a22, a23, a25, a27, a28, a29, a30, a31, a32, a33, a36, a37, a38, a39, a40, a41, a42, a44, a45, a47, a51, a52, a53, a54, a55, a56, a57, a58, a59, a60, a61, a62, a63, a72, a73, a74, a75, a76, a77, a78, a79, a80, a81, a82, a83, a84, a85, a86, a87, a88, f1_0, f1_5, f10_0, f0_9, f24_0, f26_0, f35_0, f35_5, f43_0, f43_1, f50_10, f50_11, f50_16, f50_29, f50_30, f50_31, f50_44, f50_45, f50_48, f50_49]; exact v4
  · unfold V5 at *; simp only [a2, a3, a4, a5, a6, a7, a8, a9, a11, a12, a13, a22, a23, a25, a27, a28, a29, a30, a31, a32, a33, a36, a37, a38, a39, a40, a41, a42, a44, a45, a47, a51, a52, a53, a54, a55, a56, a57, a58, a59, a60, a61, a62, a63, a72, a73, a74, a75, a76, a77, a78, a79, a80, a81, a82, a83, a84, a85, a86, a87, a88, f1_0, f1_5, f10_0, f0_9, f24_0, f26_0, f35_0, f35_5, f43_0, f43_1, f50_10, f50_11, f50_16, f50_29, f50_30, f50_31, f50_44, f50_45, f50_48, f50_49]; exact v5
  · unfold V6 at *; simp only [a2, a3, a4, a5, a6, a7, a8, a9, a11, a12, a13, a22, a23, a25, a27, a28, a29, a30, a31, a32, a33, a36, a37, a38, a39, a40, a41, a42, a44, a45, a47, a51, a52, a53, a54, a55, a56, a57, a58, a59, a60, a61, a62, a63, a72, a73, a74, a75, a76, a77, a78, a79, a80, a81, a82, a83, a84, a85, a86, a87, a88, f1_0, f1_5, f10_0, f0_9, f24_0, f26_0, f35_0, f35_5, f43_0, f43_1, f50_10, f50_11, f50_16, f50_29, f50_30, f50_31, f50_44, f50_45, f50_48, f50_49]; exact v6
  · unfold V7 at *; simp only [a2, a3, a4, a5, a6, a7, a8, a9, a11, a12, a13, a22, a23, a25, a27, a28, a29, a30, a31, a32, a33, a36, a37, a38, a39, a40, a41, a42, a44, a45, a47, a51, a52, a53, a54, a55, a56, a57, a58, a59, a60, a61, a62, a63, a72, a73, a74, a75, a76, a77, a78, a79, a80, a81, a82, a83, a84, a85, a86, a87, a88, f1_0, f1_5, f10_0, f0_9, f24_0, f26_0, f35_0, f35_5, f43_0, f43_1, f50_10, f50_11, f50_16, f50_29, f50_30, f50_31, f50_44, f50_45, f50_48, f50_49]; exact v7
  · unfold V8 at *; simp only [a2, a3, a4, a5, a6, a7, a8, a9, a11, a12, a13, a22, a23, a25, a27, a28, a29, a30, a31, a32, a33, a36, a37, a38, a39, a40, a41, a42, a44, a45, a47, a51, a52, a53, a54, a55, a56, a57, a58, a59, a60, a61, a62, a63, a72, a73, a74, a75, a76, a77, a78, a79, a80, a81, a82, a83, a84, a85, a86, a87, a88, f1_0, f1_5, f10_0, f0_9, f24_0, f26_0, f35_0, f35_5, f43_0, f43_1, f50_10, f50_11, f50_16, f50_29, f50_30, f50_31, f50_44, f50_45, f50_48, f50_49]; exact v8
  · unfold V9 at *; simp only [a2, a3, a4, a5, a6, a7, a8, a9, a11, a12, a13, a22, a23, a25, a27, a28, a29, a30, a31, a32, a33, a36, a37, a38, a39, a40, a41, a42, a44, a45, a47, a51, a52, a53, a54, a55, a56, a57, a58, a59, a60, a61, a62, a63, a72, a73, a74, a75, a76, a77, a78, a79, a80, a81, a82, a83, a84, a85, a86, a87, a88, f1_0, f1_5, f10_0, f0_9, f24_0, f26_0, f35_0, f35_5, f43_0, f43_1, f50_10, f50_11, f50_16, f50_29, f50_30, f50_31, f50_44, f50_45, f50_48, f50_49]; exact v9
theorem pm_put_ne {M : mm_M} {b s o r : Int} {j : Nat} (h : j ≠ 5) : pm_put M b s o r j = M j := by
  unfold pm_put
  split <;> split <;> first | rfl | (rw [mm_up_ne h]; done) | (rw [mm_up_ne h, mm_up_ne h])
theorem pm_put_5 {M : mm_M} {b s o r : Int} {i : Nat} : pm_put M b s o r 5 i = if o ≠ -1 ∧ i = o.toNat then 10 * b + s else if r ≠ -1 ∧ i = r.toNat then -1 else M 5 i := by
  unfold pm_put
  by_cases h1 : o = -1 <;> by_cases h2 : r = -1 <;> simp [h1, h2, mm_up]
theorem pm_sit_ne {M : mm_M} {b s o r : Int} {j : Nat} (h : j ≠ 53) (h2 : j ≠ 54) : pm_sit M b s o r j = M j := by
  unfold pm_sit
  split <;> split <;> first | rfl | (rw [mm_up_ne h]; done) | (rw [mm_up_ne h2, mm_up_ne h]; done) | (rw [mm_up_ne h2, mm_up_ne h, mm_up_ne h])
theorem pm_sit_53 {M : mm_M} {b s o r : Int} {i : Nat} : pm_sit M b s o r 53 i = if o ≠ -1 ∧ i = o.toNat then b else if r ≠ -1 ∧ i = r.toNat then -1 else M 53 i := by
  unfold pm_sit
  by_cases h1 : o = -1 <;> by_cases h2 : r = -1 <;> simp [h1, h2, mm_up]
theorem pm_sit_54 {M : mm_M} {b s o r : Int} {i : Nat} : pm_sit M b s o r 54 i = if o ≠ -1 ∧ i = o.toNat then s else M 54 i := by
  unfold pm_sit
  by_cases h1 : o = -1 <;> by_cases h2 : r = -1 <;> simp [h1, h2, mm_up]
theorem pm_put_R {M : mm_M} {b s o r : Int} (h : R32 M) (hb : 0 ≤ b ∧ b < 8) (hs : 0 ≤ s ∧ s ≤ 8) : R32 (pm_put M b s o r) := by
  intro i k hik
  by_cases e : i = 5
  · subst e
    rw [pm_put_5]
    have := h 5 k rfl
    split
    · omega
    · split <;> omega
  · rw [pm_put_ne e]; exact h i k hik
theorem pm_sit_R {M : mm_M} {b s o r : Int} (h : R32 M) (hb : 0 ≤ b ∧ b < 8) (hs : 0 ≤ s ∧ s ≤ 8) : R32 (pm_sit M b s o r) := by
  intro i k hik
  by_cases e : i = 53
  · subst e
    rw [pm_sit_53]
    have := h 53 k rfl
    split
    · omega
    · split <;> omega
  · by_cases e2 : i = 54
    · subst e2
      rw [pm_sit_54]
      have := h 54 k rfl
      split <;> omega
    · rw [pm_sit_ne e e2]; exact h i k hik
theorem pair_seat {M : mm_M} (hI : inv M) (b s : Int) (hb : mm_r32 b) (hs : mm_r32 s) : Pair mi_X9_seat mi_X10_seat v_i [v_i b, v_i s] M := by
  have hI0 := hI
  obtain ⟨hr, hJo, hJb, hJr, hJom, hJbm, v0, v1, v2, v3, v4, v5, v6, v7, v8, v9⟩ := hI0
  have jo := hJo; have jb := hJb; have jr := hJr; have jom := hJom; have jbm := hJbm
  obtain ⟨ho0, ho16, hO⟩ := jo
  obtain ⟨hb0, hb8, hB⟩ := jb
  obtain ⟨hr0, hr40, hRr⟩ := jr
  obtain ⟨go0, go16, gO⟩ := jom
  obtain ⟨gb0, gb8, gB⟩ := jbm
  have w1 := v1.1; have w2 := v2.1; have w3 := v3.1; have w4 := v4.1; have w5 := v5.1; have w6 := v6.1; have w7 := v7.1.1; have w7b := v7.2.1.1; have w8 := v8.1; have w8b := v8.2.2.2.1
  have hB1 := hB b.toNat; have u2 := v2.2 b.toNat; have hs1 := mm_seats_le (M 6 b.toNat).toNat
  have e57 : 0 ≤ b ∧ b < M 1 5 → M 57 b.toNat = M 6 b.toNat := fun h => (u2 (by omega)).1
  have e57b : 0 ≤ b ∧ b < M 1 5 → mm_seats (M 57 b.toNat).toNat = mm_seats (M 6 b.toNat).toNat := fun h => by rw [e57 h]
  by_cases hv : ((0 ≤ b ∧ b < M 1 5) ∧ ((s = 8 ∧ (M 6 b.toNat = 1 ∨ M 6 b.toNat = 2)) ∨ (s ≠ 8 ∧ 0 ≤ s ∧ s < mm_seats (M 6 b.toNat).toNat)))
  · obtain ⟨r, hq⟩ := firstP_ex (P := fun i => M 5 i = 10 * b + s) (M 1 0).toNat
    have hqr := firstP_rng hq
    refine Pair_i r M M (fun X d Po k => c_X9_seat (d := d + 10) b s hb hs hJo hJb hr (fun q => absurd hv q) (fun r2 _ q => by have e := firstP_one q hq; subst e; exact k)) (fun X d Po k => c_X10_seat (d := d + 10) b s hb hs hJom hJbm hr (fun q => by exfalso; omega) (fun r2 _ q => by have e := who_eq hI (by omega) (by omega) hq q; subst e; exact k)) (by omega) hI
  · exact Pair_i (-1) M M (fun X d Po k => c_X9_seat (d := d + 10) b s hb hs hJo hJb hr (fun _ => k) (fun r2 q _ => absurd q hv)) (fun X d Po k => c_X10_seat (d := d + 10) b s hb hs hJom hJbm hr (fun _ => k) (fun r2 q _ => by exfalso; omega)) (by decide) hI
theorem inv_sit {M : mm_M} (hI : inv M) {b s o r : Int} (hs : ((0 ≤ b ∧ b < M 1 5) ∧ ((s = 8 ∧ (M 6 b.toNat = 1 ∨ M 6 b.toNat = 2)) ∨ (s ≠ 8 ∧ 0 ≤ s ∧ s < mm_seats (M 6 b.toNat).toNat)))) (ho : (o = -1 ∨ (0 ≤ o ∧ o < M 1 0))) (hq : firstP (fun i => M 5 i = 10 * b + s) r (M 1 0).toNat) : inv (pm_sit (pm_put M b s o r) b s o r) := by
  have hI0 := hI
  obtain ⟨hr, hJo, hJb, hJr, hJom, hJbm, v0, v1, v2, v3, v4, v5, v6, v7, v8, v9⟩ := hI0
  have jo := hJo; have jb := hJb; have jr := hJr; have jom := hJom; have jbm := hJbm
  obtain ⟨ho0, ho16, hO⟩ := jo
  obtain ⟨hb0, hb8, hB⟩ := jb
  obtain ⟨hr0, hr40, hRr⟩ := jr
  obtain ⟨go0, go16, gO⟩ := jom
  obtain ⟨gb0, gb8, gB⟩ := jbm
  have w1 := v1.1; have w2 := v2.1; have w3 := v3.1; have w4 := v4.1; have w5 := v5.1; have w6 := v6.1; have w7 := v7.1.1; have w7b := v7.2.1.1; have w8 := v8.1; have w8b := v8.2.2.2.1
  have hB1 := hB b.toNat; have u2 := v2.2 b.toNat; have hs1 := mm_seats_le (M 6 b.toNat).toNat
  have e57 : M 57 b.toNat = M 6 b.toNat := (u2 (by omega)).1
  have e57b : mm_seats (M 57 b.toNat).toNat = mm_seats (M 6 b.toNat).toNat := by rw [e57]
  have hqr := firstP_rng hq
  have ne : ∀ j, j ≠ 5 → j ≠ 53 → j ≠ 54 → pm_sit (pm_put M b s o r) b s o r j = M j := fun j h1 h2 h3 => by rw [pm_sit_ne h2 h3, pm_put_ne h1]
  have n5 : ∀ i, pm_sit (pm_put M b s o r) b s o r 5 i = if o ≠ -1 ∧ i = o.toNat then 10 * b + s else if r ≠ -1 ∧ i = r.toNat then -1 else M 5 i := fun i => by rw [pm_sit_ne (by decide) (by decide), pm_put_5]
  have n53 : ∀ i, pm_sit (pm_put M b s o r) b s o r 53 i = if o ≠ -1 ∧ i = o.toNat then b else if r ≠ -1 ∧ i = r.toNat then -1 else M 53 i := fun i => by rw [pm_sit_53, pm_put_ne (by decide)]
  have n54 : ∀ i, pm_sit (pm_put M b s o r) b s o r 54 i = if o ≠ -1 ∧ i = o.toNat then s else M 54 i := fun i => by rw [pm_sit_54, pm_put_ne (by decide)]
  have hR : R32 (pm_sit (pm_put M b s o r) b s o r) := pm_sit_R (pm_put_R hr (by omega) (by omega)) (by omega) (by omega)
  have hr2 : ∀ i : Nat, (i : Int) < M 50 10 → M 53 i = b → M 54 i = s → r ≠ -1 ∧ i = r.toNat := by
    intro i hi h1 h2
    have p1 := v1.2.1 i (by omega)
    rcases hq with ⟨_, q2⟩ | ⟨q1, q2, q3, q4⟩
    · exact absurd (show M 5 i = 10 * b + s by omega) (q2 i (by omega))
    · have q3 : M 5 r.toNat = 10 * b + s := q3
      have p2 := v1.2.1 r.toNat (by omega)
      have g2 := gO r.toNat (by omega)
      have g1 := gO i hi
      have := v0.2 i r.toNat hi (by omega) (by omega) (by omega) (by omega)
      exact ⟨by omega, this⟩
  generalize pm_sit (pm_put M b s o r) b s o r = N at ne n5 n53 n54 hR ⊢
  have c0 := ne 0 (by decide) (by decide) (by decide); have c1 := ne 1 (by decide) (by decide) (by decide); have c2 := ne 2 (by decide) (by decide) (by decide); have c3 := ne 3 (by decide) (by decide) (by decide); have c4 := ne 4 (by decide) (by decide) (by decide)
  have c50 := ne 50 (by decide) (by decide) (by decide); have c51 := ne 51 (by decide) (by decide) (by decide); have c52 := ne 52 (by decide) (by decide) (by decide); have c55 := ne 55 (by decide) (by decide) (by decide); have c57 := ne 57 (by decide) (by decide) (by decide)
  refine ⟨hR, ?_, ?_, ?_, ?_, ?_, ?_, ?_, ?_, ?_, ?_, ?_, ?_, ?_, ?_, ?_⟩
  · unfold JO
    rw [c1, c2, c3, c4]
    refine ⟨ho0, ho16, fun i hi => ?_⟩
    have h := hO i hi
    refine ⟨h.1, h.2.1, h.2.2.1, ?_⟩
    rw [n5]
    have hb80 : 0 ≤ 10 * b + s ∧ 10 * b + s < 80 := by omega
    by_cases e1 : o ≠ -1 ∧ i = o.toNat
    · rw [if_pos e1]; omega
    · rw [if_neg e1]
      by_cases e2 : r ≠ -1 ∧ i = r.toNat
      · rw [if_pos e2]; omega
      · rw [if_neg e2]; omega
  · unfold JB; simp only [c1, ne 6 (by decide) (by decide) (by decide), ne 7 (by decide) (by decide) (by decide), ne 8 (by decide) (by decide) (by decide), ne 9 (by decide) (by decide) (by decide)]; exact hJb
  · unfold JRc; simp only [c1, ne 10 (by decide) (by decide) (by decide), ne 11 (by decide) (by decide) (by decide), ne 12 (by decide) (by decide) (by decide), ne 13 (by decide) (by decide) (by decide)]; exact hJr
  · unfold JOm
    rw [c50, c51, c52, c55]
    refine ⟨go0, go16, fun i hi => ?_⟩
    have h := gO i hi
    refine ⟨h.1, h.2.1, h.2.2.1, ?_, ?_⟩
    · rw [n53]
      split
      · omega
      · split <;> omega
    · rw [n54]
      split <;> omega
  · unfold JBm; simp only [c50, c57, ne 58 (by decide) (by decide) (by decide), ne 59 (by decide) (by decide) (by decide), ne 60 (by decide) (by decide) (by decide)]; exact hJbm
  · unfold V0
    simp only [c50, c57]
    refine ⟨fun i hi => ?_, fun i j hi hj => ?_⟩
    · rw [n53, n54]
      by_cases e1 : o ≠ -1 ∧ i = o.toNat
      · simp only [if_pos e1]
        omega
      · simp only [if_neg e1]
        by_cases e2 : r ≠ -1 ∧ i = r.toNat
        · simp only [if_pos e2]; omega
        · simp only [if_neg e2]; exact v0.1 i hi
    · rw [n53, n53, n54, n54]
      have k1 := hr2 i hi
      have k2 := hr2 j hj
      by_cases e1 : o ≠ -1 ∧ i = o.toNat
      · by_cases e3 : o ≠ -1 ∧ j = o.toNat
        · omega
        · simp only [if_pos e1, if_neg e3]
          by_cases e4 : r ≠ -1 ∧ j = r.toNat
          · simp only [if_pos e4]; omega
          · simp only [if_neg e4]
            intro _ h1 h2
            exact absurd (k2 h1.symm h2.symm) e4
      · simp only [if_neg e1]
        by_cases e2 : r ≠ -1 ∧ i = r.toNat
        · simp only [if_pos e2]; omega
        · simp only [if_neg e2]
          by_cases e3 : o ≠ -1 ∧ j = o.toNat
          · simp only [if_pos e3]
            intro _ h1 h2
            exact absurd (k1 h1 h2) e2
          · simp only [if_neg e3]
            by_cases e4 : r ≠ -1 ∧ j = r.toNat
            · simp only [if_pos e4]; omega
            · simp only [if_neg e4]
              exact v0.2 i j hi hj
  · unfold V1
    simp only [c50, c1, c51, c2, c52, c3, c55, c4]
    refine ⟨w1, fun i hi => ?_, fun i h1 h2 => ?_⟩
    · have h := v1.2.1 i hi
      refine ⟨h.1, h.2.1, h.2.2.1, ?_⟩
      rw [n5, n53, n54]
      by_cases e1 : o ≠ -1 ∧ i = o.toNat
      · rw [if_pos e1, if_pos e1, if_pos e1]; exact Or.inr ⟨by omega, rfl⟩
      · rw [if_neg e1, if_neg e1, if_neg e1]
        by_cases e2 : r ≠ -1 ∧ i = r.toNat
        · rw [if_pos e2, if_pos e2]; exact Or.inl ⟨rfl, rfl⟩
        · rw [if_neg e2, if_neg e2]; exact h.2.2.2
    · have h := v1.2.2 i h1 h2
      rw [n54, if_neg (by omega)]
      exact h
  · unfold V2; simp only [c50, c1, c57, ne 6 (by decide) (by decide) (by decide), ne 7 (by decide) (by decide) (by decide), ne 8 (by decide) (by decide) (by decide), ne 9 (by decide) (by decide) (by decide), ne 58 (by decide) (by decide) (by decide), ne 59 (by decide) (by decide) (by decide), ne 60 (by decide) (by decide) (by decide)]; exact v2
  · unfold V3; simp only [c50, ne 10 (by decide) (by decide) (by decide), ne 11 (by decide) (by decide) (by decide), ne 12 (by decide) (by decide) (by decide), ne 13 (by decide) (by decide) (by decide), ne 61 (by decide) (by decide) (by decide), ne 62 (by decide) (by decide) (by decide), ne 63 (by decide) (by decide) (by decide)]; exact v3
  · unfold V4; simp only [c50, c0, ne 22 (by decide) (by decide) (by decide), ne 23 (by decide) (by decide) (by decide), ne 72 (by decide) (by decide) (by decide), ne 73 (by decide) (by decide) (by decide)]; exact v4
  · unfold V5; simp only [c50, ne 24 (by decide) (by decide) (by decide), ne 25 (by decide) (by decide) (by decide), ne 74 (by decide) (by decide) (by decide)]; exact v5
  · unfold V6; simp only [c50, ne 26 (by decide) (by decide) (by decide), ne 27 (by decide) (by decide) (by decide), ne 28 (by decide) (by decide) (by decide), ne 29 (by decide) (by decide) (by decide), ne 30 (by decide) (by decide) (by decide), ne 31 (by decide) (by decide) (by decide), ne 32 (by decide) (by decide) (by decide), ne 33 (by decide) (by decide) (by decide), ne 75 (by decide) (by decide) (by decide), ne 76 (by decide) (by decide) (by decide), ne 77 (by decide) (by decide) (by decide), ne 78 (by decide) (by decide) (by decide)]; exact v6
  · unfold V7; simp only [c50, ne 35 (by decide) (by decide) (by decide), ne 36 (by decide) (by decide) (by decide), ne 37 (by decide) (by decide) (by decide), ne 38 (by decide) (by decide) (by decide), ne 39 (by decide) (by decide) (by decide), ne 40 (by decide) (by decide) (by decide), ne 41 (by decide) (by decide) (by decide), ne 42 (by decide) (by decide) (by decide), ne 56 (by decide) (by decide) (by decide), ne 79 (by decide) (by decide) (by decide), ne 80 (by decide) (by decide) (by decide), ne 81 (by decide) (by decide) (by decide), ne 82 (by decide) (by decide) (by decide), ne 83 (by decide) (by decide) (by decide), ne 84 (by decide) (by decide) (by decide), ne 85 (by decide) (by decide) (by decide)]; exact v7
  · unfold V8; simp only [c50, c1, ne 43 (by decide) (by decide) (by decide), ne 44 (by decide) (by decide) (by decide), ne 45 (by decide) (by decide) (by decide), ne 86 (by decide) (by decide) (by decide), ne 87 (by decide) (by decide) (by decide)]; exact v8
  · unfold V9; simp only [ne 47 (by decide) (by decide) (by decide), ne 88 (by decide) (by decide) (by decide)]; exact v9
theorem pair_sit {M : mm_M} (hI : inv M) (b s o : Int) (hb : mm_r32 b) (hs : mm_r32 s) (ho : mm_r32 o) : Pair mi_X9_sit mi_X10_sit v_i [v_i b, v_i s, v_i o] M := by
  have hI0 := hI
  obtain ⟨hr, hJo, hJb, hJr, hJom, hJbm, v0, v1, v2, v3, v4, v5, v6, v7, v8, v9⟩ := hI0
  have jo := hJo; have jb := hJb; have jr := hJr; have jom := hJom; have jbm := hJbm
  obtain ⟨ho0, ho16, hO⟩ := jo
  obtain ⟨hb0, hb8, hB⟩ := jb
  obtain ⟨hr0, hr40, hRr⟩ := jr
  obtain ⟨go0, go16, gO⟩ := jom
  obtain ⟨gb0, gb8, gB⟩ := jbm
  have w1 := v1.1; have w2 := v2.1; have w3 := v3.1; have w4 := v4.1; have w5 := v5.1; have w6 := v6.1; have w7 := v7.1.1; have w7b := v7.2.1.1; have w8 := v8.1; have w8b := v8.2.2.2.1
  have hB1 := hB b.toNat; have u2 := v2.2 b.toNat; have hs1 := mm_seats_le (M 6 b.toNat).toNat
  have e57 : 0 ≤ b ∧ b < M 1 5 → M 57 b.toNat = M 6 b.toNat := fun h => (u2 (by omega)).1
  have e57b : 0 ≤ b ∧ b < M 1 5 → mm_seats (M 57 b.toNat).toNat = mm_seats (M 6 b.toNat).toNat := fun h => by rw [e57 h]
  have hO1 := hO o.toNat; have gO1 := gO o.toNat; have u1 := v1.2.1 o.toNat
  by_cases hv : ((0 ≤ b ∧ b < M 1 5) ∧ ((s = 8 ∧ (M 6 b.toNat = 1 ∨ M 6 b.toNat = 2)) ∨ (s ≠ 8 ∧ 0 ≤ s ∧ s < mm_seats (M 6 b.toNat).toNat))) ∧ (o = -1 ∨ (0 ≤ o ∧ o < M 1 0))
  · by_cases hf : o = -1 ∨ (M 4 o.toNat = 0 ∧ (s ≠ 8 ∨ M 3 o.toNat ≤ 70))
    · obtain ⟨r, hq⟩ := firstP_ex (P := fun i => M 5 i = 10 * b + s) (M 1 0).toNat
      have hqr := firstP_rng hq
      have ne : ∀ j, j ≠ 5 → pm_put M b s o r j = M j := fun j h => pm_put_ne h
      have hrX : R32 (pm_put M b s o r) := pm_put_R hr (by omega) (by omega)
      have q50 := ne 50 (by decide); have q51 := ne 51 (by decide); have q52 := ne 52 (by decide); have q53 := ne 53 (by decide); have q54 := ne 54 (by decide); have q55 := ne 55 (by decide); have q57 := ne 57 (by decide); have q58 := ne 58 (by decide); have q59 := ne 59 (by decide); have q60 := ne 60 (by decide)
      refine Pair_i r (pm_put M b s o r) (pm_sit (pm_put M b s o r) b s o r) (fun X d Po k => c_X9_sit (d := d + 10) b s o hb hs ho hJo hJb hr (fun q => absurd hv q) (fun _ q => by exfalso; omega) (fun r2 _ _ q => by have e := firstP_one q hq; subst e; exact k)) (fun X d Po k => c_X10_sit (d := d + 10) b s o hb hs ho (by unfold JOm; simp only [q50, q51, q52, q53, q54, q55]; exact hJom) (by unfold JBm; simp only [q50, q57, q58, q59, q60]; exact hJbm) hrX ?_ ?_ ?_) (by omega) (inv_sit hI hv.1 hv.2 hq)
      · rw [q50, q57]; intro q; exfalso; omega
      · rw [q50, q57, q55, q52]; intro _ q; exfalso; omega
      · rw [q50, q57, q55, q52, q53, q54]
        intro r2 _ _ q
        have e := who_eq hI (by omega) (by omega) hq q
        subst e
        exact k
    · exact Pair_i (-3) M M (fun X d Po k => c_X9_sit (d := d + 10) b s o hb hs ho hJo hJb hr (fun q => absurd hv q) (fun _ _ => k) (fun r2 _ q _ => absurd q hf)) (fun X d Po k => c_X10_sit (d := d + 10) b s o hb hs ho hJom hJbm hr (fun q => by exfalso; omega) (fun _ _ => k) (fun r2 _ q _ => by exfalso; omega)) (by decide) hI
  · exact Pair_i (-5) M M (fun X d Po k => c_X9_sit (d := d + 10) b s o hb hs ho hJo hJb hr (fun _ => k) (fun q _ => absurd q hv) (fun r2 q _ _ => absurd q hv)) (fun X d Po k => c_X10_sit (d := d + 10) b s o hb hs ho hJom hJbm hr (fun _ => k) (fun q _ => by exfalso; omega) (fun r2 q _ _ => by exfalso; omega)) (by decide) hI
