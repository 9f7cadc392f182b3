section MMB
variable {X : Nat × (Nat → Int)} {d mc ms : Nat} {mi : mm_Mi} {Po : mm_Po} {pc : Nat} {L : List (Nat × mm_V)} {st : List mm_V} {La La' : List mm_S} {M : mm_M} {ck cs : Nat}
theorem mm_newb {at0 : ArrayType} {t : FieldType} {n q : Nat} (hd : decode mi.2.1 pc = .ok (.newarray at0, 2)) (w : Cond.arrayClass (newarray.typeOf at0) ∈ mm_tbl) (ht : newarray.typeOf at0 = t) (hk : t = .int ∨ t = .long ∨ t = .boolean) (hn : n ≤ 5000) (hm : ck + 1 ≤ mc ∧ cs + n ≤ ms) (hq : La.length = q) (hl : q < 1000) (hc : mm_nk q La = true) (hv : mm_vk q (st ++ L.map (fun q => q.2)) = true) (hz : ∀ k, M q k = 0) (hLa : La ++ [.inl (t, n)] = La')
    (K : mm_G X d mc ms mi Po (pc + 2) L (v_r q :: st) La' M (ck + 1) (cs + n)) : mm_G X d mc ms mi Po pc L (v_i (n : Int) :: st) La M ck cs := by
  subst hq; subst hLa
  exact mm_newa hd w ht hk hn hm hl hc hv hz K
theorem mm_newo {idx ci N q : Nat} {C : String} {T : u_T} {ty0 : Nat → FieldType} {fs : List mm_V} (hd : decode mi.2.1 pc = .ok (.new idx, 3)) (hci : vwCl[ci]? = some (C, T, N)) (hin : ∀ w ∈ u_ws C T N, w ∈ mm_tbl) (hty : ∀ k, k < N → parseFieldDescriptor (T k).2.2.1 = some (ty0 k)) (w1 : Cond.classLink mi.1.cls idx C ∈ mm_tbl) (w2 : Cond.instantiable C N ∈ mm_tbl) (w3 : Cond.initialized C ∈ mm_tbl)
    (hdt : (List.range N).all (fun k => mm_dt (ty0 k)) = true) (hfs : (List.range N).map (fun k => mm_dv (ty0 k)) = fs) (hm : ck + 1 ≤ mc ∧ cs + N ≤ ms) (hq : La.length = q) (hl : q < 1000) (hc : mm_nk q La = true) (hv : mm_vk q (st ++ L.map (fun q => q.2)) = true) (hz : ∀ k, M q k = 0) (hLa : La ++ [.inr (ci, fs)] = La')
    (K : mm_G X d mc ms mi Po (pc + 3) L (v_r q :: st) La' M (ck + 1) (cs + N)) : mm_G X d mc ms mi Po pc L st La M ck cs := by
  subst hq; subst hLa
  exact mm_new hd hci hin hty w1 w2 w3 hdt hfs hm hl hc hv hz K
/-- the answers and the memory may be told otherwise -/
theorem mm_pi {a b : Int} (h : a = b) (k : Po (some (v_i b)) La M) : Po (some (v_i a)) La M := h ▸ k
theorem mm_pl {a b : Int} (h : a = b) (k : Po (some (v_l b)) La M) : Po (some (v_l a)) La M := h ▸ k
theorem mm_pm {a b : Int} {M' : mm_M} (h : a = b) (hM : M = M') (k : Po (some (v_i b)) La M') : Po (some (v_i a)) La M := by subst h; subst hM; exact k
theorem mm_pv {M' : mm_M} (hM : M = M') (k : Po none La M') : Po none La M := by subst hM; exact k
theorem mm_eqM {M' : mm_M} (hM : M = M') (k : mm_G X d mc ms mi Po pc L st La M' ck cs) : mm_G X d mc ms mi Po pc L st La M ck cs := by subst hM; exact k
/-! Arrays.fill -/
def mm_fill (M : mm_M) (b n : Nat) (v : Int) : mm_M := fun i k => if i = b ∧ k < n then v else M i k
theorem mm_fill_0 {b : Nat} {v : Int} : mm_fill M b 0 v = M := by
  funext i k
  simp [mm_fill]
theorem mm_fill_s {b n : Nat} {v : Int} : mm_up (mm_fill M b n v) b n v = mm_fill M b (n + 1) v := by
  funext i k
  simp only [mm_up, mm_fill]
  by_cases h1 : i = b
  · by_cases h2 : k = n
    · simp [h1, h2]
    · by_cases h3 : k < n
      · simp [h1, h2, h3, Nat.lt_succ_of_lt h3]
      · have h4 : ¬ k < n + 1 := by omega
        simp [h1, h2, h3, h4]
  · simp [h1]
theorem c_fillI_loop {b n : Nat} (hn : n < 5000) (hb : La[b]? = some (.inl (.int, n))) (v : Int) (k : Po none La (mm_fill M b n v)) : ∀ (r j : Nat), j + r = n → mm_G X d 0 0 mi_J7_fill_53178 Po 5 [(0, v_r b), (1, v_i v), (2, v_i j), (3, v_i n)] [] La (mm_fill M b j v) 0 0 := by
  intro r
  induction r with
  | zero =>
    intro j hj
    refine mm_iload_n (mm_dc od_J7_fill_53178_0 5 rfl) rfl ?_
    refine mm_iload_n (mm_dc od_J7_fill_53178_0 6 rfl) rfl ?_
    refine mm_icmp_ge 20 (mm_dc od_J7_fill_53178_0 7 rfl) (by decide) (by omega) (by omega) (fun c1 => ?_) (fun c1 => ?_)
    · refine mm_ret (mm_dc od_J7_fill_53178_0 14 rfl) rfl ?_
      have e : j = n := by omega
      rw [e]
      exact k
    · omega
  | succ r ih =>
    intro j hj
    refine mm_iload_n (mm_dc od_J7_fill_53178_0 5 rfl) rfl ?_
    refine mm_iload_n (mm_dc od_J7_fill_53178_0 6 rfl) rfl ?_
    refine mm_icmp_ge 20 (mm_dc od_J7_fill_53178_0 7 rfl) (by decide) (by omega) (by omega) (fun c1 => ?_) (fun c1 => ?_)
    · omega
    · refine mm_aload_n (mm_dc od_J7_fill_53178_0 8 rfl) rfl ?_
      refine mm_iload_n (mm_dc od_J7_fill_53178_0 9 rfl) rfl ?_
      refine mm_iload_n (mm_dc od_J7_fill_53178_0 10 rfl) rfl ?_
      refine mm_iast (mm_dc od_J7_fill_53178_0 11 rfl) hb (by omega) (by omega) (by omega) ?_
      refine mm_iinc (L' := [(0, v_r b), (1, v_i v), (2, v_i ((j : Int) + 1)), (3, v_i n)]) (mm_dc od_J7_fill_53178_0 12 rfl) rfl (by decide) rfl ?_
      refine mm_goto 5 (mm_dc od_J7_fill_53178_0 13 rfl) (by decide) ?_
      rw [show ((j : Int)).toNat = j from rfl, mm_fill_s]
      exact ih (j + 1) (by omega)
theorem c_fillI {b n : Nat} (hn : n < 5000) (hb : La[b]? = some (.inl (.int, n))) (v : Int) (k : Po none La (mm_fill M b n v)) : mm_E X d 0 0 mi_J7_fill_53178 [v_r b, v_i v] Po La M := by
  show mm_G X d 0 0 mi_J7_fill_53178 Po 0 [(0, v_r b), (1, v_i v)] [] La M 0 0
  refine mm_iconst (mm_dc od_J7_fill_53178_0 0 rfl) ?_
  refine mm_istore_n (L' := [(0, v_r b), (1, v_i v), (2, v_i 0)]) (mm_dc od_J7_fill_53178_0 1 rfl) (by decide) rfl ?_
  refine mm_aload_n (mm_dc od_J7_fill_53178_0 2 rfl) rfl ?_
  refine mm_alen (mm_dc od_J7_fill_53178_0 3 rfl) hb (by decide) ?_
  refine mm_istore_n (L' := [(0, v_r b), (1, v_i v), (2, v_i 0), (3, v_i n)]) (mm_dc od_J7_fill_53178_0 4 rfl) (by decide) rfl ?_
  have h := c_fillI_loop (X := X) (d := d) (M := M) hn hb v k n 0 (by omega)
  rw [mm_fill_0] at h
  exact h
theorem c_fillL_loop {b n : Nat} (hn : n < 5000) (hb : La[b]? = some (.inl (.long, n))) (v : Int) (k : Po none La (mm_fill M b n v)) : ∀ (r j : Nat), j + r = n → mm_G X d 0 0 mi_J7_fill_d0a16 Po 6 [(0, v_r b), (1, v_l v), (3, v_i j), (4, v_i n)] [] La (mm_fill M b j v) 0 0 := by
  intro r
  induction r with
  | zero =>
    intro j hj
    refine mm_iload_n (mm_dc od_J7_fill_d0a16_0 5 rfl) rfl ?_
    refine mm_iload (mm_dc od_J7_fill_d0a16_0 6 rfl) rfl ?_
    refine mm_icmp_ge 22 (mm_dc od_J7_fill_d0a16_0 7 rfl) (by decide) (by omega) (by omega) (fun c1 => ?_) (fun c1 => ?_)
    · refine mm_ret (mm_dc od_J7_fill_d0a16_0 14 rfl) rfl ?_
      have e : j = n := by omega
      rw [e]
      exact k
    · omega
  | succ r ih =>
    intro j hj
    refine mm_iload_n (mm_dc od_J7_fill_d0a16_0 5 rfl) rfl ?_
    refine mm_iload (mm_dc od_J7_fill_d0a16_0 6 rfl) rfl ?_
    refine mm_icmp_ge 22 (mm_dc od_J7_fill_d0a16_0 7 rfl) (by decide) (by omega) (by omega) (fun c1 => ?_) (fun c1 => ?_)
    · omega
    · refine mm_aload_n (mm_dc od_J7_fill_d0a16_0 8 rfl) rfl ?_
      refine mm_iload_n (mm_dc od_J7_fill_d0a16_0 9 rfl) rfl ?_
      refine mm_lload_n (mm_dc od_J7_fill_d0a16_0 10 rfl) rfl ?_
      refine mm_last (mm_dc od_J7_fill_d0a16_0 11 rfl) hb (by omega) (by omega) (by omega) ?_
      refine mm_iinc (L' := [(0, v_r b), (1, v_l v), (3, v_i ((j : Int) + 1)), (4, v_i n)]) (mm_dc od_J7_fill_d0a16_0 12 rfl) rfl (by decide) rfl ?_
      refine mm_goto 6 (mm_dc od_J7_fill_d0a16_0 13 rfl) (by decide) ?_
      rw [show ((j : Int)).toNat = j from rfl, mm_fill_s]
      exact ih (j + 1) (by omega)
theorem c_fillL {b n : Nat} (hn : n < 5000) (hb : La[b]? = some (.inl (.long, n))) (v : Int) (k : Po none La (mm_fill M b n v)) : mm_E X d 0 0 mi_J7_fill_d0a16 [v_r b, v_l v] Po La M := by
  show mm_G X d 0 0 mi_J7_fill_d0a16 Po 0 [(0, v_r b), (1, v_l v)] [] La M 0 0
  refine mm_iconst (mm_dc od_J7_fill_d0a16_0 0 rfl) ?_
  refine mm_istore_n (L' := [(0, v_r b), (1, v_l v), (3, v_i 0)]) (mm_dc od_J7_fill_d0a16_0 1 rfl) (by decide) rfl ?_
  refine mm_aload_n (mm_dc od_J7_fill_d0a16_0 2 rfl) rfl ?_
  refine mm_alen (mm_dc od_J7_fill_d0a16_0 3 rfl) hb (by decide) ?_
  refine mm_istore (L' := [(0, v_r b), (1, v_l v), (3, v_i 0), (4, v_i n)]) (mm_dc od_J7_fill_d0a16_0 4 rfl) (by decide) rfl ?_
  have h := c_fillL_loop (X := X) (d := d) (M := M) hn hb v k n 0 (by omega)
  rw [mm_fill_0] at h
  exact h
end MMB
