section MMC
variable {X : Nat × (Nat → Int)} {d mc ms : Nat} {mi : mm_Mi} {Po : mm_Po} {pc : Nat} {L : List (Nat × mm_V)} {st : List mm_V} {La : List mm_S} {M : mm_M} {ck cs : Nat}
theorem mm_Pc_blind {As : List mm_V} {ad : Nat → Nat} {ty : FieldType → ClassId} {D : va_G} {sz : Nat} : FrameBlind (mm_Pc X As La M ad ty D sz) := by
  intro a U g mk h
  obtain ⟨h0, h1, h2, h3, h4, h5⟩ := h
  exact ⟨h0, h1, mm_RO.move (s := U) (U := U.calling g mk a) h2 (State.WarmedH.refl U) (fun _ _ _ => rfl) rfl (fun _ h => h), va_K.moved (u := U) (U := U.calling g mk a) (Vm.Alike.refl U.vm) h3, h4, h5⟩
theorem mm_A_sub {A : Nat → Prop} {ad : Nat → Nat} {ty : FieldType → ClassId} {D : va_G} {H0 H : Heap} {locs : List Loc} (hWd : mm_Wd A ad ty D La M H0 H locs) (hA : ∀ q, H0.size ≤ q → A q) : ∀ q, va_A (mm_ws ty ad La M) H.size q → A q := by
  intro q h
  rcases h with ⟨k, e, h⟩ | h
  · exact hWd.2.1.2 k _ h
  · exact hA q (Nat.le_trans hWd.2.2.1 h)
/-- a callee's start -/
theorem mm_pre {As : List mm_V} {p : Program} {R : Room} {s : State} {m : MethodId} {args : Array Value} {meth : Method} {c : Code} {A : Nat → Prop} {ad : Nat → Nat} {ty : FieldType → ClassId} {D : va_G} {H : Heap} {locs : List Loc} (hAt : mm_At X d mc ms mi p R s m args meth c A ad ty D) (hWd : mm_Wd A ad ty D La M s.heap H locs) (U : State) (hU : U.heap = H) (hW : s.WarmedH U.vm) : mm_Pc X As La M ad ty D H.size (As.map (mm_cv ad)).toArray U := by
  refine ⟨rfl, by rw [hU], mm_RO.move hAt.2.2.2.2.2.2.1 hW hWd.2.2.2.1 hU (mm_A_sub hWd hAt.2.2.2.2.2.2.2.2.1), va_K.moved hW.alike hAt.2.2.2.2.2.2.2.1, by rw [hU]; exact hWd.1, hWd.2.1.weaken (fun _ _ _ _ => trivial)⟩
theorem mm_vk_app {n : Nat} {vs : List mm_V} : ∀ {rest : List mm_V}, mm_vk n (rest ++ vs) = true → mm_vk n rest = true ∧ mm_vk n vs = true
  | [], h => ⟨rfl, h⟩
  | .inl x :: rest, h => mm_vk_app (rest := rest) h
  | .inr (.inl x) :: rest, h => mm_vk_app (rest := rest) h
  | .inr (.inr none) :: rest, h => mm_vk_app (rest := rest) h
  | .inr (.inr (some x)) :: rest, h => by
    simp only [List.cons_append, mm_vk, Bool.and_eq_true] at h ⊢
    exact ⟨⟨h.1, (mm_vk_app h.2).1⟩, (mm_vk_app h.2).2⟩
/-- behind a call -/
theorem mm_after {mc' ms' : Nat} {rest : List mm_V} {Po' : mm_Po} {p : Program} {l : Launch} {e : Env} {R : Room} {s : State} {m : MethodId} {args : Array Value} {below : List Frame} {meth : Method} {c : Code} {A : Nat → Prop} {ad : Nat → Nat} {ty : FieldType → ClassId} {D : va_G} {H : Heap} {locs : List Loc} {ls : Array Slot} {Q : State → Prop} {st0 : List Value} {a : Array Value}
    (hAt : mm_At X d mc ms mi p R s m args meth c A ad ty D) (hWd : mm_Wd A ad ty D La M s.heap H locs) (hL : lv_has ls mi.2.2.1 (mm_lo ad L))
    (hK : ∀ (r : Option mm_V) (La' : List mm_S) (M' : mm_M) (ad' : Nat → Nat) (H' : Heap) (locs' : List Loc) (ls' : Array Slot) (pc' ck' cs' : Nat), Po r La' M' → mm_rt mi pc' r → (∀ i, i < La.length ∨ 1000 ≤ i → ad' i = ad i) → mm_Wd A ad' ty D La' M' s.heap H' locs' → ck' ≤ mc → cs' ≤ ms → W p l e R s m args below meth c H' locs' ck' cs' Q (F0 m pc' ls' (r.toList.map (mm_cv ad'))))
    (hv : mm_vk La.length (rest ++ L.map (fun q => q.2)) = true) (hm : ck + mc' ≤ mc ∧ cs + ms' ≤ ms)
    (hr : va_Run p l e R s m args below meth c H locs ck cs mc' ms' (F0 m pc ls st0) (rest.map (mm_cv ad)) (mm_Qc Po' La M ad ty D H.size a) (va_A (mm_ws ty ad La M) H.size))
    (hP : ∀ r La' M', Po' r La' M' → La.length ≤ La'.length ∧ mm_G X d mc ms mi Po (pc + 3) L (r.toList ++ rest) La' M' (ck + mc') (cs + ms')) :
    W p l e R s m args below meth c H locs ck cs Q (F0 m pc ls st0) := by
  intro T hT Z
  obtain ⟨v, st₀, t, T', Lq, h0, Z', hLq, e1, e2, ⟨r, La', M', ad', hv1, hPo, had, hP', hD', hF⟩, go⟩ := hr T hT Z
  obtain ⟨hlen, hG⟩ := hP r La' M' hPo
  have hvv : v = r.map (mm_cv ad') := by injection hv1
  have hF : H.size ≤ t.heap.size ∧ ∀ q : Nat, q < H.size → ¬ va_A (mm_ws ty ad La M) H.size q → t.heap[q]? = H[q]? := by
    unfold va_F at hF
    rw [h0] at hF
    exact hF
  have hAs := mm_A_sub hWd hAt.2.2.2.2.2.2.2.2.1
  have hv2 := mm_vk_app hv
  have hWd' : mm_Wd A ad' ty D La' M' s.heap T'.heap (locs ++ Lq) := by
    rw [e1]
    refine ⟨hP', hD'.weaken (fun _ _ _ h => hAs _ h), Nat.le_trans hWd.2.2.1 hF.1, fun q h3 h4 => ?_, fun q hq => ?_⟩
    · rw [hF.2 q (Nat.lt_of_lt_of_le h3 hWd.2.2.1) (fun z => h4 (hAs q z))]
      exact hWd.2.2.2.1 q h3 h4
    · rcases List.mem_append.mp hq with h | h
      · exact hWd.2.2.2.2 q h
      · exact hAs _ (hLq q h)
  have hAt' : mm_At X d mc ms mi p R s m args meth c A ad' ty D := ⟨hAt.1, hAt.2.1, hAt.2.2.1, hAt.2.2.2.1, hAt.2.2.2.2.1, hAt.2.2.2.2.2.1, hAt.2.2.2.2.2.2.1.ad (fun i hi => had i (Or.inr hi)), hAt.2.2.2.2.2.2.2⟩
  obtain ⟨t2, a1, b1⟩ := hG p l e R s m args below meth c A ad' ty D T'.heap (locs ++ Lq) ls Q hAt' hWd' (by rw [mm_vk_lo had L hv2.2]; exact hL) (fun r2 La2 M2 ad2 H2 locs2 ls2 pc2 ck2 cs2 q1 q2 q3 => hK r2 La2 M2 ad2 H2 locs2 ls2 pc2 ck2 cs2 q1 q2 (fun i hi => (q3 i (hi.imp (fun h => Nat.lt_of_lt_of_le h hlen) id)).trans (had i hi))) hm.1 hm.2 T' rfl Z'
  refine ⟨t2, go t2 ?_, b1⟩
  have hfr : (F0 m (pc + 3) ls ((r.toList ++ rest).map (mm_cv ad'))) = { F0 m pc ls st0 with pc := (F0 m pc ls st0).pc + 3, stack := v.toList ++ rest.map (mm_cv ad) } := by
    rw [hvv, List.map_append, mm_vk_map had rest hv2.1]
    cases r <;> rfl
  rw [hfr] at a1
  exact a1
/-- what a callee must be: no special class, so many arguments, so many locals -/
def mm_yk (mi' : mm_Mi) (n w : Nat) : Bool := plainName mi'.1.cls && !(mi'.1.cls == "java/lang/invoke/MethodHandle") && !(mi'.1.cls == "java/lang/invoke/VarHandle") && ((parseMethodDescriptor mi'.1.desc).map (fun q => q.parameters.length) == some n) && decide (mi'.2.2.1 ≤ 41) && decide (w ≤ mi'.2.2.1)
theorem mm_yk_of {mi' : mm_Mi} {n w : Nat} (h : mm_yk mi' n w = true) : plainName mi'.1.cls = true ∧ (mi'.1.cls ≠ "java/lang/invoke/MethodHandle" ∧ mi'.1.cls ≠ "java/lang/invoke/VarHandle" ∧ (parseMethodDescriptor mi'.1.desc).map (fun q => q.parameters.length) = some n) ∧ mi'.2.2.1 ≤ 41 ∧ w ≤ mi'.2.2.1 := by
  simp only [mm_yk, Bool.and_eq_true, Bool.not_eq_true', beq_eq_false_iff_ne, beq_iff_eq, decide_eq_true_eq] at h
  exact ⟨h.1.1.1.1.1, ⟨h.1.1.1.1.2, h.1.1.1.2, h.1.1.2⟩, h.1.2, h.2⟩
theorem mm_gz {mi' : mm_Mi} (wc : Cond.code mi'.1 mi'.2.1 mi'.2.2.1 mi'.2.2.2 ∈ mm_tbl) : GoodIn mm_tbl (mm_wz mi') := fun w h => (List.mem_cons.mp h).elim (fun e => e ▸ mm_gg _ wc) (fun h => mm_gg w h)
theorem mm_mono {mi' : mm_Mi} {mc' ms' : Nat} {As : List mm_V} {Po' Po2 : mm_Po} (h : ∀ r La' M', Po' r La' M' → Po2 r La' M') (E : mm_E X d mc' ms' mi' As Po' La M) : mm_E X d mc' ms' mi' As Po2 La M := mm_mo h E
/-- the post of a callee, with: cells only come -/
def mm_Pn (La : List mm_S) (P : mm_Po) : mm_Po := fun r La' M' => La.length ≤ La'.length ∧ P r La' M'
theorem mm_callV {idx b ci mc' ms' : Nat} {mi' : mm_Mi} {q : vw_C} {fs : List mm_V} (As rest : List mm_V) (hd : decode mi.2.1 pc = .ok (.invokevirtual idx, 3)) (hst : st = As.reverse ++ v_r b :: rest)
    (wl : Cond.methodLink mi.1.cls idx mi'.1 ∈ mm_tbl) (wi : Cond.instanceMethod mi'.1 ∈ mm_tbl) (wv : Cond.selects mi'.1.cls mi'.1 mi'.1 ∈ mm_tbl) (wn : Cond.initialized mi'.1.cls ∈ mm_tbl) (wc : Cond.code mi'.1 mi'.2.1 mi'.2.2.1 mi'.2.2.2 ∈ mm_tbl)
    (hy : mm_yk mi' As.length (mm_wd (v_r b :: As)) = true) (hb : La[b]? = some (.inr (ci, fs))) (hc : vwCl[ci]? = some q) (hq : q.1 = mi'.1.cls) (hcat : mm_wd rest ≤ 8) (hv : mm_vk La.length (rest ++ L.map (fun q => q.2)) = true) (hm : ck + mc' ≤ mc ∧ cs + ms' ≤ ms)
    (E : mm_E X d mc' ms' mi' (v_r b :: As) (mm_Pn La (fun r La' M' => mm_G X (d + 1) mc ms mi Po (pc + 3) L (r.toList ++ rest) La' M' (ck + mc') (cs + ms'))) La M) : mm_G X (d + 1) mc ms mi Po pc L st La M ck cs := by
  intro p l e R s m args below meth c A ad ty D H locs ls Q hAt hWd hL hK h1 h2
  obtain ⟨y1, y2, y3, y4⟩ := mm_yk_of hy
  obtain ⟨r1, r2, r3, r4⟩ := hAt.2.2.2.2.2.1
  have hts := hAt.2.2.2.2.1
  have hM := mm_met y1 y4 E l ad ty D H.size
  have cb := callB_of (own := mi.1.cls) (index := idx) (y := mi'.1) (bytes := mi'.2.1) (maxL := mi'.2.2.1) (ret := mi'.2.2.2) (ws := mm_wz mi') (R := R) (rm := mm_rm d mc' ms') (mc := mc') (ms := ms') As.length hts (mm_gz wc) rfl rfl rfl (hts _ wn) (hts _ wl) y2 (by simp only [mm_rm]; omega)
  have hrun := va_runV (e := e) (below := below) (meth := meth) (g := F0 m pc ls (st.map (mm_cv ad))) (As := As.map (mm_cv ad)) (rest := rest.map (mm_cv ad)) (b := ad b) (C := mi'.1.cls) (cells := ck) (slots := cs) (locs := locs) ⟨hAt.1, hAt.2.1, hAt.2.2.1, hAt.2.2.2.1, hts⟩ hM ⟨cb, hts _ wi, hts _ wv⟩ ⟨mm_Pc_blind, by rw [← hq]; exact va_recv hAt.2.2.2.2.2.2.2.1 hWd.1 hc (mm_ws_at hb), fun U hU hW => mm_pre (As := v_r b :: As) hAt hWd U hU hW⟩ rfl (by simp) hL.1 (by rw [hst]; simp [mm_cv]) (lv_room (by rw [mm_wd_cat]; exact hcat)) hd ⟨Nat.le_trans hm.1 r3, Nat.le_trans hm.2 r4⟩
  exact mm_after hAt hWd hL hK hv hm hrun (fun _ _ _ h => h)
theorem mm_callS {idx mc' ms' : Nat} {mi' : mm_Mi} (As rest : List mm_V) (hd : decode mi.2.1 pc = .ok (.invokestatic idx, 3)) (hst : st = As.reverse ++ rest)
    (wl : Cond.methodLink mi.1.cls idx mi'.1 ∈ mm_tbl) (wi : Cond.static mi'.1 ∈ mm_tbl) (wn : Cond.initialized mi'.1.cls ∈ mm_tbl) (wc : Cond.code mi'.1 mi'.2.1 mi'.2.2.1 mi'.2.2.2 ∈ mm_tbl)
    (hy : mm_yk mi' As.length (mm_wd As) = true) (hcat : mm_wd rest ≤ 8) (hv : mm_vk La.length (rest ++ L.map (fun q => q.2)) = true) (hm : ck + mc' ≤ mc ∧ cs + ms' ≤ ms)
    (E : mm_E X d mc' ms' mi' As (mm_Pn La (fun r La' M' => mm_G X (d + 1) mc ms mi Po (pc + 3) L (r.toList ++ rest) La' M' (ck + mc') (cs + ms'))) La M) : mm_G X (d + 1) mc ms mi Po pc L st La M ck cs := by
  intro p l e R s m args below meth c A ad ty D H locs ls Q hAt hWd hL hK h1 h2
  obtain ⟨y1, y2, y3, y4⟩ := mm_yk_of hy
  obtain ⟨r1, r2, r3, r4⟩ := hAt.2.2.2.2.2.1
  have hts := hAt.2.2.2.2.1
  have hM := mm_met y1 y4 E l ad ty D H.size
  have cb := callB_of (own := mi.1.cls) (index := idx) (y := mi'.1) (bytes := mi'.2.1) (maxL := mi'.2.2.1) (ret := mi'.2.2.2) (ws := mm_wz mi') (R := R) (rm := mm_rm d mc' ms') (mc := mc') (ms := ms') As.length hts (mm_gz wc) rfl rfl rfl (hts _ wn) (hts _ wl) y2 (by simp only [mm_rm]; omega)
  have hrun := va_runS (e := e) (below := below) (meth := meth) (g := F0 m pc ls (st.map (mm_cv ad))) (As := As.map (mm_cv ad)) (rest := rest.map (mm_cv ad)) (cells := ck) (slots := cs) (locs := locs) ⟨hAt.1, hAt.2.1, hAt.2.2.1, hAt.2.2.2.1, hts⟩ hM ⟨cb, hts _ wi⟩ ⟨mm_Pc_blind, fun U hU hW => mm_pre (As := As) hAt hWd U hU hW⟩ rfl (by simp) hL.1 (by rw [hst]; simp) (lv_room (by rw [mm_wd_cat]; exact hcat)) hd ⟨Nat.le_trans hm.1 r3, Nat.le_trans hm.2 r4⟩
  exact mm_after hAt hWd hL hK hv hm hrun (fun _ _ _ h => h)
/-- a method of a text that nobody writes -/
theorem mm_callT {idx i mc' ms' : Nat} {mi' : mm_Mi} (As rest : List mm_V) (hd : decode mi.2.1 pc = .ok (.invokevirtual idx, 3)) (hst : st = As.reverse ++ v_r (1002 + i) :: rest)
    (wl : Cond.methodLink mi.1.cls idx mi'.1 ∈ mm_tbl) (wi : Cond.instanceMethod mi'.1 ∈ mm_tbl) (wv : Cond.selects mi'.1.cls mi'.1 mi'.1 ∈ mm_tbl) (wn : Cond.initialized mi'.1.cls ∈ mm_tbl) (wc : Cond.code mi'.1 mi'.2.1 mi'.2.2.1 mi'.2.2.2 ∈ mm_tbl)
    (hy : mm_yk mi' As.length (mm_wd (v_r (1002 + i) :: As)) = true) (hi : i < 5) (hq : mi'.1.cls = "java/lang/String") (hcat : mm_wd rest ≤ 8) (hv : mm_vk La.length (rest ++ L.map (fun q => q.2)) = true) (hm : ck + mc' ≤ mc ∧ cs + ms' ≤ ms)
    (E : mm_E X d mc' ms' mi' (v_r (1002 + i) :: As) (mm_Pn La (fun r La' M' => mm_G X (d + 1) mc ms mi Po (pc + 3) L (r.toList ++ rest) La' M' (ck + mc') (cs + ms'))) La M) : mm_G X (d + 1) mc ms mi Po pc L st La M ck cs := by
  intro p l e R s m args below meth c A ad ty D H locs ls Q hAt hWd hL hK h1 h2
  obtain ⟨y1, y2, y3, y4⟩ := mm_yk_of hy
  obtain ⟨r1, r2, r3, r4⟩ := hAt.2.2.2.2.2.1
  have hts := hAt.2.2.2.2.1
  have hM := mm_met y1 y4 E l ad ty D H.size
  have cb := callB_of (own := mi.1.cls) (index := idx) (y := mi'.1) (bytes := mi'.2.1) (maxL := mi'.2.2.1) (ret := mi'.2.2.2) (ws := mm_wz mi') (R := R) (rm := mm_rm d mc' ms') (mc := mc') (ms := ms') As.length hts (mm_gz wc) rfl rfl rfl (hts _ wn) (hts _ wl) y2 (by simp only [mm_rm]; omega)
  have hrun := va_runV (e := e) (below := below) (meth := meth) (g := F0 m pc ls (st.map (mm_cv ad))) (As := As.map (mm_cv ad)) (rest := rest.map (mm_cv ad)) (b := ad (1002 + i)) (C := mi'.1.cls) (cells := ck) (slots := cs) (locs := locs) ⟨hAt.1, hAt.2.1, hAt.2.2.1, hAt.2.2.2.1, hts⟩ hM ⟨cb, hts _ wi, hts _ wv⟩ ⟨mm_Pc_blind, by rw [hq]; exact vk_recv (adK := fun i => ad (1002 + i)) (i := i) hAt.2.2.2.2.2.2.1.2.2.2.1 hi hWd.2.2, fun U hU hW => mm_pre (As := v_r (1002 + i) :: As) hAt hWd U hU hW⟩ rfl (by simp) hL.1 (by rw [hst]; simp [mm_cv]) (lv_room (by rw [mm_wd_cat]; exact hcat)) hd ⟨Nat.le_trans hm.1 r3, Nat.le_trans hm.2 r4⟩
  exact mm_after hAt hWd hL hK hv hm hrun (fun _ _ _ h => h)
/-- a nest mate's static method -/
theorem mm_callN {idx mc' ms' : Nat} {mi' : mm_Mi} (As rest : List mm_V) (hd : decode mi.2.1 pc = .ok (.invokestatic idx, 3)) (hst : st = As.reverse ++ rest)
    (wl : (mi.1.cls, idx, mi'.1, RX9) ∈ mm_nest) (wi : Cond.static mi'.1 ∈ mm_tbl) (wn : Cond.initialized mi'.1.cls ∈ mm_tbl) (wc : Cond.code mi'.1 mi'.2.1 mi'.2.2.1 mi'.2.2.2 ∈ mm_tbl)
    (hy : mm_yk mi' As.length (mm_wd As) = true) (hcat : mm_wd rest ≤ 8) (hv : mm_vk La.length (rest ++ L.map (fun q => q.2)) = true) (hm : ck + mc' ≤ mc ∧ cs + ms' ≤ ms)
    (E : mm_E X d mc' ms' mi' As (mm_Pn La (fun r La' M' => mm_G X (d + 1) mc ms mi Po (pc + 3) L (r.toList ++ rest) La' M' (ck + mc') (cs + ms'))) La M) : mm_G X (d + 1) mc ms mi Po pc L st La M ck cs := by
  intro p l e R s m args below meth c A ad ty D H locs ls Q hAt hWd hL hK h1 h2
  obtain ⟨y1, y2, y3, y4⟩ := mm_yk_of hy
  obtain ⟨r1, r2, r3, r4⟩ := hAt.2.2.2.2.2.1
  have hts := hAt.2.2.2.2.1
  have hM := mm_met y1 y4 E l ad ty D H.size
  have cb := va_cnB (args := args) (s := s) (R := R) (own := mi.1.cls) (host := RX9) (index := idx) (y := mi'.1) (bytes := mi'.2.1) (maxL := mi'.2.2.1) (ret := mi'.2.2.2) (ws := mm_wz mi') (rm := mm_rm d mc' ms') (mc := mc') (ms := ms') As.length hts (mm_gz wc) rfl rfl rfl (hAt.2.2.2.2.2.2.1.2.2.2.2.2.2.1 _ wl) (hts _ wn) y2 (by simp only [mm_rm]; omega)
  have hrun := va_runSN (e := e) (below := below) (meth := meth) (g := F0 m pc ls (st.map (mm_cv ad))) (As := As.map (mm_cv ad)) (rest := rest.map (mm_cv ad)) (cells := ck) (slots := cs) (locs := locs) ⟨hAt.1, hAt.2.1, hAt.2.2.1, hAt.2.2.2.1, hts⟩ hM ⟨cb, hts _ wi, trivial⟩ ⟨mm_Pc_blind, fun U hU hW => mm_pre (As := As) hAt hWd U hU hW⟩ rfl (by simp) hL.1 (by rw [hst]; simp) (lv_room (by rw [mm_wd_cat]; exact hcat)) hd ⟨Nat.le_trans hm.1 r3, Nat.le_trans hm.2 r4⟩
  exact mm_after hAt hWd hL hK hv hm hrun (fun _ _ _ h => h)
/-- a constructor; a nest mate's -/
theorem mm_callI {idx b mc' ms' : Nat} {mi' : mm_Mi} (As rest : List mm_V) (hd : decode mi.2.1 pc = .ok (.invokespecial idx, 3)) (hst : st = As.reverse ++ v_r b :: rest)
    (wl : Cond.methodLink mi.1.cls idx mi'.1 ∈ mm_tbl) (wi : Cond.instanceMethod mi'.1 ∈ mm_tbl) (wn : Cond.initialized mi'.1.cls ∈ mm_tbl) (wc : Cond.code mi'.1 mi'.2.1 mi'.2.2.1 mi'.2.2.2 ∈ mm_tbl) (hi : mi'.1.name = "<init>") (hret : mi'.2.2.2 = none)
    (hy : mm_yk mi' As.length (mm_wd (v_r b :: As)) = true) (hcat : mm_wd rest ≤ 8) (hv : mm_vk La.length (rest ++ L.map (fun q => q.2)) = true) (hm : ck + mc' ≤ mc ∧ cs + ms' ≤ ms)
    (E : mm_E X d mc' ms' mi' (v_r b :: As) (mm_Pn La (fun r La' M' => mm_G X (d + 1) mc ms mi Po (pc + 3) L (r.toList ++ rest) La' M' (ck + mc') (cs + ms'))) La M) : mm_G X (d + 1) mc ms mi Po pc L st La M ck cs := by
  intro p l e R s m args below meth c A ad ty D H locs ls Q hAt hWd hL hK h1 h2
  obtain ⟨y1, y2, y3, y4⟩ := mm_yk_of hy
  obtain ⟨r1, r2, r3, r4⟩ := hAt.2.2.2.2.2.1
  have hts := hAt.2.2.2.2.1
  have hM := mm_met y1 y4 E l ad ty D H.size
  have cb := callB_of (own := mi.1.cls) (index := idx) (y := mi'.1) (bytes := mi'.2.1) (maxL := mi'.2.2.1) (ret := none) (ws := mm_wz mi') (R := R) (rm := mm_rm d mc' ms') (mc := mc') (ms := ms') As.length hts (mm_gz wc) (by rw [mm_wz, hret]) rfl rfl (hts _ wn) (hts _ wl) y2 (by simp only [mm_rm]; omega)
  have hrun := va_runI (e := e) (below := below) (meth := meth) (g := F0 m pc ls (st.map (mm_cv ad))) (As := As.map (mm_cv ad)) (rest := rest.map (mm_cv ad)) (b := ad b) (cells := ck) (slots := cs) (locs := locs) ⟨hAt.1, hAt.2.1, hAt.2.2.1, hAt.2.2.2.1, hts⟩ hM ⟨cb, hi, hts _ wi⟩ ⟨mm_Pc_blind, fun U hU hW => mm_pre (As := v_r b :: As) hAt hWd U hU hW⟩ rfl (by simp) hL.1 (by rw [hst]; simp [mm_cv]) (lv_room (by rw [mm_wd_cat]; exact hcat)) hd ⟨Nat.le_trans hm.1 r3, Nat.le_trans hm.2 r4⟩
  exact mm_after hAt hWd hL hK hv hm hrun (fun _ _ _ h => h)
theorem mm_callJ {idx b mc' ms' : Nat} {mi' : mm_Mi} (As rest : List mm_V) (hd : decode mi.2.1 pc = .ok (.invokespecial idx, 3)) (hst : st = As.reverse ++ v_r b :: rest)
    (wl : (mi.1.cls, idx, mi'.1, RX9) ∈ mm_nest) (wi : Cond.instanceMethod mi'.1 ∈ mm_tbl) (wn : Cond.initialized mi'.1.cls ∈ mm_tbl) (wc : Cond.code mi'.1 mi'.2.1 mi'.2.2.1 mi'.2.2.2 ∈ mm_tbl) (hi : mi'.1.name = "<init>") (hret : mi'.2.2.2 = none)
    (hy : mm_yk mi' As.length (mm_wd (v_r b :: As)) = true) (hcat : mm_wd rest ≤ 8) (hv : mm_vk La.length (rest ++ L.map (fun q => q.2)) = true) (hm : ck + mc' ≤ mc ∧ cs + ms' ≤ ms)
    (E : mm_E X d mc' ms' mi' (v_r b :: As) (mm_Pn La (fun r La' M' => mm_G X (d + 1) mc ms mi Po (pc + 3) L (r.toList ++ rest) La' M' (ck + mc') (cs + ms'))) La M) : mm_G X (d + 1) mc ms mi Po pc L st La M ck cs := by
  intro p l e R s m args below meth c A ad ty D H locs ls Q hAt hWd hL hK h1 h2
  obtain ⟨y1, y2, y3, y4⟩ := mm_yk_of hy
  obtain ⟨r1, r2, r3, r4⟩ := hAt.2.2.2.2.2.1
  have hts := hAt.2.2.2.2.1
  have hM := mm_met y1 y4 E l ad ty D H.size
  have cb := va_cnB (args := args) (s := s) (R := R) (own := mi.1.cls) (host := RX9) (index := idx) (y := mi'.1) (bytes := mi'.2.1) (maxL := mi'.2.2.1) (ret := none) (ws := mm_wz mi') (rm := mm_rm d mc' ms') (mc := mc') (ms := ms') As.length hts (mm_gz wc) (by rw [mm_wz, hret]) rfl rfl (hAt.2.2.2.2.2.2.1.2.2.2.2.2.2.1 _ wl) (hts _ wn) y2 (by simp only [mm_rm]; omega)
  have hrun := va_runIN (e := e) (below := below) (meth := meth) (g := F0 m pc ls (st.map (mm_cv ad))) (As := As.map (mm_cv ad)) (rest := rest.map (mm_cv ad)) (b := ad b) (cells := ck) (slots := cs) (locs := locs) ⟨hAt.1, hAt.2.1, hAt.2.2.1, hAt.2.2.2.1, hts⟩ hM ⟨cb, hi, hts _ wi⟩ ⟨mm_Pc_blind, fun U hU hW => mm_pre (As := v_r b :: As) hAt hWd U hU hW⟩ rfl (by simp) hL.1 (by rw [hst]; simp [mm_cv]) (lv_room (by rw [mm_wd_cat]; exact hcat)) hd ⟨Nat.le_trans hm.1 r3, Nat.le_trans hm.2 r4⟩
  exact mm_after hAt hWd hL hK hv hm hrun (fun _ _ _ h => h)
theorem mm_oinit {idx b : Nat} (hd : decode mi.2.1 pc = .ok (.invokespecial idx, 3)) (wl : Cond.methodLink mi.1.cls idx objectInit ∈ mm_tbl) (wi : Cond.instanceMethod objectInit ∈ mm_tbl) (wc : Cond.code objectInit ⟨#[0xb1]⟩ 1 none ∈ mm_tbl) (hcat : mm_wd st ≤ 8) (K : mm_G X d mc ms mi Po (pc + 3) L st La M ck cs) : mm_G X d mc ms mi Po pc L (v_r b :: st) La M ck cs := by
  intro p l e R s m args below meth c A ad ty D H locs ls Q hAt hWd hL hK h1 h2
  have kk := K p l e R s m args below meth c A ad ty D H locs ls Q hAt hWd hL hK h1 h2
  obtain ⟨r1, r2, r3, r4⟩ := hAt.2.2.2.2.2.1
  have hts := hAt.2.2.2.2.1
  have h8 : 2 * (F0 m pc ls (mm_cv ad (v_r b) :: st.map (mm_cv ad))).monitorRoom + ((st.map (mm_cv ad)).map fun v => v.category).sum ≤ 8 := lv_room (by rw [mm_wd_cat]; exact hcat)
  exact W.objInit hAt.1 hAt.2.1 hAt.2.2.2.1 (hts _ wl) (hts _ wi) (hts _ wc) (g := F0 m pc ls (mm_cv ad (v_r b) :: st.map (mm_cv ad))) rfl (by rw [hAt.2.2.1]; exact hL.1) rfl hd (by omega) (by omega) kk
end MMC
