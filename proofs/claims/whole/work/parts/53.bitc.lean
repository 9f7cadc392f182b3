/-! how many bits -/
theorem fx_ushr_amt : ∀ j : Nat, j < 32 → (((nI j).toUInt32 &&& Int32.toUInt32 31).toBitVec % 32) = BitVec.ofNat 32 j := by decide
theorem fx_ushr_n {a j : Nat} (hj : j < 32) (ha : a < 2147483648) : fx_ushr (a : Int) (j : Int) = ((a / 2 ^ j : Nat) : Int) := by
  unfold fx_ushr
  show ((BitVec.ofNat 32 a) >>> (((nI j).toUInt32 &&& Int32.toUInt32 31).toBitVec % 32)).toInt = _
  rw [fx_ushr_amt j hj, BitVec.ushiftRight_eq']
  have e : (BitVec.ofNat 32 j).toNat = j := by rw [BitVec.toNat_ofNat]; omega
  have e2 : (BitVec.ofNat 32 a).toNat = a := by rw [BitVec.toNat_ofNat]; omega
  have h : (BitVec.ofNat 32 a >>> (BitVec.ofNat 32 j).toNat).toNat = a / 2 ^ j := by rw [e, BitVec.toNat_ushiftRight, e2, Nat.shiftRight_eq_div_pow]
  have h2 : a / 2 ^ j ≤ a := Nat.div_le_self _ _
  rw [BitVec.toInt_eq_toNat_of_lt (by rw [h]; omega), h]
def bcA (x : Nat) : Nat := x - (x / 2 &&& 1431655765)
def bcB (a : Nat) : Nat := (a &&& 858993459) + (a / 4 &&& 858993459)
def bcC (b : Nat) : Nat := (b + b / 16) &&& 252645135
def bcD (c : Nat) : Nat := c + c / 256
def bcE (d : Nat) : Nat := d + d / 65536
def bcN (x : Nat) : Nat := bcE (bcD (bcC (bcB (bcA x)))) &&& 63
def pcE (m : Nat) : Nat := m % 2 + m / 2 % 2 + m / 4 % 2 + m / 8 % 2 + m / 16 % 2 + m / 32 % 2 + m / 64 % 2 + m / 128 % 2 + m / 256 % 2 + m / 512 % 2 + m / 1024 % 2 + m / 2048 % 2 + m / 4096 % 2 + m / 8192 % 2 + m / 16384 % 2 + m / 32768 % 2
def allB (f : Nat → Bool) : Nat → Bool
  | 0 => true
  | n + 1 => f n && allB f n
theorem allB_all {f : Nat → Bool} : ∀ n : Nat, allB f n = true → ∀ i, i < n → f i = true
  | 0, _, i, hi => by omega
  | n + 1, h, i, hi => by
    rw [allB, Bool.and_eq_true] at h
    by_cases e : i = n
    · rw [e]; exact h.1
    · exact allB_all n h.2 i (by omega)
theorem bc_all : allB (fun h => allB (fun l => Nat.beq (bcN (256 * h + l)) (pcE (256 * h + l))) 256) 256 = true := by decide +kernel
theorem bcN_eq {x : Nat} (hx : x < 65536) : bcN x = pcE x := by
  have h := allB_all 256 bc_all (x / 256) (by omega)
  have h2 := allB_all 256 h (x % 256) (by omega)
  have h3 := Nat.eq_of_beq_eq_true h2
  rw [show 256 * (x / 256) + x % 256 = x by omega] at h3
  exact h3
theorem pcE_cntb (m : Nat) : cntb m = pcE m := by
  have hb : ∀ i : Nat, (if m.testBit i = true then (1 : Int) else 0) = ((m / 2 ^ i % 2 : Nat) : Int) := by
    intro i
    have h := Nat.testBit_eq_decide_div_mod_eq (x := m) (i := i)
    by_cases e : m.testBit i = true
    · rw [if_pos e]
      rw [h, decide_eq_true_eq] at e
      omega
    · rw [if_neg e]
      rw [h, decide_eq_true_eq] at e
      omega
  unfold cntb pcE
  simp only [rowc, hb, Nat.reducePow, Nat.div_one, Int.natCast_add, Int.zero_add]
