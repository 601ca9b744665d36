/-! bits of longs -/
theorem wb_tb (n : Nat) : (lN n).toBitVec = BitVec.ofNat 64 n := rfl
theorem wb_inj {a b : Int64} (h : a.toBitVec = b.toBitVec) : a = b := Int64.toBitVec_inj.mp h
theorem wb_c : ∀ k, k < 64 → ((nI k).toInt64 &&& 63) = lN k := by decide +kernel
theorem wb_cu : ∀ k, k < 64 → ((nI k).toInt64.toUInt64 &&& Int64.toUInt64 63) = UInt64.ofNat k := by decide +kernel
theorem wb_sm : ∀ k, k < 64 → (BitVec.ofNat 64 k).smod 64 = BitVec.ofNat 64 k := by decide +kernel
def bq (x : Int64) (i : Nat) : Bool := x.toBitVec.getLsbD i
theorem bq_big {x : Int64} {i : Nat} (h : 64 ≤ i) : bq x i = false := BitVec.getLsbD_of_ge _ _ h
theorem bq_ext {x y : Int64} (h : ∀ i, i < 64 → bq x i = bq y i) : x = y := Int64.toBitVec_inj.mp (BitVec.eq_of_getLsbD_eq (fun i hi => h i hi))
theorem bq_and (x y : Int64) (i : Nat) : bq (x &&& y) i = (bq x i && bq y i) := by unfold bq; rw [Int64.toBitVec_and, BitVec.getLsbD_and]
theorem bq_or (x y : Int64) (i : Nat) : bq (x ||| y) i = (bq x i || bq y i) := by unfold bq; rw [Int64.toBitVec_or, BitVec.getLsbD_or]
theorem bq_xor (x y : Int64) (i : Nat) : bq (x ^^^ y) i = (bq x i ^^ bq y i) := by unfold bq; rw [Int64.toBitVec_xor, BitVec.getLsbD_xor]
theorem bq_0 (i : Nat) : bq 0 i = false := by
  unfold bq
  show (0#64).getLsbD i = false
  exact BitVec.getLsbD_zero
theorem bq_m1 {i : Nat} (h : i < 64) : bq (-1) i = true := by
  have ha : (-1 : Int64).toBitVec = BitVec.allOnes 64 := by decide
  unfold bq
  rw [ha, BitVec.getLsbD_allOnes]
  exact decide_eq_true h
theorem bq_not (x : Int64) {i : Nat} (h : i < 64) : bq (x ^^^ (-1)) i = !bq x i := by
  rw [bq_xor, bq_m1 h]
  cases bq x i <;> rfl
theorem bq_andn (x y : Int64) (i : Nat) : bq (x &&& (y ^^^ (-1))) i = (bq x i && !bq y i) := by
  rcases Nat.lt_or_ge i 64 with h | h
  · rw [bq_and, bq_not y h]
  · rw [bq_and, bq_big (x := x) h]; rfl
theorem bq_shl (x : Int64) {k : Nat} (hk : k < 64) (i : Nat) : bq (kShl x (nI k)) i = (decide (i < 64) && !decide (i < k) && bq x (i - k)) := by
  unfold bq kShl
  rw [wb_c k hk, Int64.toBitVec_shiftLeft, wb_tb, wb_sm k hk, BitVec.shiftLeft_eq', BitVec.toNat_ofNat, Nat.mod_eq_of_lt (show k < 2 ^ 64 by omega), BitVec.getLsbD_shiftLeft]
theorem bq_shr (x : Int64) {k : Nat} (hk : k < 64) (i : Nat) : bq (kShr x (nI k)) i = bq x (k + i) := by
  unfold bq kShr
  rw [wb_cu k hk]
  have h1 : (UInt64.ofNat k).toNat = k := by
    show (BitVec.ofNat 64 k).toNat = k
    rw [BitVec.toNat_ofNat, Nat.mod_eq_of_lt (by omega)]
  have e : (x.toUInt64 >>> UInt64.ofNat k).toInt64.toBitVec = x.toBitVec >>> k := by
    apply BitVec.eq_of_toNat_eq
    show (x.toUInt64 >>> UInt64.ofNat k).toNat = _
    rw [UInt64.toNat_shiftRight, h1, Nat.mod_eq_of_lt hk, BitVec.toNat_ushiftRight]
    rfl
  rw [e, BitVec.getLsbD_ushiftRight]
theorem bq_1 (i : Nat) : bq 1 i = decide (i = 0) := by
  unfold bq
  show (1#64).getLsbD i = _
  rw [BitVec.getLsbD_one]
  by_cases h : i = 0 <;> simp [h]
theorem bq_bit {k : Nat} (hk : k < 64) (i : Nat) : bq (gBit (nI k)) i = decide (i = k) := by
  unfold gBit
  rw [bq_shl 1 hk, bq_1]
  by_cases h : i = k
  · subst h
    simp [hk]
  · by_cases h2 : i < k
    · simp [h, h2]
    · have : i - k ≠ 0 := by omega
      simp [h, this]
theorem bq_eq0 {x : Int64} : x = 0 ↔ ∀ i, i < 64 → bq x i = false := ⟨fun h i _ => by rw [h, bq_0], fun h => bq_ext (fun i hi => by rw [h i hi, bq_0])⟩
theorem bq_ne0 {x : Int64} : x ≠ 0 ↔ ∃ i, i < 64 ∧ bq x i = true := by
  constructor
  · intro h
    apply Classical.byContradiction
    intro h2
    apply h
    apply bq_eq0.mpr
    intro i hi
    cases hb : bq x i with
    | false => rfl
    | true => exact absurd ⟨i, hi, hb⟩ h2
  · rintro ⟨i, hi, h⟩ e
    rw [e, bq_0] at h
    cases h
/-- a long's bits as a number's -/
theorem bq_nat (x : Int64) (i : Nat) : bq x i = x.toBitVec.toNat.testBit i := rfl
theorem bq_lN {n : Nat} (h : n < 2 ^ 64) (i : Nat) : bq (lN n) i = n.testBit i := by
  rw [bq_nat]
  show (BitVec.ofNat 64 n).toNat.testBit i = _
  rw [BitVec.toNat_ofNat, Nat.mod_eq_of_lt h]
/-- what a board's longs are, bit by bit: decided over all boards -/
theorem gAll_bits : ∀ R, R < 7 → ∀ C, C < 7 → ∀ i, i < 64 → bq (gAll R C) i = decide (i < R * C) := by decide +kernel
theorem gNo_bits : ∀ C, C < 7 → ∀ i, i < 64 → bq (gNo C) i = decide (i < C) := by decide +kernel
theorem gSo_bits : ∀ R, R < 7 → ∀ C, C < 7 → 1 ≤ R → ∀ i, i < 64 → bq (gSo R C) i = (decide (C * (R - 1) ≤ i) && decide (i < C * R)) := by decide +kernel
theorem gWe_bits : ∀ R, R < 7 → ∀ C, C < 7 → 1 ≤ C → ∀ i, i < 64 → bq (gWeN C R) i = (decide (i < R * C) && decide (i % C = 0)) := by decide +kernel
theorem gEa_bits : ∀ R, R < 7 → ∀ C, C < 7 → 1 ≤ C → ∀ i, i < 64 → bq (gEa R C) i = (decide (i < R * C) && decide (i % C = C - 1)) := by decide +kernel
