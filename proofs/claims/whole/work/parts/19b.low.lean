/-! bits of differences: the lowest bit, and the subsets of a set counted through -/
theorem low_tab : ∀ k, k < 64 → ∀ i, i < 64 → bq (gBit (nI k) - 1) i = decide (i < k) := by decide +kernel
theorem bq_neg (x : Int64) {i : Nat} (hi : i < 64) : bq (-x) i = (bq x i ^^ decide (∃ j, j < i ∧ bq x j = true)) := by
  unfold bq
  rw [Int64.toBitVec_neg, BitVec.getLsbD_neg, decide_eq_true hi, Bool.true_and]
def lowB (p : Nat → Bool) (k : Nat) : Prop := p k = true ∧ ∀ j, j < k → p j = false
theorem bq_lt {x : Int64} {i : Nat} (h : bq x i = true) : i < 64 := by
  rcases Nat.lt_or_ge i 64 with e | e
  · exact e
  · rw [bq_big e] at h; cases h
theorem low_bit {x : Int64} {k : Nat} (h : lowB (bq x) k) : x &&& (-x) = gBit (nI k) := by
  have hk := bq_lt h.1
  apply bq_ext
  intro i hi
  rw [bq_and, bq_bit hk, bq_neg x hi]
  rcases Nat.lt_trichotomy i k with e | e | e
  · rw [h.2 i e, decide_eq_false (show ¬ i = k by omega)]; rfl
  · have : decide (∃ j, j < i ∧ bq x j = true) = false := decide_eq_false (fun ⟨j, h1, h2⟩ => by rw [h.2 j (by omega)] at h2; cases h2)
    rw [this, e, h.1, decide_eq_true rfl]; rfl
  · have : decide (∃ j, j < i ∧ bq x j = true) = true := decide_eq_true ⟨k, e, h.1⟩
    rw [this, decide_eq_false (show ¬ i = k by omega)]
    cases bq x i <;> rfl
theorem ct_below : ∀ (n k : Nat), k ≤ n → fb_ct (fun i => decide (i < k)) n = k
  | 0, k, h => by rw [show k = 0 by omega]; rfl
  | n + 1, k, h => by
    rw [fb_ct_succ]
    rcases Nat.eq_or_lt_of_le h with e | e
    · rw [decide_eq_true (show n < k by omega), if_pos rfl]
      have : fb_ct (fun i => decide (i < k)) n = n := fb_ct_all.mpr (fun j hj => decide_eq_true (by omega))
      omega
    · rw [decide_eq_false (show ¬ n < k by omega), if_neg (by decide), ct_below n k (by omega)]; rfl
theorem gLow_at {x : Int64} {k : Nat} (h : lowB (bq x) k) : gLow x = nI k := by
  have hk := bq_lt h.1
  unfold gLow
  rw [low_bit h, jBC_eq]
  unfold pcn
  rw [fb_ct_cong (q := fun i => decide (i < k)) (fun i hi => low_tab k hk i hi), ct_below 64 k (by omega)]
theorem lowB_ex {p : Nat → Bool} : ∀ {n : Nat}, (∃ i, i < n ∧ p i = true) → ∃ k, k < n ∧ lowB p k
  | 0, ⟨i, h, _⟩ => absurd h (Nat.not_lt_zero i)
  | n + 1, ⟨i, h1, h2⟩ => by
    by_cases c : ∃ j, j < n ∧ p j = true
    · obtain ⟨k, a, b⟩ := lowB_ex c
      exact ⟨k, by omega, b⟩
    · refine ⟨n, Nat.lt_succ_self n, ?_, fun j hj => ?_⟩
      · rcases Nat.eq_or_lt_of_le (Nat.le_of_lt_succ h1) with e | e
        · rw [← e]; exact h2
        · exact absurd ⟨i, e, h2⟩ c
      · cases q : p j with
        | false => rfl
        | true => exact absurd ⟨j, hj, q⟩ c
theorem lowB_of {x : Int64} (h : x ≠ 0) : ∃ k, k < 64 ∧ lowB (bq x) k := lowB_ex (bq_ne0.mp h)
theorem allU_front (p : Nat → Bool) : ∀ k, allU p (k + 1) = (p 0 && allU (fun j => p (j + 1)) k)
  | 0 => by show (true && p 0) = (p 0 && true); rw [Bool.true_and, Bool.and_true]
  | k + 1 => by
    show (allU p (k + 1) && p (k + 1)) = (p 0 && (allU (fun j => p (j + 1)) k && p (k + 1)))
    rw [allU_front p k, Bool.and_assoc]
theorem tb_succ : ∀ (k m : Nat), (m + 1).testBit k = (m.testBit k ^^ allU m.testBit k)
  | 0, m => by
    show (m + 1).testBit 0 = (m.testBit 0 ^^ true)
    rw [Nat.testBit_zero, Nat.testBit_zero]
    rcases Nat.mod_two_eq_zero_or_one m with e | e
    · rw [show (m + 1) % 2 = 1 by omega, e]; rfl
    · rw [show (m + 1) % 2 = 0 by omega, e]; rfl
  | k + 1, m => by
    have hf : (fun j => m.testBit (j + 1)) = (m / 2).testBit := by
      funext j; rw [Nat.testBit_succ]
    rw [Nat.testBit_succ, Nat.testBit_succ, allU_front, hf, Nat.testBit_zero]
    rcases Nat.mod_two_eq_zero_or_one m with e | e
    · rw [show (m + 1) / 2 = m / 2 by omega, e]
      simp
    · rw [show (m + 1) / 2 = m / 2 + 1 by omega, e, tb_succ k (m / 2)]
      simp
theorem bq_sub (x y : Int64) {i : Nat} (hi : i < 64) : bq (x - y) i = (bq x i ^^ (!bq y i ^^ BitVec.carry i x.toBitVec (~~~y.toBitVec) true)) := by
  unfold bq
  have e : (x - y).toBitVec = x.toBitVec + ~~~y.toBitVec + BitVec.setWidth 64 (BitVec.ofBool true) := by
    rw [Int64.toBitVec_sub, BitVec.sub_eq_add_neg, BitVec.neg_eq_not_add, BitVec.add_assoc]
    rfl
  rw [e, BitVec.getLsbD_add_add_bool hi, BitVec.getLsbD_not, decide_eq_true hi, Bool.true_and]
theorem cr_s (x y : Int64) {i : Nat} (hi : i < 64) : BitVec.carry (i + 1) x.toBitVec (~~~y.toBitVec) true = Bool.atLeastTwo (bq x i) (!bq y i) (BitVec.carry i x.toBitVec (~~~y.toBitVec) true) := by
  rw [BitVec.carry_succ, BitVec.getLsbD_not, decide_eq_true hi, Bool.true_and]
  rfl
theorem fLaid_bits (sp : Int64) : ∀ (m : Nat) {f : Nat}, f < 64 → bq (fLaid sp m) f = (bq sp f && m.testBit (fb_ct (bq sp) f))
  | 0, f, _ => by
    show bq 0 f = _
    rw [bq_0, Nat.zero_testBit, Bool.and_false]
  | m + 1, f, hf => by
    have ih := fun {f : Nat} (h : f < 64) => fLaid_bits sp m h
    have cr : ∀ i, i ≤ 64 → BitVec.carry i (fLaid sp m).toBitVec (~~~sp.toBitVec) true = allU m.testBit (fb_ct (bq sp) i) := by
      intro i
      induction i with
      | zero => intro _; rw [BitVec.carry_zero]; rfl
      | succ i hi =>
        intro hle
        rw [cr_s _ _ (by omega), hi (by omega), ih (by omega)]
        cases hs : bq sp i with
        | false =>
          rw [ct_0 hs]
          cases allU m.testBit (fb_ct (bq sp) i) <;> rfl
        | true =>
          rw [ct_1 hs]
          show Bool.atLeastTwo (true && m.testBit (fb_ct (bq sp) i)) (!true) (allU m.testBit (fb_ct (bq sp) i)) = (allU m.testBit (fb_ct (bq sp) i) && m.testBit (fb_ct (bq sp) i))
          cases allU m.testBit (fb_ct (bq sp) i) <;> cases m.testBit (fb_ct (bq sp) i) <;> rfl
    show bq ((fLaid sp m - sp) &&& sp) f = _
    rw [bq_and, bq_sub _ _ hf, cr f (by omega), ih hf, tb_succ]
    cases bq sp f <;> cases m.testBit (fb_ct (bq sp) f) <;> cases allU m.testBit (fb_ct (bq sp) f) <;> rfl
theorem fLaid_in {sp : Int64} {m f : Nat} (h : bq (fLaid sp m) f = true) : bq sp f = true ∧ m.testBit (fb_ct (bq sp) f) = true := by
  rw [fLaid_bits sp m (bq_lt h), Bool.and_eq_true] at h
  exact h
theorem gSp_mono {R C : Nat} (hR1 : 1 ≤ R) (hR2 : R ≤ 6) (hC1 : 1 ≤ C) (hC2 : C ≤ 6) {x w w2 : Int64} (h : ∀ i, bq w i = true → bq w2 i = true) (hw2 : ∀ i, bq w2 i = true → i < R * C) {i : Nat} (hi : bq (gSp R C x w) i = true) : bq (gSp R C x w2) i = true := by
  rw [gSp_bits hR1 hR2 hC1 hC2 (fun i hi => hw2 i (h i hi))] at hi
  rw [gSp_bits hR1 hR2 hC1 hC2 hw2]
  exact RE_mono (fun f hf => h f hf) (fun f hf => ⟨hf.1, h f hf.2⟩) hi
theorem and_ne0 {x y : Int64} : x &&& y ≠ 0 ↔ ∃ i, bq x i = true ∧ bq y i = true := by
  rw [bq_ne0]
  constructor
  · rintro ⟨i, _, h⟩
    rw [bq_and, Bool.and_eq_true] at h
    exact ⟨i, h⟩
  · rintro ⟨i, h1, h2⟩
    exact ⟨i, bq_lt h1, by rw [bq_and, h1, h2]; rfl⟩
theorem fQ_mono2 {R C : Nat} (hR1 : 1 ≤ R) (hR2 : R ≤ 6) (hC1 : 1 ≤ C) (hC2 : C ≤ 6) {ow ot fr to : Int64} (how : ∀ i, bq ow i = true → i < R * C) (hsp : ∀ i, bq (gSpots R C ow ot) i = true → i < R * C) : qMono (fQ R C ow fr to (gSpots R C ow ot)) (pcn (gSpots R C ow ot)) := by
  intro i j _ _ hij hq
  unfold fQ at hq ⊢
  rw [decide_eq_true_iff] at hq ⊢
  rw [and_ne0] at hq ⊢
  obtain ⟨f, h1, h2⟩ := hq
  refine ⟨f, gSp_mono hR1 hR2 hC1 hC2 (fun g hg => ?_) (fun g hg => ?_) h1, h2⟩
  · rw [bq_or, Bool.or_eq_true] at hg ⊢
    rcases hg with hg | hg
    · exact Or.inl hg
    · obtain ⟨a, b⟩ := fLaid_in hg
      exact Or.inr (by rw [fLaid_bits _ _ (bq_lt hg), a, hij _ b]; rfl)
  · rw [bq_or, Bool.or_eq_true] at hg
    rcases hg with hg | hg
    · exact how g hg
    · exact hsp g (fLaid_in hg).1
