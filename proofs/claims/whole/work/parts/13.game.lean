/-! positions as numbers of base 3: digit k is 0 (empty), 1 (the maker's), 2 (the other's) -/
def dg (c k : Nat) : Nat := c / 3 ^ k % 3
theorem dg_lt (c k : Nat) : dg c k < 3 := Nat.mod_lt _ (by decide)
theorem dg_lo {c a k j : Nat} (h : j < k) : dg (c + a * 3 ^ k) j = dg c j := by
  unfold dg
  have e : a * 3 ^ k = 3 ^ j * (a * 3 ^ (k - j)) := by
    rw [Nat.mul_left_comm, ← Nat.pow_add, show j + (k - j) = k by omega]
  have e2 : a * 3 ^ (k - j) = 3 * (a * 3 ^ (k - j - 1)) := by
    rw [Nat.mul_left_comm, ← Nat.pow_succ', show (k - j - 1).succ = k - j by omega]
  rw [e, Nat.add_mul_div_left _ _ (Nat.pow_pos (by decide)), e2]
  omega
theorem dg_at {c a k : Nat} (h0 : dg c k = 0) (ha : a < 3) : dg (c + a * 3 ^ k) k = a := by
  unfold dg at h0 ⊢
  rw [Nat.add_mul_div_right _ _ (Nat.pow_pos (by decide))]
  omega
theorem dg_div {c a k : Nat} (h0 : dg c k = 0) (ha : a < 3) : (c + a * 3 ^ k) / 3 ^ (k + 1) = c / 3 ^ (k + 1) := by
  unfold dg at h0
  rw [Nat.pow_succ, ← Nat.div_div_eq_div_mul, ← Nat.div_div_eq_div_mul, Nat.add_mul_div_right _ _ (Nat.pow_pos (by decide))]
  omega
theorem dg_hi {c a k j : Nat} (h0 : dg c k = 0) (ha : a < 3) (h : k < j) : dg (c + a * 3 ^ k) j = dg c j := by
  unfold dg
  have e : ∀ x, x / 3 ^ j = x / 3 ^ (k + 1) / 3 ^ (j - (k + 1)) := by
    intro x
    rw [Nat.div_div_eq_div_mul, ← Nat.pow_add, show k + 1 + (j - (k + 1)) = j by omega]
  rw [e, e c, dg_div h0 ha]
theorem dg_put {c a k : Nat} (h0 : dg c k = 0) (ha : a < 3) (j : Nat) : dg (c + a * 3 ^ k) j = if j = k then a else dg c j := by
  rcases Nat.lt_trichotomy j k with h | h | h
  · rw [dg_lo h, if_neg (by omega)]
  · rw [h, dg_at h0 ha, if_pos rfl]
  · rw [dg_hi h0 ha h, if_neg (by omega)]
theorem dg_bound {c a k n : Nat} (hc : c < 3 ^ n) (h0 : dg c k = 0) (ha : a < 3) (hk : k < n) : c + a * 3 ^ k < 3 ^ n := by
  have e : ∀ x, x / 3 ^ n = x / 3 ^ (k + 1) / 3 ^ (n - (k + 1)) := by
    intro x
    rw [Nat.div_div_eq_div_mul, ← Nat.pow_add, show k + 1 + (n - (k + 1)) = n by omega]
  have h1 : (c + a * 3 ^ k) / 3 ^ n = 0 := by
    rw [e, dg_div h0 ha, ← e]
    exact Nat.div_eq_of_lt hc
  exact (Nat.div_eq_zero_iff_lt (Nat.pow_pos (by decide))).mp h1
theorem dg_0 (k : Nat) : dg 0 k = 0 := by unfold dg; simp
/-- the mask of the digits that are d -/
def mkD (d c : Nat) : Nat → Nat | 0 => 0 | n + 1 => mkD d c n + (if dg c n = d then 2 ^ n else 0)
theorem mkD_lt (d c : Nat) : ∀ n, mkD d c n < 2 ^ n
  | 0 => by unfold mkD; decide
  | n + 1 => by
    have := mkD_lt d c n
    unfold mkD
    rw [Nat.pow_succ]
    split <;> omega
theorem mkD_bit (d c : Nat) : ∀ n k, k < n → (mkD d c n).testBit k = decide (dg c k = d)
  | 0, k, h => absurd h (Nat.not_lt_zero k)
  | n + 1, k, h => by
    have hl := mkD_lt d c n
    unfold mkD
    rcases Nat.eq_or_lt_of_le (Nat.le_of_lt_succ h) with e | e
    · subst e
      by_cases hd : dg c k = d
      · rw [if_pos hd, Nat.add_comm, Nat.testBit_two_pow_add_eq, Nat.testBit_lt_two_pow hl, decide_eq_true hd]; rfl
      · rw [if_neg hd, Nat.add_zero, Nat.testBit_lt_two_pow hl, decide_eq_false hd]
    · by_cases hd : dg c n = d
      · rw [if_pos hd, Nat.add_comm, Nat.testBit_two_pow_add_gt e]; exact mkD_bit d c n k e
      · rw [if_neg hd, Nat.add_zero]; exact mkD_bit d c n k e
theorem mkD_out {d c n k : Nat} (h : n ≤ k) : (mkD d c n).testBit k = false :=
  Nat.testBit_lt_two_pow (Nat.lt_of_lt_of_le (mkD_lt d c n) (Nat.pow_le_pow_right (by decide) h))
theorem mkD_put {d c n k : Nat} (h0 : dg c k = 0) (hd : d = 1 ∨ d = 2) (hk : k < n) : mkD d (c + d * 3 ^ k) n = mkD d c n ||| 2 ^ k := by
  apply Nat.eq_of_testBit_eq
  intro i
  rw [Nat.testBit_or, Nat.testBit_two_pow]
  rcases Nat.lt_or_ge i n with h | h
  · rw [mkD_bit _ _ _ _ h, mkD_bit _ _ _ _ h, dg_put h0 (by omega)]
    by_cases e : i = k
    · subst e; rw [if_pos rfl]; simp
    · rw [if_neg e, decide_eq_false (fun e2 : k = i => e e2.symm), Bool.or_false]
  · rw [mkD_out h, mkD_out h, decide_eq_false (by omega)]; rfl
theorem mkD_keep {d a c n k : Nat} (h0 : dg c k = 0) (ha : a < 3) (hd0 : d ≠ 0) (hda : d ≠ a) : mkD d (c + a * 3 ^ k) n = mkD d c n := by
  apply Nat.eq_of_testBit_eq
  intro i
  rcases Nat.lt_or_ge i n with h | h
  · rw [mkD_bit _ _ _ _ h, mkD_bit _ _ _ _ h, dg_put h0 ha]
    by_cases e : i = k
    · subst e; rw [if_pos rfl, h0]
      rw [decide_eq_false (fun e : a = d => hda e.symm), decide_eq_false (fun e : 0 = d => hd0 e.symm)]
    · rw [if_neg e]
  · rw [mkD_out h, mkD_out h]
/-- how many digits are 0 -/
def zs (c : Nat) : Nat → Nat | 0 => 0 | n + 1 => zs c n + (if dg c n = 0 then 1 else 0)
theorem zs_le (c : Nat) : ∀ n, zs c n ≤ n
  | 0 => Nat.le_refl _
  | n + 1 => by have := zs_le c n; unfold zs; split <;> omega
theorem zs_0 : ∀ n, zs 0 n = n
  | 0 => rfl
  | n + 1 => by unfold zs; rw [zs_0 n, if_pos (dg_0 n)]
theorem zs_out {c a k : Nat} (h0 : dg c k = 0) (ha : a < 3) : ∀ {n}, n ≤ k → zs (c + a * 3 ^ k) n = zs c n
  | 0, _ => rfl
  | n + 1, h => by unfold zs; rw [zs_out h0 ha (by omega), dg_put h0 ha, if_neg (show ¬ n = k by omega)]
theorem zs_put {c a k : Nat} (h0 : dg c k = 0) (ha : a < 3) (ha0 : a ≠ 0) : ∀ {n}, k < n → zs (c + a * 3 ^ k) n + 1 = zs c n
  | 0, h => absurd h (Nat.not_lt_zero _)
  | n + 1, h => by
    unfold zs
    rcases Nat.eq_or_lt_of_le (Nat.le_of_lt_succ h) with e | e
    · subst e
      rw [zs_out h0 ha (Nat.le_refl _), dg_put h0 ha, if_pos rfl, if_neg ha0, h0, if_pos rfl]
    · have := zs_put h0 ha ha0 e
      rw [dg_put h0 ha, if_neg (show ¬ n = k by omega)]
      omega
theorem zs_pos {c : Nat} : ∀ {n}, 0 < zs c n → ∃ k, k < n ∧ dg c k = 0
  | 0, h => absurd h (Nat.lt_irrefl _)
  | n + 1, h => by
    by_cases e : dg c n = 0
    · exact ⟨n, Nat.lt_succ_self _, e⟩
    · unfold zs at h
      rw [if_neg e, Nat.add_zero] at h
      obtain ⟨k, h1, h2⟩ := zs_pos h
      exact ⟨k, by omega, h2⟩
theorem zs_zero {c n : Nat} (h : zs c n = 0) {k : Nat} (hk : k < n) : dg c k ≠ 0 := by
  intro e
  have key : ∀ {n}, k < n → 0 < zs c n := by
    intro n
    induction n with
    | zero => intro h; exact absurd h (Nat.not_lt_zero _)
    | succ n ih =>
      intro h
      unfold zs
      rcases Nat.eq_or_lt_of_le (Nat.le_of_lt_succ h) with q | q
      · subst q; rw [if_pos e]; omega
      · have := ih q; omega
  have := key hk
  omega
def anyU (p : Nat → Bool) : Nat → Bool | 0 => false | k + 1 => anyU p k || p k
def allU (p : Nat → Bool) : Nat → Bool | 0 => true | k + 1 => allU p k && p k
theorem anyU_iff {p : Nat → Bool} : ∀ {n}, anyU p n = true ↔ ∃ k, k < n ∧ p k = true
  | 0 => ⟨fun h => (by cases h), fun ⟨k, h, _⟩ => absurd h (Nat.not_lt_zero k)⟩
  | n + 1 => by
    unfold anyU
    rw [Bool.or_eq_true, anyU_iff]
    constructor
    · rintro (⟨k, h1, h2⟩ | h)
      · exact ⟨k, by omega, h2⟩
      · exact ⟨n, by omega, h⟩
    · rintro ⟨k, h1, h2⟩
      rcases Nat.eq_or_lt_of_le (Nat.le_of_lt_succ h1) with e | e
      · exact Or.inr (e ▸ h2)
      · exact Or.inl ⟨k, e, h2⟩
theorem allU_iff {p : Nat → Bool} : ∀ {n}, allU p n = true ↔ ∀ k, k < n → p k = true
  | 0 => ⟨fun _ k h => absurd h (Nat.not_lt_zero k), fun _ => rfl⟩
  | n + 1 => by
    unfold allU
    rw [Bool.and_eq_true, allU_iff]
    constructor
    · rintro ⟨h1, h2⟩ k hk
      rcases Nat.eq_or_lt_of_le (Nat.le_of_lt_succ hk) with e | e
      · exact e ▸ h2
      · exact h1 k e
    · intro h
      exact ⟨fun k hk => h k (by omega), h n (by omega)⟩
/-- whether the maker wins: d digits are 0, l: the maker is to lay -/
def gv (q : Nat → Bool) (n : Nat) : Nat → Nat → Bool → Bool
  | 0, c, _ => q (mkD 1 c n)
  | d + 1, c, l => if l then anyU (fun k => decide (dg c k = 0) && gv q n d (c + 1 * 3 ^ k) false) n else allU (fun k => !decide (dg c k = 0) || gv q n d (c + 2 * 3 ^ k) true) n
def qMono (q : Nat → Bool) (n : Nat) : Prop := ∀ i j, i < 2 ^ n → j < 2 ^ n → (∀ k, i.testBit k = true → j.testBit k = true) → q i = true → q j = true
theorem gv_won {q : Nat → Bool} {n : Nat} (hm : qMono q n) : ∀ (d c : Nat) (l : Bool), zs c n = d → q (mkD 1 c n) = true → gv q n d c l = true
  | 0, c, l, _, h => h
  | d + 1, c, l, hz, h => by
    have grow : ∀ k, k < n → dg c k = 0 → ∀ a, (a = 1 ∨ a = 2) → q (mkD 1 (c + a * 3 ^ k) n) = true := by
      intro k hk h0 a ha
      rcases ha with rfl | rfl
      · rw [mkD_put h0 (Or.inl rfl) hk]
        refine hm _ _ (mkD_lt _ _ _) (by rw [← mkD_put h0 (Or.inl rfl) hk]; exact mkD_lt _ _ _) (fun j hj => ?_) h
        rw [Nat.testBit_or, hj]; rfl
      · rw [mkD_keep h0 (by decide) (by decide) (by decide)]; exact h
    have less : ∀ k, k < n → dg c k = 0 → ∀ a, (a = 1 ∨ a = 2) → zs (c + a * 3 ^ k) n = d := by
      intro k hk h0 a ha
      have := zs_put (a := a) h0 (by omega) (by omega) hk
      omega
    unfold gv
    cases l with
    | true =>
      simp only [if_true]
      rw [anyU_iff]
      obtain ⟨k, hk, h0⟩ := zs_pos (c := c) (n := n) (by omega)
      exact ⟨k, hk, by rw [decide_eq_true h0, gv_won hm d _ _ (less k hk h0 1 (Or.inl rfl)) (grow k hk h0 1 (Or.inl rfl))]; rfl⟩
    | false =>
      simp only [Bool.false_eq_true, if_false]
      rw [allU_iff]
      intro k hk
      by_cases h0 : dg c k = 0
      · rw [gv_won hm d _ _ (less k hk h0 2 (Or.inr rfl)) (grow k hk h0 2 (Or.inr rfl))]; simp
      · rw [decide_eq_false h0]; rfl
/-- the mask of all digits that are not 2 -/
def mkN (c : Nat) : Nat → Nat | 0 => 0 | n + 1 => mkN c n + (if dg c n = 2 then 0 else 2 ^ n)
theorem mkN_lt (c : Nat) : ∀ n, mkN c n < 2 ^ n
  | 0 => by unfold mkN; decide
  | n + 1 => by
    have := mkN_lt c n
    unfold mkN
    rw [Nat.pow_succ]
    split <;> omega
theorem mkN_bit (c : Nat) : ∀ n k, k < n → (mkN c n).testBit k = !decide (dg c k = 2)
  | 0, k, h => absurd h (Nat.not_lt_zero k)
  | n + 1, k, h => by
    have hl := mkN_lt c n
    unfold mkN
    rcases Nat.eq_or_lt_of_le (Nat.le_of_lt_succ h) with e | e
    · subst e
      by_cases hd : dg c k = 2
      · rw [if_pos hd, Nat.add_zero, Nat.testBit_lt_two_pow hl, decide_eq_true hd]; rfl
      · rw [if_neg hd, Nat.add_comm, Nat.testBit_two_pow_add_eq, Nat.testBit_lt_two_pow hl, decide_eq_false hd]
    · by_cases hd : dg c n = 2
      · rw [if_pos hd, Nat.add_zero]; exact mkN_bit c n k e
      · rw [if_neg hd, Nat.add_comm, Nat.testBit_two_pow_add_gt e]; exact mkN_bit c n k e
theorem mkN_out {c n k : Nat} (h : n ≤ k) : (mkN c n).testBit k = false :=
  Nat.testBit_lt_two_pow (Nat.lt_of_lt_of_le (mkN_lt c n) (Nat.pow_le_pow_right (by decide) h))
theorem gv_lost {q : Nat → Bool} {n : Nat} (hm : qMono q n) : ∀ (d c : Nat) (l : Bool), zs c n = d → q (mkN c n) = false → gv q n d c l = false
  | 0, c, l, hz, h => by
    show q (mkD 1 c n) = false
    have e : mkD 1 c n = mkN c n := by
      apply Nat.eq_of_testBit_eq
      intro i
      rcases Nat.lt_or_ge i n with hi | hi
      · rw [mkD_bit _ _ _ _ hi, mkN_bit _ _ _ hi]
        have h1 := zs_zero hz hi
        have h2 := dg_lt c i
        by_cases h3 : dg c i = 1
        · rw [h3]; rfl
        · rw [show dg c i = 2 by omega]; rfl
      · rw [mkD_out hi, mkN_out hi]
    rw [e]; exact h
  | d + 1, c, l, hz, h => by
    have grow : ∀ k, k < n → dg c k = 0 → ∀ a, (a = 1 ∨ a = 2) → q (mkN (c + a * 3 ^ k) n) = false := by
      intro k hk h0 a ha
      cases hq : q (mkN (c + a * 3 ^ k) n) with
      | false => rfl
      | true =>
        rw [hm _ (mkN c n) (mkN_lt _ _) (mkN_lt _ _) (fun j hj => by
          rcases Nat.lt_or_ge j n with hjn | hjn
          · rw [mkN_bit _ _ _ hjn] at hj ⊢
            rw [dg_put h0 (by omega)] at hj
            by_cases e : j = k
            · rw [e, h0]; rfl
            · rw [if_neg e] at hj; exact hj
          · rw [mkN_out hjn] at hj; cases hj) hq] at h
        cases h
    have less : ∀ k, k < n → dg c k = 0 → ∀ a, (a = 1 ∨ a = 2) → zs (c + a * 3 ^ k) n = d := by
      intro k hk h0 a ha
      have := zs_put (a := a) h0 (by omega) (by omega) hk
      omega
    unfold gv
    cases l with
    | true =>
      simp only [if_true]
      cases ha : anyU (fun k => decide (dg c k = 0) && gv q n d (c + 1 * 3 ^ k) false) n with
      | false => rfl
      | true =>
        obtain ⟨k, hk, hp⟩ := anyU_iff.mp ha
        rw [Bool.and_eq_true, decide_eq_true_eq] at hp
        rw [gv_lost hm d _ _ (less k hk hp.1 1 (Or.inl rfl)) (grow k hk hp.1 1 (Or.inl rfl))] at hp
        cases hp.2
    | false =>
      simp only [Bool.false_eq_true, if_false]
      cases ha : allU (fun k => !decide (dg c k = 0) || gv q n d (c + 2 * 3 ^ k) true) n with
      | false => rfl
      | true =>
        obtain ⟨k, hk, h0⟩ := zs_pos (c := c) (n := n) (by omega)
        have hp := allU_iff.mp ha k hk
        rw [decide_eq_true h0, gv_lost hm d _ _ (less k hk h0 2 (Or.inr rfl)) (grow k hk h0 2 (Or.inr rfl))] at hp
        cases hp
