def fb_ct (p : Nat → Bool) : Nat → Nat
  | 0 => 0
  | n + 1 => fb_ct p n + (if p n then 1 else 0)
theorem fb_ct_succ (p : Nat → Bool) (n : Nat) : fb_ct p (n + 1) = fb_ct p n + (if p n then 1 else 0) := rfl
theorem fb_ct_le (p : Nat → Bool) : ∀ n, fb_ct p n ≤ n
  | 0 => Nat.le_refl _
  | n + 1 => by
    have h := fb_ct_le p n
    rw [fb_ct_succ]
    split <;> omega
theorem fb_ct_step (p : Nat → Bool) (m : Nat) : ∀ n, fb_ct p m ≤ fb_ct p (m + n)
  | 0 => Nat.le_refl _
  | n + 1 => by
    have h := fb_ct_step p m n
    show fb_ct p m ≤ fb_ct p (m + n + 1)
    rw [fb_ct_succ]
    omega
theorem fb_ct_mono (p : Nat → Bool) {m n : Nat} (h : m ≤ n) : fb_ct p m ≤ fb_ct p n := by
  have := fb_ct_step p m (n - m)
  rwa [Nat.add_sub_cancel' h] at this
theorem fb_ct_cong {p q : Nat → Bool} : ∀ {n : Nat}, (∀ k, k < n → p k = q k) → fb_ct p n = fb_ct q n
  | 0, _ => rfl
  | n + 1, h => by
    rw [fb_ct_succ, fb_ct_succ, fb_ct_cong (fun k hk => h k (by omega)), h n (by omega)]
/-- one place changed -/
theorem fb_ct_out (p : Nat → Bool) (b : Bool) {i n : Nat} (h : n ≤ i) : fb_ct (fun k => if k = i then b else p k) n = fb_ct p n :=
  fb_ct_cong fun k hk => if_neg (by omega)
theorem fb_ct_upd (p : Nat → Bool) (b : Bool) {i : Nat} : ∀ {n : Nat}, i < n → fb_ct (fun k => if k = i then b else p k) n + (if p i then 1 else 0) = fb_ct p n + (if b then 1 else 0)
  | 0, h => absurd h (Nat.not_lt_zero i)
  | n + 1, h => by
    rw [fb_ct_succ, fb_ct_succ]
    rcases Nat.lt_or_ge i n with q | q
    · have := fb_ct_upd p b q
      have e : (if n = i then b else p n) = p n := if_neg (by omega)
      rw [e]
      omega
    · have e : i = n := by omega
      subst e
      rw [fb_ct_out p b (Nat.le_refl _)]
      simp only [if_true]
      omega
theorem fb_ct_sub {p q : Nat → Bool} : ∀ {n : Nat}, (∀ k, k < n → p k = true → q k = true) → fb_ct p n ≤ fb_ct q n
  | 0, _ => Nat.le_refl _
  | n + 1, h => by
    have h1 := fb_ct_sub (n := n) (p := p) (q := q) (fun k hk => h k (by omega))
    have h2 := h n (by omega)
    rw [fb_ct_succ, fb_ct_succ]
    cases hp : p n <;> cases hq : q n <;> simp_all <;> omega
theorem fb_ct_or {p q : Nat → Bool} : ∀ {n : Nat}, (∀ k, k < n → ¬ (p k = true ∧ q k = true)) → fb_ct (fun k => p k || q k) n = fb_ct p n + fb_ct q n
  | 0, _ => rfl
  | n + 1, h => by
    have h1 := fb_ct_or (n := n) (p := p) (q := q) (fun k hk => h k (by omega))
    have h2 := h n (by omega)
    rw [fb_ct_succ, fb_ct_succ, fb_ct_succ, h1]
    cases hp : p n <;> cases hq : q n <;> simp_all <;> omega
theorem fb_ct_not (p : Nat → Bool) : ∀ n, fb_ct p n + fb_ct (fun k => !p k) n = n
  | 0 => rfl
  | n + 1 => by
    have h := fb_ct_not p n
    rw [fb_ct_succ, fb_ct_succ]
    cases p n <;> simp <;> omega
theorem fb_ct_split (p : Nat → Bool) (m : Nat) : ∀ n, fb_ct p (m + n) = fb_ct p m + fb_ct (fun k => p (m + k)) n
  | 0 => rfl
  | n + 1 => by
    have h := fb_ct_split p m n
    show fb_ct p (m + n + 1) = _
    rw [fb_ct_succ, fb_ct_succ, h, Nat.add_assoc]
theorem fb_ct_zero {p : Nat → Bool} : ∀ {n : Nat}, fb_ct p n = 0 ↔ ∀ k, k < n → p k = false
  | 0 => ⟨fun _ k hk => absurd hk (Nat.not_lt_zero k), fun _ => rfl⟩
  | n + 1 => by
    have h := fb_ct_zero (p := p) (n := n)
    rw [fb_ct_succ]
    constructor
    · intro e k hk
      have e1 : fb_ct p n = 0 := by omega
      rcases Nat.lt_or_ge k n with q | q
      · exact h.mp e1 k q
      · have ek : k = n := by omega
        subst ek
        cases hp : p k
        · rfl
        · simp [hp] at e
    · intro a
      rw [h.mpr (fun k hk => a k (by omega)), a n (by omega)]
      rfl
theorem fb_ct_pos {p : Nat → Bool} {n : Nat} : 0 < fb_ct p n ↔ ∃ k, k < n ∧ p k = true := by
  constructor
  · intro h
    refine Classical.byContradiction fun hx => ?_
    have := fb_ct_zero.mpr (fun k hk => by
      cases hp : p k
      · rfl
      · exact absurd ⟨k, hk, hp⟩ hx : ∀ k, k < n → p k = false)
    omega
  · rintro ⟨k, hk, hp⟩
    rcases Nat.eq_zero_or_pos (fb_ct p n) with e | e
    · have := fb_ct_zero.mp e k hk
      rw [this] at hp
      cases hp
    · exact e
theorem fb_ct_all {p : Nat → Bool} {n : Nat} : fb_ct p n = n ↔ ∀ k, k < n → p k = true := by
  have h := fb_ct_not p n
  constructor
  · intro e k hk
    have z : fb_ct (fun k => !p k) n = 0 := by omega
    have := fb_ct_zero.mp z k hk
    cases hp : p k
    · simp [hp] at this
    · rfl
  · intro a
    have z : fb_ct (fun k => !p k) n = 0 := fb_ct_zero.mpr (fun k hk => by simp [a k hk])
    omega
/-- the k-th place with the property -/
theorem fb_ct_kth {p : Nat → Bool} {k : Nat} : ∀ {n : Nat}, k < fb_ct p n → ∃ i, i < n ∧ p i = true ∧ fb_ct p i = k
  | 0, h => absurd h (Nat.not_lt_zero k)
  | n + 1, h => by
    rcases Nat.lt_or_ge k (fb_ct p n) with q | q
    · obtain ⟨i, h1, h2⟩ := fb_ct_kth q
      exact ⟨i, by omega, h2⟩
    · rw [fb_ct_succ] at h
      cases hp : p n
      · simp [hp] at h; omega
      · simp [hp] at h
        exact ⟨n, by omega, hp, by omega⟩
theorem fb_ct_kth_one {p : Nat → Bool} {i j : Nat} (hi : p i = true) (hj : p j = true) (e : fb_ct p i = fb_ct p j) : i = j := by
  have key : ∀ a b : Nat, a < b → p a = true → fb_ct p a < fb_ct p b := by
    intro a b hab ha
    have h := fb_ct_mono p (show a + 1 ≤ b from hab)
    rw [fb_ct_succ, ha] at h
    simp at h
    omega
  rcases Nat.lt_trichotomy i j with q | q | q
  · have := key i j q hi; omega
  · exact q
  · have := key j i q hj; omega
/-! ===== sums over a range: one place changed, parts, bounds ===== -/
/-! how many bits a long has, as Long.bitCount finds it -/
def qM5 : Nat → Nat | 0 => 0 | k + 1 => 256 * qM5 k + 85
def qM3 : Nat → Nat | 0 => 0 | k + 1 => 256 * qM3 k + 51
def qMF : Nat → Nat | 0 => 0 | k + 1 => 256 * qMF k + 15
def q1 (m n : Nat) : Nat := n - (n / 2 &&& m)
def q2 (m y : Nat) : Nat := (y &&& m) + (y / 4 &&& m)
def q3 (m z : Nat) : Nat := (z + z / 16) &&& m
def qG (k n : Nat) : Nat := q3 (qMF k) (q2 (qM3 k) (q1 (qM5 k) n))
def qpc (l : Nat) : Nat := q3 15 (q2 51 (q1 85 l))
theorem q_and (a b m d : Nat) (hb : b < 256) (hd : d < 256) : (256 * a + b) &&& (256 * m + d) = 256 * (a &&& m) + (b &&& d) := by
  apply Nat.eq_of_testBit_eq
  intro i
  have hbd : b &&& d < 2 ^ 8 := Nat.and_lt_two_pow _ hd
  rw [Nat.testBit_and, show 256 = 2 ^ 8 from rfl, Nat.testBit_two_pow_mul_add _ (by omega), Nat.testBit_two_pow_mul_add _ (by omega), Nat.testBit_two_pow_mul_add _ hbd]
  split
  · rw [Nat.testBit_and]
  · rw [Nat.testBit_and]
theorem q_le (a b : Nat) : a &&& b ≤ a := Nat.and_le_left
theorem q1_s (m h l : Nat) (hl : l < 256) : q1 (256 * m + 85) (256 * h + l) = 256 * q1 m h + q1 85 l := by
  unfold q1
  have e : (256 * h + l) / 2 = 256 * (h / 2) + (128 * (h % 2) + l / 2) := by omega
  have e2 : (128 * (h % 2) + l / 2) &&& 85 = l / 2 &&& 85 := by
    have hm : h % 2 < 2 := Nat.mod_lt _ (by decide)
    generalize h % 2 = x at hm
    exact (by decide +kernel : ∀ x, x < 2 → ∀ l, l < 256 → (128 * x + l / 2) &&& 85 = l / 2 &&& 85) x hm l hl
  rw [e, q_and _ _ _ _ (by omega) (by decide), e2]
  have h1 : h / 2 &&& m ≤ h / 2 := q_le _ _
  have h2 : l / 2 &&& 85 ≤ l / 2 := q_le _ _
  omega
theorem q1_lt (l : Nat) (h : l < 256) : q1 85 l < 256 := by unfold q1; omega
theorem q2_s (m h l : Nat) (hl : l < 256) : q2 (256 * m + 51) (256 * h + l) = 256 * q2 m h + q2 51 l := by
  unfold q2
  have e : (256 * h + l) / 4 = 256 * (h / 4) + (64 * (h % 4) + l / 4) := by omega
  have e2 : (64 * (h % 4) + l / 4) &&& 51 = l / 4 &&& 51 := by
    have hm : h % 4 < 4 := Nat.mod_lt _ (by decide)
    generalize h % 4 = x at hm
    exact (by decide +kernel : ∀ x, x < 4 → ∀ l, l < 256 → (64 * x + l / 4) &&& 51 = l / 4 &&& 51) x hm l hl
  rw [e, q_and _ _ _ _ (by omega) (by decide), q_and _ _ _ _ (by omega) (by decide), e2]
  omega
theorem q3_s (m h l : Nat) (hl : l ≤ 102) (h4 : h % 16 ≤ 4) : q3 (256 * m + 15) (256 * h + l) = 256 * q3 m h + q3 15 l := by
  unfold q3
  have e : 256 * h + l + (256 * h + l) / 16 = 256 * (h + h / 16) + (16 * (h % 16) + (l + l / 16)) := by omega
  have e2 : (16 * (h % 16) + (l + l / 16)) &&& 15 = (l + l / 16) &&& 15 := by
    generalize h % 16 = x at h4
    exact (by decide +kernel : ∀ x, x < 5 → ∀ l, l < 103 → (16 * x + (l + l / 16)) &&& 15 = (l + l / 16) &&& 15) x (by omega) l (by omega)
  rw [e, q_and _ _ _ _ (by omega) (by decide), e2]
theorem q21 : ∀ l, l < 256 → q2 51 (q1 85 l) ≤ 102 ∧ q2 51 (q1 85 l) % 16 ≤ 4 := by decide +kernel
theorem qpc_le : ∀ l, l < 256 → qpc l ≤ 8 := by decide +kernel
theorem qpc_ct : ∀ l, l < 256 → qpc l = fb_ct (fun i => l.testBit i) 8 := by decide +kernel
theorem q_low (k h : Nat) : q2 (qM3 k) (q1 (qM5 k) h) % 16 ≤ 4 := by
  cases k with
  | zero => unfold q2 qM3; simp
  | succ k =>
    have e : h = 256 * (h / 256) + h % 256 := by omega
    have hm : h % 256 < 256 := Nat.mod_lt _ (by decide)
    rw [e]
    show q2 (256 * qM3 k + 51) (q1 (256 * qM5 k + 85) (256 * (h / 256) + h % 256)) % 16 ≤ 4
    rw [q1_s _ _ _ hm, q2_s _ _ _ (q1_lt _ hm)]
    have := (q21 _ hm).2
    omega
theorem qG_s (k h l : Nat) (hl : l < 256) : qG (k + 1) (256 * h + l) = 256 * qG k h + qpc l := by
  unfold qG
  show q3 (256 * qMF k + 15) (q2 (256 * qM3 k + 51) (q1 (256 * qM5 k + 85) (256 * h + l))) = _
  rw [q1_s _ _ _ hl, q2_s _ _ _ (q1_lt _ hl), q3_s _ _ _ (q21 _ hl).1 (q_low k h)]
  rfl
theorem qG_0 (n : Nat) : qG 0 n = 0 := by unfold qG q3 qMF; simp
theorem q_by (n j i : Nat) (hi : i < 8) : (n / 256 ^ j % 256).testBit i = n.testBit (8 * j + i) := by
  rw [show (256 : Nat) = 2 ^ 8 from rfl, Nat.testBit_mod_two_pow, ← Nat.pow_mul, Nat.testBit_div_two_pow]
  simp [hi, Nat.add_comm]
theorem qG_8 (n : Nat) (h : n < 2 ^ 64) : ∃ c0 c1 c2 c3 c4 c5 c6 c7 : Nat, c0 ≤ 8 ∧ c1 ≤ 8 ∧ c2 ≤ 8 ∧ c3 ≤ 8 ∧ c4 ≤ 8 ∧ c5 ≤ 8 ∧ c6 ≤ 8 ∧ c7 ≤ 8 ∧ qG 8 n = c0 + 256 * (c1 + 256 * (c2 + 256 * (c3 + 256 * (c4 + 256 * (c5 + 256 * (c6 + 256 * c7)))))) ∧ c0 + c1 + c2 + c3 + c4 + c5 + c6 + c7 = fb_ct (fun i => n.testBit i) 64 := by
  refine ⟨qpc (n % 256), qpc (n / 256 % 256), qpc (n / 256 ^ 2 % 256), qpc (n / 256 ^ 3 % 256), qpc (n / 256 ^ 4 % 256), qpc (n / 256 ^ 5 % 256), qpc (n / 256 ^ 6 % 256), qpc (n / 256 ^ 7 % 256), qpc_le _ (Nat.mod_lt _ (by decide)), qpc_le _ (Nat.mod_lt _ (by decide)), qpc_le _ (Nat.mod_lt _ (by decide)), qpc_le _ (Nat.mod_lt _ (by decide)), qpc_le _ (Nat.mod_lt _ (by decide)), qpc_le _ (Nat.mod_lt _ (by decide)), qpc_le _ (Nat.mod_lt _ (by decide)), qpc_le _ (Nat.mod_lt _ (by decide)), ?_, ?_⟩
  · have key : ∀ k h, qG (k + 1) h = 256 * qG k (h / 256) + qpc (h % 256) := by
      intro k h
      have e : h = 256 * (h / 256) + h % 256 := by omega
      have := qG_s k (h / 256) (h % 256) (Nat.mod_lt _ (by decide))
      rw [← e] at this
      exact this
    have dd : ∀ j, n / 256 ^ j / 256 = n / 256 ^ (j + 1) := fun j => by rw [Nat.div_div_eq_div_mul, Nat.pow_succ]
    rw [key 7, key 6, key 5, key 4, key 3, key 2, key 1, key 0, qG_0]
    have d1 : n / 256 = n / 256 ^ 1 := by rw [Nat.pow_one]
    rw [d1, dd 1, dd 2, dd 3, dd 4, dd 5, dd 6]
    simp only [Nat.reduceAdd]
    omega
  · have hb : ∀ j, qpc (n / 256 ^ j % 256) = fb_ct (fun i => n.testBit (8 * j + i)) 8 := by
      intro j
      rw [qpc_ct _ (Nat.mod_lt _ (by decide))]
      exact fb_ct_cong (fun i hi => q_by n j i hi)
    have h0 := hb 0
    have h1 := hb 1
    rw [Nat.pow_zero, Nat.div_one] at h0
    rw [Nat.pow_one] at h1
    rw [h0, h1, hb 2, hb 3, hb 4, hb 5, hb 6, hb 7]
    have s := fb_ct_split (fun i => n.testBit i)
    have s1 := s 8 56
    have s2 := s 16 48
    have s3 := s 24 40
    have a : ∀ m, fb_ct (fun i => n.testBit i) (m + 8) = fb_ct (fun i => n.testBit i) m + fb_ct (fun i => n.testBit (m + i)) 8 := fun m => s m 8
    have a0 := a 0
    have a1 := a 8
    have a2 := a 16
    have a3 := a 24
    have a4 := a 32
    have a5 := a 40
    have a6 := a 48
    have a7 := a 56
    have z : fb_ct (fun i => n.testBit i) 0 = 0 := rfl
    simp only [Nat.zero_add, Nat.reduceAdd, Nat.reduceMul] at *
    omega
theorem wq_shr {n k : Nat} (hn : n < 2 ^ 64) (hk : k < 64) : kShr (lN n) (nI k) = lN (n / 2 ^ k) := by
  apply bq_ext
  intro i hi
  rw [bq_shr _ hk, bq_lN hn, bq_lN (Nat.lt_of_le_of_lt (Nat.div_le_self _ _) hn), Nat.testBit_div_two_pow, Nat.add_comm]
theorem wq_and {a b : Nat} (ha : a < 2 ^ 64) (hb : b < 2 ^ 64) : lN a &&& lN b = lN (a &&& b) := by
  apply bq_ext
  intro i hi
  rw [bq_and, bq_lN ha, bq_lN hb, bq_lN (Nat.and_lt_two_pow _ hb), Nat.testBit_and]
theorem wq_of (x : Int64) : x = lN x.toBitVec.toNat := wb_inj (by rw [wb_tb]; simp)
theorem q_a1 {c0 T : Nat} (h : c0 ≤ 8) : (c0 + 256 * T) / 2 ^ 8 = T := by omega
theorem q_a2 {c0 c1 c2 T3 : Nat} (h0 : c0 ≤ 8) (h1 : c1 ≤ 8) (h2 : c2 ≤ 8) : ((c0 + 256 * (c1 + 256 * (c2 + 256 * T3))) + (c1 + 256 * (c2 + 256 * T3))) / 2 ^ 16 = (c2 + 256 * T3) + T3 := by
  have e : (c0 + 256 * (c1 + 256 * (c2 + 256 * T3))) + (c1 + 256 * (c2 + 256 * T3)) = ((c0 + c1) + 256 * (c1 + c2)) + 65536 * ((c2 + 256 * T3) + T3) := by omega
  rw [e]
  generalize (c2 + 256 * T3) + T3 = U
  omega
theorem q_a3 {L U : Nat} (h : L < 4294967296) : (L + 4294967296 * U) / 2 ^ 32 = U := by omega
theorem q_a4 {S V : Nat} (h : S ≤ 64) : (S + 128 * V) % 2 ^ 32 % 2 ^ 7 = S := by omega
theorem q_sum {c0 c1 c2 c3 c4 c5 c6 c7 X : Nat} (b0 : c0 ≤ 8) (b1 : c1 ≤ 8) (b2 : c2 ≤ 8) (b3 : c3 ≤ 8) (b4 : c4 ≤ 8) (b5 : c5 ≤ 8) (b6 : c6 ≤ 8) (b7 : c7 ≤ 8) (hX : X = c0 + 256 * (c1 + 256 * (c2 + 256 * (c3 + 256 * (c4 + 256 * (c5 + 256 * (c6 + 256 * c7))))))) : True ∧ (X < 2 ^ 60 ∧ X + X / 2 ^ 8 < 2 ^ 61 ∧ (X + X / 2 ^ 8) + (X + X / 2 ^ 8) / 2 ^ 16 < 2 ^ 62) ∧ (((X + X / 2 ^ 8) + (X + X / 2 ^ 8) / 2 ^ 16) + ((X + X / 2 ^ 8) + (X + X / 2 ^ 8) / 2 ^ 16) / 2 ^ 32) % 2 ^ 32 % 2 ^ 7 = c0 + c1 + c2 + c3 + c4 + c5 + c6 + c7 := by
  refine ⟨trivial, ?_, ?_⟩
  · have hX1 : X < 2 ^ 60 := by rw [hX]; omega
    clear hX
    generalize hY : X + X / 2 ^ 8 = Y
    have : X / 2 ^ 8 ≤ X := Nat.div_le_self _ _
    have : Y / 2 ^ 16 ≤ Y := Nat.div_le_self _ _
    generalize X / 2 ^ 8 = x1 at *
    generalize Y / 2 ^ 16 = y1 at *
    omega
  · have e1 : X / 2 ^ 8 = c1 + 256 * (c2 + 256 * (c3 + 256 * (c4 + 256 * (c5 + 256 * (c6 + 256 * c7))))) := by rw [hX]; exact q_a1 b0
    rw [e1, hX, q_a2 b0 b1 b2]
    have e3 : c0 + 256 * (c1 + 256 * (c2 + 256 * (c3 + 256 * (c4 + 256 * (c5 + 256 * (c6 + 256 * c7)))))) + (c1 + 256 * (c2 + 256 * (c3 + 256 * (c4 + 256 * (c5 + 256 * (c6 + 256 * c7)))))) + (c2 + 256 * (c3 + 256 * (c4 + 256 * (c5 + 256 * (c6 + 256 * c7)))) + (c3 + 256 * (c4 + 256 * (c5 + 256 * (c6 + 256 * c7))))) = ((c0 + c1 + c2 + c3) + 256 * (c1 + c2 + c3 + c4) + 65536 * (c2 + c3 + c4 + c5) + 16777216 * (c3 + c4 + c5 + c6)) + 4294967296 * ((c4 + c5 + c6 + c7) + 256 * ((c5 + c6 + c7) + 256 * ((c6 + c7) + 256 * c7))) := by
      clear e1 hX
      omega
    rw [e3, q_a3 (by clear e3 e1 hX; omega)]
    have e4 : ((c0 + c1 + c2 + c3) + 256 * (c1 + c2 + c3 + c4) + 65536 * (c2 + c3 + c4 + c5) + 16777216 * (c3 + c4 + c5 + c6)) + 4294967296 * ((c4 + c5 + c6 + c7) + 256 * ((c5 + c6 + c7) + 256 * ((c6 + c7) + 256 * c7))) + ((c4 + c5 + c6 + c7) + 256 * ((c5 + c6 + c7) + 256 * ((c6 + c7) + 256 * c7))) = (c0 + c1 + c2 + c3 + c4 + c5 + c6 + c7) + 128 * (2 * ((c1 + c2 + c3 + c4) + 256 * (c2 + c3 + c4 + c5) + 65536 * (c3 + c4 + c5 + c6)) + 33554432 * ((c4 + c5 + c6 + c7) + 256 * ((c5 + c6 + c7) + 256 * ((c6 + c7) + 256 * c7))) + 2 * ((c5 + c6 + c7) + 256 * ((c6 + c7) + 256 * c7))) := by
      clear e3 e1 hX
      omega
    rw [e4, q_a4 (by clear e4 e3 e1 hX; omega)]
/-- the answer of Long.bitCount -/
def pcn (x : Int64) : Nat := fb_ct (bq x) 64
theorem jBC_eq (x : Int64) : jBC x = nI (pcn x) := by
  have hx := wq_of x
  have hn : x.toBitVec.toNat < 2 ^ 64 := x.toBitVec.isLt
  have hp : pcn x = fb_ct (fun i => x.toBitVec.toNat.testBit i) 64 := rfl
  rw [hp]
  generalize x.toBitVec.toNat = n at hx hn
  subst hx
  obtain ⟨c0, c1, c2, c3, c4, c5, c6, c7, b0, b1, b2, b3, b4, b5, b6, b7, hG, hs⟩ := qG_8 n hn
  rw [← hs]
  have m5 : (6148914691236517205 : Int64) = lN (qM5 8) := by decide +kernel
  have m3 : (3689348814741910323 : Int64) = lN (qM3 8) := by decide +kernel
  have mF : (1085102592571150095 : Int64) = lN (qMF 8) := by decide +kernel
  have k5 : qM5 8 < 2 ^ 64 := by decide +kernel
  have k3 : qM3 8 < 2 ^ 62 := by decide +kernel
  have kF : qMF 8 < 2 ^ 64 := by decide +kernel
  have e1 : lN n - (kShr (lN n) (nI 1) &&& 6148914691236517205) = lN (q1 (qM5 8) n) := by
    rw [m5, wq_shr hn (by decide), wq_and (Nat.lt_of_le_of_lt (Nat.div_le_self _ _) hn) k5, lN_sub (Nat.le_trans (q_le _ _) (Nat.div_le_self _ _))]
    rfl
  have l1 : q1 (qM5 8) n < 2 ^ 64 := Nat.lt_of_le_of_lt (Nat.sub_le _ _) hn
  have e2 : (lN (q1 (qM5 8) n) &&& 3689348814741910323) + (kShr (lN (q1 (qM5 8) n)) (nI 2) &&& 3689348814741910323) = lN (q2 (qM3 8) (q1 (qM5 8) n)) := by
    rw [m3, wq_shr l1 (by decide), wq_and l1 (by omega), wq_and (Nat.lt_of_le_of_lt (Nat.div_le_self _ _) l1) (by omega), lN_add]
    rfl
  have l2 : q2 (qM3 8) (q1 (qM5 8) n) < 2 ^ 63 := by
    unfold q2
    have a1 : q1 (qM5 8) n &&& qM3 8 ≤ qM3 8 := Nat.and_le_right
    have a2 : q1 (qM5 8) n / 4 &&& qM3 8 ≤ qM3 8 := Nat.and_le_right
    omega
  have e3 : (lN (q2 (qM3 8) (q1 (qM5 8) n)) + kShr (lN (q2 (qM3 8) (q1 (qM5 8) n))) (nI 4)) &&& 1085102592571150095 = lN (qG 8 n) := by
    rw [mF, wq_shr (by omega) (by decide), lN_add, wq_and (by omega) kF]
    rfl
  unfold jBC
  simp only [e1, e2, e3]
  rw [hG]
  generalize hX : c0 + 256 * (c1 + 256 * (c2 + 256 * (c3 + 256 * (c4 + 256 * (c5 + 256 * (c6 + 256 * c7)))))) = X
  obtain ⟨s1, s2, s3⟩ := q_sum b0 b1 b2 b3 b4 b5 b6 b7 hX.symm
  clear e1 e2 e3 l1 l2 m5 m3 mF k5 k3 kF hG hs hn b0 b1 b2 b3 b4 b5 b6 b7 hX
  obtain ⟨h1, h2, h3⟩ := s2
  rw [wq_shr (n := X) (Nat.lt_trans h1 (by decide)) (by decide), lN_add]
  rw [wq_shr (n := X + X / 2 ^ 8) (Nat.lt_trans h2 (by decide)) (by decide), lN_add]
  rw [wq_shr (n := (X + X / 2 ^ 8) + (X + X / 2 ^ 8) / 2 ^ 16) (Nat.lt_trans h3 (by decide)) (by decide), lN_add, lN_i]
  rw [pk_and _ (k := 7) (by decide)]
  congr 1
