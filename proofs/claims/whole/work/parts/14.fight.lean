/-! a fight: its tables, and what they say -/
theorem fa_or (a b : Nat) : nI a ||| nI b = nI (a ||| b) := by
  apply Int32.toBitVec_inj.1
  show BitVec.ofNat 32 a ||| BitVec.ofNat 32 b = BitVec.ofNat 32 (a ||| b)
  apply BitVec.eq_of_getLsbD_eq
  intro i hi
  simp [hi]
theorem fa_and (a b : Nat) : nI a &&& nI b = nI (a &&& b) := by
  apply Int32.toBitVec_inj.1
  show BitVec.ofNat 32 a &&& BitVec.ofNat 32 b = BitVec.ofNat 32 (a &&& b)
  apply BitVec.eq_of_getLsbD_eq
  intro i hi
  simp [hi]
theorem s_l : ∀ n, n < 32 → ((nI n &&& 31).toBitVec.smod 32).toNat = n := by decide +kernel
theorem kf_shl1 {k : Nat} (h : k < 31) : nI 1 <<< (nI k &&& 31) = nI (2 ^ k) := by
  have := pk_shlN (n := 1) (nI k &&& 31) k (s_l k (by omega)) (by rw [Nat.one_mul]; exact Nat.pow_lt_pow_right (by decide) (by omega))
  rw [Nat.one_mul] at this
  exact this
def bt (x : Int32) (i : Nat) : Bool := x.toBitVec.getLsbD i
theorem b_ext {x y : Int32} (h : ∀ i, i < 32 → bt x i = bt y i) : x = y := Int32.toBitVec_inj.mp (BitVec.eq_of_getLsbD_eq (fun i hi => h i hi))
theorem b_and (x y : Int32) (i : Nat) : bt (x &&& y) i = (bt x i && bt y i) := by unfold bt; rw [Int32.toBitVec_and, BitVec.getLsbD_and]
theorem b_xor (x y : Int32) (i : Nat) : bt (x ^^^ y) i = (bt x i ^^ bt y i) := by unfold bt; rw [Int32.toBitVec_xor, BitVec.getLsbD_xor]
theorem b_m1 : ∀ i, i < 32 → bt (-1) i = true := by decide +kernel
theorem b_nI {a : Nat} (h : a < 2 ^ 32) (i : Nat) : bt (nI a) i = a.testBit i := by
  show (BitVec.ofNat 32 a).toNat.testBit i = _
  rw [BitVec.toNat_ofNat, Nat.mod_eq_of_lt h]
theorem p2_le {n : Nat} (h : n ≤ 10) : 2 ^ n ≤ 1024 := Nat.pow_le_pow_right (by decide) h
theorem p3_le {n : Nat} (h : n ≤ 10) : 3 ^ n ≤ 59049 := Nat.pow_le_pow_right (by decide) h
theorem kf_mkN {c n : Nat} (h : n ≤ 10) : nI (2 ^ n - 1) &&& (nI (mkD 2 c n) ^^^ (-1)) = nI (mkN c n) := by
  have h2 := p2_le h
  have l1 := mkD_lt 2 c n
  have l2 := mkN_lt c n
  apply b_ext
  intro i hi
  rw [b_and, b_xor, b_m1 i hi, b_nI (by omega), b_nI (by omega), b_nI (by omega), Nat.testBit_two_pow_sub_one]
  rcases Nat.lt_or_ge i n with q | q
  · rw [mkD_bit _ _ _ _ q, mkN_bit _ _ _ q, decide_eq_true q]
    cases decide (dg c i = 2) <;> rfl
  · rw [mkN_out q, decide_eq_false (by omega)]; rfl
theorem kf_free {c n k : Nat} (h : n ≤ 10) (hk : k < n) : nI (mkD 1 c n ||| mkD 2 c n) &&& nI (2 ^ k) = 0 ↔ dg c k = 0 := by
  have h2 := p2_le h
  have l1 := mkD_lt 1 c n
  have l2 := mkD_lt 2 c n
  have l3 : mkD 1 c n ||| mkD 2 c n < 2 ^ n := Nat.or_lt_two_pow l1 l2
  have l4 : 2 ^ k < 2 ^ n := Nat.pow_lt_pow_right (by decide) hk
  have hb : (mkD 1 c n ||| mkD 2 c n).testBit k = !decide (dg c k = 0) := by
    rw [Nat.testBit_or, mkD_bit _ _ _ _ hk, mkD_bit _ _ _ _ hk]
    have := dg_lt c k
    rcases (show dg c k = 0 ∨ dg c k = 1 ∨ dg c k = 2 by omega) with e | e | e <;> rw [e] <;> rfl
  constructor
  · intro e
    have : bt (nI (mkD 1 c n ||| mkD 2 c n) &&& nI (2 ^ k)) k = bt 0 k := congrArg (fun x => bt x k) e
    rw [b_and, b_nI (by omega), b_nI (by omega), hb, Nat.testBit_two_pow_self] at this
    by_cases q : dg c k = 0
    · exact q
    · rw [decide_eq_false q] at this; exact absurd this (by show ¬ (true = bt 0 k); rw [show bt 0 k = false from by rw [show (0 : Int32) = nI 0 from rfl, b_nI (by decide)]; exact Nat.zero_testBit k]; decide)
  · intro e
    apply b_ext
    intro i hi
    rw [b_and, b_nI (by omega), b_nI (by omega), Nat.testBit_two_pow]
    rw [show bt 0 i = false from by rw [show (0 : Int32) = nI 0 from rfl, b_nI (by decide)]; exact Nat.zero_testBit i]
    by_cases q : k = i
    · subst q; rw [hb, decide_eq_true e]; rfl
    · rw [decide_eq_false q, Bool.and_false]
theorem mHas_iff {n : Nat} {w : Nat → Int64} {j : Nat} : mHas n w j ↔ j / 64 < n ∧ bq (w (j / 64)) (j % 64) = true := by
  unfold mHas
  have hm : j % 64 < 64 := Nat.mod_lt _ (by decide)
  constructor
  · rintro ⟨h1, h2⟩
    refine ⟨h1, ?_⟩
    obtain ⟨i, hi, hb⟩ := bq_ne0.mp h2
    rw [bq_and, bq_bit hm, Bool.and_eq_true, decide_eq_true_eq] at hb
    rw [← hb.2]; exact hb.1
  · rintro ⟨h1, h2⟩
    refine ⟨h1, bq_ne0.mpr ⟨j % 64, hm, ?_⟩⟩
    rw [bq_and, h2, bq_bit hm, decide_eq_true rfl]; rfl
theorem mHas_set {n : Nat} {w : Nat → Int64} {i j : Nat} (hi : i / 64 < n) : mHas n (mSet w i) j ↔ j = i ∨ mHas n w j := by
  rw [mHas_iff, mHas_iff]
  have hm : i % 64 < 64 := Nat.mod_lt _ (by decide)
  unfold mSet
  by_cases e : j / 64 = i / 64
  · rw [e, pk_uLs, bq_or, bq_bit hm, Bool.or_eq_true, decide_eq_true_eq]
    constructor
    · rintro ⟨h1, h2 | h2⟩
      · exact Or.inr ⟨h1, h2⟩
      · exact Or.inl (by omega)
    · rintro (h | ⟨h1, h2⟩)
      · exact ⟨hi, Or.inr (by rw [h])⟩
      · exact ⟨h1, Or.inl h2⟩
  · rw [pk_uLn e]
    constructor
    · intro h; exact Or.inr h
    · rintro (h | h)
      · exact absurd (by rw [h]) e
      · exact h
theorem mHas_0 {n : Nat} {g : Nat → Int64} (h : ∀ i, i < n → g i = 0) (j : Nat) : ¬ mHas n g j := by
  rw [mHas_iff]
  rintro ⟨h1, h2⟩
  rw [h _ h1, bq_0] at h2
  cases h2
/-- the marks of what is reached -/
def reOK (q : Nat → Bool) (n : Nat) (rw : Nat → Int64) : Prop := ∀ i, i < 2 ^ n → (mHas 16 rw i ↔ q i = true)
/-- the marks of what was found: true, as far as they go -/
def memoOK (q : Nat → Bool) (n : Nat) (u : (Nat → Int64) × (Nat → Int64)) : Prop := ∀ c (l : Bool), c < 3 ^ n → (mHas 1846 u.1 (2 * c + l.toNat) → gv q n (zs c n) c l = true) ∧ (mHas 1846 u.2 (2 * c + l.toNat) → gv q n (zs c n) c l = false)
theorem memo_inj {c c' : Nat} {l l' : Bool} (h : 2 * c + l.toNat = 2 * c' + l'.toNat) : c = c' ∧ l = l' := by
  cases l <;> cases l' <;> simp only [Bool.toNat_true, Bool.toNat_false] at h <;> first | exact ⟨by omega, rfl⟩ | (exfalso; omega)
theorem memo_won {q : Nat → Bool} {n : Nat} {u1 u2 : Nat → Int64} {c : Nat} {l : Bool} (hn : n ≤ 10) (hc : c < 3 ^ n) (h : memoOK q n (u1, u2)) (hg : gv q n (zs c n) c l = true) : memoOK q n (mSet u1 (2 * c + l.toNat), u2) := by
  intro c' l' hc'
  have h3 := p3_le hn
  refine ⟨fun hh => ?_, (h c' l' hc').2⟩
  rcases (mHas_set (by have : l.toNat ≤ 1 := Bool.toNat_le l; omega)).mp hh with e | e
  · obtain ⟨rfl, rfl⟩ := memo_inj e; exact hg
  · exact (h c' l' hc').1 e
theorem memo_lost {q : Nat → Bool} {n : Nat} {u1 u2 : Nat → Int64} {c : Nat} {l : Bool} (hn : n ≤ 10) (hc : c < 3 ^ n) (h : memoOK q n (u1, u2)) (hg : gv q n (zs c n) c l = false) : memoOK q n (u1, mSet u2 (2 * c + l.toNat)) := by
  intro c' l' hc'
  have h3 := p3_le hn
  refine ⟨(h c' l' hc').1, fun hh => ?_⟩
  rcases (mHas_set (by have : l.toNat ≤ 1 := Bool.toNat_le l; omega)).mp hh with e | e
  · obtain ⟨rfl, rfl⟩ := memo_inj e; exact hg
  · exact (h c' l' hc').2 e
theorem gv_end {q : Nat → Bool} {n c : Nat} {l : Bool} (hz : zs c n = 0) (h : ¬ q (mkD 1 c n) = true) : gv q n (zs c n) c l = false := by
  rw [hz]
  show q (mkD 1 c n) = false
  cases hq : q (mkD 1 c n) with
  | false => rfl
  | true => exact absurd hq h
/-- what the maker's, the other's next stones can do -/
def gvP1 (q : Nat → Bool) (n d c k : Nat) : Bool := decide (dg c k = 0) && gv q n d (c + 1 * 3 ^ k) false
def gvP2 (q : Nat → Bool) (n d c k : Nat) : Bool := !decide (dg c k = 0) || gv q n d (c + 2 * 3 ^ k) true
theorem gv_1 {q : Nat → Bool} {n c : Nat} (h : 0 < zs c n) : gv q n (zs c n) c true = anyU (gvP1 q n (zs c n - 1) c) n := by
  obtain ⟨d, hd⟩ : ∃ d, zs c n = d + 1 := ⟨zs c n - 1, by omega⟩
  rw [hd]; rfl
theorem gv_2 {q : Nat → Bool} {n c : Nat} (h : 0 < zs c n) : gv q n (zs c n) c false = allU (gvP2 q n (zs c n - 1) c) n := by
  obtain ⟨d, hd⟩ : ∃ d, zs c n = d + 1 := ⟨zs c n - 1, by omega⟩
  rw [hd]; rfl
theorem anyU_up {p : Nat → Bool} {k n : Nat} (h : k ≤ n) (ht : anyU p k = true) : anyU p n = true := by
  obtain ⟨j, h1, h2⟩ := anyU_iff.mp ht
  exact anyU_iff.mpr ⟨j, by omega, h2⟩
theorem allU_up {p : Nat → Bool} {k n : Nat} (h : k ≤ n) (ht : allU p k = false) : allU p n = false := by
  cases e : allU p n with
  | false => rfl
  | true =>
    have : allU p k = true := allU_iff.mpr (fun j hj => allU_iff.mp e j (by omega))
    rw [ht] at this; cases this
theorem any_t {p : Nat → Bool} {k : Nat} (h : p k = true) : true = anyU p (k + 1) := by show true = (anyU p k || p k); rw [h]; cases anyU p k <;> rfl
theorem any_f {p : Nat → Bool} {k : Nat} (h0 : false = anyU p k) (h : p k = false) : false = anyU p (k + 1) := by show false = (anyU p k || p k); rw [h, ← h0]; rfl
theorem all_t {p : Nat → Bool} {k : Nat} (h0 : true = allU p k) (h : p k = true) : true = allU p (k + 1) := by show true = (allU p k && p k); rw [h, ← h0]; rfl
theorem all_f {p : Nat → Bool} {k : Nat} (h : p k = false) : false = allU p (k + 1) := by show false = (allU p k && p k); rw [h]; cases allU p k <;> rfl
theorem P1_no {q : Nat → Bool} {n d c k : Nat} (h : ¬ dg c k = 0) : gvP1 q n d c k = false := by unfold gvP1; rw [decide_eq_false h]; rfl
theorem P2_no {q : Nat → Bool} {n d c k : Nat} (h : ¬ dg c k = 0) : gvP2 q n d c k = true := by unfold gvP2; rw [decide_eq_false h]; rfl
theorem P1_is {q : Nat → Bool} {n d c k : Nat} {v : Bool} (h : dg c k = 0) (hg : gv q n d (c + 1 * 3 ^ k) false = v) : gvP1 q n d c k = v := by unfold gvP1; rw [decide_eq_true h, hg]; rfl
theorem P2_is {q : Nat → Bool} {n d c k : Nat} {v : Bool} (h : dg c k = 0) (hg : gv q n d (c + 2 * 3 ^ k) true = v) : gvP2 q n d c k = v := by unfold gvP2; rw [decide_eq_true h, hg]; rfl
theorem zs_less {n c k a d : Nat} (hd : zs c n = d) (h0 : dg c k = 0) (hk : k < n) (ha : a = 1 ∨ a = 2) : zs (c + a * 3 ^ k) n = d - 1 ∧ 0 < d := by
  have := zs_put (a := a) h0 (by omega) (by omega) hk
  omega
