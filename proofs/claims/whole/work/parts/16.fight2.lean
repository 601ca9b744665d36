theorem mkD_00 {d : Nat} (hd : d ≠ 0) : ∀ n, mkD d 0 n = 0
  | 0 => rfl
  | n + 1 => by unfold mkD; rw [mkD_00 hd n, dg_0, if_neg (fun h => hd h.symm)]
theorem pw_1 (k : Nat) : 0 + 1 * 3 ^ k = 3 ^ k := by omega
theorem pw_2 (k : Nat) : 0 + 2 * 3 ^ k = 2 * 3 ^ k := by omega
theorem mkD_p11 {k n : Nat} (h : k < n) : mkD 1 (3 ^ k) n = 2 ^ k := by rw [← pw_1, mkD_put (dg_0 k) (Or.inl rfl) h, mkD_00 (by decide), Nat.zero_or]
theorem mkD_p12 {k n : Nat} : mkD 2 (3 ^ k) n = 0 := by rw [← pw_1, mkD_keep (dg_0 k) (by decide) (by decide) (by decide), mkD_00 (by decide)]
theorem mkD_p21 {k n : Nat} : mkD 1 (2 * 3 ^ k) n = 0 := by rw [← pw_2, mkD_keep (dg_0 k) (by decide) (by decide) (by decide), mkD_00 (by decide)]
theorem mkD_p22 {k n : Nat} (h : k < n) : mkD 2 (2 * 3 ^ k) n = 2 ^ k := by rw [← pw_2, mkD_put (dg_0 k) (Or.inr rfl) h, mkD_00 (by decide), Nat.zero_or]
theorem zs_p1 {k n : Nat} (h : k < n) : zs (3 ^ k) n = n - 1 := by have := zs_put (a := 1) (dg_0 k) (by decide) (by decide) h; rw [pw_1, zs_0] at this; omega
theorem zs_p2 {k n : Nat} (h : k < n) : zs (2 * 3 ^ k) n = n - 1 := by have := zs_put (a := 2) (dg_0 k) (by decide) (by decide) h; rw [pw_2, zs_0] at this; omega
theorem b3_p1 {k n : Nat} (h : k < n) : 3 ^ k < 3 ^ n := by have := dg_bound (c := 0) (a := 1) (Nat.pow_pos (by decide)) (dg_0 k) (by decide) h; rw [pw_1] at this; exact this
theorem b3_p2 {k n : Nat} (h : k < n) : 2 * 3 ^ k < 3 ^ n := by have := dg_bound (c := 0) (a := 2) (Nat.pow_pos (by decide)) (dg_0 k) (by decide) h; rw [pw_2] at this; exact this
/-- who is to lay (the maker or not) wins, laying at the k-th of n places -/
def gW (q : Nat → Bool) (n : Nat) (l : Bool) (k : Nat) : Bool := if l then gv q n (n - 1) (3 ^ k) false else !gv q n (n - 1) (2 * 3 ^ k) true
theorem gW_t {q : Nat → Bool} {n k : Nat} {v : Bool} (h : gv q n (n - 1) (3 ^ k) false = v) : gW q n true k = v := h
theorem gW_f {q : Nat → Bool} {n k : Nat} {v : Bool} (h : gv q n (n - 1) (2 * 3 ^ k) true = v) : gW q n false k = !v := by rw [← h]; rfl
/-- the i-th place where it wins, as an answer -/
def wfA (sp : Int64) (sc : Nat) (w : Nat → Bool) (i r : Int32) : Prop := (∃ f, r = nI f ∧ f < 36 ∧ bq sp f = true ∧ w (fb_ct (bq sp) f) = true ∧ i = nI (fb_ct w (fb_ct (bq sp) f))) ∨ (r = -1 ∧ ¬ ∃ k, k < sc ∧ w k = true ∧ i = nI (fb_ct w k))
theorem wfA_none {sp : Int64} {sc : Nat} {w : Nat → Bool} {ii : Nat} (hsc : sc ≤ 36) (hii : ii < 2 ^ 31) (h : fb_ct w sc ≤ ii) : wfA sp sc w (nI ii) (-1) := by
  refine Or.inr ⟨rfl, ?_⟩
  rintro ⟨k, h1, h2, h3⟩
  have hl := fb_ct_le w k
  have e := (nI_eq hii (by omega)).mp h3
  have m := fb_ct_mono w (show k + 1 ≤ sc by omega)
  rw [fb_ct_succ, h2, if_pos rfl] at m
  omega
theorem wfA_neg {sp : Int64} {sc : Nat} {w : Nat → Bool} {i : Int32} (hsc : sc ≤ 36) (hi : i < 0) : wfA sp sc w i (-1) := by
  refine Or.inr ⟨rfl, ?_⟩
  rintro ⟨k, h1, h2, h3⟩
  have hl := fb_ct_le w k
  rw [h3] at hi
  exact nI_pos (by omega) hi
theorem ct_bit {p : Nat → Bool} {f k : Nat} (hk : k = fb_ct p f) : (p f = true → k + 1 = fb_ct p (f + 1)) ∧ (p f = false → k = fb_ct p (f + 1)) := by
  rw [fb_ct_succ, hk]
  constructor
  · intro h; rw [h, if_pos rfl]
  · intro h; rw [h, if_neg (by decide)]; rfl
theorem bit_on {x : Int64} {f : Nat} (hf : f < 36) (h : ¬ x &&& gBit (nI f) = 0) : bq x f = true := by
  obtain ⟨i, hi, hb⟩ := bq_ne0.mp h
  rw [bq_and, bq_bit (by omega), Bool.and_eq_true, decide_eq_true_eq] at hb
  rw [← hb.2]; exact hb.1
theorem bit_off {x : Int64} {f : Nat} (hf : f < 36) (h : x &&& gBit (nI f) = 0) : bq x f = false := by
  have := bq_eq0.mp h f (by omega)
  rw [bq_and, bq_bit (by omega), decide_eq_true rfl, Bool.and_true] at this
  exact this
theorem and_p2 {m k : Nat} : m &&& 2 ^ k = 0 ↔ m.testBit k = false := by
  constructor
  · intro h
    have := congrArg (fun x => x.testBit k) h
    simpa [Nat.testBit_and, Nat.testBit_two_pow_self] using this
  · intro h
    apply Nat.eq_of_testBit_eq
    intro i
    rw [Nat.testBit_and, Nat.testBit_two_pow, Nat.zero_testBit]
    by_cases e : k = i
    · rw [← e, h]; rfl
    · rw [decide_eq_false e, Bool.and_false]
/-- place k never matters -/
def nvm (q : Nat → Bool) (n k : Nat) : Prop := ∀ m, m < 2 ^ n → m.testBit k = false → q m = q (m ||| 2 ^ k)
def dsOK (q : Nat → Bool) (n : Nat) (sp ds : Int64) : Prop := ∀ f, bq ds f = true ↔ f < 36 ∧ bq sp f = true ∧ nvm q n (fb_ct (bq sp) f)
def fLaid (sp : Int64) : Nat → Int64 | 0 => 0 | m + 1 => (fLaid sp m - sp) &&& sp
def fQ (R C : Nat) (ow fr to sp : Int64) (m : Nat) : Bool := decide (gSp R C fr (ow ||| fLaid sp m) &&& to ≠ 0)
theorem re_b {q : Nat → Bool} {n : Nat} {rw : Nat → Int64} {i : Nat} (h : reOK q n rw) (hi : i < 2 ^ n) : (mHas 16 rw i → q i = true) ∧ (¬ mHas 16 rw i → q i = false) := by
  refine ⟨(h i hi).mp, fun hh => ?_⟩
  cases e : q i with
  | false => rfl
  | true => exact absurd ((h i hi).mpr e) hh
theorem or_lt {m k n : Nat} (hm : m < 2 ^ n) (hk : k < n) : m ||| 2 ^ k < 2 ^ n := Nat.or_lt_two_pow hm (Nat.pow_lt_pow_right (by decide) hk)
/-- dead fields found below f -/
def dsP (q : Nat → Bool) (n : Nat) (sp : Int64) (f : Nat) (ds : Int64) : Prop := ∀ g, bq ds g = true ↔ g < f ∧ bq sp g = true ∧ nvm q n (fb_ct (bq sp) g)
theorem dsP_0 {q : Nat → Bool} {n : Nat} {sp : Int64} : dsP q n sp 0 0 := by
  intro g
  rw [bq_0]
  exact ⟨fun h => (by cases h), fun h => absurd h.1 (Nat.not_lt_zero _)⟩
theorem dsP_y {q : Nat → Bool} {n : Nat} {sp : Int64} {f : Nat} {ds : Int64} (hf : f < 36) (h : dsP q n sp f ds) (hb : bq sp f = true) (hn : nvm q n (fb_ct (bq sp) f)) : dsP q n sp (f + 1) (ds ||| gBit (nI f)) := by
  intro g
  rw [bq_or, bq_bit (by omega), Bool.or_eq_true, decide_eq_true_eq, h g]
  constructor
  · rintro (⟨h1, h2⟩ | rfl)
    · exact ⟨by omega, h2⟩
    · exact ⟨by omega, hb, hn⟩
  · rintro ⟨h1, h2⟩
    rcases Nat.eq_or_lt_of_le (Nat.le_of_lt_succ h1) with e | e
    · exact Or.inr e
    · exact Or.inl ⟨e, h2⟩
theorem dsP_n {q : Nat → Bool} {n : Nat} {sp : Int64} {f : Nat} {ds : Int64} (_hf : f < 36) (h : dsP q n sp f ds) (_hb : bq sp f = true) (hn : ¬ nvm q n (fb_ct (bq sp) f)) : dsP q n sp (f + 1) ds := by
  intro g
  rw [h g]
  constructor
  · rintro ⟨h1, h2⟩
    exact ⟨by omega, h2⟩
  · rintro ⟨h1, h2, h3⟩
    rcases Nat.eq_or_lt_of_le (Nat.le_of_lt_succ h1) with e | e
    · subst e; exact absurd h3 hn
    · exact ⟨e, h2, h3⟩
theorem dsP_o {q : Nat → Bool} {n : Nat} {sp : Int64} {f : Nat} {ds : Int64} (_hf : f < 36) (h : dsP q n sp f ds) (hb : bq sp f = false) : dsP q n sp (f + 1) ds := by
  intro g
  rw [h g]
  constructor
  · rintro ⟨h1, h2⟩
    exact ⟨by omega, h2⟩
  · rintro ⟨h1, h2, h3⟩
    rcases Nat.eq_or_lt_of_le (Nat.le_of_lt_succ h1) with e | e
    · subst e; rw [hb] at h2; cases h2
    · exact ⟨e, h2, h3⟩
theorem dsP_end {q : Nat → Bool} {n : Nat} {sp : Int64} {f : Nat} {ds : Int64} (hf : f ≤ 36) (h : dsP q n sp f ds) (he : f = 36 ∨ fb_ct (bq sp) 36 ≤ fb_ct (bq sp) f) : dsOK q n sp ds := by
  intro g
  rw [h g]
  constructor
  · rintro ⟨h1, h2⟩
    exact ⟨by omega, h2⟩
  · rintro ⟨h1, h2, h3⟩
    refine ⟨?_, h2, h3⟩
    rcases he with e | e
    · omega
    · rcases Nat.lt_or_ge g f with q | q
      · exact q
      · have a1 := fb_ct_mono (bq sp) q
        have a2 := fb_ct_mono (bq sp) (show g + 1 ≤ 36 by omega)
        rw [fb_ct_succ, h2, if_pos rfl] at a2
        omega
