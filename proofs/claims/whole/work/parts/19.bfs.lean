/-! a breadth-first search's layers: what is reached in k steps, not in fewer -/
theorem RE_trans {E : Nat → Nat → Prop} {P S T : Nat → Prop} {f : Nat} (h : RE E P T f) (hT : ∀ g, T g → RE E P S g) : RE E P S f := RE_ind (fun f => RE E P S f) hT (fun _ _ h e p => RE_step h e p) h
theorem RE_in {E : Nat → Nat → Prop} {P S : Nat → Prop} {f : Nat} (hS : ∀ x, S x → P x) (h : RE E P S f) : P f := RE_ind P hS (fun _ _ _ _ p => p) h
theorem RE_sym1 {E : Nat → Nat → Prop} {P : Nat → Prop} (hE : ∀ a b, E a b → E b a) {x y : Nat} (hx : P x) (h : RE E P (fun z => z = x) y) : P y ∧ RE E P (fun z => z = y) x := by
  refine RE_ind (fun y => P y ∧ RE E P (fun z => z = y) x) (fun f hf => ?_) (fun g f hg e p => ?_) h
  · rw [hf]; exact ⟨hx, RE_base rfl⟩
  · exact ⟨p, RE_trans hg.2 (fun z hz => by rw [hz]; exact RE_step (RE_base rfl) (hE g f e) hg.1)⟩
theorem RE_src {E : Nat → Nat → Prop} {P S : Nat → Prop} {f : Nat} (h : RE E P S f) : ∃ x, S x ∧ RE E P (fun z => z = x) f :=
  RE_ind (fun f => ∃ x, S x ∧ RE E P (fun z => z = x) f) (fun f hf => ⟨f, hf, RE_base rfl⟩) (fun _ _ ⟨x, h1, h2⟩ e p => ⟨x, h1, RE_step h2 e p⟩) h
theorem RE_swap {E : Nat → Nat → Prop} {P S T : Nat → Prop} (hE : ∀ a b, E a b → E b a) (hS : ∀ x, S x → P x) {f : Nat} (h : RE E P S f) (ht : T f) : ∃ x, S x ∧ RE E P T x := by
  obtain ⟨x, h1, h2⟩ := RE_src h
  exact ⟨x, h1, RE_trans (RE_sym1 hE (hS x h1) h2).2 (fun z hz => RE_base (by rw [hz]; exact ht))⟩
theorem fb_ct_lt {p q : Nat → Bool} {n i : Nat} (h : ∀ k, k < n → p k = true → q k = true) (hi : i < n) (hp : p i = false) (hq : q i = true) : fb_ct p n < fb_ct q n := by
  have e := fb_ct_upd p true hi
  rw [hp] at e
  have l : fb_ct (fun k => if k = i then true else p k) n ≤ fb_ct q n := by
    apply fb_ct_sub
    intro k hk hk2
    by_cases hki : k = i
    · rw [hki]; exact hq
    · rw [if_neg hki] at hk2; exact h k hk hk2
  rw [if_neg Bool.false_ne_true, if_pos rfl] at e
  omega
noncomputable def rcB (E : Nat → Nat → Prop) (P S : Nat → Prop) (n x : Nat) : Bool := @decide (rc E P S n x) (Classical.propDecidable _)
theorem rcB_iff {E : Nat → Nat → Prop} {P S : Nat → Prop} {n x : Nat} : rcB E P S n x = true ↔ rc E P S n x := by unfold rcB; exact @decide_eq_true_iff _ (Classical.propDecidable _)
theorem rcB_f {E : Nat → Nat → Prop} {P S : Nat → Prop} {n x : Nat} (h : ¬ rc E P S n x) : rcB E P S n x = false := by unfold rcB; exact @decide_eq_false _ (Classical.propDecidable _) h
theorem rc_lt {E : Nat → Nat → Prop} {P S : Nat → Prop} {N : Nat} (hP : ∀ x, P x → x < N) (hS : ∀ x, S x → x < N) : ∀ (n : Nat) {f : Nat}, rc E P S n f → f < N
  | 0, f, h => hS f h
  | n + 1, _, h => by
    rcases h with h | ⟨p, _⟩
    · exact rc_lt hP hS n h
    · exact hP _ p
theorem rc_stab {E : Nat → Nat → Prop} {P S : Nat → Prop} {N : Nat} (hP : ∀ x, P x → x < N) (hS : ∀ x, S x → x < N) (h0 : ∃ x, S x) {f : Nat} (h : RE E P S f) : rc E P S (N - 1) f := by
  have key : ∀ n, (∃ k, k < n ∧ ∀ f, rc E P S (k + 1) f → rc E P S k f) ∨ n + 1 ≤ fb_ct (rcB E P S n) N := by
    intro n
    induction n with
    | zero =>
      obtain ⟨x, hx⟩ := h0
      exact Or.inr (fb_ct_pos.mpr ⟨x, hS x hx, rcB_iff.mpr hx⟩)
    | succ n ih =>
      rcases ih with ⟨k, h1, h2⟩ | ih
      · exact Or.inl ⟨k, by omega, h2⟩
      · by_cases hs : ∀ f, rc E P S (n + 1) f → rc E P S n f
        · exact Or.inl ⟨n, by omega, hs⟩
        · refine Or.inr ?_
          have : ∃ f, rc E P S (n + 1) f ∧ ¬ rc E P S n f := by
            apply Classical.byContradiction
            intro hh
            exact hs (fun f hf => Classical.byContradiction (fun hn => hh ⟨f, hf, hn⟩))
          obtain ⟨f, hf, hn⟩ := this
          have := fb_ct_lt (p := rcB E P S n) (q := rcB E P S (n + 1)) (n := N) (i := f) (fun k _ hk => rcB_iff.mpr (Or.inl (rcB_iff.mp hk))) (rc_lt hP hS _ hf) (rcB_f hn) (rcB_iff.mpr hf)
          omega
  rcases key N with ⟨k, h1, h2⟩ | h1
  · exact rc_up (by omega) ((RE_fix h2 f).mp h)
  · have := fb_ct_le (rcB E P S N) N
    omega
def ne9 (E : Nat → Nat → Prop) (P S : Nat → Prop) : Nat → Nat → Prop
  | 0, f => S f
  | k + 1, f => rc E P S (k + 1) f ∧ ¬ rc E P S k f
theorem ne9_rc {E : Nat → Nat → Prop} {P S : Nat → Prop} {k f : Nat} (h : ne9 E P S k f) : rc E P S k f := by
  cases k with
  | zero => exact h
  | succ k => exact h.1
theorem ne9_step {E : Nat → Nat → Prop} {P S : Nat → Prop} {k f : Nat} : (P f ∧ (∃ g, ne9 E P S k g ∧ E g f) ∧ ¬ rc E P S k f) ↔ ne9 E P S (k + 1) f := by
  constructor
  · rintro ⟨p, ⟨g, h1, h2⟩, h3⟩
    exact ⟨Or.inr ⟨p, g, ne9_rc h1, h2⟩, h3⟩
  · rintro ⟨h1, h2⟩
    rcases h1 with h1 | ⟨p, g, h1, h3⟩
    · exact absurd h1 h2
    · refine ⟨p, ⟨g, ?_, h3⟩, h2⟩
      cases k with
      | zero => exact h1
      | succ k => exact ⟨h1, fun h4 => h2 (Or.inr ⟨p, g, h4, h3⟩)⟩
abbrev xP (x : Int64) : Nat → Prop := fun f => bq x f = true
abbrev xS (x t : Int64) : Nat → Prop := fun f => bq x f = true ∧ bq t f = true
theorem pL_bits {R C : Nat} (hR1 : 1 ≤ R) (hR2 : R ≤ 6) (hC1 : 1 ≤ C) (hC2 : C ≤ 6) {x t : Int64} (hx : ∀ i, bq x i = true → i < R * C) : ∀ k f, (bq (pL R C x t k).2 f = true ↔ rc (adj C) (xP x) (xS x t) k f) ∧ (bq (pL R C x t k).1 f = true ↔ ne9 (adj C) (xP x) (xS x t) k f)
  | 0, f => by
    have e : bq (x &&& t) f = true ↔ xS x t f := by rw [bq_and, Bool.and_eq_true]
    exact ⟨e, e⟩
  | k + 1, f => by
    have ih := pL_bits hR1 hR2 hC1 hC2 (t := t) hx k
    have hin : ∀ g, bq (pL R C x t k).1 g = true → g < R * C := fun g hg => rc_lt (fun y hy => hx y hy) (fun y hy => hx y hy.1) k (ne9_rc ((ih g).2.mp hg))
    have e1 : bq (pL R C x t (k + 1)).1 f = true ↔ ne9 (adj C) (xP x) (xS x t) (k + 1) f := by
      show bq ((gBes R C (pL R C x t k).1 &&& x) &&& ((pL R C x t k).2 ^^^ (-1))) f = true ↔ _
      rw [bq_andn, bq_and, Bool.and_eq_true, Bool.and_eq_true, gBes_bits hR1 hR2 hC1 hC2 hin, ← ne9_step]
      constructor
      · rintro ⟨⟨⟨h1, g, h2, h3⟩, h4⟩, h5⟩
        refine ⟨h4, ⟨g, (ih g).2.mp h2, h3⟩, fun h6 => ?_⟩
        rw [(ih f).1.mpr h6] at h5
        cases h5
      · rintro ⟨h1, ⟨g, h2, h3⟩, h4⟩
        refine ⟨⟨⟨hx f h1, g, (ih g).2.mpr h2, h3⟩, h1⟩, ?_⟩
        cases q : bq (pL R C x t k).2 f with
        | false => rfl
        | true => exact absurd ((ih f).1.mp q) h4
    refine ⟨?_, e1⟩
    show bq ((pL R C x t k).2 ||| (pL R C x t (k + 1)).1) f = true ↔ _
    rw [bq_or, Bool.or_eq_true, e1, (ih f).1]
    constructor
    · rintro (h | h)
      · exact Or.inl h
      · exact h.1
    · intro h
      by_cases c : rc (adj C) (xP x) (xS x t) k f
      · exact Or.inl c
      · exact Or.inr ⟨h, c⟩
theorem and_ne09 {x y : Int64} : x &&& y ≠ 0 ↔ ∃ i, bq x i = true ∧ bq y i = true := by
  rw [bq_ne0]
  constructor
  · rintro ⟨i, _, h⟩
    rw [bq_and, Bool.and_eq_true] at h
    exact ⟨i, h⟩
  · rintro ⟨i, h1, h2⟩
    refine ⟨i, ?_, by rw [bq_and, h1, h2]; rfl⟩
    rcases Nat.lt_or_ge i 64 with e | e
    · exact e
    · rw [bq_big e] at h1; cases h1
theorem least_ex {p : Nat → Prop} : ∀ {n : Nat}, p n → ∃ k, k ≤ n ∧ p k ∧ ∀ j, j < k → ¬ p j
  | 0, h => ⟨0, Nat.le_refl _, h, fun j hj => absurd hj (Nat.not_lt_zero j)⟩
  | n + 1, h => by
    by_cases c : ∃ j, j ≤ n ∧ p j
    · obtain ⟨j, hj, h2⟩ := c
      have : ∀ m j, j ≤ m → p j → ∃ k, k ≤ m ∧ p k ∧ ∀ i, i < k → ¬ p i := by
        intro m
        induction m with
        | zero => intro j hj hp; exact ⟨0, Nat.le_refl _, by rw [show j = 0 by omega] at hp; exact hp, fun i hi => absurd hi (Nat.not_lt_zero i)⟩
        | succ m ih =>
          intro j hj hp
          by_cases d : ∃ i, i ≤ m ∧ p i
          · obtain ⟨i, hi, hpi⟩ := d
            obtain ⟨k, h1, h2⟩ := ih i hi hpi
            exact ⟨k, by omega, h2⟩
          · have e : j = m + 1 := by
              rcases Nat.lt_or_ge m j with q | q
              · omega
              · exact absurd ⟨j, q, hp⟩ d
            exact ⟨m + 1, Nat.le_refl _, by rw [e] at hp; exact hp, fun i hi hpi => d ⟨i, by omega, hpi⟩⟩
      obtain ⟨k, h1, h3⟩ := this n j hj h2
      exact ⟨k, by omega, h3⟩
    · exact ⟨n + 1, Nat.le_refl _, h, fun j hj hp => c ⟨j, by omega, hp⟩⟩
theorem pathK_ex9 {R C : Nat} (hR1 : 1 ≤ R) (hR2 : R ≤ 6) (hC1 : 1 ≤ C) (hC2 : C ≤ 6) {x st t : Int64} (hx : ∀ i, bq x i = true → i < R * C) (h : gSp R C st x &&& t ≠ 0) : ∃ K, K < 36 ∧ (∀ j, j < K → (pL R C x t j).1 &&& st = 0) ∧ (pL R C x t K).1 &&& st ≠ 0 ∧ ∀ j, j ≤ K → (pL R C x t j).1 ≠ 0 := by
  have hRC := rc_lt36 hR2 hC2
  have hb := pL_bits hR1 hR2 hC1 hC2 (t := t) hx
  obtain ⟨i, h1, h2⟩ := and_ne09.mp h
  rw [gSp_bits hR1 hR2 hC1 hC2 hx] at h1
  have hi := RE_in (P := xP x) (fun y hy => hy.2) h1
  obtain ⟨s, hs1, hs2⟩ := RE_swap (P := xP x) (T := xS x t) (fun _ _ => adj_symm) (fun y hy => hy.2) h1 ⟨hi, h2⟩
  have hs3 := rc_stab (N := R * C) (fun y hy => hx y hy) (fun y hy => hx y hy.1) ⟨i, hi, h2⟩ hs2
  obtain ⟨K, k1, ⟨s2, k2, k3⟩, k4⟩ := least_ex (p := fun k => ∃ s, bq st s = true ∧ rc (adj C) (xP x) (xS x t) k s) ⟨s, hs1.1, hs3⟩
  refine ⟨K, by omega, fun j hj => ?_, ?_, fun j hj h0 => ?_⟩
  · apply Classical.byContradiction
    intro hn
    obtain ⟨y, y1, y2⟩ := and_ne09.mp hn
    exact k4 j hj ⟨y, y2, ne9_rc ((hb j y).2.mp y1)⟩
  · refine and_ne09.mpr ⟨s2, (hb K s2).2.mpr ?_, k2⟩
    cases K with
    | zero => exact k3
    | succ K => exact ⟨k3, fun h9 => k4 K (Nat.lt_succ_self K) ⟨s2, k2, h9⟩⟩
  · have hno : ∀ y, ¬ ne9 (adj C) (xP x) (xS x t) j y := fun y hy => by
      have := (hb j y).2.mpr hy
      rw [h0, bq_0] at this
      cases this
    cases j with
    | zero => exact hno i ⟨hi, h2⟩
    | succ j =>
      have hst : ∀ f, rc (adj C) (xP x) (xS x t) (j + 1) f → rc (adj C) (xP x) (xS x t) j f := fun f hf => Classical.byContradiction (fun hn => hno f ⟨hf, hn⟩)
      exact k4 j (by omega) ⟨s2, k2, (RE_fix hst s2).mp ⟨K, k3⟩⟩
