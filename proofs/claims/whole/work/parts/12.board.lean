/-! the board: neighbours, and what hangs together -/
def adj (C f g : Nat) : Prop := (f / C = g / C ∧ (f % C = g % C + 1 ∨ g % C = f % C + 1)) ∨ (f % C = g % C ∧ (f / C = g / C + 1 ∨ g / C = f / C + 1)) ∨ (f / C = g / C + 1 ∧ g % C = f % C + 1) ∨ (g / C = f / C + 1 ∧ f % C = g % C + 1)
theorem adj_symm {C f g : Nat} (h : adj C f g) : adj C g f := by
  unfold adj at h ⊢
  omega
theorem six {C : Nat} (h1 : 1 ≤ C) (h2 : C ≤ 6) : C = 1 ∨ C = 2 ∨ C = 3 ∨ C = 4 ∨ C = 5 ∨ C = 6 := by omega
theorem adj_tab {C : Nat} (h1 : 1 ≤ C) (h2 : C ≤ 6) (g i : Nat) : adj C g i ↔ ((g + 1 = i ∧ g % C ≠ C - 1) ∨ (g = i + 1 ∧ g % C ≠ 0) ∨ g + C = i ∨ g = i + C ∨ (g = i + (C - 1) ∧ g % C ≠ C - 1) ∨ (g + (C - 1) = i ∧ g % C ≠ 0)) := by
  unfold adj
  rcases six h1 h2 with rfl | rfl | rfl | rfl | rfl | rfl <;> constructor <;> intro h <;> omega
theorem gBes_bits0 {R C : Nat} (hC1 : 1 ≤ C) (hC2 : C ≤ 6) (x : Int64) (i : Nat) : bq (gBes R C x) i = (((((decide (i < 64) && !decide (i < 1) && (bq x (i - 1) && bq (gEa R C ^^^ (-1)) (i - 1))) || (bq x (1 + i) && bq (gWeN C R ^^^ (-1)) (1 + i))) || ((decide (i < 64) && !decide (i < C) && bq x (i - C)) || bq x (C + i))) || ((bq x (C - 1 + i) && bq (gEa R C ^^^ (-1)) (C - 1 + i)) || (decide (i < 64) && !decide (i < C - 1) && (bq x (i - (C - 1)) && bq (gWeN C R ^^^ (-1)) (i - (C - 1)))))) && bq (gAll R C) i) := by
  unfold gBes
  simp only [bq_and, bq_or, bq_shl _ (show 1 < 64 by decide), bq_shr _ (show 1 < 64 by decide), bq_shl _ (show C < 64 by omega), bq_shr _ (show C < 64 by omega), bq_shl _ (show C - 1 < 64 by omega), bq_shr _ (show C - 1 < 64 by omega)]
theorem rc_lt36 {R C : Nat} (hR2 : R ≤ 6) (hC2 : C ≤ 6) : R * C ≤ 36 := Nat.mul_le_mul hR2 hC2
theorem gBes_bits {R C : Nat} (hR1 : 1 ≤ R) (hR2 : R ≤ 6) (hC1 : 1 ≤ C) (hC2 : C ≤ 6) {x : Int64} (hx : ∀ i, bq x i = true → i < R * C) (i : Nat) : bq (gBes R C x) i = true ↔ i < R * C ∧ ∃ g, bq x g = true ∧ adj C g i := by
  have hRC := rc_lt36 hR2 hC2
  rw [gBes_bits0 hC1 hC2]
  have hE : ∀ j, j < R * C → (bq (gEa R C ^^^ (-1)) j = true ↔ j % C ≠ C - 1) := by
    intro j hj
    rw [bq_not _ (by omega), gEa_bits R (by omega) C (by omega) hC1 j (by omega)]
    simp [hj]
  have hW : ∀ j, j < R * C → (bq (gWeN C R ^^^ (-1)) j = true ↔ j % C ≠ 0) := by
    intro j hj
    rw [bq_not _ (by omega), gWe_bits R (by omega) C (by omega) hC1 j (by omega)]
    simp [hj]
  have hAl : bq (gAll R C) i = true ↔ i < R * C := by
    rcases Nat.lt_or_ge i 64 with h | h
    · rw [gAll_bits R (by omega) C (by omega) i h]; simp
    · rw [bq_big h]; constructor
      · intro h2; cases h2
      · intro h2; omega
  simp only [Bool.and_eq_true, Bool.or_eq_true, hAl, decide_eq_true_eq, Bool.not_eq_true', decide_eq_false_iff_not]
  constructor
  · rintro ⟨h, hi⟩
    refine ⟨hi, ?_⟩
    rcases h with ((⟨⟨_, h1⟩, h2, h3⟩ | ⟨h2, h3⟩) | (⟨⟨_, h1⟩, h2⟩ | h2)) | (⟨h2, h3⟩ | ⟨⟨_, h1⟩, h2, h3⟩)
    · refine ⟨i - 1, h2, (adj_tab hC1 hC2 _ _).mpr (Or.inl ⟨by omega, (hE _ (hx _ h2)).mp h3⟩)⟩
    · refine ⟨1 + i, h2, (adj_tab hC1 hC2 _ _).mpr (Or.inr (Or.inl ⟨by omega, (hW _ (hx _ h2)).mp h3⟩))⟩
    · refine ⟨i - C, h2, (adj_tab hC1 hC2 _ _).mpr (Or.inr (Or.inr (Or.inl (by omega))))⟩
    · refine ⟨C + i, h2, (adj_tab hC1 hC2 _ _).mpr (Or.inr (Or.inr (Or.inr (Or.inl (by omega)))))⟩
    · refine ⟨C - 1 + i, h2, (adj_tab hC1 hC2 _ _).mpr (Or.inr (Or.inr (Or.inr (Or.inr (Or.inl ⟨by omega, (hE _ (hx _ h2)).mp h3⟩)))))⟩
    · refine ⟨i - (C - 1), h2, (adj_tab hC1 hC2 _ _).mpr (Or.inr (Or.inr (Or.inr (Or.inr (Or.inr ⟨by omega, (hW _ (hx _ h2)).mp h3⟩)))))⟩
  · rintro ⟨hi, g, hg, ha⟩
    refine ⟨?_, hi⟩
    have hgl := hx _ hg
    rcases (adj_tab hC1 hC2 _ _).mp ha with ⟨h1, h2⟩ | ⟨h1, h2⟩ | h1 | h1 | ⟨h1, h2⟩ | ⟨h1, h2⟩
    · rw [show i - 1 = g by omega]
      exact Or.inl (Or.inl (Or.inl ⟨⟨by omega, by omega⟩, hg, (hE _ hgl).mpr h2⟩))
    · rw [show 1 + i = g by omega]
      exact Or.inl (Or.inl (Or.inr ⟨hg, (hW _ hgl).mpr h2⟩))
    · rw [show i - C = g by omega]
      exact Or.inl (Or.inr (Or.inl ⟨⟨by omega, by omega⟩, hg⟩))
    · rw [show C + i = g by omega]
      exact Or.inl (Or.inr (Or.inr hg))
    · rw [show C - 1 + i = g by omega]
      exact Or.inr (Or.inl ⟨hg, (hE _ hgl).mpr h2⟩)
    · rw [show i - (C - 1) = g by omega]
      exact Or.inr (Or.inr ⟨⟨by omega, by omega⟩, hg, (hW _ hgl).mpr h2⟩)
/-- what is reached in n steps, in the end -/
def rc (E : Nat → Nat → Prop) (P S : Nat → Prop) : Nat → Nat → Prop
  | 0, f => S f
  | n + 1, f => rc E P S n f ∨ (P f ∧ ∃ g, rc E P S n g ∧ E g f)
def RE (E : Nat → Nat → Prop) (P S : Nat → Prop) (f : Nat) : Prop := ∃ n, rc E P S n f
theorem rc_up {E : Nat → Nat → Prop} {P S : Nat → Prop} {n m f : Nat} (h : n ≤ m) (hr : rc E P S n f) : rc E P S m f := by
  induction m with
  | zero => rw [show n = 0 by omega] at hr; exact hr
  | succ m ih =>
    rcases Nat.eq_or_lt_of_le h with e | e
    · rw [← e]; exact hr
    · exact Or.inl (ih (by omega))
theorem RE_base {E : Nat → Nat → Prop} {P S : Nat → Prop} {f : Nat} (h : S f) : RE E P S f := ⟨0, h⟩
theorem RE_step {E : Nat → Nat → Prop} {P S : Nat → Prop} {g f : Nat} (h : RE E P S g) (e : E g f) (p : P f) : RE E P S f := by
  obtain ⟨n, h⟩ := h
  exact ⟨n + 1, Or.inr ⟨p, g, h, e⟩⟩
theorem RE_ind {E : Nat → Nat → Prop} {P S : Nat → Prop} (T : Nat → Prop) (hb : ∀ f, S f → T f) (hs : ∀ g f, T g → E g f → P f → T f) {f : Nat} (h : RE E P S f) : T f := by
  obtain ⟨n, h⟩ := h
  induction n generalizing f with
  | zero => exact hb f h
  | succ n ih =>
    rcases h with h | ⟨p, g, h, e⟩
    · exact ih h
    · exact hs g f (ih h) e p
theorem RE_fix {E : Nat → Nat → Prop} {P S : Nat → Prop} {n : Nat} (hf : ∀ f, rc E P S (n + 1) f → rc E P S n f) (f : Nat) : RE E P S f ↔ rc E P S n f := by
  refine ⟨fun h => ?_, fun h => ⟨n, h⟩⟩
  exact RE_ind (fun f => rc E P S n f) (fun f h => rc_up (Nat.zero_le _) h) (fun g f h e p => hf f (Or.inr ⟨p, g, h, e⟩)) h
theorem RE_mono {E : Nat → Nat → Prop} {P S P' S' : Nat → Prop} (hP : ∀ f, P f → P' f) (hS : ∀ f, S f → S' f) {f : Nat} (h : RE E P S f) : RE E P' S' f :=
  RE_ind (fun f => RE E P' S' f) (fun f h => RE_base (hS f h)) (fun g f h e p => RE_step h e (hP f p)) h
theorem RE_cong {E : Nat → Nat → Prop} {P S P' S' : Nat → Prop} (hP : ∀ f, P f ↔ P' f) (hS : ∀ f, S f ↔ S' f) {f : Nat} : RE E P S f ↔ RE E P' S' f :=
  ⟨RE_mono (fun f => (hP f).mp) (fun f => (hS f).mp), RE_mono (fun f => (hP f).mpr) (fun f => (hS f).mpr)⟩
theorem gStep_bits {R C : Nat} (hR1 : 1 ≤ R) (hR2 : R ≤ 6) (hC1 : 1 ≤ C) (hC2 : C ≤ 6) {w a : Int64} (ha : ∀ i, bq a i = true → i < R * C) (hw : ∀ i, bq w i = true → i < R * C) (i : Nat) : bq (gStep R C w a) i = true ↔ (bq a i = true ∨ ∃ g, bq a g = true ∧ adj C g i) ∧ bq w i = true := by
  unfold gStep
  rw [bq_and, bq_or, Bool.and_eq_true, Bool.or_eq_true, gBes_bits hR1 hR2 hC1 hC2 ha]
  constructor
  · rintro ⟨h | ⟨_, h⟩, h2⟩
    · exact ⟨Or.inl h, h2⟩
    · exact ⟨Or.inr h, h2⟩
  · rintro ⟨h | h, h2⟩
    · exact ⟨Or.inl h, h2⟩
    · exact ⟨Or.inr ⟨hw _ h2, h⟩, h2⟩
theorem gIt_s (R C : Nat) (w : Int64) : ∀ (n : Nat) (a : Int64), gIt R C w (n + 1) a = gStep R C w (gIt R C w n a)
  | 0, _ => rfl
  | n + 1, a => by
    show gIt R C w (n + 1) (gStep R C w a) = gStep R C w (gIt R C w n (gStep R C w a))
    exact gIt_s R C w n (gStep R C w a)
theorem gStep_in {R C : Nat} {w a : Int64} {i : Nat} (h : bq (gStep R C w a) i = true) : bq w i = true := by
  unfold gStep at h
  rw [bq_and, Bool.and_eq_true] at h
  exact h.2
theorem gIt_in {R C : Nat} {w : Int64} (n : Nat) {a : Int64} (ha : ∀ i, bq a i = true → bq w i = true) (i : Nat) (h : bq (gIt R C w n a) i = true) : bq w i = true := by
  cases n with
  | zero => exact ha i h
  | succ n => rw [gIt_s] at h; exact gStep_in h
theorem gIt_bits {R C : Nat} (hR1 : 1 ≤ R) (hR2 : R ≤ 6) (hC1 : 1 ≤ C) (hC2 : C ≤ 6) {w a : Int64} (ha : ∀ i, bq a i = true → bq w i = true) (hw : ∀ i, bq w i = true → i < R * C) (n i : Nat) : bq (gIt R C w n a) i = true ↔ rc (adj C) (fun f => bq w f = true) (fun f => bq a f = true) n i := by
  induction n generalizing i with
  | zero => exact Iff.rfl
  | succ n ih =>
    rw [gIt_s, gStep_bits hR1 hR2 hC1 hC2 (fun i h => hw i (gIt_in n ha i h)) hw]
    constructor
    · rintro ⟨h | ⟨g, h, e⟩, h2⟩
      · exact Or.inl ((ih i).mp h)
      · exact Or.inr ⟨h2, g, (ih g).mp h, e⟩
    · rintro (h | ⟨p, g, h, e⟩)
      · exact ⟨Or.inl ((ih i).mpr h), gIt_in n ha i ((ih i).mpr h)⟩
      · exact ⟨Or.inr ⟨g, (ih g).mpr h, e⟩, p⟩
theorem pcn_lt {x y : Int64} (h : ∀ i, bq x i = true → bq y i = true) (hne : x ≠ y) : pcn x < pcn y := by
  have h1 : ∃ i, i < 64 ∧ bq x i = false ∧ bq y i = true := by
    apply Classical.byContradiction
    intro hh
    apply hne
    apply bq_ext
    intro i hi
    cases hx : bq x i with
    | true => rw [h i hx]
    | false =>
      cases hy : bq y i with
      | false => rfl
      | true => exact absurd ⟨i, hi, hx, hy⟩ hh
  obtain ⟨i, hi, hx, hy⟩ := h1
  have e := fb_ct_upd (bq x) true hi
  rw [hx] at e
  have l : fb_ct (fun k => if k = i then true else bq x k) 64 ≤ fb_ct (bq y) 64 := by
    apply fb_ct_sub
    intro k _ hk
    by_cases hki : k = i
    · rw [hki]; exact hy
    · rw [if_neg hki] at hk; exact h k hk
  unfold pcn
  rw [if_neg Bool.false_ne_true, if_pos rfl] at e
  omega
theorem pcn_le36 {n : Nat} {x : Int64} (hn : n ≤ 64) (h : ∀ i, bq x i = true → i < n) : pcn x ≤ n := by
  unfold pcn
  have e := fb_ct_split (bq x) n (64 - n)
  rw [show n + (64 - n) = 64 by omega] at e
  have z : fb_ct (fun k => bq x (n + k)) (64 - n) = 0 := by
    apply fb_ct_zero.mpr
    intro k _
    cases hk : bq x (n + k) with
    | false => rfl
    | true => have := h _ hk; omega
  have l := fb_ct_le (bq x) n
  omega
theorem gSp_fix {R C : Nat} (hR2 : R ≤ 6) (hC2 : C ≤ 6) {w a : Int64} (ha : ∀ i, bq a i = true → bq w i = true) (hw : ∀ i, bq w i = true → i < R * C) : gStep R C w (gIt R C w 36 a) = gIt R C w 36 a := by
  have hRC := rc_lt36 hR2 hC2
  have key : ∀ n, (∃ k, k < n ∧ gStep R C w (gIt R C w k a) = gIt R C w k a) ∨ n ≤ pcn (gIt R C w n a) := by
    intro n
    induction n with
    | zero => exact Or.inr (Nat.zero_le _)
    | succ n ih =>
      rcases ih with ⟨k, h1, h2⟩ | h
      · exact Or.inl ⟨k, by omega, h2⟩
      · by_cases hs : gStep R C w (gIt R C w n a) = gIt R C w n a
        · exact Or.inl ⟨n, by omega, hs⟩
        · refine Or.inr ?_
          rw [gIt_s]
          have := pcn_lt (x := gIt R C w n a) (y := gStep R C w (gIt R C w n a)) (fun i hi => by
            unfold gStep
            rw [bq_and, bq_or, hi, gIt_in n ha i hi]; rfl) (fun e => hs e.symm)
          omega
  have fixed : ∀ k m, gStep R C w (gIt R C w k a) = gIt R C w k a → gIt R C w (k + m) a = gIt R C w k a := by
    intro k m hk
    induction m with
    | zero => rfl
    | succ m ih => rw [← Nat.add_assoc, gIt_s, ih, hk]
  rcases key 37 with ⟨k, h1, h2⟩ | h
  · have := fixed k (36 - k) h2
    rw [show k + (36 - k) = 36 by omega] at this
    rw [this, h2]
  · have := pcn_le36 (n := 36) (x := gIt R C w 37 a) (by decide) (fun i hi => by have := hw i (gIt_in 37 ha i hi); omega)
    omega
/-- the spreading of seeds inside a set is all that hangs together with one of them -/
theorem gSp_bits {R C : Nat} (hR1 : 1 ≤ R) (hR2 : R ≤ 6) (hC1 : 1 ≤ C) (hC2 : C ≤ 6) {x w : Int64} (hw : ∀ i, bq w i = true → i < R * C) (i : Nat) : bq (gSp R C x w) i = true ↔ RE (adj C) (fun f => bq w f = true) (fun f => bq x f = true ∧ bq w f = true) i := by
  unfold gSp
  have ha : ∀ i, bq (x &&& w) i = true → bq w i = true := fun i h => by rw [bq_and, Bool.and_eq_true] at h; exact h.2
  have hf := gSp_fix hR2 hC2 ha hw
  have hb := gIt_bits hR1 hR2 hC1 hC2 ha hw
  have e : RE (adj C) (fun f => bq w f = true) (fun f => bq x f = true ∧ bq w f = true) i ↔ RE (adj C) (fun f => bq w f = true) (fun f => bq (x &&& w) f = true) i := RE_cong (fun _ => Iff.rfl) (fun f => by rw [bq_and, Bool.and_eq_true])
  rw [e, RE_fix (n := 36), hb]
  intro f h
  rw [← hb] at h ⊢
  rw [gIt_s, hf] at h
  exact h
