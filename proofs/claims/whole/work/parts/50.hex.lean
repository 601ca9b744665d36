/-! the fields of a triangle: of two colours just one joins all three sides; and so of a board full of stones just one has joined -/
def tc (E : Nat × Nat → Nat × Nat → Prop) (P S : Nat × Nat → Prop) : Nat → Nat × Nat → Prop
  | 0, f => S f
  | n + 1, f => tc E P S n f ∨ (P f ∧ ∃ g, tc E P S n g ∧ E g f)
def TR (E : Nat × Nat → Nat × Nat → Prop) (P S : Nat × Nat → Prop) (f : Nat × Nat) : Prop := ∃ n, tc E P S n f
theorem TR_base {E : Nat × Nat → Nat × Nat → Prop} {P S : Nat × Nat → Prop} {f : Nat × Nat} (h : S f) : TR E P S f := ⟨0, h⟩
theorem TR_step {E : Nat × Nat → Nat × Nat → Prop} {P S : Nat × Nat → Prop} {g f : Nat × Nat} (h : TR E P S g) (e : E g f) (p : P f) : TR E P S f := by
  obtain ⟨n, h⟩ := h
  exact ⟨n + 1, Or.inr ⟨p, g, h, e⟩⟩
theorem TR_ind {E : Nat × Nat → Nat × Nat → Prop} {P S : Nat × Nat → Prop} (T : Nat × Nat → Prop) (hb : ∀ f, S f → T f) (hs : ∀ g f, T g → E g f → P f → T f) {f : Nat × Nat} (h : TR E P S f) : T f := by
  obtain ⟨n, h⟩ := h
  induction n generalizing f with
  | zero => exact hb f h
  | succ n ih =>
    rcases h with h | ⟨p, g, h, e⟩
    · exact ih h
    · exact hs g f (ih h) e p
theorem TR_trans {E : Nat × Nat → Nat × Nat → Prop} {P S T : Nat × Nat → Prop} {f : Nat × Nat} (h : TR E P T f) (hT : ∀ g, T g → TR E P S g) : TR E P S f := TR_ind (fun f => TR E P S f) hT (fun _ _ h e p => TR_step h e p) h
theorem TR_sym1 {E : Nat × Nat → Nat × Nat → Prop} {P : Nat × Nat → Prop} (hE : ∀ a b, E a b → E b a) {x y : Nat × Nat} (hx : P x) (h : TR E P (fun z => z = x) y) : P y ∧ TR E P (fun z => z = y) x := by
  refine TR_ind (fun y => P y ∧ TR E P (fun z => z = y) x) (fun f hf => ?_) (fun g f hg e p => ?_) h
  · rw [hf]; exact ⟨hx, TR_base rfl⟩
  · exact ⟨p, TR_trans hg.2 (fun z hz => by rw [hz]; exact TR_step (TR_base rfl) (hE g f e) hg.1)⟩
def tA (a b : Nat × Nat) : Prop := (a.1 = b.1 ∧ (a.2 = b.2 + 1 ∨ b.2 = a.2 + 1)) ∨ (a.2 = b.2 ∧ (a.1 = b.1 + 1 ∨ b.1 = a.1 + 1)) ∨ (a.1 = b.1 + 1 ∧ b.2 = a.2 + 1) ∨ (b.1 = a.1 + 1 ∧ a.2 = b.2 + 1)
theorem tA_symm (a b : Nat × Nat) (h : tA a b) : tA b a := by unfold tA at h ⊢; omega
/-- the fields of a triangle of side n that are P -/
def tP (n : Nat) (P : Nat × Nat → Prop) (a : Nat × Nat) : Prop := a.1 + a.2 < n ∧ P a
def cn (n : Nat) (P : Nat × Nat → Prop) (a b : Nat × Nat) : Prop := TR tA (tP n P) (fun z => z = a) b
def yW (n : Nat) (P : Nat × Nat → Prop) : Prop := ∃ a b c, tP n P a ∧ a.1 = 0 ∧ b.2 = 0 ∧ c.1 + c.2 + 1 = n ∧ cn n P a b ∧ cn n P a c
/-- a field's triangle, and what more than half of it has -/
def tT (x u : Nat × Nat) : Prop := (u.1 = x.1 ∧ u.2 = x.2) ∨ (u.1 = x.1 + 1 ∧ u.2 = x.2) ∨ (u.1 = x.1 ∧ u.2 = x.2 + 1)
def rd (P : Nat × Nat → Prop) (x : Nat × Nat) : Prop := (P (x.1, x.2) ∧ P (x.1 + 1, x.2)) ∨ (P (x.1 + 1, x.2) ∧ P (x.1, x.2 + 1)) ∨ (P (x.1, x.2) ∧ P (x.1, x.2 + 1))
theorem cn_same {n : Nat} {P : Nat × Nat → Prop} {x u v : Nat × Nat} (hu : tT x u) (hv : tT x v) (hx : tP n P v) : cn n P u v := by
  by_cases e : v = u
  · exact TR_base e
  · refine TR_step (g := u) (TR_base rfl) ?_ hx
    have : ¬ (v.1 = u.1 ∧ v.2 = u.2) := fun h => e (Prod.ext h.1 h.2)
    unfold tT at hu hv
    unfold tA
    omega
theorem pr_eq {a b : Nat × Nat} (h1 : a.1 = b.1) (h2 : a.2 = b.2) : a = b := Prod.ext h1 h2
theorem rd_link {P : Nat × Nat → Prop} {y z : Nat × Nat} (hy : rd P y) (hz : rd P z) (h : tA y z) : ∃ v w, tT y v ∧ tT z w ∧ P v ∧ P w ∧ (w = v ∨ tA v w) := by
  have key : ∀ y z : Nat × Nat, rd P y → rd P z → ((z.1 = y.1 ∧ z.2 = y.2 + 1) ∨ (z.2 = y.2 ∧ z.1 = y.1 + 1) ∨ (z.1 = y.1 + 1 ∧ y.2 = z.2 + 1)) → ∃ v w, tT y v ∧ tT z w ∧ P v ∧ P w ∧ (w = v ∨ tA v w) := by
    rintro ⟨i, j⟩ ⟨k, l⟩ hy hz h
    simp only at h
    unfold rd at hy hz
    simp only at hy hz
    rcases h with ⟨rfl, rfl⟩ | ⟨rfl, rfl⟩ | ⟨rfl, rfl⟩
    · by_cases c : P (k, j + 1)
      · exact ⟨(k, j + 1), (k, j + 1), Or.inr (Or.inr ⟨rfl, rfl⟩), Or.inl ⟨rfl, rfl⟩, c, c, Or.inl rfl⟩
      · have h1 : P (k + 1, j) := by
          rcases hy with h | h | h
          · exact h.2
          · exact absurd h.2 c
          · exact absurd h.2 c
        have h2 : P (k + 1, j + 1) := by
          rcases hz with h | h | h
          · exact h.2
          · exact h.1
          · exact absurd h.1 c
        exact ⟨(k + 1, j), (k + 1, j + 1), Or.inr (Or.inl ⟨rfl, rfl⟩), Or.inr (Or.inl ⟨rfl, rfl⟩), h1, h2, Or.inr (Or.inl ⟨rfl, Or.inr rfl⟩)⟩
    · by_cases c : P (i + 1, l)
      · exact ⟨(i + 1, l), (i + 1, l), Or.inr (Or.inl ⟨rfl, rfl⟩), Or.inl ⟨rfl, rfl⟩, c, c, Or.inl rfl⟩
      · have h1 : P (i, l + 1) := by
          rcases hy with h | h | h
          · exact absurd h.2 c
          · exact h.2
          · exact h.2
        have h2 : P (i + 1, l + 1) := by
          rcases hz with h | h | h
          · exact absurd h.1 c
          · exact h.2
          · exact h.2
        exact ⟨(i, l + 1), (i + 1, l + 1), Or.inr (Or.inr ⟨rfl, rfl⟩), Or.inr (Or.inr ⟨rfl, rfl⟩), h1, h2, Or.inr (Or.inr (Or.inl ⟨rfl, Or.inr rfl⟩))⟩
    · by_cases c : P (i + 1, l + 1)
      · exact ⟨(i + 1, l + 1), (i + 1, l + 1), Or.inr (Or.inl ⟨rfl, rfl⟩), Or.inr (Or.inr ⟨rfl, rfl⟩), c, c, Or.inl rfl⟩
      · have h1 : P (i, l + 1) := by
          rcases hy with h | h | h
          · exact h.1
          · exact absurd h.1 c
          · exact h.1
        have h2 : P (i + 1, l) := by
          rcases hz with h | h | h
          · exact h.1
          · exact absurd h.2 c
          · exact h.1
        exact ⟨(i, l + 1), (i + 1, l), Or.inl ⟨rfl, rfl⟩, Or.inl ⟨rfl, rfl⟩, h1, h2, Or.inr (Or.inr (Or.inr (Or.inr ⟨rfl, rfl⟩)))⟩
  have h2 : ((z.1 = y.1 ∧ z.2 = y.2 + 1) ∨ (z.2 = y.2 ∧ z.1 = y.1 + 1) ∨ (z.1 = y.1 + 1 ∧ y.2 = z.2 + 1)) ∨ ((y.1 = z.1 ∧ y.2 = z.2 + 1) ∨ (y.2 = z.2 ∧ y.1 = z.1 + 1) ∨ (y.1 = z.1 + 1 ∧ z.2 = y.2 + 1)) := by
    unfold tA at h
    omega
  rcases h2 with h2 | h2
  · exact key y z hy hz h2
  · obtain ⟨v, w, a1, a2, a3, a4, a5⟩ := key z y hz hy h2
    refine ⟨w, v, a2, a1, a4, a3, ?_⟩
    rcases a5 with e | e
    · exact Or.inl e.symm
    · exact Or.inr (tA_symm _ _ e)
theorem tT_in {n : Nat} {x u : Nat × Nat} (h : tT x u) (hx : x.1 + x.2 < n) : u.1 + u.2 < n + 1 := by unfold tT at h; omega
theorem cn_up {n : Nat} {P : Nat × Nat → Prop} {x y u : Nat × Nat} (hx : tP n (rd P) x) (hu : tT x u) (hPu : P u) (h : cn n (rd P) x y) : ∀ v, tT y v → P v → cn (n + 1) P u v := by
  have key : tP n (rd P) y ∧ ∀ v, tT y v → P v → cn (n + 1) P u v := by
    refine TR_ind (fun y => tP n (rd P) y ∧ ∀ v, tT y v → P v → cn (n + 1) P u v) (fun f hf => ?_) (fun g f hg e p => ?_) h
    · rw [hf]; exact ⟨hx, fun v hv hp => cn_same hu hv ⟨tT_in hv hx.1, hp⟩⟩
    · refine ⟨p, fun v hv hp => ?_⟩
      obtain ⟨a, b, h1, h2, h3, h4, h5⟩ := rd_link hg.1.2 p.2 e
      have c1 := hg.2 a h1 h3
      have c2 : cn (n + 1) P u b := by
        rcases h5 with h5 | h5
        · rw [h5]; exact c1
        · exact TR_step c1 h5 ⟨tT_in h2 p.1, h4⟩
      exact TR_trans (cn_same h2 hv ⟨tT_in hv p.1, hp⟩) (fun z hz => by rw [hz]; exact c2)
  exact key.2
theorem yW_up {n : Nat} {P : Nat × Nat → Prop} (h : yW n (rd P)) : yW (n + 1) P := by
  obtain ⟨a, b, c, ha, ha0, hb0, hc0, hab, hac⟩ := h
  have hb := (TR_sym1 tA_symm ha hab).1
  have hc := (TR_sym1 tA_symm ha hac).1
  have h1 : ∃ u, tT a u ∧ P u ∧ u.1 = 0 := by
    rcases ha.2 with h | h | h
    · exact ⟨(a.1, a.2), Or.inl ⟨rfl, rfl⟩, h.1, ha0⟩
    · exact ⟨(a.1, a.2 + 1), Or.inr (Or.inr ⟨rfl, rfl⟩), h.2, ha0⟩
    · exact ⟨(a.1, a.2), Or.inl ⟨rfl, rfl⟩, h.1, ha0⟩
  have h2 : ∃ u, tT b u ∧ P u ∧ u.2 = 0 := by
    rcases hb.2 with h | h | h
    · exact ⟨(b.1, b.2), Or.inl ⟨rfl, rfl⟩, h.1, hb0⟩
    · exact ⟨(b.1 + 1, b.2), Or.inr (Or.inl ⟨rfl, rfl⟩), h.1, hb0⟩
    · exact ⟨(b.1, b.2), Or.inl ⟨rfl, rfl⟩, h.1, hb0⟩
  have h3 : ∃ u, tT c u ∧ P u ∧ u.1 + u.2 + 1 = n + 1 := by
    rcases hc.2 with h | h | h
    · exact ⟨(c.1 + 1, c.2), Or.inr (Or.inl ⟨rfl, rfl⟩), h.2, by show c.1 + 1 + c.2 + 1 = n + 1; omega⟩
    · exact ⟨(c.1 + 1, c.2), Or.inr (Or.inl ⟨rfl, rfl⟩), h.1, by show c.1 + 1 + c.2 + 1 = n + 1; omega⟩
    · exact ⟨(c.1, c.2 + 1), Or.inr (Or.inr ⟨rfl, rfl⟩), h.2, by show c.1 + (c.2 + 1) + 1 = n + 1; omega⟩
  obtain ⟨u, u1, u2, u3⟩ := h1
  obtain ⟨v, v1, v2, v3⟩ := h2
  obtain ⟨w, w1, w2, w3⟩ := h3
  exact ⟨u, v, w, ⟨tT_in u1 ha.1, u2⟩, u3, v3, w3, cn_up ha u1 u2 hab v v1 v2, cn_up ha u1 u2 hac w w1 w2⟩
/-- two neighbours lie in one triangle -/
theorem tA_tri {n : Nat} {P : Nat × Nat → Prop} {v w : Nat × Nat} (h : tA v w) (hv : tP (n + 1) P v) (hw : tP (n + 1) P w) : ∃ e, tP n (rd P) e ∧ tT e v ∧ tT e w := by
  obtain ⟨i, j⟩ := v
  obtain ⟨k, l⟩ := w
  obtain ⟨v1, v2⟩ := hv
  obtain ⟨w1, w2⟩ := hw
  unfold tA at h
  simp only at h v1 w1
  rcases h with ⟨rfl, rfl | rfl⟩ | ⟨rfl, rfl | rfl⟩ | ⟨rfl, rfl⟩ | ⟨rfl, rfl⟩
  · exact ⟨(i, l), ⟨by show i + l < n; omega, Or.inr (Or.inr ⟨w2, v2⟩)⟩, Or.inr (Or.inr ⟨rfl, rfl⟩), Or.inl ⟨rfl, rfl⟩⟩
  · exact ⟨(i, j), ⟨by show i + j < n; omega, Or.inr (Or.inr ⟨v2, w2⟩)⟩, Or.inl ⟨rfl, rfl⟩, Or.inr (Or.inr ⟨rfl, rfl⟩)⟩
  · exact ⟨(k, j), ⟨by show k + j < n; omega, Or.inl ⟨w2, v2⟩⟩, Or.inr (Or.inl ⟨rfl, rfl⟩), Or.inl ⟨rfl, rfl⟩⟩
  · exact ⟨(i, j), ⟨by show i + j < n; omega, Or.inl ⟨v2, w2⟩⟩, Or.inl ⟨rfl, rfl⟩, Or.inr (Or.inl ⟨rfl, rfl⟩)⟩
  · exact ⟨(k, j), ⟨by show k + j < n; omega, Or.inr (Or.inl ⟨v2, w2⟩)⟩, Or.inr (Or.inl ⟨rfl, rfl⟩), Or.inr (Or.inr ⟨rfl, rfl⟩)⟩
  · exact ⟨(i, l), ⟨by show i + l < n; omega, Or.inr (Or.inl ⟨w2, v2⟩)⟩, Or.inr (Or.inr ⟨rfl, rfl⟩), Or.inr (Or.inl ⟨rfl, rfl⟩)⟩
theorem tT_two {n : Nat} {P : Nat × Nat → Prop} {x y v : Nat × Nat} (h1 : tT x v) (h2 : tT y v) (hy : tP n P y) : cn n P x y := by
  by_cases e : y = x
  · exact TR_base e
  · refine TR_step (g := x) (TR_base rfl) ?_ hy
    have : ¬ (y.1 = x.1 ∧ y.2 = x.2) := fun h => e (Prod.ext h.1 h.2)
    unfold tT at h1 h2
    unfold tA
    omega
theorem cn_dn {n : Nat} {P : Nat × Nat → Prop} {a x0 v : Nat × Nat} (ha : tP (n + 1) P a) (hx : tP n (rd P) x0) (hxa : tT x0 a) (h : cn (n + 1) P a v) : ∃ x, tP n (rd P) x ∧ tT x v ∧ cn n (rd P) x0 x := by
  have key : tP (n + 1) P v ∧ ∃ x, tP n (rd P) x ∧ tT x v ∧ cn n (rd P) x0 x := by
    refine TR_ind (fun v => tP (n + 1) P v ∧ ∃ x, tP n (rd P) x ∧ tT x v ∧ cn n (rd P) x0 x) (fun f hf => ?_) (fun g f hg e p => ?_) h
    · rw [hf]; exact ⟨ha, x0, hx, hxa, TR_base rfl⟩
    · obtain ⟨hg1, x, x1, x2, x3⟩ := hg
      obtain ⟨t, t1, t2, t3⟩ := tA_tri e hg1 p
      exact ⟨p, t, t1, t3, TR_trans (tT_two x2 t2 t1) (fun z hz => by rw [hz]; exact x3)⟩
  exact key.2
theorem cn_first {n : Nat} {P : Nat × Nat → Prop} {a b : Nat × Nat} (h : cn n P a b) (hne : b ≠ a) : ∃ c, tA a c ∧ tP n P c := by
  have key : b = a ∨ ∃ c, tA a c ∧ tP n P c := by
    refine TR_ind (fun b => b = a ∨ ∃ c, tA a c ∧ tP n P c) (fun f hf => Or.inl hf) (fun g f hg e p => ?_) h
    rcases hg with hg | hg
    · rw [hg] at e; exact Or.inr ⟨f, e, p⟩
    · exact Or.inr hg
  rcases key with h | h
  · exact absurd h hne
  · exact h
theorem yW_dn {n : Nat} (hn : 1 ≤ n) {P : Nat × Nat → Prop} (h : yW (n + 1) P) : yW n (rd P) := by
  obtain ⟨a, b, c, ha, ha0, hb0, hc0, hab, hac⟩ := h
  have hf : ∃ d, tA a d ∧ tP (n + 1) P d := by
    by_cases e1 : b = a
    · by_cases e2 : c = a
      · exfalso
        rw [e1] at hb0
        rw [e2] at hc0
        omega
      · exact cn_first hac e2
    · exact cn_first hab e1
  obtain ⟨d, d1, d2⟩ := hf
  obtain ⟨x0, x1, x2, x3⟩ := tA_tri d1 ha d2
  obtain ⟨y, y1, y2, y3⟩ := cn_dn ha x1 x2 hab
  obtain ⟨z, z1, z2, z3⟩ := cn_dn ha x1 x2 hac
  have hz1 := z1.1
  refine ⟨x0, y, z, x1, ?_, ?_, ?_, y3, z3⟩
  · unfold tT at x2; omega
  · unfold tT at y2; omega
  · unfold tT at z2; omega
theorem rd_not {P : Nat × Nat → Prop} : rd (fun c => ¬ P c) = fun c => ¬ rd P c := by
  funext c
  apply propext
  unfold rd
  by_cases h1 : P (c.1, c.2) <;> by_cases h2 : P (c.1 + 1, c.2) <;> by_cases h3 : P (c.1, c.2 + 1) <;> simp [h1, h2, h3]
theorem yW_one {P : Nat × Nat → Prop} : yW 1 P ↔ P (0, 0) := by
  constructor
  · rintro ⟨a, b, c, ha, ha0, hb0, hc0, hab, hac⟩
    have h1 := ha.1
    have : a = (0, 0) := pr_eq (by show a.1 = 0; omega) (by show a.2 = 0; omega)
    rw [← this]; exact ha.2
  · intro h
    exact ⟨(0, 0), (0, 0), (0, 0), ⟨by show 0 + 0 < 1; omega, h⟩, rfl, rfl, rfl, TR_base rfl, TR_base rfl⟩
theorem yW_some : ∀ (n : Nat) (P : Nat × Nat → Prop), 1 ≤ n → yW n P ∨ yW n (fun c => ¬ P c)
  | 0, _, h => absurd h (by decide)
  | 1, P, _ => by
    rw [yW_one, yW_one]
    exact Classical.em _
  | n + 2, P, _ => by
    rcases yW_some (n + 1) (rd P) (by omega) with h | h
    · exact Or.inl (yW_up h)
    · rw [← rd_not] at h
      exact Or.inr (yW_up h)
theorem yW_both : ∀ (n : Nat) (P : Nat × Nat → Prop), 1 ≤ n → yW n P → ¬ yW n (fun c => ¬ P c)
  | 0, _, h => absurd h (by decide)
  | 1, P, _ => by
    rw [yW_one, yW_one]
    exact fun h h2 => h2 h
  | n + 2, P, _ => by
    intro h h2
    have h3 := yW_dn (by omega) h
    have h4 := yW_dn (by omega) h2
    rw [rd_not] at h4
    exact yW_both (n + 1) (rd P) (by omega) h3 h4
theorem yW_swap {n : Nat} {P : Nat × Nat → Prop} (h : yW n P) : yW n (fun c => P (c.2, c.1)) := by
  have mv : ∀ {a b : Nat × Nat}, cn n P a b → cn n (fun c => P (c.2, c.1)) (a.2, a.1) (b.2, b.1) := by
    intro a b h
    refine TR_ind (fun b => cn n (fun c => P (c.2, c.1)) (a.2, a.1) (b.2, b.1)) (fun f hf => ?_) (fun g f hg e p => ?_) h
    · rw [hf]; exact TR_base rfl
    · refine TR_step hg ?_ ⟨?_, p.2⟩
      · unfold tA at e ⊢; simp only; omega
      · have := p.1; show f.2 + f.1 < n; omega
  obtain ⟨a, b, c, ha, ha0, hb0, hc0, hab, hac⟩ := h
  have hb := TR_sym1 tA_symm ha hab
  refine ⟨(b.2, b.1), (a.2, a.1), (c.2, c.1), ⟨?_, hb.1.2⟩, hb0, ha0, ?_, mv hb.2, ?_⟩
  · have := hb.1.1; show b.2 + b.1 < n; omega
  · show c.2 + c.1 + 1 = n; omega
  · exact mv (TR_trans hac (fun z hz => by rw [hz]; exact hb.2))
/-- a board of h rows, w columns: from the first row to the last -/
def hP (h w : Nat) (B : Nat × Nat → Prop) (a : Nat × Nat) : Prop := a.1 < h ∧ a.2 < w ∧ B a
def hJ (h w : Nat) (B : Nat × Nat → Prop) : Prop := ∃ a c, hP h w B a ∧ a.1 = 0 ∧ c.1 + 1 = h ∧ TR tA (hP h w B) (fun z => z = a) c
def hY (n h w : Nat) (B P : Nat × Nat → Prop) : Prop := (∀ a : Nat × Nat, a.1 + a.2 < n → a.1 < h → a.2 < w → (P a ↔ B a)) ∧ (∀ a : Nat × Nat, a.1 + a.2 < n → h ≤ a.1 → P a) ∧ ∀ a : Nat × Nat, a.1 + a.2 < n → a.1 < h → w ≤ a.2 → ¬ P a
theorem hJ_y {n h w : Nat} (hn : n = h + w - 1) (hh : 1 ≤ h) (hw : 1 ≤ w) {B P : Nat × Nat → Prop} (hy : hY n h w B P) (hj : hJ h w B) : yW n P := by
  obtain ⟨a, c, ha, ha0, hc0, hac⟩ := hj
  have up : ∀ v, hP h w B v → tP n P v := fun v hv => by
    have h1 := hv.1
    have h2 := hv.2.1
    have h3 : v.1 + v.2 < n := by omega
    exact ⟨h3, (hy.1 v h3 h1 h2).mpr hv.2.2⟩
  have mv : cn n P a c ∧ hP h w B c := by
    refine TR_ind (fun c => cn n P a c ∧ hP h w B c) (fun f hf => ?_) (fun g f hg e p => ?_) hac
    · rw [hf]; exact ⟨TR_base rfl, ha⟩
    · exact ⟨TR_step hg.1 e (up f p), p⟩
  obtain ⟨mv, hc⟩ := mv
  rcases Nat.lt_or_ge 1 w with hw2 | hw2
  · have row : ∀ j, j + 1 < w → tP n P (h, j) := fun j hj => by
      have h3 : h + j < n := by omega
      exact ⟨h3, hy.2.1 (h, j) h3 (Nat.le_refl _)⟩
    have h1 : ∃ j, j + 1 < w ∧ cn n P a (h, j) := by
      have h4 := hc.2.1
      rcases Nat.lt_or_ge (c.2 + 1) w with e | e
      · exact ⟨c.2, e, TR_step mv (Or.inr (Or.inl ⟨rfl, Or.inr hc0.symm⟩)) (row _ e)⟩
      · exact ⟨c.2 - 1, by omega, TR_step mv (Or.inr (Or.inr (Or.inr ⟨hc0.symm, by show c.2 = c.2 - 1 + 1; omega⟩))) (row _ (by omega))⟩
    obtain ⟨j, hj, hcj⟩ := h1
    have left : ∀ d, d ≤ j → cn n P a (h, j - d) := by
      intro d
      induction d with
      | zero => intro _; exact hcj
      | succ d ih => intro hd; exact TR_step (ih (by omega)) (Or.inl ⟨rfl, Or.inl (by show j - d = j - (d + 1) + 1; omega)⟩) (row _ (by omega))
    have right : ∀ d, j + d + 1 < w → cn n P a (h, j + d) := by
      intro d
      induction d with
      | zero => intro _; exact hcj
      | succ d ih => intro hd; exact TR_step (ih (by omega)) (Or.inl ⟨rfl, Or.inr (by show j + (d + 1) = j + d + 1; omega)⟩) (row _ (by omega))
    exact ⟨a, (h, j - j), (h, j + (w - 2 - j)), up a ha, ha0, by show j - j = 0; omega, by show h + (j + (w - 2 - j)) + 1 = n; omega, left j (Nat.le_refl _), right _ (by omega)⟩
  · have h4 := hc.2.1
    exact ⟨a, c, c, up a ha, ha0, by omega, by omega, mv, mv⟩
theorem y_hJ {n h w : Nat} (hn : n = h + w - 1) (hh : 1 ≤ h) {B P : Nat × Nat → Prop} (hy : hY n h w B P) (hj : yW n P) : hJ h w B := by
  obtain ⟨a, b, c, ha, ha0, hb0, hc0, hab, hac⟩ := hj
  have ha1 := ha.1
  have haw : a.2 < w := by
    rcases Nat.lt_or_ge a.2 w with e | e
    · exact e
    · exact absurd ha.2 (hy.2.2 a ha1 (by omega) e)
  have hA : hP h w B a := ⟨by omega, haw, (hy.1 a ha1 (by omega) haw).mp ha.2⟩
  have key : hJ h w B ∨ (TR tA (hP h w B) (fun z => z = a) c ∧ hP h w B c) := by
    refine TR_ind (fun c => hJ h w B ∨ (TR tA (hP h w B) (fun z => z = a) c ∧ hP h w B c)) (fun f hf => ?_) (fun g f hg e p => ?_) hac
    · rw [hf]; exact Or.inr ⟨TR_base rfl, hA⟩
    · rcases hg with hg | ⟨hg, hg2⟩
      · exact Or.inl hg
      · have hp1 := p.1
        rcases Nat.lt_or_ge f.1 h with q | q
        · have hfw : f.2 < w := by
            rcases Nat.lt_or_ge f.2 w with e | e
            · exact e
            · exact absurd p.2 (hy.2.2 f hp1 q e)
          have hF : hP h w B f := ⟨q, hfw, (hy.1 f hp1 q hfw).mp p.2⟩
          exact Or.inr ⟨TR_step hg e hF, hF⟩
        · refine Or.inl ⟨a, g, hA, ha0, ?_, hg⟩
          have h5 := hg2.1
          unfold tA at e
          omega
  rcases key with k | ⟨k1, k2⟩
  · exact k
  · have h5 := k2.1
    have h6 := k2.2.1
    exact ⟨a, c, hA, ha0, by omega, k1⟩
/-- of a board full of two colours just one has joined -/
theorem hex {R C : Nat} (hR : 1 ≤ R) (hC : 1 ≤ C) (B : Nat × Nat → Prop) : hJ R C B ↔ ¬ hJ C R (fun c => ¬ B (c.2, c.1)) := by
  have h1 : hY (R + C - 1) R C B (fun c => (c.1 < R ∧ c.2 < C ∧ B c) ∨ R ≤ c.1) := by
    refine ⟨fun a _ a1 a2 => ⟨fun h => ?_, fun h => Or.inl ⟨a1, a2, h⟩⟩, fun a _ ha => Or.inr ha, fun a _ a1 a2 h => ?_⟩
    · rcases h with h | h
      · exact h.2.2
      · omega
    · rcases h with h | h
      · omega
      · omega
  have h2 : hY (R + C - 1) C R (fun c => ¬ B (c.2, c.1)) (fun c => ¬ ((c.2 < R ∧ c.1 < C ∧ B (c.2, c.1)) ∨ R ≤ c.2)) := by
    refine ⟨fun a _ a1 a2 => ⟨fun h h8 => h (Or.inl ⟨a2, a1, h8⟩), fun h h8 => ?_⟩, fun a a0 ha h8 => ?_, fun a _ a1 a2 h => h (Or.inr a2)⟩
    · rcases h8 with h8 | h8
      · exact h h8.2.2
      · omega
    · rcases h8 with h8 | h8
      · omega
      · omega
  constructor
  · intro h hh
    exact yW_both _ _ (by omega) (hJ_y rfl hR hC h1 h) (yW_swap (hJ_y (by omega) hC hR h2 hh))
  · intro h
    rcases yW_some (R + C - 1) (fun c => (c.1 < R ∧ c.2 < C ∧ B c) ∨ R ≤ c.1) (by omega) with y | y
    · exact y_hJ rfl hR h1 y
    · exact absurd (y_hJ (by omega) hC h2 (yW_swap y)) h
