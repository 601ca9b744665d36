/-! what hangs together, either way round; in at most so many steps -/
/-! the ways' measure: how many fields from the far bank -/
def mSL (R C : Nat) (b : Nat → Nat) (cl : Nat) (x : Nat) : Prop := x < R * C ∧ b x = cl ∧ 0 < mBk R C x &&& mL cl
def mR (R C : Nat) (b : Nat → Nat) (cl : Nat) : Nat → Nat → Prop := rc (adj C) (fun x => x < R * C ∧ b x = cl) (mSL R C b cl)
def faP (R C : Nat) (b : Nat → Nat) (cl N : Nat) (fa : Nat → Nat) : Prop := ∀ f, f < R * C → (1 ≤ fa f ∧ (fa f ≤ N ∨ fa f = 100)) ∧ ∀ j, j < N → (fa f ≤ j + 1 ↔ mR R C b cl j f)
theorem mR_lt {R C : Nat} {b : Nat → Nat} {cl n f : Nat} (h : mR R C b cl n f) : f < R * C := rc_lt (fun _ hx => hx.1) (fun _ hx => hx.1) n h
theorem mJ_far {R C : Nat} (hRC : R * C ≤ 36) {b : Nat → Nat} {cl : Nat} (h : mJ R C b cl) : ∃ x, x < R * C ∧ 0 < mBk R C x &&& mF cl ∧ mR R C b cl 35 x := by
  obtain ⟨f, h1, h2, h3⟩ := h
  have hp := RE_in (fun x (hx : mSeed R C b cl x) => ⟨hx.1, hx.2.1⟩) h2
  have hT : mSL R C b cl f := ⟨h1, hp.2, h3⟩
  obtain ⟨x, hx1, hx2⟩ := RE_swap (T := mSL R C b cl) (fun _ _ => adj_symm) (fun x (hx : mSeed R C b cl x) => ⟨hx.1, hx.2.1⟩) h2 hT
  exact ⟨x, hx1.1, hx1.2.2, rc_up (by omega) (rc_stab (N := R * C) (fun _ hx => hx.1) (fun _ hx => hx.1) ⟨f, hT⟩ hx2)⟩
def fiP (R C : Nat) (b : Nat → Nat) (cl : Nat) (fx : Nat → Nat) (x : Nat) : Prop := (fx x = 1 ∧ mSL R C b cl x) ∨ (fx x = 100 ∧ ¬ mSL R C b cl x)
theorem fi_put {R C f v : Nat} {b : Nat → Nat} {cl : Nat} {fx : Nat → Nat} (h : ∀ x, x < f → fiP R C b cl fx x) (hv : (v = 1 ∧ mSL R C b cl f) ∨ (v = 100 ∧ ¬ mSL R C b cl f)) : ∀ x, x < f + 1 → fiP R C b cl (uN fx f v) x := by
  intro x hx
  unfold fiP
  by_cases e : x = f
  · rw [e, uN_s]; exact hv
  · rw [uN_n e]; exact h x (by omega)
theorem fi_end {R C : Nat} {b : Nat → Nat} {cl : Nat} {fx : Nat → Nat} (h : ∀ x, x < R * C → fiP R C b cl fx x) : faP R C b cl 1 fx := by
  intro f hf
  rcases h f hf with ⟨h1, h2⟩ | ⟨h1, h2⟩
  · rw [h1]
    refine ⟨⟨Nat.le_refl _, Or.inl (Nat.le_refl _)⟩, fun j hj => ?_⟩
    rw [show j = 0 by omega]
    exact ⟨fun _ => h2, fun _ => Nat.le_refl _⟩
  · rw [h1]
    refine ⟨⟨by decide, Or.inr rfl⟩, fun j hj => ?_⟩
    rw [show j = 0 by omega]
    exact ⟨fun h => absurd h (by decide), fun h => absurd h h2⟩
def stC (R C : Nat) (b : Nat → Nat) (cl n : Nat) (fa : Nat → Nat) (g : Nat) : Prop := 100 ≤ fa g ∧ b g = cl ∧ ∃ h, h < R * C ∧ adj C h g ∧ fa h = n - 1
noncomputable def stF (R C : Nat) (b : Nat → Nat) (cl n : Nat) (fa : Nat → Nat) (g : Nat) : Nat := @ite Nat (stC R C b cl n fa g) (Classical.propDecidable _) n (fa g)
theorem stF_y {R C : Nat} {b : Nat → Nat} {cl n : Nat} {fa : Nat → Nat} {g : Nat} (h : stC R C b cl n fa g) : stF R C b cl n fa g = n := if_pos h
theorem stF_n {R C : Nat} {b : Nat → Nat} {cl n : Nat} {fa : Nat → Nat} {g : Nat} (h : ¬ stC R C b cl n fa g) : stF R C b cl n fa g = fa g := if_neg h
def stI (R C : Nat) (b : Nat → Nat) (cl n : Nat) (fa fx : Nat → Nat) (f : Nat) : Prop := ∀ g, g < R * C → (g < f → fx g = stF R C b cl n fa g) ∧ (f ≤ g → fx g = fa g)
theorem stI_0 {R C : Nat} {b : Nat → Nat} {cl n : Nat} {fa : Nat → Nat} : stI R C b cl n fa fa 0 := fun _ _ => ⟨fun h => absurd h (Nat.not_lt_zero _), fun _ => rfl⟩
theorem stI_keep {R C : Nat} {b : Nat → Nat} {cl n : Nat} {fa fx : Nat → Nat} {f : Nat} (h : stI R C b cl n fa fx f) (hf : f < R * C) (hn : ¬ stC R C b cl n fa f) : stI R C b cl n fa fx (f + 1) := by
  intro g hg
  refine ⟨fun h1 => ?_, fun h1 => (h g hg).2 (by omega)⟩
  rcases Nat.eq_or_lt_of_le (Nat.le_of_lt_succ h1) with e | e
  · rw [e, stF_n hn]; exact (h f hf).2 (Nat.le_refl _)
  · exact (h g hg).1 e
theorem stI_hit {R C : Nat} {b : Nat → Nat} {cl n : Nat} {fa fx : Nat → Nat} {f : Nat} (h : stI R C b cl n fa fx f) (hc : stC R C b cl n fa f) : stI R C b cl n fa (uN fx f n) (f + 1) := by
  intro g hg
  refine ⟨fun h1 => ?_, fun h1 => by rw [uN_n (by omega)]; exact (h g hg).2 (by omega)⟩
  rcases Nat.eq_or_lt_of_le (Nat.le_of_lt_succ h1) with e | e
  · rw [e, uN_s, stF_y hc]
  · rw [uN_n (by omega)]; exact (h g hg).1 e
theorem stI_eq {R C : Nat} {b : Nat → Nat} {cl n : Nat} {fa fx : Nat → Nat} {f : Nat} (hn1 : 2 ≤ n) (hn2 : n ≤ 36) (h : stI R C b cl n fa fx f) {x : Nat} (hx : x < R * C) : fx x = n - 1 ↔ fa x = n - 1 := by
  rcases Nat.lt_or_ge x f with e | e
  · rw [(h x hx).1 e]
    by_cases c : stC R C b cl n fa x
    · rw [stF_y c]
      have := c.1
      constructor <;> intro h <;> omega
    · rw [stF_n c]
  · rw [(h x hx).2 e]
theorem fa_step {R C : Nat} {b : Nat → Nat} {cl n : Nat} {fa fx : Nat → Nat} (hn1 : 2 ≤ n) (hn2 : n ≤ 36) (h : faP R C b cl (n - 1) fa) (hx : ∀ g, g < R * C → fx g = stF R C b cl n fa g) : faP R C b cl n fx := by
  intro f hf
  have hF := h f hf
  rw [hx f hf]
  by_cases c : stC R C b cl n fa f
  · rw [stF_y c]
    refine ⟨⟨by omega, Or.inl (Nat.le_refl _)⟩, fun j hj => ?_⟩
    obtain ⟨c1, c2, y, hy1, hy2, hy3⟩ := c
    rcases Nat.lt_or_ge j (n - 1) with e | e
    · have := hF.2 j e
      constructor
      · intro h9; omega
      · intro h9; have := this.mpr h9; omega
    · rw [show j = n - 1 by omega]
      refine ⟨fun _ => ?_, fun _ => by omega⟩
      have hy := ((h y hy1).2 (n - 2) (by omega)).mp (by omega)
      show rc _ _ _ (n - 1) f
      rw [show n - 1 = (n - 2) + 1 by omega]
      exact Or.inr ⟨⟨hf, c2⟩, y, hy, hy2⟩
  · rw [stF_n c]
    refine ⟨⟨hF.1.1, by omega⟩, fun j hj => ?_⟩
    rcases Nat.lt_or_ge j (n - 1) with e | e
    · exact hF.2 j e
    · rw [show j = n - 1 by omega]
      constructor
      · intro h9
        have := (hF.2 (n - 2) (by omega)).mp (by omega)
        exact rc_up (by omega) this
      · intro h9
        have h9 : rc (adj C) (fun x => x < R * C ∧ b x = cl) (mSL R C b cl) ((n - 2) + 1) f := by rw [show n - 2 + 1 = n - 1 by omega]; exact h9
        rcases h9 with h9 | ⟨p, g, h9, h8⟩
        · have := (hF.2 (n - 2) (by omega)).mpr h9
          omega
        · have hg := mR_lt h9
          have hG := h g hg
          have hg2 := (hG.2 (n - 2) (by omega)).mpr h9
          rcases Nat.lt_or_ge (fa f) 100 with q | q
          · omega
          · exfalso
            by_cases q2 : fa g = n - 1
            · exact c ⟨q, p.2, g, hg, h8, q2⟩
            · have h7 : rc (adj C) (fun x => x < R * C ∧ b x = cl) (mSL R C b cl) ((n - 3) + 1) f := Or.inr ⟨p, g, (hG.2 (n - 3) (by omega)).mp (by omega), h8⟩
              have := (hF.2 (n - 2) (by omega)).mpr (rc_up (by omega) h7)
              omega
def kdP (R C : Nat) (n : Nat) (fa fx : Nat → Nat) (f k : Nat) (fk : Nat → Nat) : Prop := (fk = fx ∧ ∀ j g, j < k → mBe R C f j = some g → fx g ≠ n - 1) ∨ (fk = uN fx f n ∧ ∃ h, h < R * C ∧ adj C h f ∧ fa h = n - 1)
theorem kd_no {R C n : Nat} {fa fx fk : Nat → Nat} {f k : Nat} (h : kdP R C n fa fx f k fk) (hk : ∀ g, mBe R C f k = some g → fk g ≠ n - 1) : kdP R C n fa fx f (k + 1) fk := by
  rcases h with ⟨rfl, h2⟩ | h
  · refine Or.inl ⟨rfl, fun j g hj hm => ?_⟩
    rcases Nat.eq_or_lt_of_le (Nat.le_of_lt_succ hj) with e | e
    · rw [e] at hm; exact hk g hm
    · exact h2 j g e hm
  · exact Or.inr h
theorem kd_hit {R C n : Nat} {fa fx fk : Nat → Nat} {f k g : Nat} (h : kdP R C n fa fx f k fk) (hg : g < R * C) (ha : adj C g f) (he : fk g = n - 1) (hst : ∀ x, x < R * C → (fx x = n - 1 ↔ fa x = n - 1)) : kdP R C n fa fx f (k + 1) (uN fk f n) := by
  rcases h with ⟨rfl, _⟩ | ⟨rfl, h⟩
  · exact Or.inr ⟨rfl, g, hg, ha, (hst g hg).mp he⟩
  · refine Or.inr ⟨?_, h⟩
    funext x
    by_cases e : x = f
    · rw [e, uN_s, uN_s]
    · rw [uN_n e, uN_n e]
theorem kd_end {R C : Nat} {b : Nat → Nat} {cl n : Nat} {fa fx fk : Nat → Nat} {f : Nat} (hC1 : 1 ≤ C) (hn1 : 2 ≤ n) (hn2 : n ≤ 36) (hi : stI R C b cl n fa fx f) (hf : f < R * C) (hb : b f = cl) (h1 : 100 ≤ fx f) (h : kdP R C n fa fx f 6 fk) : stI R C b cl n fa fk (f + 1) := by
  have hfa : fx f = fa f := (hi f hf).2 (Nat.le_refl _)
  rcases h with ⟨rfl, h⟩ | ⟨rfl, h⟩
  · refine stI_keep hi hf (fun hc => ?_)
    obtain ⟨_, _, y, hy1, hy2, hy3⟩ := hc
    obtain ⟨k, hk, e⟩ := mBe_of hC1 hf hy1 hy2
    exact h k y hk e ((stI_eq hn1 hn2 hi hy1).mpr hy3)
  · exact stI_hit hi ⟨by omega, hb, h⟩
theorem stI_le {R C : Nat} {b : Nat → Nat} {cl n : Nat} {fa fx : Nat → Nat} {f N : Nat} (hn2 : n ≤ 36) (hN : N ≤ 36) (h : faP R C b cl N fa) (hi : stI R C b cl n fa fx f) : ∀ g, g < R * C → fx g ≤ 100 := by
  intro g hg
  have hF := (h g hg).1
  rcases Nat.lt_or_ge g f with e | e
  · rw [(hi g hg).1 e]
    by_cases c : stC R C b cl n fa g
    · rw [stF_y c]; omega
    · rw [stF_n c]; omega
  · rw [(hi g hg).2 e]; omega
theorem kd_le {R C n : Nat} {fa fx fk : Nat → Nat} {f k : Nat} (hn2 : n ≤ 36) (hx : ∀ g, g < R * C → fx g ≤ 100) (h : kdP R C n fa fx f k fk) : ∀ g, g < R * C → fk g ≤ 100 := by
  intro g hg
  rcases h with ⟨rfl, _⟩ | ⟨rfl, _⟩
  · exact hx g hg
  · by_cases e : g = f
    · rw [e, uN_s]; omega
    · rw [uN_n e]; exact hx g hg
/-! the best, and the least of like ones -/
theorem fa_uni {R C : Nat} {b : Nat → Nat} {cl : Nat} {fa fb : Nat → Nat} (h1 : faP R C b cl 36 fa) (h2 : faP R C b cl 36 fb) : ∀ f, f < R * C → fa f = fb f := by
  intro f hf
  have a := h1 f hf
  have c := h2 f hf
  rcases a.1.2 with e | e
  · have := (c.2 (fa f - 1) (by omega)).mpr ((a.2 (fa f - 1) (by omega)).mp (by omega))
    have h3 := (a.2 (fb f - 1) (by omega)).mpr ((c.2 (fb f - 1) (by omega)).mp (by omega))
    omega
  · rcases c.1.2 with e2 | e2
    · have h3 := (a.2 (fb f - 1) (by omega)).mpr ((c.2 (fb f - 1) (by omega)).mp (by omega))
      omega
    · omega
def beP (R C cl : Nat) (fa : Nat → Nat) (f n : Nat) : Prop := n ≤ 100 ∧ (n = 100 ∨ ∃ x, x < f ∧ 0 < mBk R C x &&& mF cl ∧ fa x = n) ∧ ∀ x, x < f → 0 < mBk R C x &&& mF cl → n ≤ fa x
theorem be_0 {R C cl : Nat} {fa : Nat → Nat} : beP R C cl fa 0 100 := ⟨Nat.le_refl _, Or.inl rfl, fun x hx => absurd hx (Nat.not_lt_zero x)⟩
theorem be_no {R C cl f n : Nat} {fa : Nat → Nat} (h : beP R C cl fa f n) (hb : mBk R C f &&& mF cl = 0) : beP R C cl fa (f + 1) n := by
  refine ⟨h.1, ?_, fun x hx h9 => ?_⟩
  · rcases h.2.1 with e | ⟨x, h1, h2⟩
    · exact Or.inl e
    · exact Or.inr ⟨x, by omega, h2⟩
  · rcases Nat.eq_or_lt_of_le (Nat.le_of_lt_succ hx) with e | e
    · rw [e] at h9; omega
    · exact h.2.2 x e h9
theorem be_ge {R C cl f n : Nat} {fa : Nat → Nat} (h : beP R C cl fa f n) (hb : n ≤ fa f) : beP R C cl fa (f + 1) n := by
  refine ⟨h.1, ?_, fun x hx h9 => ?_⟩
  · rcases h.2.1 with e | ⟨x, h1, h2⟩
    · exact Or.inl e
    · exact Or.inr ⟨x, by omega, h2⟩
  · rcases Nat.eq_or_lt_of_le (Nat.le_of_lt_succ hx) with e | e
    · rw [e]; exact hb
    · exact h.2.2 x e h9
theorem be_lt {R C cl f n : Nat} {fa : Nat → Nat} (h : beP R C cl fa f n) (hk : 0 < mBk R C f &&& mF cl) (hb : fa f < n) : beP R C cl fa (f + 1) (fa f) := by
  refine ⟨by have := h.1; omega, Or.inr ⟨f, Nat.lt_succ_self _, hk, rfl⟩, fun x hx h9 => ?_⟩
  rcases Nat.eq_or_lt_of_le (Nat.le_of_lt_succ hx) with e | e
  · rw [e]; exact Nat.le_refl _
  · have := h.2.2 x e h9; omega
theorem be_at {R C cl n : Nat} (hRC : R * C ≤ 36) {b fa : Nat → Nat} (h : beP R C cl fa (R * C) n) (hf : faP R C b cl 36 fa) (hj : mJ R C b cl) : 1 ≤ n ∧ n ≤ 36 ∧ ∃ x, x < R * C ∧ 0 < mBk R C x &&& mF cl ∧ fa x = n := by
  obtain ⟨x, h1, h2, h3⟩ := mJ_far hRC hj
  have h4 := ((hf x h1).2 35 (by decide)).mpr h3
  have h5 := h.2.2 x h1 h2
  rcases h.2.1 with e | ⟨y, h6, h7, h8⟩
  · omega
  · have := (hf y h6).1.1
    exact ⟨by omega, by omega, y, h6, h7, h8⟩
theorem be_cong {R C cl n : Nat} {fa fb : Nat → Nat} (e : ∀ f, f < R * C → fa f = fb f) (h : beP R C cl fa (R * C) n) : beP R C cl fb (R * C) n := by
  refine ⟨h.1, ?_, fun x hx h9 => by rw [← e x hx]; exact h.2.2 x hx h9⟩
  rcases h.2.1 with q | ⟨x, h1, h2, h3⟩
  · exact Or.inl q
  · exact Or.inr ⟨x, h1, h2, by rw [← e x h1]; exact h3⟩
theorem mWho_j {R C : Nat} {b : Nat → Nat} (h : 0 < mWho R C b) : mJ R C b (mWho R C b) := by
  by_cases h1 : mJ R C b 1
  · rw [mWho_1 h1]; exact h1
  · by_cases h2 : mJ R C b 2
    · rw [mWho_2 h1 h2]; exact h2
    · rw [mWho_0 h1 h2] at h; exact absurd h (Nat.lt_irrefl _)
theorem fa_prev {R C : Nat} {b : Nat → Nat} {cl : Nat} {fa : Nat → Nat} (h : faP R C b cl 36 fa) {f : Nat} (hf : f < R * C) (h1 : 2 ≤ fa f) (h2 : fa f ≤ 36) : ∃ g, g < R * C ∧ adj C g f ∧ fa g = fa f - 1 := by
  have hF := h f hf
  have hr : rc (adj C) (fun x => x < R * C ∧ b x = cl) (mSL R C b cl) ((fa f - 2) + 1) f := (hF.2 (fa f - 2 + 1) (by omega)).mp (by omega)
  rcases hr with hr | ⟨p, g, hg, ha⟩
  · have := (hF.2 (fa f - 2) (by omega)).mpr hr
    omega
  · have hgl := mR_lt hg
    have hG := h g hgl
    have hg2 := (hG.2 (fa f - 2) (by omega)).mpr hg
    refine ⟨g, hgl, ha, ?_⟩
    rcases Nat.lt_or_ge (fa g) (fa f - 1) with e | e
    · have h7 : rc (adj C) (fun x => x < R * C ∧ b x = cl) (mSL R C b cl) ((fa g - 1) + 1) f := Or.inr ⟨p, g, (hG.2 (fa g - 1) (by omega)).mp (by omega), ha⟩
      have h8 := (hF.2 (fa g - 1 + 1) (by have := hG.1.1; omega)).mpr h7
      have := hG.1.1
      omega
    · omega
/-- the k-th field of the way -/
def wpP (R C cl : Nat) (fa : Nat → Nat) (n : Nat) : Nat → Nat → Prop
  | 0, f => f < R * C ∧ 0 < mBk R C f &&& mF cl ∧ fa f = n ∧ ∀ x, x < f → ¬ (0 < mBk R C x &&& mF cl ∧ fa x = n)
  | k + 1, f => ∃ g, wpP R C cl fa n k g ∧ f < R * C ∧ adj C f g ∧ fa f = n - (k + 1) ∧ ∀ x, x < f → ¬ (x < R * C ∧ adj C x g ∧ fa x = n - (k + 1))
theorem wp_lt {R C cl : Nat} {fa : Nat → Nat} {n k f : Nat} (h : wpP R C cl fa n k f) : f < R * C := by
  cases k with
  | zero => exact h.1
  | succ k => obtain ⟨_, _, h, _⟩ := h; exact h
theorem wp_fa {R C cl : Nat} {fa : Nat → Nat} {n k f : Nat} (h : wpP R C cl fa n k f) : fa f = n - k := by
  cases k with
  | zero => exact h.2.2.1
  | succ k => obtain ⟨_, _, _, _, h, _⟩ := h; exact h
def nxP (R C : Nat) (fa : Nat → Nat) (v f k nx : Nat) : Prop := nx ≤ 36 ∧ (nx = 36 ∨ (nx < R * C ∧ adj C nx f ∧ fa nx = v)) ∧ ∀ j g, j < k → mBe R C f j = some g → fa g = v → nx ≤ g
theorem nx_0 {R C : Nat} {fa : Nat → Nat} {v f : Nat} : nxP R C fa v f 0 36 := ⟨Nat.le_refl _, Or.inl rfl, fun j _ hj => absurd hj (Nat.not_lt_zero j)⟩
theorem nx_no {R C : Nat} {fa : Nat → Nat} {v f k nx : Nat} (h : nxP R C fa v f k nx) (hk : ∀ g, mBe R C f k = some g → fa g = v → nx ≤ g) : nxP R C fa v f (k + 1) nx := by
  refine ⟨h.1, h.2.1, fun j g hj hm hv => ?_⟩
  rcases Nat.eq_or_lt_of_le (Nat.le_of_lt_succ hj) with e | e
  · rw [e] at hm; exact hk g hm hv
  · exact h.2.2 j g e hm hv
theorem nx_yes {R C : Nat} {fa : Nat → Nat} {v f k nx g : Nat} (hRC : R * C ≤ 36) (h : nxP R C fa v f k nx) (hm : mBe R C f k = some g) (hg : g < R * C) (ha : adj C g f) (hv : fa g = v) (hl : g < nx) : nxP R C fa v f (k + 1) g := by
  refine ⟨by omega, Or.inr ⟨hg, ha, hv⟩, fun j y hj hm2 hv2 => ?_⟩
  rcases Nat.eq_or_lt_of_le (Nat.le_of_lt_succ hj) with e | e
  · rw [e, hm] at hm2; cases hm2; exact Nat.le_refl _
  · have := h.2.2 j y e hm2 hv2; omega
theorem nx_end {R C cl : Nat} (hC1 : 1 ≤ C) (hRC : R * C ≤ 36) {b fa : Nat → Nat} {n k f nx : Nat} (hF : faP R C b cl 36 fa) (hw : wpP R C cl fa n k f) (hn : n ≤ 36) (hk : k + 1 < n) (h : nxP R C fa (n - (k + 1)) f 6 nx) : wpP R C cl fa n (k + 1) nx := by
  have hf := wp_lt hw
  have hv := wp_fa hw
  obtain ⟨g, hg1, hg2, hg3⟩ := fa_prev hF hf (by omega) (by omega)
  obtain ⟨j, hj, e⟩ := mBe_of hC1 hf hg1 hg2
  have hle := h.2.2 j g hj e (by omega)
  rcases h.2.1 with q | ⟨q1, q2, q3⟩
  · omega
  · refine ⟨f, hw, q1, q2, q3, fun x hx ⟨h1, h2, h3⟩ => ?_⟩
    obtain ⟨j2, hj2, e2⟩ := mBe_of hC1 hf h1 h2
    have := h.2.2 j2 x hj2 e2 h3
    omega
theorem wp_uni {R C cl : Nat} {fa : Nat → Nat} {n : Nat} : ∀ {k f g : Nat}, wpP R C cl fa n k f → wpP R C cl fa n k g → f = g
  | 0, f, g, h1, h2 => by
    rcases Nat.lt_trichotomy f g with e | e | e
    · exact absurd ⟨h1.2.1, h1.2.2.1⟩ (h2.2.2.2 f e)
    · exact e
    · exact absurd ⟨h2.2.1, h2.2.2.1⟩ (h1.2.2.2 g e)
  | k + 1, f, g, ⟨x, a1, a2, a3, a4, a5⟩, ⟨y, b1, b2, b3, b4, b5⟩ => by
    have exy := wp_uni a1 b1
    subst exy
    rcases Nat.lt_trichotomy f g with e | e | e
    · exact absurd ⟨a2, a3, a4⟩ (b5 f e)
    · exact e
    · exact absurd ⟨b2, b3, b4⟩ (a5 g e)
theorem kiX6_measures_X6 : ∀ w ∈ u_ws RX6 TX6 17, w ∈ wsX6_measures := fun w h => List.mem_cons_of_mem _ (List.mem_append_right _ h)
set_option maxHeartbeats 4000000 in
set_option maxRecDepth 100000 in
theorem c_R_measures (l : Launch) (D : va_G) (cI cJ cZ : ClassId) (h0 : Nat) (q : Nat → Nat) (R C tn dn ag md em : Nat) (b fa : Nat → Nat) (cl : Nat) (hR1 : 1 ≤ R) (hR2 : R ≤ 6) (hC1 : 1 ≤ C) (hC2 : C ≤ 6) (hRC : R * C ≤ 36) (hbv : ∀ f, f < R * C → b f ≤ 2) (qcl : cl ≤ 2) (sz : Nat) : kMV l yX6_measures wsX6_measures 2 46 D cI cJ cZ [.ref h0, .int (nI cl)] [(h0, wMo q R C tn dn ag md em), ((q 0), .inl (cI, 36, .inl (nA b))), ((q 4), .inl (cI, 36, .inl (nA fa)))] sz (fun (u : Nat → Nat) => faP R C b cl 36 u) (fun faa : Nat → Nat => [(h0, wMo q R C tn dn ag md em), ((q 0), .inl (cI, 36, .inl (nA b))), ((q 4), .inl (cI, 36, .inl (nA faa)))]) := by
  refine Met.ofW (cc := cX6_measures) (maxL := 5) (ret := none) (by decide) rfl ?_
  intro p e s m args below meth c s₁ B hml hv
  obtain ⟨rfl, hsz, hP, ⟨hK, hN⟩, hD0⟩ := hv
  have hx := B.exec
  have hb := B.bytes
  have hr := B.returns
  have hts := atoms_spec (ws := wsX6_measures) B.pre
  have hown : s.vm.findClass RX6 = some m.cls := findClass_of_methodNamed B.named
  have hlocks := B.notSynchronized
  subst hsz
  have hD := hD0.self (sz := s.heap.size)
  generalize hAe : va_A [(h0, wMo q R C tn dn ag md em), ((q 0), .inl (cI, 36, .inl (nA b))), ((q 4), .inl (cI, 36, .inl (nA fa)))] s.heap.size = A at hD ⊢
  have hA : ∀ q : Nat, s.heap.size ≤ q → A q := fun q h => by rw [← hAe]; exact Or.inr h
  have hS : va_S A s.heap s.heap [] := va_S.rf
  have hl := lv_entry ([.ref h0, .int (nI cl)]) (n := 5) (Nat.le_of_ble_eq_true rfl)
  rw [lg_entry_eq]
  generalize (lg_sl ([.ref h0, .int (nI cl)]) ++ List.replicate (5 - (lg_sl ([.ref h0, .int (nI cl)])).length) Slot.unset).toArray = ls at hl ⊢
  have hl : lv_has ls 5 [(0, .ref h0), (1, .int (nI cl))] := hl
  have hK2 : kK D cI cJ cZ s := ⟨hK, hN⟩
  clear hD0
  refine lv_iconst (v := (nI 0)) hx hb dX6_measures_0 (by decide) ?_
  refine lv_istore_n (lv' := [(2, .int (nI 0)), (0, .ref h0), (1, .int (nI cl))]) hx hb dX6_measures_1 rfl hl (by decide) rfl (fun ls hl => ?_)
  refine kw_loop (σ := Nat × (Nat → Nat)) (fun zz H locs ls => match zz with | (f, fx) => va_P D vwCl [(h0, wMo q R C tn dn ag md em), ((q 0), .inl (cI, 36, .inl (nA b))), ((q 4), .inl (cI, 36, .inl (nA fx)))] H ∧ va_D A [(h0, wMo q R C tn dn ag md em), ((q 0), .inl (cI, 36, .inl (nA b))), ((q 4), .inl (cI, 36, .inl (nA fx)))] ∧ va_S A s.heap H locs ∧ lv_has ls 5 [(0, .ref h0), (1, .int (nI cl)), (2, .int (nI f))] ∧ (f ≤ R * C) ∧ (∀ x, x < f → fiP R C b cl fx x)) (fun zz => match zz with | (f, fx) => R * C - f) (0, fa) ⟨hP, hD, hS, lv_sub hl [1, 2, 0] rfl, Nat.zero_le _, fun x hx => absurd hx (Nat.not_lt_zero _)⟩ ?_
  clear hP hD hS hl
  rintro ⟨f, fx⟩ H locs ls ⟨hP, hD, hS, hl, hf9, hx9⟩ ih_2
  have hP : va_P D vwCl [(h0, wMo q R C tn dn ag md em), ((q 0), .inl (cI, 36, .inl (nA b))), ((q 4), .inl (cI, 36, .inl (nA fx)))] H := hP
  have hD : va_D A [(h0, wMo q R C tn dn ag md em), ((q 0), .inl (cI, 36, .inl (nA b))), ((q 4), .inl (cI, 36, .inl (nA fx)))] := hD
  have hl : lv_has ls 5 [(0, .ref h0), (1, .int (nI cl)), (2, .int (nI f))] := hl
  have hf9 : f ≤ R * C := hf9
  have hx9 : ∀ x, x < f → fiP R C b cl fx x := hx9
  refine lv_iload_n hx hb dX6_measures_2 rfl (lv_at hl 2 rfl) ?_
  refine lv_aload_n hx hb dX6_measures_3 rfl (lv_at hl 0 rfl) ?_
  refine k_calli (wr := [((q 0), .inl (cI, 36, .inl (nA b))), ((q 4), .inl (cI, 36, .inl (nA fx)))]) (w2 := (fun _ : Unit => [(h0, wMo q R C tn dn ag md em), ((q 0), .inl (cI, 36, .inl (nA b))), ((q 4), .inl (cI, 36, .inl (nA fx)))])) (va_runV (As := []) (rest := [.int (nI f)]) ⟨hx, hb, hml, hown, hts⟩ (c_R_fields l D cI cJ cZ h0 q R C tn dn ag md em  H.size) (cwV 0 hts gX6_measures_X6_fields rfl rfl rfl (by decide +kernel) ⟨Nat.le_of_ble_eq_true rfl, Nat.le_of_ble_eq_true rfl⟩) (kPV (ci := 6) (q0 := 0) (wc := [(h0, wMo q R C tn dn ag md em)]) hK2 hP hD [0] rfl (by decide) rfl rfl) rfl rfl hl.1 rfl (lv_room (Nat.le_of_ble_eq_true rfl)) dX6_measures_4 ⟨Nat.le_of_ble_eq_true rfl, Nat.le_of_ble_eq_true rfl⟩) hP hD hS hA [0] [1, 2] [2, 0, 1] rfl rfl (by decide) (by decide) (fun _ => rfl) (by decide) (fun r_1 u_1 H locs hw_1 hP hD hS => ?_)
  have hP : va_P D vwCl [(h0, wMo q R C tn dn ag md em), ((q 0), .inl (cI, 36, .inl (nA b))), ((q 4), .inl (cI, 36, .inl (nA fx)))] H := hP
  have hD : va_D A [(h0, wMo q R C tn dn ag md em), ((q 0), .inl (cI, 36, .inl (nA b))), ((q 4), .inl (cI, 36, .inl (nA fx)))] := hD
  subst hw_1
  refine kw_icmp_ge (tgt := 51) hx hb dX6_measures_7 (by decide) (by omega) (by omega) (fun c_7_2 => ?_) (fun c_7_2 => ?_)
  · have h19 : faP R C b cl 1 fx := fi_end (fun x hx => hx9 x (by omega))
    refine lv_iconst (v := (nI 2)) hx hb dX6_measures_51 (by decide) ?_
    refine lv_istore_n (lv' := [(2, .int (nI 2)), (0, .ref h0), (1, .int (nI cl))]) hx hb dX6_measures_52 rfl hl (by decide) rfl (fun ls hl => ?_)
    refine kw_loop (σ := Nat × (Nat → Nat)) (fun zz H locs ls => match zz with | (n, fa9) => va_P D vwCl [(h0, wMo q R C tn dn ag md em), ((q 0), .inl (cI, 36, .inl (nA b))), ((q 4), .inl (cI, 36, .inl (nA fa9)))] H ∧ va_D A [(h0, wMo q R C tn dn ag md em), ((q 0), .inl (cI, 36, .inl (nA b))), ((q 4), .inl (cI, 36, .inl (nA fa9)))] ∧ va_S A s.heap H locs ∧ lv_has ls 5 [(0, .ref h0), (1, .int (nI cl)), (2, .int (nI n))] ∧ (2 ≤ n) ∧ (n ≤ 37) ∧ (faP R C b cl (n - 1) fa9)) (fun zz => match zz with | (n, fa9) => 37 - n) (2, fx) ⟨hP, hD, hS, lv_sub hl [1, 2, 0] rfl, Nat.le_refl _, by decide, h19⟩ ?_
    clear hP hD hS hl
    rintro ⟨n, fa9⟩ H locs ls ⟨hP, hD, hS, hl, hn1, hn2, hfa⟩ ih_53
    have hP : va_P D vwCl [(h0, wMo q R C tn dn ag md em), ((q 0), .inl (cI, 36, .inl (nA b))), ((q 4), .inl (cI, 36, .inl (nA fa9)))] H := hP
    have hD : va_D A [(h0, wMo q R C tn dn ag md em), ((q 0), .inl (cI, 36, .inl (nA b))), ((q 4), .inl (cI, 36, .inl (nA fa9)))] := hD
    have hl : lv_has ls 5 [(0, .ref h0), (1, .int (nI cl)), (2, .int (nI n))] := hl
    have hn1 : 2 ≤ n := hn1
    have hn2 : n ≤ 37 := hn2
    have hfa : faP R C b cl (n - 1) fa9 := hfa
    refine lv_iload_n hx hb dX6_measures_53 rfl (lv_at hl 2 rfl) ?_
    refine lv_bipush (v := (nI 36)) hx hb dX6_measures_54 (by decide) ?_
    refine kw_icmp_gt (tgt := 157) hx hb dX6_measures_56 (by decide) (by omega) (by omega) (fun c_56_3 => ?_) (fun c_56_3 => ?_)
    · exact W.vret hx hb hr (fun t ht hW => ⟨⟨fa9, rfl, (by have e9 : n = 37 := (by omega); rw [e9] at hfa; exact hfa), by rw [ht]; exact hP, hD⟩, hS.F ht⟩) hS.2.2 dX6_measures_157
    · have hn36 : n ≤ 36 := c_56_3
      refine lv_iconst (v := (nI 0)) hx hb dX6_measures_59 (by decide) ?_
      refine lv_istore_n (lv' := [(3, .int (nI 0)), (0, .ref h0), (1, .int (nI cl)), (2, .int (nI n))]) hx hb dX6_measures_60 rfl hl (by decide) rfl (fun ls hl => ?_)
      refine kw_loop (σ := Nat × (Nat → Nat)) (fun zz H locs ls => match zz with | (f, fx) => va_P D vwCl [(h0, wMo q R C tn dn ag md em), ((q 0), .inl (cI, 36, .inl (nA b))), ((q 4), .inl (cI, 36, .inl (nA fx)))] H ∧ va_D A [(h0, wMo q R C tn dn ag md em), ((q 0), .inl (cI, 36, .inl (nA b))), ((q 4), .inl (cI, 36, .inl (nA fx)))] ∧ va_S A s.heap H locs ∧ lv_has ls 5 [(0, .ref h0), (1, .int (nI cl)), (2, .int (nI n)), (3, .int (nI f))] ∧ (f ≤ R * C) ∧ (stI R C b cl n fa9 fx f)) (fun zz => match zz with | (f, fx) => R * C - f) (0, fa9) ⟨hP, hD, hS, lv_sub hl [1, 2, 3, 0] rfl, Nat.zero_le _, stI_0⟩ ?_
      clear hP hD hS hl
      rintro ⟨f, fx⟩ H locs ls ⟨hP, hD, hS, hl, hf9, hi9⟩ ih_61
      have hP : va_P D vwCl [(h0, wMo q R C tn dn ag md em), ((q 0), .inl (cI, 36, .inl (nA b))), ((q 4), .inl (cI, 36, .inl (nA fx)))] H := hP
      have hD : va_D A [(h0, wMo q R C tn dn ag md em), ((q 0), .inl (cI, 36, .inl (nA b))), ((q 4), .inl (cI, 36, .inl (nA fx)))] := hD
      have hl : lv_has ls 5 [(0, .ref h0), (1, .int (nI cl)), (2, .int (nI n)), (3, .int (nI f))] := hl
      have hxb := stI_le hn36 (show n - 1 ≤ 36 by omega) hfa hi9
      have hf9 : f ≤ R * C := hf9
      have hi9 : stI R C b cl n fa9 fx f := hi9
      refine lv_iload_n hx hb dX6_measures_61 rfl (lv_at hl 3 rfl) ?_
      refine lv_aload_n hx hb dX6_measures_62 rfl (lv_at hl 0 rfl) ?_
      refine k_calli (wr := [((q 0), .inl (cI, 36, .inl (nA b))), ((q 4), .inl (cI, 36, .inl (nA fx)))]) (w2 := (fun _ : Unit => [(h0, wMo q R C tn dn ag md em), ((q 0), .inl (cI, 36, .inl (nA b))), ((q 4), .inl (cI, 36, .inl (nA fx)))])) (va_runV (As := []) (rest := [.int (nI f)]) ⟨hx, hb, hml, hown, hts⟩ (c_R_fields l D cI cJ cZ h0 q R C tn dn ag md em  H.size) (cwV 0 hts gX6_measures_X6_fields rfl rfl rfl (by decide +kernel) ⟨Nat.le_of_ble_eq_true rfl, Nat.le_of_ble_eq_true rfl⟩) (kPV (ci := 6) (q0 := 0) (wc := [(h0, wMo q R C tn dn ag md em)]) hK2 hP hD [0] rfl (by decide) rfl rfl) rfl rfl hl.1 rfl (lv_room (Nat.le_of_ble_eq_true rfl)) dX6_measures_63 ⟨Nat.le_of_ble_eq_true rfl, Nat.le_of_ble_eq_true rfl⟩) hP hD hS hA [0] [1, 2] [2, 0, 1] rfl rfl (by decide) (by decide) (fun _ => rfl) (by decide) (fun r_4 u_4 H locs hw_4 hP hD hS => ?_)
      have hP : va_P D vwCl [(h0, wMo q R C tn dn ag md em), ((q 0), .inl (cI, 36, .inl (nA b))), ((q 4), .inl (cI, 36, .inl (nA fx)))] H := hP
      have hD : va_D A [(h0, wMo q R C tn dn ag md em), ((q 0), .inl (cI, 36, .inl (nA b))), ((q 4), .inl (cI, 36, .inl (nA fx)))] := hD
      subst hw_4
      refine kw_icmp_ge (tgt := 151) hx hb dX6_measures_66 (by decide) (by omega) (by omega) (fun c_66_5 => ?_) (fun c_66_5 => ?_)
      · have hi8 : ∀ g, g < R * C → fx g = stF R C b cl n fa9 g := fun g hg => (hi9 g hg).1 (by omega)
        refine lv_iinc (v := (nI (n + 1))) (lv' := [(2, .int (nI (n + 1))), (0, .ref h0), (1, .int (nI cl)), (3, .int (nI f))]) hx hb dX6_measures_151 hl (k := 2) rfl (k_inc _ 1) (by decide) rfl (fun ls hl => ?_)
        refine lv_goto (tgt := 53) hx hb dX6_measures_154 (by decide) ?_
        exact ih_53 ((n + 1), fx) _ _ _ (by show 37 - (n + 1) < 37 - n; omega) ⟨hP, hD, hS, lv_sub hl [1, 2, 0] rfl, by omega, by omega, fa_step hn1 hn36 hfa hi8⟩
      · have hfl : f < R * C := c_66_5
        have hbf := hbv f hfl
        have hxf := hxb f hfl
        refine lv_aload_n hx hb dX6_measures_69 rfl (lv_at hl 0 rfl) ?_
        refine va_get (D := D) (ci := 6) (v := .ref (q 0)) (C := RX6) (T := TX6) (N := 17) hx hb hts kiX6_measures_X6 hown hK hP 0 rfl rfl 3 (by decide) (hts (.fieldLink RX6 19 "TwoBanksModel" "at" "[I") (List.mem_of_getElem? (i := 2) rfl)) (fun _ h9 => h9) rfl dX6_measures_70 ?_
        refine lv_iload_n hx hb dX6_measures_73 rfl (lv_at hl 3 rfl) ?_
        refine va_iald hx hb hK hP 1 0 rfl rfl (vp_in_nI (by omega) (by omega)) dX6_measures_74 ?_
        refine k_toi (y := nI (b f)) (congrArg (nA b) (nI_clamp (by omega))) ?_
        refine lv_iload_n hx hb dX6_measures_75 rfl (lv_at hl 1 rfl) ?_
        refine kw_icmp_ne (tgt := 145) hx hb dX6_measures_76 (by decide) (by omega) (by omega) (fun c_76_6 => ?_) (fun c_76_6 => ?_)
        · have hbn : ¬ b f = cl := c_76_6
          refine lv_iinc (v := (nI (f + 1))) (lv' := [(3, .int (nI (f + 1))), (0, .ref h0), (1, .int (nI cl)), (2, .int (nI n))]) hx hb dX6_measures_145 hl (k := 3) rfl (k_inc _ 1) (by decide) rfl (fun ls hl => ?_)
          refine lv_goto (tgt := 61) hx hb dX6_measures_148 (by decide) ?_
          exact ih_61 ((f + 1), fx) _ _ _ (by show R * C - (f + 1) < R * C - f; omega) ⟨hP, hD, hS, lv_sub hl [1, 2, 3, 0] rfl, by omega, stI_keep hi9 hfl (fun h9 => hbn h9.2.1)⟩
        · have hbc : b f = cl := c_76_6
          refine lv_aload_n hx hb dX6_measures_79 rfl (lv_at hl 0 rfl) ?_
          refine va_get (D := D) (ci := 6) (v := .ref (q 4)) (C := RX6) (T := TX6) (N := 17) hx hb hts kiX6_measures_X6 hown hK hP 0 rfl rfl 10 (by decide) (hts (.fieldLink RX6 37 "TwoBanksModel" "far" "[I") (List.mem_of_getElem? (i := 1) rfl)) (fun _ h9 => h9) rfl dX6_measures_80 ?_
          refine lv_iload_n hx hb dX6_measures_83 rfl (lv_at hl 3 rfl) ?_
          refine va_iald hx hb hK hP 2 0 rfl rfl (vp_in_nI (by omega) (by omega)) dX6_measures_84 ?_
          refine k_toi (y := nI (fx f)) (congrArg (nA fx) (nI_clamp (by omega))) ?_
          refine lv_bipush (v := (nI 100)) hx hb dX6_measures_85 (by decide) ?_
          refine kw_icmp_ge (tgt := 93) hx hb dX6_measures_87 (by decide) (by omega) (by omega) (fun c_87_7 => ?_) (fun c_87_7 => ?_)
          · have h100 : 100 ≤ fx f := c_87_7
            refine lv_iconst (v := (nI 0)) hx hb dX6_measures_93 (by decide) ?_
            refine lv_istore (lv' := [(4, .int (nI 0)), (0, .ref h0), (1, .int (nI cl)), (2, .int (nI n)), (3, .int (nI f))]) hx hb dX6_measures_94 hl (by decide) rfl (fun ls hl => ?_)
            refine kw_loop (σ := Nat × (Nat → Nat)) (fun zz H locs ls => match zz with | (k, fk) => va_P D vwCl [(h0, wMo q R C tn dn ag md em), ((q 0), .inl (cI, 36, .inl (nA b))), ((q 4), .inl (cI, 36, .inl (nA fk)))] H ∧ va_D A [(h0, wMo q R C tn dn ag md em), ((q 0), .inl (cI, 36, .inl (nA b))), ((q 4), .inl (cI, 36, .inl (nA fk)))] ∧ va_S A s.heap H locs ∧ lv_has ls 5 [(0, .ref h0), (1, .int (nI cl)), (2, .int (nI n)), (3, .int (nI f)), (4, .int (nI k))] ∧ (k ≤ 6) ∧ (kdP R C n fa9 fx f k fk)) (fun zz => match zz with | (k, fk) => 6 - k) (0, fx) ⟨hP, hD, hS, lv_sub hl [1, 2, 3, 4, 0] rfl, Nat.zero_le _, Or.inl ⟨rfl, fun j g hj => absurd hj (Nat.not_lt_zero j)⟩⟩ ?_
            clear hP hD hS hl
            rintro ⟨k, fk⟩ H locs ls ⟨hP, hD, hS, hl, hk9, hd9⟩ ih_96
            have hP : va_P D vwCl [(h0, wMo q R C tn dn ag md em), ((q 0), .inl (cI, 36, .inl (nA b))), ((q 4), .inl (cI, 36, .inl (nA fk)))] H := hP
            have hD : va_D A [(h0, wMo q R C tn dn ag md em), ((q 0), .inl (cI, 36, .inl (nA b))), ((q 4), .inl (cI, 36, .inl (nA fk)))] := hD
            have hl : lv_has ls 5 [(0, .ref h0), (1, .int (nI cl)), (2, .int (nI n)), (3, .int (nI f)), (4, .int (nI k))] := hl
            have hkb := kd_le (R := R) (C := C) hn36 hxb hd9
            have hk9 : k ≤ 6 := hk9
            have hd9 : kdP R C n fa9 fx f k fk := hd9
            refine lv_iload hx hb dX6_measures_96 (lv_at hl 4 rfl) ?_
            refine lv_bipush (v := (nI 6)) hx hb dX6_measures_98 (by decide) ?_
            refine kw_icmp_ge (tgt := 145) hx hb dX6_measures_100 (by decide) (by omega) (by omega) (fun c_100_8 => ?_) (fun c_100_8 => ?_)
            · refine lv_iinc (v := (nI (f + 1))) (lv' := [(3, .int (nI (f + 1))), (0, .ref h0), (1, .int (nI cl)), (2, .int (nI n)), (4, .int (nI k))]) hx hb dX6_measures_145 hl (k := 3) rfl (k_inc _ 1) (by decide) rfl (fun ls hl => ?_)
              refine lv_goto (tgt := 61) hx hb dX6_measures_148 (by decide) ?_
              exact ih_61 ((f + 1), fk) _ _ _ (by show R * C - (f + 1) < R * C - f; omega) ⟨hP, hD, hS, lv_sub hl [1, 2, 3, 0] rfl, by omega, kd_end hC1 hn1 hn36 hi9 hfl hbc h100 (by have e9 : k = 6 := (by omega); rw [e9] at hd9; exact hd9)⟩
            · refine lv_aload_n hx hb dX6_measures_103 rfl (lv_at hl 0 rfl) ?_
              refine lv_iload_n hx hb dX6_measures_104 rfl (lv_at hl 3 rfl) ?_
              refine lv_iload hx hb dX6_measures_105 (lv_at hl 4 rfl) ?_
              refine k_calli (wr := [((q 0), .inl (cI, 36, .inl (nA b))), ((q 4), .inl (cI, 36, .inl (nA fk)))]) (w2 := (fun _ : Unit => [(h0, wMo q R C tn dn ag md em), ((q 0), .inl (cI, 36, .inl (nA b))), ((q 4), .inl (cI, 36, .inl (nA fk)))])) (va_runV (As := [.int (nI f), .int (nI k)]) (rest := []) ⟨hx, hb, hml, hown, hts⟩ (c_R_beside l D cI cJ cZ h0 q R C tn dn ag md em f k hR1 hR2 hC1 hC2 hRC (by omega) (by omega)  H.size) (cwV 2 hts gX6_measures_X6_beside rfl rfl rfl (by decide +kernel) ⟨Nat.le_of_ble_eq_true rfl, Nat.le_of_ble_eq_true rfl⟩) (kPV (ci := 6) (q0 := 0) (wc := [(h0, wMo q R C tn dn ag md em)]) hK2 hP hD [0] rfl (by decide) rfl rfl) rfl rfl hl.1 rfl (lv_room (Nat.le_of_ble_eq_true rfl)) dX6_measures_107 ⟨Nat.le_of_ble_eq_true rfl, Nat.le_of_ble_eq_true rfl⟩) hP hD hS hA [0] [1, 2] [2, 0, 1] rfl rfl (by decide) (by decide) (fun _ => rfl) (by decide) (fun r_9 u_9 H locs hw_9 hP hD hS => ?_)
              have hP : va_P D vwCl [(h0, wMo q R C tn dn ag md em), ((q 0), .inl (cI, 36, .inl (nA b))), ((q 4), .inl (cI, 36, .inl (nA fk)))] H := hP
              have hD : va_D A [(h0, wMo q R C tn dn ag md em), ((q 0), .inl (cI, 36, .inl (nA b))), ((q 4), .inl (cI, 36, .inl (nA fk)))] := hD
              subst hw_9
              rcases hm9 : mBe R C f k with _ | g9
              · refine k_toi (y := (-1)) rfl ?_
                refine lv_iconst (v := (-1)) hx hb dX6_measures_110 (by decide) ?_
                refine lv_icmp_eq (tgt := 139) hx hb dX6_measures_111 (by decide) (fun c_111_10 => ?_) (fun c_111_10 => absurd c_111_10 (by decide))
                refine lv_iinc (v := (nI (k + 1))) (lv' := [(4, .int (nI (k + 1))), (0, .ref h0), (1, .int (nI cl)), (2, .int (nI n)), (3, .int (nI f))]) hx hb dX6_measures_139 hl (k := 4) rfl (k_inc _ 1) (by decide) rfl (fun ls hl => ?_)
                refine lv_goto (tgt := 96) hx hb dX6_measures_142 (by decide) ?_
                exact ih_96 ((k + 1), fk) _ _ _ (by show 6 - (k + 1) < 6 - k; omega) ⟨hP, hD, hS, lv_sub hl [1, 2, 3, 4, 0] rfl, by omega, kd_no hd9 (fun g h9 => by rw [hm9] at h9; cases h9)⟩
              · refine k_toi (y := nI g9) rfl ?_
                have hg9 := mBe_adj hC1 hfl (by omega) hm9
                have hgl9 := hg9.1
                have hkg := hkb g9 hgl9
                refine lv_iconst (v := (-1)) hx hb dX6_measures_110 (by decide) ?_
                refine lv_icmp_eq (tgt := 139) hx hb dX6_measures_111 (by decide) (fun c_111_11 => absurd c_111_11 (k_ne_m (by omega) (by decide))) (fun c_111_11 => ?_)
                refine lv_aload_n hx hb dX6_measures_114 rfl (lv_at hl 0 rfl) ?_
                refine va_get (D := D) (ci := 6) (v := .ref (q 4)) (C := RX6) (T := TX6) (N := 17) hx hb hts kiX6_measures_X6 hown hK hP 0 rfl rfl 10 (by decide) (hts (.fieldLink RX6 37 "TwoBanksModel" "far" "[I") (List.mem_of_getElem? (i := 1) rfl)) (fun _ h9 => h9) rfl dX6_measures_115 ?_
                refine lv_aload_n hx hb dX6_measures_118 rfl (lv_at hl 0 rfl) ?_
                refine lv_iload_n hx hb dX6_measures_119 rfl (lv_at hl 3 rfl) ?_
                refine lv_iload hx hb dX6_measures_120 (lv_at hl 4 rfl) ?_
                refine k_calli (wr := [((q 0), .inl (cI, 36, .inl (nA b))), ((q 4), .inl (cI, 36, .inl (nA fk)))]) (w2 := (fun _ : Unit => [(h0, wMo q R C tn dn ag md em), ((q 0), .inl (cI, 36, .inl (nA b))), ((q 4), .inl (cI, 36, .inl (nA fk)))])) (va_runV (As := [.int (nI f), .int (nI k)]) (rest := [.ref (q 4)]) ⟨hx, hb, hml, hown, hts⟩ (c_R_beside l D cI cJ cZ h0 q R C tn dn ag md em f k hR1 hR2 hC1 hC2 hRC (by omega) (by omega)  H.size) (cwV 2 hts gX6_measures_X6_beside rfl rfl rfl (by decide +kernel) ⟨Nat.le_of_ble_eq_true rfl, Nat.le_of_ble_eq_true rfl⟩) (kPV (ci := 6) (q0 := 0) (wc := [(h0, wMo q R C tn dn ag md em)]) hK2 hP hD [0] rfl (by decide) rfl rfl) rfl rfl hl.1 rfl (lv_room (Nat.le_of_ble_eq_true rfl)) dX6_measures_122 ⟨Nat.le_of_ble_eq_true rfl, Nat.le_of_ble_eq_true rfl⟩) hP hD hS hA [0] [1, 2] [2, 0, 1] rfl rfl (by decide) (by decide) (fun _ => rfl) (by decide) (fun r_12 u_12 H locs hw_12 hP hD hS => ?_)
                have hP : va_P D vwCl [(h0, wMo q R C tn dn ag md em), ((q 0), .inl (cI, 36, .inl (nA b))), ((q 4), .inl (cI, 36, .inl (nA fk)))] H := hP
                have hD : va_D A [(h0, wMo q R C tn dn ag md em), ((q 0), .inl (cI, 36, .inl (nA b))), ((q 4), .inl (cI, 36, .inl (nA fk)))] := hD
                subst hw_12
                refine k_toi (y := nI g9) (by rw [hm9]; rfl) ?_
                refine va_iald hx hb hK hP 2 0 rfl rfl (vp_in_nI (by omega) (by omega)) dX6_measures_125 ?_
                refine k_toi (y := nI (fk g9)) (congrArg (nA fk) (nI_clamp (by omega))) ?_
                refine lv_iload_n hx hb dX6_measures_126 rfl (lv_at hl 2 rfl) ?_
                refine lv_iconst (v := (nI 1)) hx hb dX6_measures_127 (by decide) ?_
                refine lv_isub hx hb dX6_measures_128 ?_
                refine k_toi (y := nI (n - 1)) (pk_sub (by omega)) ?_
                refine kw_icmp_ne (tgt := 139) hx hb dX6_measures_129 (by decide) (by omega) (by omega) (fun c_129_13 => ?_) (fun c_129_13 => ?_)
                · have hne9 : fk g9 ≠ n - 1 := c_129_13
                  refine lv_iinc (v := (nI (k + 1))) (lv' := [(4, .int (nI (k + 1))), (0, .ref h0), (1, .int (nI cl)), (2, .int (nI n)), (3, .int (nI f))]) hx hb dX6_measures_139 hl (k := 4) rfl (k_inc _ 1) (by decide) rfl (fun ls hl => ?_)
                  refine lv_goto (tgt := 96) hx hb dX6_measures_142 (by decide) ?_
                  exact ih_96 ((k + 1), fk) _ _ _ (by show 6 - (k + 1) < 6 - k; omega) ⟨hP, hD, hS, lv_sub hl [1, 2, 3, 4, 0] rfl, by omega, kd_no hd9 (fun g h9 => by rw [hm9] at h9; cases h9; exact hne9)⟩
                · have heq9 : fk g9 = n - 1 := c_129_13
                  refine lv_aload_n hx hb dX6_measures_132 rfl (lv_at hl 0 rfl) ?_
                  refine va_get (D := D) (ci := 6) (v := .ref (q 4)) (C := RX6) (T := TX6) (N := 17) hx hb hts kiX6_measures_X6 hown hK hP 0 rfl rfl 10 (by decide) (hts (.fieldLink RX6 37 "TwoBanksModel" "far" "[I") (List.mem_of_getElem? (i := 1) rfl)) (fun _ h9 => h9) rfl dX6_measures_133 ?_
                  refine lv_iload_n hx hb dX6_measures_136 rfl (lv_at hl 3 rfl) ?_
                  refine lv_iload_n hx hb dX6_measures_137 rfl (lv_at hl 2 rfl) ?_
                  refine va_iast hx hb hK hP hD hS 2 0 rfl rfl (vp_in_nI (by omega) (by omega)) dX6_measures_138 (fun H locs hP hD hS => ?_)
                  rw [nI_clamp (by omega)] at hP hD
                  rw [nA_upd] at hP hD
                  have hP : va_P D vwCl [(h0, wMo q R C tn dn ag md em), ((q 0), .inl (cI, 36, .inl (nA b))), ((q 4), .inl (cI, 36, .inl (nA (uN fk f n))))] H := hP
                  have hD : va_D A [(h0, wMo q R C tn dn ag md em), ((q 0), .inl (cI, 36, .inl (nA b))), ((q 4), .inl (cI, 36, .inl (nA (uN fk f n))))] := hD
                  refine lv_iinc (v := (nI (k + 1))) (lv' := [(4, .int (nI (k + 1))), (0, .ref h0), (1, .int (nI cl)), (2, .int (nI n)), (3, .int (nI f))]) hx hb dX6_measures_139 hl (k := 4) rfl (k_inc _ 1) (by decide) rfl (fun ls hl => ?_)
                  refine lv_goto (tgt := 96) hx hb dX6_measures_142 (by decide) ?_
                  exact ih_96 ((k + 1), (uN fk f n)) _ _ _ (by show 6 - (k + 1) < 6 - k; omega) ⟨hP, hD, hS, lv_sub hl [1, 2, 3, 4, 0] rfl, by omega, kd_hit hd9 hg9.1 hg9.2 heq9 (fun x hx => stI_eq hn1 hn36 hi9 hx)⟩
          · have hlow : fx f < 100 := c_87_7
            refine lv_goto (tgt := 145) hx hb dX6_measures_90 (by decide) ?_
            refine lv_iinc (v := (nI (f + 1))) (lv' := [(3, .int (nI (f + 1))), (0, .ref h0), (1, .int (nI cl)), (2, .int (nI n))]) hx hb dX6_measures_145 hl (k := 3) rfl (k_inc _ 1) (by decide) rfl (fun ls hl => ?_)
            refine lv_goto (tgt := 61) hx hb dX6_measures_148 (by decide) ?_
            exact ih_61 ((f + 1), fx) _ _ _ (by show R * C - (f + 1) < R * C - f; omega) ⟨hP, hD, hS, lv_sub hl [1, 2, 3, 0] rfl, by omega, stI_keep hi9 hfl (fun h9 => by have := h9.1; have := (hi9 f hfl).2 (Nat.le_refl _); omega)⟩
  · have hfl : f < R * C := c_7_2
    have hbf := hbv f hfl
    refine lv_aload_n hx hb dX6_measures_10 rfl (lv_at hl 0 rfl) ?_
    refine va_get (D := D) (ci := 6) (v := .ref (q 4)) (C := RX6) (T := TX6) (N := 17) hx hb hts kiX6_measures_X6 hown hK hP 0 rfl rfl 10 (by decide) (hts (.fieldLink RX6 37 "TwoBanksModel" "far" "[I") (List.mem_of_getElem? (i := 1) rfl)) (fun _ h9 => h9) rfl dX6_measures_11 ?_
    refine lv_iload_n hx hb dX6_measures_14 rfl (lv_at hl 2 rfl) ?_
    refine lv_aload_n hx hb dX6_measures_15 rfl (lv_at hl 0 rfl) ?_
    refine va_get (D := D) (ci := 6) (v := .ref (q 0)) (C := RX6) (T := TX6) (N := 17) hx hb hts kiX6_measures_X6 hown hK hP 0 rfl rfl 3 (by decide) (hts (.fieldLink RX6 19 "TwoBanksModel" "at" "[I") (List.mem_of_getElem? (i := 2) rfl)) (fun _ h9 => h9) rfl dX6_measures_16 ?_
    refine lv_iload_n hx hb dX6_measures_19 rfl (lv_at hl 2 rfl) ?_
    refine va_iald hx hb hK hP 1 0 rfl rfl (vp_in_nI (by omega) (by omega)) dX6_measures_20 ?_
    refine k_toi (y := nI (b f)) (congrArg (nA b) (nI_clamp (by omega))) ?_
    refine lv_iload_n hx hb dX6_measures_21 rfl (lv_at hl 1 rfl) ?_
    refine kw_icmp_ne (tgt := 42) hx hb dX6_measures_22 (by decide) (by omega) (by omega) (fun c_22_14 => ?_) (fun c_22_14 => ?_)
    · have hbn : ¬ b f = cl := c_22_14
      refine lv_bipush (v := (nI 100)) hx hb dX6_measures_42 (by decide) ?_
      refine va_iast hx hb hK hP hD hS 2 0 rfl rfl (vp_in_nI (by omega) (by omega)) dX6_measures_44 (fun H locs hP hD hS => ?_)
      rw [nI_clamp (by omega)] at hP hD
      rw [nA_upd] at hP hD
      have hP : va_P D vwCl [(h0, wMo q R C tn dn ag md em), ((q 0), .inl (cI, 36, .inl (nA b))), ((q 4), .inl (cI, 36, .inl (nA (uN fx f 100))))] H := hP
      have hD : va_D A [(h0, wMo q R C tn dn ag md em), ((q 0), .inl (cI, 36, .inl (nA b))), ((q 4), .inl (cI, 36, .inl (nA (uN fx f 100))))] := hD
      refine lv_iinc (v := (nI (f + 1))) (lv' := [(2, .int (nI (f + 1))), (0, .ref h0), (1, .int (nI cl))]) hx hb dX6_measures_45 hl (k := 2) rfl (k_inc _ 1) (by decide) rfl (fun ls hl => ?_)
      refine lv_goto (tgt := 2) hx hb dX6_measures_48 (by decide) ?_
      exact ih_2 ((f + 1), (uN fx f 100)) _ _ _ (by show R * C - (f + 1) < R * C - f; omega) ⟨hP, hD, hS, lv_sub hl [1, 2, 0] rfl, by omega, fi_put hx9 (Or.inr ⟨rfl, fun h9 => hbn h9.2.1⟩)⟩
    · have hbc : b f = cl := c_22_14
      refine lv_aload_n hx hb dX6_measures_25 rfl (lv_at hl 0 rfl) ?_
      refine lv_iload_n hx hb dX6_measures_26 rfl (lv_at hl 2 rfl) ?_
      refine k_calli (wr := [((q 0), .inl (cI, 36, .inl (nA b))), ((q 4), .inl (cI, 36, .inl (nA fx)))]) (w2 := (fun _ : Unit => [(h0, wMo q R C tn dn ag md em), ((q 0), .inl (cI, 36, .inl (nA b))), ((q 4), .inl (cI, 36, .inl (nA fx)))])) (va_runV (As := [.int (nI f)]) (rest := [.int (nI f), .ref (q 4)]) ⟨hx, hb, hml, hown, hts⟩ (c_R_banks l D cI cJ cZ h0 q R C tn dn ag md em f hR1 hR2 hC1 hC2 hRC (by omega)  H.size) (cwV 1 hts gX6_measures_X6_banks rfl rfl rfl (by decide +kernel) ⟨Nat.le_of_ble_eq_true rfl, Nat.le_of_ble_eq_true rfl⟩) (kPV (ci := 6) (q0 := 0) (wc := [(h0, wMo q R C tn dn ag md em)]) hK2 hP hD [0] rfl (by decide) rfl rfl) rfl rfl hl.1 rfl (lv_room (Nat.le_of_ble_eq_true rfl)) dX6_measures_27 ⟨Nat.le_of_ble_eq_true rfl, Nat.le_of_ble_eq_true rfl⟩) hP hD hS hA [0] [1, 2] [2, 0, 1] rfl rfl (by decide) (by decide) (fun _ => rfl) (by decide) (fun r_15 u_15 H locs hw_15 hP hD hS => ?_)
      have hP : va_P D vwCl [(h0, wMo q R C tn dn ag md em), ((q 0), .inl (cI, 36, .inl (nA b))), ((q 4), .inl (cI, 36, .inl (nA fx)))] H := hP
      have hD : va_D A [(h0, wMo q R C tn dn ag md em), ((q 0), .inl (cI, 36, .inl (nA b))), ((q 4), .inl (cI, 36, .inl (nA fx)))] := hD
      subst hw_15
      refine lv_iload_n hx hb dX6_measures_30 rfl (lv_at hl 1 rfl) ?_
      refine k_calli (wr := [(h0, wMo q R C tn dn ag md em), ((q 0), .inl (cI, 36, .inl (nA b))), ((q 4), .inl (cI, 36, .inl (nA fx)))]) (w2 := (fun _ : Unit => [(h0, wMo q R C tn dn ag md em), ((q 0), .inl (cI, 36, .inl (nA b))), ((q 4), .inl (cI, 36, .inl (nA fx)))])) (va_runS (As := [.int (nI cl)]) (rest := [.int (nI (mBk R C f)), .int (nI f), .ref (q 4)]) ⟨hx, hb, hml, hown, hts⟩ (c_R_last l D cI cJ cZ cl qcl  H.size) (va_cwS 1 hts gX6_measures_X6_last rfl rfl rfl (by decide +kernel) ⟨Nat.le_of_ble_eq_true rfl, Nat.le_of_ble_eq_true rfl⟩) (kPS (wc := []) hK2 hP hD [] rfl (by decide)) rfl rfl hl.1 rfl (lv_room (Nat.le_of_ble_eq_true rfl)) dX6_measures_31 ⟨Nat.le_of_ble_eq_true rfl, Nat.le_of_ble_eq_true rfl⟩) hP hD hS hA [] [0, 1, 2] [0, 1, 2] rfl rfl (by decide) (by decide) (fun _ => rfl) (by decide) (fun r_16 u_16 H locs hw_16 hP hD hS => ?_)
      have hP : va_P D vwCl [(h0, wMo q R C tn dn ag md em), ((q 0), .inl (cI, 36, .inl (nA b))), ((q 4), .inl (cI, 36, .inl (nA fx)))] H := hP
      have hD : va_D A [(h0, wMo q R C tn dn ag md em), ((q 0), .inl (cI, 36, .inl (nA b))), ((q 4), .inl (cI, 36, .inl (nA fx)))] := hD
      subst hw_16
      refine k_toi (y := nI (mL cl)) rfl ?_
      refine lv_iand hx hb dX6_measures_34 ?_
      refine k_toi (y := nI ((mBk R C f) &&& (mL cl))) (fa_and _ _) ?_
      have hbd := mL_bd (mBk R C f) cl
      refine kw_if_eq (tgt := 42) hx hb dX6_measures_35 (by decide) (by omega) (fun c_35_17 => ?_) (fun c_35_17 => ?_)
      · have hbk : mBk R C f &&& mL cl = 0 := c_35_17
        refine lv_bipush (v := (nI 100)) hx hb dX6_measures_42 (by decide) ?_
        refine va_iast hx hb hK hP hD hS 2 0 rfl rfl (vp_in_nI (by omega) (by omega)) dX6_measures_44 (fun H locs hP hD hS => ?_)
        rw [nI_clamp (by omega)] at hP hD
        rw [nA_upd] at hP hD
        have hP : va_P D vwCl [(h0, wMo q R C tn dn ag md em), ((q 0), .inl (cI, 36, .inl (nA b))), ((q 4), .inl (cI, 36, .inl (nA (uN fx f 100))))] H := hP
        have hD : va_D A [(h0, wMo q R C tn dn ag md em), ((q 0), .inl (cI, 36, .inl (nA b))), ((q 4), .inl (cI, 36, .inl (nA (uN fx f 100))))] := hD
        refine lv_iinc (v := (nI (f + 1))) (lv' := [(2, .int (nI (f + 1))), (0, .ref h0), (1, .int (nI cl))]) hx hb dX6_measures_45 hl (k := 2) rfl (k_inc _ 1) (by decide) rfl (fun ls hl => ?_)
        refine lv_goto (tgt := 2) hx hb dX6_measures_48 (by decide) ?_
        exact ih_2 ((f + 1), (uN fx f 100)) _ _ _ (by show R * C - (f + 1) < R * C - f; omega) ⟨hP, hD, hS, lv_sub hl [1, 2, 0] rfl, by omega, fi_put hx9 (Or.inr ⟨rfl, fun h9 => absurd h9.2.2 (and0 hbk)⟩)⟩
      · have hbk : 0 < mBk R C f &&& mL cl := c_35_17
        refine lv_iconst (v := (nI 1)) hx hb dX6_measures_38 (by decide) ?_
        refine lv_goto (tgt := 44) hx hb dX6_measures_39 (by decide) ?_
        refine va_iast hx hb hK hP hD hS 2 0 rfl rfl (vp_in_nI (by omega) (by omega)) dX6_measures_44 (fun H locs hP hD hS => ?_)
        rw [nI_clamp (by omega)] at hP hD
        rw [nA_upd] at hP hD
        have hP : va_P D vwCl [(h0, wMo q R C tn dn ag md em), ((q 0), .inl (cI, 36, .inl (nA b))), ((q 4), .inl (cI, 36, .inl (nA (uN fx f 1))))] H := hP
        have hD : va_D A [(h0, wMo q R C tn dn ag md em), ((q 0), .inl (cI, 36, .inl (nA b))), ((q 4), .inl (cI, 36, .inl (nA (uN fx f 1))))] := hD
        refine lv_iinc (v := (nI (f + 1))) (lv' := [(2, .int (nI (f + 1))), (0, .ref h0), (1, .int (nI cl))]) hx hb dX6_measures_45 hl (k := 2) rfl (k_inc _ 1) (by decide) rfl (fun ls hl => ?_)
        refine lv_goto (tgt := 2) hx hb dX6_measures_48 (by decide) ?_
        exact ih_2 ((f + 1), (uN fx f 1)) _ _ _ (by show R * C - (f + 1) < R * C - f; omega) ⟨hP, hD, hS, lv_sub hl [1, 2, 0] rfl, by omega, fi_put hx9 (Or.inl ⟨rfl, hfl, hbc, hbk⟩)⟩

theorem kiX6_wayLong_X6 : ∀ w ∈ u_ws RX6 TX6 17, w ∈ wsX6_wayLong := fun w h => List.mem_cons_of_mem _ (List.mem_append_right _ h)
set_option maxHeartbeats 4000000 in
set_option maxRecDepth 100000 in
theorem c_R_wayLong (l : Launch) (D : va_G) (cI cJ cZ : ClassId) (h0 : Nat) (q : Nat → Nat) (R C tn dn ag md em : Nat) (b fa : Nat → Nat) (z : Nat → Bool) (hR1 : 1 ≤ R) (hR2 : R ≤ 6) (hC1 : 1 ≤ C) (hC2 : C ≤ 6) (hRC : R * C ≤ 36) (hbv : ∀ f, f < R * C → b f ≤ 2) (sz : Nat) : kMI l yX6_wayLong wsX6_wayLong 5 113 D cI cJ cZ [.ref h0] [(h0, wMo q R C tn dn ag md em), ((q 0), .inl (cI, 36, .inl (nA b))), ((q 2), .inl (cZ, 36, .inl (bA z))), ((q 4), .inl (cI, 36, .inl (nA fa)))] sz (fun r (u : (Nat → Bool) × (Nat → Nat)) => (mWho R C b = 0 ∧ r = nI 0) ∨ (0 < mWho R C b ∧ ∃ n, r = nI n ∧ faP R C b (mWho R C b) 36 u.2 ∧ beP R C (mWho R C b) u.2 (R * C) n)) (fun u : (Nat → Bool) × (Nat → Nat) => match u with | (za, faa) => [(h0, wMo q R C tn dn ag md em), ((q 0), .inl (cI, 36, .inl (nA b))), ((q 2), .inl (cZ, 36, .inl (bA za))), ((q 4), .inl (cI, 36, .inl (nA faa)))]) := by
  refine Met.ofW (cc := cX6_wayLong) (maxL := 4) (ret := (some .int)) (by decide) rfl ?_
  intro p e s m args below meth c s₁ B hml hv
  obtain ⟨rfl, hsz, hP, ⟨hK, hN⟩, hD0⟩ := hv
  have hx := B.exec
  have hb := B.bytes
  have hr := B.returns
  have hts := atoms_spec (ws := wsX6_wayLong) B.pre
  have hown : s.vm.findClass RX6 = some m.cls := findClass_of_methodNamed B.named
  have hlocks := B.notSynchronized
  subst hsz
  have hD := hD0.self (sz := s.heap.size)
  generalize hAe : va_A [(h0, wMo q R C tn dn ag md em), ((q 0), .inl (cI, 36, .inl (nA b))), ((q 2), .inl (cZ, 36, .inl (bA z))), ((q 4), .inl (cI, 36, .inl (nA fa)))] s.heap.size = A at hD ⊢
  have hA : ∀ q : Nat, s.heap.size ≤ q → A q := fun q h => by rw [← hAe]; exact Or.inr h
  have hS : va_S A s.heap s.heap [] := va_S.rf
  have hl := lv_entry ([.ref h0]) (n := 4) (Nat.le_of_ble_eq_true rfl)
  rw [lg_entry_eq]
  generalize (lg_sl ([.ref h0]) ++ List.replicate (4 - (lg_sl ([.ref h0])).length) Slot.unset).toArray = ls at hl ⊢
  have hl : lv_has ls 4 [(0, .ref h0)] := hl
  have hK2 : kK D cI cJ cZ s := ⟨hK, hN⟩
  clear hD0
  have hwl := mWho_le R C b
  refine lv_aload_n hx hb dX6_wayLong_0 rfl (lv_at hl 0 rfl) ?_
  refine k_calli (wr := [((q 4), .inl (cI, 36, .inl (nA fa)))]) (w2 := (fun za : Nat → Bool => [(h0, wMo q R C tn dn ag md em), ((q 0), .inl (cI, 36, .inl (nA b))), ((q 2), .inl (cZ, 36, .inl (bA za))), ((q 4), .inl (cI, 36, .inl (nA fa)))])) (va_runV (As := []) (rest := []) ⟨hx, hb, hml, hown, hts⟩ (c_R_joined l D cI cJ cZ h0 q R C tn dn ag md em b z hR1 hR2 hC1 hC2 hRC hbv  s.heap.size) (cwV 0 hts gX6_wayLong_X6_joined rfl rfl rfl (by decide +kernel) ⟨Nat.le_of_ble_eq_true rfl, Nat.le_of_ble_eq_true rfl⟩) (kPV (ci := 6) (q0 := 0) (wc := [(h0, wMo q R C tn dn ag md em), ((q 0), .inl (cI, 36, .inl (nA b))), ((q 2), .inl (cZ, 36, .inl (bA z)))]) hK2 hP hD [0, 1, 2] rfl (by decide) rfl rfl) rfl rfl hl.1 rfl (lv_room (Nat.le_of_ble_eq_true rfl)) dX6_wayLong_1 ⟨Nat.le_of_ble_eq_true rfl, Nat.le_of_ble_eq_true rfl⟩) hP hD hS hA [0, 1, 2] [3] [1, 2, 3, 0] rfl rfl (by decide) (by decide) (fun _ => rfl) (by decide) (fun r_2 u_2 H locs hw_2 hP hD hS => ?_)
  obtain ⟨za_1, rfl⟩ : ∃ z, z = u_2 := ⟨_, rfl⟩
  have hP : va_P D vwCl [(h0, wMo q R C tn dn ag md em), ((q 0), .inl (cI, 36, .inl (nA b))), ((q 2), .inl (cZ, 36, .inl (bA za_1))), ((q 4), .inl (cI, 36, .inl (nA fa)))] H := hP
  have hD : va_D A [(h0, wMo q R C tn dn ag md em), ((q 0), .inl (cI, 36, .inl (nA b))), ((q 2), .inl (cZ, 36, .inl (bA za_1))), ((q 4), .inl (cI, 36, .inl (nA fa)))] := hD
  subst hw_2
  refine lv_istore_n (lv' := [(1, .int (nI (mWho R C b))), (0, .ref h0)]) hx hb dX6_wayLong_4 rfl hl (by decide) rfl (fun ls hl => ?_)
  refine lv_iload_n hx hb dX6_wayLong_5 rfl (lv_at hl 0 rfl) ?_
  refine kw_if_ne (tgt := 11) hx hb dX6_wayLong_6 (by decide) (by omega) (fun c_6_3 => ?_) (fun c_6_3 => ?_)
  · have hp9 : 0 < mWho R C b := c_6_3
    refine lv_aload_n hx hb dX6_wayLong_11 rfl (lv_at hl 1 rfl) ?_
    refine lv_iload_n hx hb dX6_wayLong_12 rfl (lv_at hl 0 rfl) ?_
    refine k_callv (wr := [((q 2), .inl (cZ, 36, .inl (bA za_1)))]) (w2 := (fun faa : Nat → Nat => [(h0, wMo q R C tn dn ag md em), ((q 0), .inl (cI, 36, .inl (nA b))), ((q 2), .inl (cZ, 36, .inl (bA za_1))), ((q 4), .inl (cI, 36, .inl (nA faa)))])) (va_runV (As := [.int (nI (mWho R C b))]) (rest := []) ⟨hx, hb, hml, hown, hts⟩ (c_R_measures l D cI cJ cZ h0 q R C tn dn ag md em b fa (mWho R C b) hR1 hR2 hC1 hC2 hRC hbv (by omega)  H.size) (cwV 1 hts gX6_wayLong_X6_measures rfl rfl rfl (by decide +kernel) ⟨Nat.le_of_ble_eq_true rfl, Nat.le_of_ble_eq_true rfl⟩) (kPV (ci := 6) (q0 := 0) (wc := [(h0, wMo q R C tn dn ag md em), ((q 0), .inl (cI, 36, .inl (nA b))), ((q 4), .inl (cI, 36, .inl (nA fa)))]) hK2 hP hD [0, 1, 3] rfl (by decide) rfl rfl) rfl rfl hl.1 rfl (lv_room (Nat.le_of_ble_eq_true rfl)) dX6_wayLong_13 ⟨Nat.le_of_ble_eq_true rfl, Nat.le_of_ble_eq_true rfl⟩) hP hD hS hA [0, 1, 3] [2] [1, 2, 0, 3] rfl rfl (by decide) (by decide) (fun _ => rfl) (by decide) (fun u_5 H locs hw_5 hP hD hS => ?_)
    obtain ⟨faa_4, rfl⟩ : ∃ z, z = u_5 := ⟨_, rfl⟩
    have hP : va_P D vwCl [(h0, wMo q R C tn dn ag md em), ((q 0), .inl (cI, 36, .inl (nA b))), ((q 2), .inl (cZ, 36, .inl (bA za_1))), ((q 4), .inl (cI, 36, .inl (nA faa_4)))] H := hP
    have hD : va_D A [(h0, wMo q R C tn dn ag md em), ((q 0), .inl (cI, 36, .inl (nA b))), ((q 2), .inl (cZ, 36, .inl (bA za_1))), ((q 4), .inl (cI, 36, .inl (nA faa_4)))] := hD
    have hfa9 : faP R C b (mWho R C b) 36 faa_4 := hw_5
    refine lv_bipush (v := (nI 100)) hx hb dX6_wayLong_16 (by decide) ?_
    refine lv_istore_n (lv' := [(2, .int (nI 100)), (1, .int (nI (mWho R C b))), (0, .ref h0)]) hx hb dX6_wayLong_18 rfl hl (by decide) rfl (fun ls hl => ?_)
    refine lv_iconst (v := (nI 0)) hx hb dX6_wayLong_19 (by decide) ?_
    refine lv_istore_n (lv' := [(3, .int (nI 0)), (2, .int (nI 100)), (1, .int (nI (mWho R C b))), (0, .ref h0)]) hx hb dX6_wayLong_20 rfl hl (by decide) rfl (fun ls hl => ?_)
    refine kw_loop (σ := Nat × Nat) (fun zz H locs ls => match zz with | (n, f) => va_P D vwCl [(h0, wMo q R C tn dn ag md em), ((q 0), .inl (cI, 36, .inl (nA b))), ((q 2), .inl (cZ, 36, .inl (bA za_1))), ((q 4), .inl (cI, 36, .inl (nA faa_4)))] H ∧ va_D A [(h0, wMo q R C tn dn ag md em), ((q 0), .inl (cI, 36, .inl (nA b))), ((q 2), .inl (cZ, 36, .inl (bA za_1))), ((q 4), .inl (cI, 36, .inl (nA faa_4)))] ∧ va_S A s.heap H locs ∧ lv_has ls 4 [(0, .ref h0), (1, .int (nI (mWho R C b))), (2, .int (nI n)), (3, .int (nI f))] ∧ (f ≤ R * C) ∧ (beP R C (mWho R C b) faa_4 f n)) (fun zz => match zz with | (n, f) => R * C - f) (100, 0) ⟨hP, hD, hS, lv_sub hl [3, 2, 1, 0] rfl, Nat.zero_le _, be_0⟩ ?_
    clear hP hD hS hl
    rintro ⟨n, f⟩ H locs ls ⟨hP, hD, hS, hl, hf9, hb9⟩ ih_21
    have hP : va_P D vwCl [(h0, wMo q R C tn dn ag md em), ((q 0), .inl (cI, 36, .inl (nA b))), ((q 2), .inl (cZ, 36, .inl (bA za_1))), ((q 4), .inl (cI, 36, .inl (nA faa_4)))] H := hP
    have hD : va_D A [(h0, wMo q R C tn dn ag md em), ((q 0), .inl (cI, 36, .inl (nA b))), ((q 2), .inl (cZ, 36, .inl (bA za_1))), ((q 4), .inl (cI, 36, .inl (nA faa_4)))] := hD
    have hl : lv_has ls 4 [(0, .ref h0), (1, .int (nI (mWho R C b))), (2, .int (nI n)), (3, .int (nI f))] := hl
    have hnb := hb9.1
    have hf9 : f ≤ R * C := hf9
    have hb9 : beP R C (mWho R C b) faa_4 f n := hb9
    refine lv_iload_n hx hb dX6_wayLong_21 rfl (lv_at hl 3 rfl) ?_
    refine lv_aload_n hx hb dX6_wayLong_22 rfl (lv_at hl 0 rfl) ?_
    refine k_calli (wr := [((q 0), .inl (cI, 36, .inl (nA b))), ((q 2), .inl (cZ, 36, .inl (bA za_1))), ((q 4), .inl (cI, 36, .inl (nA faa_4)))]) (w2 := (fun _ : Unit => [(h0, wMo q R C tn dn ag md em), ((q 0), .inl (cI, 36, .inl (nA b))), ((q 2), .inl (cZ, 36, .inl (bA za_1))), ((q 4), .inl (cI, 36, .inl (nA faa_4)))])) (va_runV (As := []) (rest := [.int (nI f)]) ⟨hx, hb, hml, hown, hts⟩ (c_R_fields l D cI cJ cZ h0 q R C tn dn ag md em  H.size) (cwV 0 hts gX6_wayLong_X6_fields rfl rfl rfl (by decide +kernel) ⟨Nat.le_of_ble_eq_true rfl, Nat.le_of_ble_eq_true rfl⟩) (kPV (ci := 6) (q0 := 0) (wc := [(h0, wMo q R C tn dn ag md em)]) hK2 hP hD [0] rfl (by decide) rfl rfl) rfl rfl hl.1 rfl (lv_room (Nat.le_of_ble_eq_true rfl)) dX6_wayLong_23 ⟨Nat.le_of_ble_eq_true rfl, Nat.le_of_ble_eq_true rfl⟩) hP hD hS hA [0] [1, 2, 3] [3, 0, 1, 2] rfl rfl (by decide) (by decide) (fun _ => rfl) (by decide) (fun r_6 u_6 H locs hw_6 hP hD hS => ?_)
    have hP : va_P D vwCl [(h0, wMo q R C tn dn ag md em), ((q 0), .inl (cI, 36, .inl (nA b))), ((q 2), .inl (cZ, 36, .inl (bA za_1))), ((q 4), .inl (cI, 36, .inl (nA faa_4)))] H := hP
    have hD : va_D A [(h0, wMo q R C tn dn ag md em), ((q 0), .inl (cI, 36, .inl (nA b))), ((q 2), .inl (cZ, 36, .inl (bA za_1))), ((q 4), .inl (cI, 36, .inl (nA faa_4)))] := hD
    subst hw_6
    refine kw_icmp_ge (tgt := 65) hx hb dX6_wayLong_26 (by decide) (by omega) (by omega) (fun c_26_7 => ?_) (fun c_26_7 => ?_)
    · refine lv_iload_n hx hb dX6_wayLong_65 rfl (lv_at hl 2 rfl) ?_
      exact W.iret (v := (nI n)) hx hb hr (fun t ht hW => ⟨⟨(nI n), (za_1, faa_4), rfl, Or.inr ⟨hp9, n, rfl, hfa9, by have e9 : f = R * C := (by omega); rw [e9] at hb9; exact hb9⟩, by rw [ht]; exact hP, hD⟩, hS.F ht⟩) hS.2.2 dX6_wayLong_66
    · have hfl : f < R * C := c_26_7
      have hff := (hfa9 f hfl).1
      refine lv_aload_n hx hb dX6_wayLong_29 rfl (lv_at hl 0 rfl) ?_
      refine lv_iload_n hx hb dX6_wayLong_30 rfl (lv_at hl 3 rfl) ?_
      refine k_calli (wr := [((q 0), .inl (cI, 36, .inl (nA b))), ((q 2), .inl (cZ, 36, .inl (bA za_1))), ((q 4), .inl (cI, 36, .inl (nA faa_4)))]) (w2 := (fun _ : Unit => [(h0, wMo q R C tn dn ag md em), ((q 0), .inl (cI, 36, .inl (nA b))), ((q 2), .inl (cZ, 36, .inl (bA za_1))), ((q 4), .inl (cI, 36, .inl (nA faa_4)))])) (va_runV (As := [.int (nI f)]) (rest := []) ⟨hx, hb, hml, hown, hts⟩ (c_R_banks l D cI cJ cZ h0 q R C tn dn ag md em f hR1 hR2 hC1 hC2 hRC (by omega)  H.size) (cwV 1 hts gX6_wayLong_X6_banks rfl rfl rfl (by decide +kernel) ⟨Nat.le_of_ble_eq_true rfl, Nat.le_of_ble_eq_true rfl⟩) (kPV (ci := 6) (q0 := 0) (wc := [(h0, wMo q R C tn dn ag md em)]) hK2 hP hD [0] rfl (by decide) rfl rfl) rfl rfl hl.1 rfl (lv_room (Nat.le_of_ble_eq_true rfl)) dX6_wayLong_31 ⟨Nat.le_of_ble_eq_true rfl, Nat.le_of_ble_eq_true rfl⟩) hP hD hS hA [0] [1, 2, 3] [3, 0, 1, 2] rfl rfl (by decide) (by decide) (fun _ => rfl) (by decide) (fun r_8 u_8 H locs hw_8 hP hD hS => ?_)
      have hP : va_P D vwCl [(h0, wMo q R C tn dn ag md em), ((q 0), .inl (cI, 36, .inl (nA b))), ((q 2), .inl (cZ, 36, .inl (bA za_1))), ((q 4), .inl (cI, 36, .inl (nA faa_4)))] H := hP
      have hD : va_D A [(h0, wMo q R C tn dn ag md em), ((q 0), .inl (cI, 36, .inl (nA b))), ((q 2), .inl (cZ, 36, .inl (bA za_1))), ((q 4), .inl (cI, 36, .inl (nA faa_4)))] := hD
      subst hw_8
      refine lv_iload_n hx hb dX6_wayLong_34 rfl (lv_at hl 1 rfl) ?_
      refine k_calli (wr := [(h0, wMo q R C tn dn ag md em), ((q 0), .inl (cI, 36, .inl (nA b))), ((q 2), .inl (cZ, 36, .inl (bA za_1))), ((q 4), .inl (cI, 36, .inl (nA faa_4)))]) (w2 := (fun _ : Unit => [(h0, wMo q R C tn dn ag md em), ((q 0), .inl (cI, 36, .inl (nA b))), ((q 2), .inl (cZ, 36, .inl (bA za_1))), ((q 4), .inl (cI, 36, .inl (nA faa_4)))])) (va_runS (As := [.int (nI (mWho R C b))]) (rest := [.int (nI (mBk R C f))]) ⟨hx, hb, hml, hown, hts⟩ (c_R_first l D cI cJ cZ (mWho R C b) (by omega)  H.size) (va_cwS 1 hts gX6_wayLong_X6_first rfl rfl rfl (by decide +kernel) ⟨Nat.le_of_ble_eq_true rfl, Nat.le_of_ble_eq_true rfl⟩) (kPS (wc := []) hK2 hP hD [] rfl (by decide)) rfl rfl hl.1 rfl (lv_room (Nat.le_of_ble_eq_true rfl)) dX6_wayLong_35 ⟨Nat.le_of_ble_eq_true rfl, Nat.le_of_ble_eq_true rfl⟩) hP hD hS hA [] [0, 1, 2, 3] [0, 1, 2, 3] rfl rfl (by decide) (by decide) (fun _ => rfl) (by decide) (fun r_9 u_9 H locs hw_9 hP hD hS => ?_)
      have hP : va_P D vwCl [(h0, wMo q R C tn dn ag md em), ((q 0), .inl (cI, 36, .inl (nA b))), ((q 2), .inl (cZ, 36, .inl (bA za_1))), ((q 4), .inl (cI, 36, .inl (nA faa_4)))] H := hP
      have hD : va_D A [(h0, wMo q R C tn dn ag md em), ((q 0), .inl (cI, 36, .inl (nA b))), ((q 2), .inl (cZ, 36, .inl (bA za_1))), ((q 4), .inl (cI, 36, .inl (nA faa_4)))] := hD
      subst hw_9
      refine k_toi (y := nI (mF (mWho R C b))) rfl ?_
      refine lv_iand hx hb dX6_wayLong_38 ?_
      refine k_toi (y := nI ((mBk R C f) &&& (mF (mWho R C b)))) (fa_and _ _) ?_
      have hbd := mF_bd (mBk R C f) (mWho R C b)
      refine kw_if_eq (tgt := 59) hx hb dX6_wayLong_39 (by decide) (by omega) (fun c_39_10 => ?_) (fun c_39_10 => ?_)
      · have hbk : mBk R C f &&& mF (mWho R C b) = 0 := c_39_10
        refine lv_iinc (v := (nI (f + 1))) (lv' := [(3, .int (nI (f + 1))), (0, .ref h0), (1, .int (nI (mWho R C b))), (2, .int (nI n))]) hx hb dX6_wayLong_59 hl (k := 3) rfl (k_inc _ 1) (by decide) rfl (fun ls hl => ?_)
        refine lv_goto (tgt := 21) hx hb dX6_wayLong_62 (by decide) ?_
        exact ih_21 (n, (f + 1)) _ _ _ (by show R * C - (f + 1) < R * C - f; omega) ⟨hP, hD, hS, lv_sub hl [1, 2, 3, 0] rfl, by omega, be_no hb9 hbk⟩
      · have hbk : 0 < mBk R C f &&& mF (mWho R C b) := c_39_10
        refine lv_aload_n hx hb dX6_wayLong_42 rfl (lv_at hl 0 rfl) ?_
        refine va_get (D := D) (ci := 6) (v := .ref (q 4)) (C := RX6) (T := TX6) (N := 17) hx hb hts kiX6_wayLong_X6 hown hK hP 0 rfl rfl 10 (by decide) (hts (.fieldLink RX6 37 "TwoBanksModel" "far" "[I") (List.mem_of_getElem? (i := 1) rfl)) (fun _ h9 => h9) rfl dX6_wayLong_43 ?_
        refine lv_iload_n hx hb dX6_wayLong_46 rfl (lv_at hl 3 rfl) ?_
        refine va_iald hx hb hK hP 3 0 rfl rfl (vp_in_nI (by omega) (by omega)) dX6_wayLong_47 ?_
        refine k_toi (y := nI (faa_4 f)) (congrArg (nA faa_4) (nI_clamp (by omega))) ?_
        refine lv_iload_n hx hb dX6_wayLong_48 rfl (lv_at hl 2 rfl) ?_
        refine kw_icmp_ge (tgt := 59) hx hb dX6_wayLong_49 (by decide) (by omega) (by omega) (fun c_49_11 => ?_) (fun c_49_11 => ?_)
        · have hge : n ≤ faa_4 f := c_49_11
          refine lv_iinc (v := (nI (f + 1))) (lv' := [(3, .int (nI (f + 1))), (0, .ref h0), (1, .int (nI (mWho R C b))), (2, .int (nI n))]) hx hb dX6_wayLong_59 hl (k := 3) rfl (k_inc _ 1) (by decide) rfl (fun ls hl => ?_)
          refine lv_goto (tgt := 21) hx hb dX6_wayLong_62 (by decide) ?_
          exact ih_21 (n, (f + 1)) _ _ _ (by show R * C - (f + 1) < R * C - f; omega) ⟨hP, hD, hS, lv_sub hl [1, 2, 3, 0] rfl, by omega, be_ge hb9 hge⟩
        · have hlt : faa_4 f < n := c_49_11
          refine lv_aload_n hx hb dX6_wayLong_52 rfl (lv_at hl 0 rfl) ?_
          refine va_get (D := D) (ci := 6) (v := .ref (q 4)) (C := RX6) (T := TX6) (N := 17) hx hb hts kiX6_wayLong_X6 hown hK hP 0 rfl rfl 10 (by decide) (hts (.fieldLink RX6 37 "TwoBanksModel" "far" "[I") (List.mem_of_getElem? (i := 1) rfl)) (fun _ h9 => h9) rfl dX6_wayLong_53 ?_
          refine lv_iload_n hx hb dX6_wayLong_56 rfl (lv_at hl 3 rfl) ?_
          refine va_iald hx hb hK hP 3 0 rfl rfl (vp_in_nI (by omega) (by omega)) dX6_wayLong_57 ?_
          refine k_toi (y := nI (faa_4 f)) (congrArg (nA faa_4) (nI_clamp (by omega))) ?_
          refine lv_istore_n (lv' := [(2, .int (nI (faa_4 f))), (0, .ref h0), (1, .int (nI (mWho R C b))), (3, .int (nI f))]) hx hb dX6_wayLong_58 rfl hl (by decide) rfl (fun ls hl => ?_)
          refine lv_iinc (v := (nI (f + 1))) (lv' := [(3, .int (nI (f + 1))), (2, .int (nI (faa_4 f))), (0, .ref h0), (1, .int (nI (mWho R C b)))]) hx hb dX6_wayLong_59 hl (k := 3) rfl (k_inc _ 1) (by decide) rfl (fun ls hl => ?_)
          refine lv_goto (tgt := 21) hx hb dX6_wayLong_62 (by decide) ?_
          exact ih_21 ((faa_4 f), (f + 1)) _ _ _ (by show R * C - (f + 1) < R * C - f; omega) ⟨hP, hD, hS, lv_sub hl [2, 3, 1, 0] rfl, by omega, be_lt hb9 hbk hlt⟩
  · have hz9 : mWho R C b = 0 := c_6_3
    refine lv_iconst (v := (nI 0)) hx hb dX6_wayLong_9 (by decide) ?_
    exact W.iret (v := (nI 0)) hx hb hr (fun t ht hW => ⟨⟨(nI 0), (za_1, fa), rfl, Or.inl ⟨hz9, rfl⟩, by rw [ht]; exact hP, hD⟩, hS.F ht⟩) hS.2.2 dX6_wayLong_10

theorem kiX6_way_X6 : ∀ w ∈ u_ws RX6 TX6 17, w ∈ wsX6_way := fun w h => List.mem_cons_of_mem _ (List.mem_append_right _ h)
set_option maxHeartbeats 4000000 in
set_option maxRecDepth 100000 in
theorem c_R_way (l : Launch) (D : va_G) (cI cJ cZ : ClassId) (h0 : Nat) (q : Nat → Nat) (R C tn dn ag md em : Nat) (b fa : Nat → Nat) (z : Nat → Bool) (i : Int32) (hR1 : 1 ≤ R) (hR2 : R ≤ 6) (hC1 : 1 ≤ C) (hC2 : C ≤ 6) (hRC : R * C ≤ 36) (hbv : ∀ f, f < R * C → b f ≤ 2) (sz : Nat) : kMI l yX6_way wsX6_way 6 136 D cI cJ cZ [.ref h0, .int i] [(h0, wMo q R C tn dn ag md em), ((q 0), .inl (cI, 36, .inl (nA b))), ((q 2), .inl (cZ, 36, .inl (bA z))), ((q 4), .inl (cI, 36, .inl (nA fa)))] sz (fun r (u : (Nat → Bool) × (Nat → Nat)) => (mWho R C b = 0 ∧ r = -1) ∨ (0 < mWho R C b ∧ ∃ n, (1 ≤ n ∧ n ≤ 36) ∧ faP R C b (mWho R C b) 36 u.2 ∧ beP R C (mWho R C b) u.2 (R * C) n ∧ ((r = -1 ∧ ¬ (((0 : Nat) : Int) ≤ i.toInt ∧ i.toInt ≤ ((n - 1 : Nat) : Int))) ∨ ∃ j f, j < n ∧ i = nI j ∧ wpP R C (mWho R C b) u.2 n j f ∧ r = nI f))) (fun u : (Nat → Bool) × (Nat → Nat) => match u with | (za, faa) => [(h0, wMo q R C tn dn ag md em), ((q 0), .inl (cI, 36, .inl (nA b))), ((q 2), .inl (cZ, 36, .inl (bA za))), ((q 4), .inl (cI, 36, .inl (nA faa)))]) := by
  refine Met.ofW (cc := cX6_way) (maxL := 9) (ret := (some .int)) (by decide) rfl ?_
  intro p e s m args below meth c s₁ B hml hv
  obtain ⟨rfl, hsz, hP, ⟨hK, hN⟩, hD0⟩ := hv
  have hx := B.exec
  have hb := B.bytes
  have hr := B.returns
  have hts := atoms_spec (ws := wsX6_way) B.pre
  have hown : s.vm.findClass RX6 = some m.cls := findClass_of_methodNamed B.named
  have hlocks := B.notSynchronized
  subst hsz
  have hD := hD0.self (sz := s.heap.size)
  generalize hAe : va_A [(h0, wMo q R C tn dn ag md em), ((q 0), .inl (cI, 36, .inl (nA b))), ((q 2), .inl (cZ, 36, .inl (bA z))), ((q 4), .inl (cI, 36, .inl (nA fa)))] s.heap.size = A at hD ⊢
  have hA : ∀ q : Nat, s.heap.size ≤ q → A q := fun q h => by rw [← hAe]; exact Or.inr h
  have hS : va_S A s.heap s.heap [] := va_S.rf
  have hl := lv_entry ([.ref h0, .int i]) (n := 9) (Nat.le_of_ble_eq_true rfl)
  rw [lg_entry_eq]
  generalize (lg_sl ([.ref h0, .int i]) ++ List.replicate (9 - (lg_sl ([.ref h0, .int i])).length) Slot.unset).toArray = ls at hl ⊢
  have hl : lv_has ls 9 [(0, .ref h0), (1, .int i)] := hl
  have hK2 : kK D cI cJ cZ s := ⟨hK, hN⟩
  clear hD0
  have hwl := mWho_le R C b
  refine lv_aload_n hx hb dX6_way_0 rfl (lv_at hl 0 rfl) ?_
  refine k_calli (wr := []) (w2 := (fun u : (Nat → Bool) × (Nat → Nat) => match u with | (za, faa) => [(h0, wMo q R C tn dn ag md em), ((q 0), .inl (cI, 36, .inl (nA b))), ((q 2), .inl (cZ, 36, .inl (bA za))), ((q 4), .inl (cI, 36, .inl (nA faa)))])) (va_runV (As := []) (rest := []) ⟨hx, hb, hml, hown, hts⟩ (c_R_wayLong l D cI cJ cZ h0 q R C tn dn ag md em b fa z hR1 hR2 hC1 hC2 hRC hbv  s.heap.size) (cwV 0 hts gX6_way_X6_wayLong rfl rfl rfl (by decide +kernel) ⟨Nat.le_of_ble_eq_true rfl, Nat.le_of_ble_eq_true rfl⟩) (kPV (ci := 6) (q0 := 0) (wc := [(h0, wMo q R C tn dn ag md em), ((q 0), .inl (cI, 36, .inl (nA b))), ((q 2), .inl (cZ, 36, .inl (bA z))), ((q 4), .inl (cI, 36, .inl (nA fa)))]) hK2 hP hD [0, 1, 2, 3] rfl (by decide) rfl rfl) rfl rfl hl.1 rfl (lv_room (Nat.le_of_ble_eq_true rfl)) dX6_way_1 ⟨Nat.le_of_ble_eq_true rfl, Nat.le_of_ble_eq_true rfl⟩) hP hD hS hA [0, 1, 2, 3] [] [0, 1, 2, 3] rfl rfl (by decide) (by decide) (fun ⟨_, _⟩ => rfl) (by decide) (fun r_3 u_3 H locs hw_3 hP hD hS => ?_)
  obtain ⟨za_1, faa_2⟩ := u_3
  have hP : va_P D vwCl [(h0, wMo q R C tn dn ag md em), ((q 0), .inl (cI, 36, .inl (nA b))), ((q 2), .inl (cZ, 36, .inl (bA za_1))), ((q 4), .inl (cI, 36, .inl (nA faa_2)))] H := hP
  have hD : va_D A [(h0, wMo q R C tn dn ag md em), ((q 0), .inl (cI, 36, .inl (nA b))), ((q 2), .inl (cZ, 36, .inl (bA za_1))), ((q 4), .inl (cI, 36, .inl (nA faa_2)))] := hD
  rcases hw_3 with ⟨hz9, rfl⟩ | ⟨hp9, n, rfl, hfa9, hbe9⟩
  · skip
    refine lv_istore_n (lv' := [(2, .int (nI 0)), (0, .ref h0), (1, .int i)]) hx hb dX6_way_4 rfl hl (by decide) rfl (fun ls hl => ?_)
    refine lv_iload_n hx hb dX6_way_5 rfl (lv_at hl 2 rfl) ?_
    refine lv_iconst (v := (nI 0)) hx hb dX6_way_6 (by decide) ?_
    refine lv_iload_n hx hb dX6_way_7 rfl (lv_at hl 0 rfl) ?_
    refine lv_iconst (v := (nI 1)) hx hb dX6_way_8 (by decide) ?_
    refine lv_isub hx hb dX6_way_9 ?_
    refine k_toi (y := (-1)) (by decide) ?_
    refine k_calli (wr := [(h0, wMo q R C tn dn ag md em), ((q 0), .inl (cI, 36, .inl (nA b))), ((q 2), .inl (cZ, 36, .inl (bA za_1))), ((q 4), .inl (cI, 36, .inl (nA faa_2)))]) (w2 := (fun _ : Unit => [(h0, wMo q R C tn dn ag md em), ((q 0), .inl (cI, 36, .inl (nA b))), ((q 2), .inl (cZ, 36, .inl (bA za_1))), ((q 4), .inl (cI, 36, .inl (nA faa_2)))])) (va_runS (As := [.int i, .int (nI 0), .int (-1)]) (rest := []) ⟨hx, hb, hml, hown, hts⟩ (c_R_lies l D cI cJ cZ i (nI 0) (-1) (i.toInt) ((0 : Nat) : Int) (-1) rfl (nI_toInt (by omega)) (by decide) H.size) (va_cwS 3 hts gX6_way_X6_lies rfl rfl rfl (by decide +kernel) ⟨Nat.le_of_ble_eq_true rfl, Nat.le_of_ble_eq_true rfl⟩) (kPS (wc := []) hK2 hP hD [] rfl (by decide)) rfl rfl hl.1 rfl (lv_room (Nat.le_of_ble_eq_true rfl)) dX6_way_10 ⟨Nat.le_of_ble_eq_true rfl, Nat.le_of_ble_eq_true rfl⟩) hP hD hS hA [] [0, 1, 2, 3] [0, 1, 2, 3] rfl rfl (by decide) (by decide) (fun _ => rfl) (by decide) (fun r_4 u_4 H locs hw_4 hP hD hS => ?_)
    have hP : va_P D vwCl [(h0, wMo q R C tn dn ag md em), ((q 0), .inl (cI, 36, .inl (nA b))), ((q 2), .inl (cZ, 36, .inl (bA za_1))), ((q 4), .inl (cI, 36, .inl (nA faa_2)))] H := hP
    have hD : va_D A [(h0, wMo q R C tn dn ag md em), ((q 0), .inl (cI, 36, .inl (nA b))), ((q 2), .inl (cZ, 36, .inl (bA za_1))), ((q 4), .inl (cI, 36, .inl (nA faa_2)))] := hD
    rcases hw_4 with ⟨rfl, hw_4⟩ | ⟨rfl, hw_4⟩
    · exact absurd hw_4 (by omega)
    · skip
      refine lv_if_ne (tgt := 18) hx hb dX6_way_13 (by decide) (fun c_13_5 => absurd c_13_5 (by decide)) (fun c_13_5 => ?_)
      refine lv_iconst (v := (-1)) hx hb dX6_way_16 (by decide) ?_
      exact W.iret (v := (-1)) hx hb hr (fun t ht hW => ⟨⟨(-1), (za_1, faa_2), rfl, Or.inl ⟨hz9, rfl⟩, by rw [ht]; exact hP, hD⟩, hS.F ht⟩) hS.2.2 dX6_way_17
  · obtain ⟨hn1, hn36, hex9⟩ := be_at hRC hbe9 hfa9 (mWho_j hp9)
    refine lv_istore_n (lv' := [(2, .int (nI n)), (0, .ref h0), (1, .int i)]) hx hb dX6_way_4 rfl hl (by decide) rfl (fun ls hl => ?_)
    refine lv_iload_n hx hb dX6_way_5 rfl (lv_at hl 2 rfl) ?_
    refine lv_iconst (v := (nI 0)) hx hb dX6_way_6 (by decide) ?_
    refine lv_iload_n hx hb dX6_way_7 rfl (lv_at hl 0 rfl) ?_
    refine lv_iconst (v := (nI 1)) hx hb dX6_way_8 (by decide) ?_
    refine lv_isub hx hb dX6_way_9 ?_
    refine k_toi (y := nI (n - 1)) (pk_sub (by omega)) ?_
    refine k_calli (wr := [(h0, wMo q R C tn dn ag md em), ((q 0), .inl (cI, 36, .inl (nA b))), ((q 2), .inl (cZ, 36, .inl (bA za_1))), ((q 4), .inl (cI, 36, .inl (nA faa_2)))]) (w2 := (fun _ : Unit => [(h0, wMo q R C tn dn ag md em), ((q 0), .inl (cI, 36, .inl (nA b))), ((q 2), .inl (cZ, 36, .inl (bA za_1))), ((q 4), .inl (cI, 36, .inl (nA faa_2)))])) (va_runS (As := [.int i, .int (nI 0), .int (nI (n - 1))]) (rest := []) ⟨hx, hb, hml, hown, hts⟩ (c_R_lies l D cI cJ cZ i (nI 0) (nI (n - 1)) (i.toInt) ((0 : Nat) : Int) (((n - 1) : Nat) : Int) rfl (nI_toInt (by omega)) (nI_toInt (by omega)) H.size) (va_cwS 3 hts gX6_way_X6_lies rfl rfl rfl (by decide +kernel) ⟨Nat.le_of_ble_eq_true rfl, Nat.le_of_ble_eq_true rfl⟩) (kPS (wc := []) hK2 hP hD [] rfl (by decide)) rfl rfl hl.1 rfl (lv_room (Nat.le_of_ble_eq_true rfl)) dX6_way_10 ⟨Nat.le_of_ble_eq_true rfl, Nat.le_of_ble_eq_true rfl⟩) hP hD hS hA [] [0, 1, 2, 3] [0, 1, 2, 3] rfl rfl (by decide) (by decide) (fun _ => rfl) (by decide) (fun r_6 u_6 H locs hw_6 hP hD hS => ?_)
    have hP : va_P D vwCl [(h0, wMo q R C tn dn ag md em), ((q 0), .inl (cI, 36, .inl (nA b))), ((q 2), .inl (cZ, 36, .inl (bA za_1))), ((q 4), .inl (cI, 36, .inl (nA faa_2)))] H := hP
    have hD : va_D A [(h0, wMo q R C tn dn ag md em), ((q 0), .inl (cI, 36, .inl (nA b))), ((q 2), .inl (cZ, 36, .inl (bA za_1))), ((q 4), .inl (cI, 36, .inl (nA faa_2)))] := hD
    rcases hw_6 with ⟨rfl, hw_6⟩ | ⟨rfl, hw_6⟩
    · obtain ⟨j, -, hj9, rfl⟩ := rng_nat hw_6.1 hw_6.2
      refine lv_if_ne (tgt := 18) hx hb dX6_way_13 (by decide) (fun c_13_7 => ?_) (fun c_13_7 => absurd c_13_7 (by decide))
      refine lv_aload_n hx hb dX6_way_18 rfl (lv_at hl 1 rfl) ?_
      refine k_calli (wr := [((q 4), .inl (cI, 36, .inl (nA faa_2)))]) (w2 := (fun za : Nat → Bool => [(h0, wMo q R C tn dn ag md em), ((q 0), .inl (cI, 36, .inl (nA b))), ((q 2), .inl (cZ, 36, .inl (bA za))), ((q 4), .inl (cI, 36, .inl (nA faa_2)))])) (va_runV (As := []) (rest := []) ⟨hx, hb, hml, hown, hts⟩ (c_R_joined l D cI cJ cZ h0 q R C tn dn ag md em b za_1 hR1 hR2 hC1 hC2 hRC hbv  H.size) (cwV 0 hts gX6_way_X6_joined rfl rfl rfl (by decide +kernel) ⟨Nat.le_of_ble_eq_true rfl, Nat.le_of_ble_eq_true rfl⟩) (kPV (ci := 6) (q0 := 0) (wc := [(h0, wMo q R C tn dn ag md em), ((q 0), .inl (cI, 36, .inl (nA b))), ((q 2), .inl (cZ, 36, .inl (bA za_1)))]) hK2 hP hD [0, 1, 2] rfl (by decide) rfl rfl) rfl rfl hl.1 rfl (lv_room (Nat.le_of_ble_eq_true rfl)) dX6_way_19 ⟨Nat.le_of_ble_eq_true rfl, Nat.le_of_ble_eq_true rfl⟩) hP hD hS hA [0, 1, 2] [3] [1, 2, 3, 0] rfl rfl (by decide) (by decide) (fun _ => rfl) (by decide) (fun r_9 u_9 H locs hw_9 hP hD hS => ?_)
      obtain ⟨za_8, rfl⟩ : ∃ z, z = u_9 := ⟨_, rfl⟩
      have hP : va_P D vwCl [(h0, wMo q R C tn dn ag md em), ((q 0), .inl (cI, 36, .inl (nA b))), ((q 2), .inl (cZ, 36, .inl (bA za_8))), ((q 4), .inl (cI, 36, .inl (nA faa_2)))] H := hP
      have hD : va_D A [(h0, wMo q R C tn dn ag md em), ((q 0), .inl (cI, 36, .inl (nA b))), ((q 2), .inl (cZ, 36, .inl (bA za_8))), ((q 4), .inl (cI, 36, .inl (nA faa_2)))] := hD
      subst hw_9
      refine lv_istore_n (lv' := [(3, .int (nI (mWho R C b))), (2, .int (nI n)), (0, .ref h0), (1, .int (nI j))]) hx hb dX6_way_22 rfl hl (by decide) rfl (fun ls hl => ?_)
      refine lv_aload_n hx hb dX6_way_23 rfl (lv_at hl 2 rfl) ?_
      refine lv_iload_n hx hb dX6_way_24 rfl (lv_at hl 0 rfl) ?_
      refine k_callv (wr := [((q 2), .inl (cZ, 36, .inl (bA za_8)))]) (w2 := (fun faa : Nat → Nat => [(h0, wMo q R C tn dn ag md em), ((q 0), .inl (cI, 36, .inl (nA b))), ((q 2), .inl (cZ, 36, .inl (bA za_8))), ((q 4), .inl (cI, 36, .inl (nA faa)))])) (va_runV (As := [.int (nI (mWho R C b))]) (rest := []) ⟨hx, hb, hml, hown, hts⟩ (c_R_measures l D cI cJ cZ h0 q R C tn dn ag md em b faa_2 (mWho R C b) hR1 hR2 hC1 hC2 hRC hbv (by omega)  H.size) (cwV 1 hts gX6_way_X6_measures rfl rfl rfl (by decide +kernel) ⟨Nat.le_of_ble_eq_true rfl, Nat.le_of_ble_eq_true rfl⟩) (kPV (ci := 6) (q0 := 0) (wc := [(h0, wMo q R C tn dn ag md em), ((q 0), .inl (cI, 36, .inl (nA b))), ((q 4), .inl (cI, 36, .inl (nA faa_2)))]) hK2 hP hD [0, 1, 3] rfl (by decide) rfl rfl) rfl rfl hl.1 rfl (lv_room (Nat.le_of_ble_eq_true rfl)) dX6_way_25 ⟨Nat.le_of_ble_eq_true rfl, Nat.le_of_ble_eq_true rfl⟩) hP hD hS hA [0, 1, 3] [2] [1, 2, 0, 3] rfl rfl (by decide) (by decide) (fun _ => rfl) (by decide) (fun u_11 H locs hw_11 hP hD hS => ?_)
      obtain ⟨faa_10, rfl⟩ : ∃ z, z = u_11 := ⟨_, rfl⟩
      have hP : va_P D vwCl [(h0, wMo q R C tn dn ag md em), ((q 0), .inl (cI, 36, .inl (nA b))), ((q 2), .inl (cZ, 36, .inl (bA za_8))), ((q 4), .inl (cI, 36, .inl (nA faa_10)))] H := hP
      have hD : va_D A [(h0, wMo q R C tn dn ag md em), ((q 0), .inl (cI, 36, .inl (nA b))), ((q 2), .inl (cZ, 36, .inl (bA za_8))), ((q 4), .inl (cI, 36, .inl (nA faa_10)))] := hD
      have hfb9 : faP R C b (mWho R C b) 36 faa_10 := hw_11
      have hfe9 := fa_uni hfa9 hfb9
      obtain ⟨-, -, x0, hx0, hx1, hx2⟩ := be_at hRC (be_cong hfe9 hbe9) hfb9 (mWho_j hp9)
      refine lv_iconst (v := (nI 0)) hx hb dX6_way_28 (by decide) ?_
      refine lv_istore (lv' := [(4, .int (nI 0)), (3, .int (nI (mWho R C b))), (2, .int (nI n)), (0, .ref h0), (1, .int (nI j))]) hx hb dX6_way_29 hl (by decide) rfl (fun ls hl => ?_)
      refine kw_loop (σ := Nat) (fun (f : Nat) H locs ls => va_P D vwCl [(h0, wMo q R C tn dn ag md em), ((q 0), .inl (cI, 36, .inl (nA b))), ((q 2), .inl (cZ, 36, .inl (bA za_8))), ((q 4), .inl (cI, 36, .inl (nA faa_10)))] H ∧ va_D A [(h0, wMo q R C tn dn ag md em), ((q 0), .inl (cI, 36, .inl (nA b))), ((q 2), .inl (cZ, 36, .inl (bA za_8))), ((q 4), .inl (cI, 36, .inl (nA faa_10)))] ∧ va_S A s.heap H locs ∧ lv_has ls 9 [(0, .ref h0), (1, .int (nI j)), (2, .int (nI n)), (3, .int (nI (mWho R C b))), (4, .int (nI f))] ∧ (f ≤ x0) ∧ (∀ x, x < f → ¬ (0 < mBk R C x &&& mF (mWho R C b) ∧ faa_10 x = n))) (fun (f : Nat) => x0 - f) 0 ⟨hP, hD, hS, lv_sub hl [3, 4, 2, 1, 0] rfl, Nat.zero_le _, fun x hx => absurd hx (Nat.not_lt_zero _)⟩ ?_
      clear hP hD hS hl
      rintro f H locs ls ⟨hP, hD, hS, hl, hf9, hn9⟩ ih_31
      have hP : va_P D vwCl [(h0, wMo q R C tn dn ag md em), ((q 0), .inl (cI, 36, .inl (nA b))), ((q 2), .inl (cZ, 36, .inl (bA za_8))), ((q 4), .inl (cI, 36, .inl (nA faa_10)))] H := hP
      have hD : va_D A [(h0, wMo q R C tn dn ag md em), ((q 0), .inl (cI, 36, .inl (nA b))), ((q 2), .inl (cZ, 36, .inl (bA za_8))), ((q 4), .inl (cI, 36, .inl (nA faa_10)))] := hD
      have hl : lv_has ls 9 [(0, .ref h0), (1, .int (nI j)), (2, .int (nI n)), (3, .int (nI (mWho R C b))), (4, .int (nI f))] := hl
      have hfl : f < R * C := by omega
      have hff := (hfb9 f hfl).1
      have hf9 : f ≤ x0 := hf9
      have hn9 : ∀ x, x < f → ¬ (0 < mBk R C x &&& mF (mWho R C b) ∧ faa_10 x = n) := hn9
      refine lv_aload_n hx hb dX6_way_31 rfl (lv_at hl 0 rfl) ?_
      refine lv_iload hx hb dX6_way_32 (lv_at hl 4 rfl) ?_
      refine k_calli (wr := [((q 0), .inl (cI, 36, .inl (nA b))), ((q 2), .inl (cZ, 36, .inl (bA za_8))), ((q 4), .inl (cI, 36, .inl (nA faa_10)))]) (w2 := (fun _ : Unit => [(h0, wMo q R C tn dn ag md em), ((q 0), .inl (cI, 36, .inl (nA b))), ((q 2), .inl (cZ, 36, .inl (bA za_8))), ((q 4), .inl (cI, 36, .inl (nA faa_10)))])) (va_runV (As := [.int (nI f)]) (rest := []) ⟨hx, hb, hml, hown, hts⟩ (c_R_banks l D cI cJ cZ h0 q R C tn dn ag md em f hR1 hR2 hC1 hC2 hRC (by omega)  H.size) (cwV 1 hts gX6_way_X6_banks rfl rfl rfl (by decide +kernel) ⟨Nat.le_of_ble_eq_true rfl, Nat.le_of_ble_eq_true rfl⟩) (kPV (ci := 6) (q0 := 0) (wc := [(h0, wMo q R C tn dn ag md em)]) hK2 hP hD [0] rfl (by decide) rfl rfl) rfl rfl hl.1 rfl (lv_room (Nat.le_of_ble_eq_true rfl)) dX6_way_34 ⟨Nat.le_of_ble_eq_true rfl, Nat.le_of_ble_eq_true rfl⟩) hP hD hS hA [0] [1, 2, 3] [3, 0, 1, 2] rfl rfl (by decide) (by decide) (fun _ => rfl) (by decide) (fun r_12 u_12 H locs hw_12 hP hD hS => ?_)
      have hP : va_P D vwCl [(h0, wMo q R C tn dn ag md em), ((q 0), .inl (cI, 36, .inl (nA b))), ((q 2), .inl (cZ, 36, .inl (bA za_8))), ((q 4), .inl (cI, 36, .inl (nA faa_10)))] H := hP
      have hD : va_D A [(h0, wMo q R C tn dn ag md em), ((q 0), .inl (cI, 36, .inl (nA b))), ((q 2), .inl (cZ, 36, .inl (bA za_8))), ((q 4), .inl (cI, 36, .inl (nA faa_10)))] := hD
      subst hw_12
      refine lv_iload_n hx hb dX6_way_37 rfl (lv_at hl 3 rfl) ?_
      refine k_calli (wr := [(h0, wMo q R C tn dn ag md em), ((q 0), .inl (cI, 36, .inl (nA b))), ((q 2), .inl (cZ, 36, .inl (bA za_8))), ((q 4), .inl (cI, 36, .inl (nA faa_10)))]) (w2 := (fun _ : Unit => [(h0, wMo q R C tn dn ag md em), ((q 0), .inl (cI, 36, .inl (nA b))), ((q 2), .inl (cZ, 36, .inl (bA za_8))), ((q 4), .inl (cI, 36, .inl (nA faa_10)))])) (va_runS (As := [.int (nI (mWho R C b))]) (rest := [.int (nI (mBk R C f))]) ⟨hx, hb, hml, hown, hts⟩ (c_R_first l D cI cJ cZ (mWho R C b) (by omega)  H.size) (va_cwS 1 hts gX6_way_X6_first rfl rfl rfl (by decide +kernel) ⟨Nat.le_of_ble_eq_true rfl, Nat.le_of_ble_eq_true rfl⟩) (kPS (wc := []) hK2 hP hD [] rfl (by decide)) rfl rfl hl.1 rfl (lv_room (Nat.le_of_ble_eq_true rfl)) dX6_way_38 ⟨Nat.le_of_ble_eq_true rfl, Nat.le_of_ble_eq_true rfl⟩) hP hD hS hA [] [0, 1, 2, 3] [0, 1, 2, 3] rfl rfl (by decide) (by decide) (fun _ => rfl) (by decide) (fun r_13 u_13 H locs hw_13 hP hD hS => ?_)
      have hP : va_P D vwCl [(h0, wMo q R C tn dn ag md em), ((q 0), .inl (cI, 36, .inl (nA b))), ((q 2), .inl (cZ, 36, .inl (bA za_8))), ((q 4), .inl (cI, 36, .inl (nA faa_10)))] H := hP
      have hD : va_D A [(h0, wMo q R C tn dn ag md em), ((q 0), .inl (cI, 36, .inl (nA b))), ((q 2), .inl (cZ, 36, .inl (bA za_8))), ((q 4), .inl (cI, 36, .inl (nA faa_10)))] := hD
      subst hw_13
      refine k_toi (y := nI (mF (mWho R C b))) rfl ?_
      refine lv_iand hx hb dX6_way_41 ?_
      refine k_toi (y := nI ((mBk R C f) &&& (mF (mWho R C b)))) (fa_and _ _) ?_
      have hbd := mF_bd (mBk R C f) (mWho R C b)
      refine kw_if_eq (tgt := 56) hx hb dX6_way_42 (by decide) (by omega) (fun c_42_14 => ?_) (fun c_42_14 => ?_)
      · have hbk : mBk R C f &&& mF (mWho R C b) = 0 := c_42_14
        have hfx : f < x0 := by rcases Nat.eq_or_lt_of_le hf9 with q9 | q9; rw [q9] at hbk; omega; exact q9
        refine lv_iinc (v := (nI (f + 1))) (lv' := [(4, .int (nI (f + 1))), (0, .ref h0), (1, .int (nI j)), (2, .int (nI n)), (3, .int (nI (mWho R C b)))]) hx hb dX6_way_56 hl (k := 4) rfl (k_inc _ 1) (by decide) rfl (fun ls hl => ?_)
        refine lv_goto (tgt := 31) hx hb dX6_way_59 (by decide) ?_
        exact ih_31 (f + 1) _ _ _ (by show x0 - (f + 1) < x0 - f; omega) ⟨hP, hD, hS, lv_sub hl [1, 2, 3, 4, 0] rfl, by omega, lt_sp hn9 (fun h9 => absurd h9.1 (and0 hbk))⟩
      · have hbk : 0 < mBk R C f &&& mF (mWho R C b) := c_42_14
        refine lv_aload_n hx hb dX6_way_45 rfl (lv_at hl 0 rfl) ?_
        refine va_get (D := D) (ci := 6) (v := .ref (q 4)) (C := RX6) (T := TX6) (N := 17) hx hb hts kiX6_way_X6 hown hK hP 0 rfl rfl 10 (by decide) (hts (.fieldLink RX6 37 "TwoBanksModel" "far" "[I") (List.mem_of_getElem? (i := 1) rfl)) (fun _ h9 => h9) rfl dX6_way_46 ?_
        refine lv_iload hx hb dX6_way_49 (lv_at hl 4 rfl) ?_
        refine va_iald hx hb hK hP 3 0 rfl rfl (vp_in_nI (by omega) (by omega)) dX6_way_51 ?_
        refine k_toi (y := nI (faa_10 f)) (congrArg (nA faa_10) (nI_clamp (by omega))) ?_
        refine lv_iload_n hx hb dX6_way_52 rfl (lv_at hl 2 rfl) ?_
        refine kw_icmp_eq (tgt := 62) hx hb dX6_way_53 (by decide) (by omega) (by omega) (fun c_53_15 => ?_) (fun c_53_15 => ?_)
        · have heq9 : faa_10 f = n := c_53_15
          have hw0 : wpP R C (mWho R C b) faa_10 n 0 f := ⟨hfl, hbk, heq9, hn9⟩
          refine lv_iconst (v := (nI 1)) hx hb dX6_way_62 (by decide) ?_
          refine lv_istore (lv' := [(5, .int (nI 1)), (0, .ref h0), (1, .int (nI j)), (2, .int (nI n)), (3, .int (nI (mWho R C b))), (4, .int (nI f))]) hx hb dX6_way_63 hl (by decide) rfl (fun ls hl => ?_)
          refine kw_loop (σ := Nat × Nat) (fun zz H locs ls => match zz with | (k, g) => va_P D vwCl [(h0, wMo q R C tn dn ag md em), ((q 0), .inl (cI, 36, .inl (nA b))), ((q 2), .inl (cZ, 36, .inl (bA za_8))), ((q 4), .inl (cI, 36, .inl (nA faa_10)))] H ∧ va_D A [(h0, wMo q R C tn dn ag md em), ((q 0), .inl (cI, 36, .inl (nA b))), ((q 2), .inl (cZ, 36, .inl (bA za_8))), ((q 4), .inl (cI, 36, .inl (nA faa_10)))] ∧ va_S A s.heap H locs ∧ lv_has ls 9 [(0, .ref h0), (1, .int (nI j)), (2, .int (nI n)), (3, .int (nI (mWho R C b))), (4, .int (nI g)), (5, .int (nI k))] ∧ (1 ≤ k ∧ k ≤ j + 1) ∧ (wpP R C (mWho R C b) faa_10 n (k - 1) g)) (fun zz => match zz with | (k, g) => j + 1 - k) (1, f) ⟨hP, hD, hS, lv_sub hl [1, 2, 3, 4, 5, 0] rfl, ⟨Nat.le_refl _, by omega⟩, hw0⟩ ?_
          clear hP hD hS hl
          rintro ⟨k, g⟩ H locs ls ⟨hP, hD, hS, hl, hk9, hw9⟩ ih_65
          have hP : va_P D vwCl [(h0, wMo q R C tn dn ag md em), ((q 0), .inl (cI, 36, .inl (nA b))), ((q 2), .inl (cZ, 36, .inl (bA za_8))), ((q 4), .inl (cI, 36, .inl (nA faa_10)))] H := hP
          have hD : va_D A [(h0, wMo q R C tn dn ag md em), ((q 0), .inl (cI, 36, .inl (nA b))), ((q 2), .inl (cZ, 36, .inl (bA za_8))), ((q 4), .inl (cI, 36, .inl (nA faa_10)))] := hD
          have hl : lv_has ls 9 [(0, .ref h0), (1, .int (nI j)), (2, .int (nI n)), (3, .int (nI (mWho R C b))), (4, .int (nI g)), (5, .int (nI k))] := hl
          have hgl := wp_lt hw9
          have hk9 : 1 ≤ k ∧ k ≤ j + 1 := hk9
          have hw9 : wpP R C (mWho R C b) faa_10 n (k - 1) g := hw9
          refine lv_iload hx hb dX6_way_65 (lv_at hl 5 rfl) ?_
          refine lv_iload_n hx hb dX6_way_67 rfl (lv_at hl 1 rfl) ?_
          refine kw_icmp_gt (tgt := 142) hx hb dX6_way_68 (by decide) (by omega) (by omega) (fun c_68_16 => ?_) (fun c_68_16 => ?_)
          · refine lv_iload hx hb dX6_way_142 (lv_at hl 4 rfl) ?_
            exact W.iret (v := (nI g)) hx hb hr (fun t ht hW => ⟨⟨(nI g), (za_8, faa_10), rfl, Or.inr ⟨hp9, n, ⟨hn1, hn36⟩, hfb9, be_cong hfe9 hbe9, Or.inr ⟨j, g, by omega, rfl, (by have e9 : k - 1 = j := (by omega); rw [e9] at hw9; exact hw9), rfl⟩⟩, by rw [ht]; exact hP, hD⟩, hS.F ht⟩) hS.2.2 dX6_way_144
          · refine lv_bipush (v := (nI 36)) hx hb dX6_way_71 (by decide) ?_
            refine lv_istore (lv' := [(6, .int (nI 36)), (0, .ref h0), (1, .int (nI j)), (2, .int (nI n)), (3, .int (nI (mWho R C b))), (4, .int (nI g)), (5, .int (nI k))]) hx hb dX6_way_73 hl (by decide) rfl (fun ls hl => ?_)
            refine lv_iconst (v := (nI 0)) hx hb dX6_way_75 (by decide) ?_
            refine lv_istore (lv' := [(7, .int (nI 0)), (6, .int (nI 36)), (0, .ref h0), (1, .int (nI j)), (2, .int (nI n)), (3, .int (nI (mWho R C b))), (4, .int (nI g)), (5, .int (nI k))]) hx hb dX6_way_76 hl (by decide) rfl (fun ls hl => ?_)
            refine kw_loop (σ := Nat × Nat) (fun zz H locs ls => match zz with | (nx, d) => va_P D vwCl [(h0, wMo q R C tn dn ag md em), ((q 0), .inl (cI, 36, .inl (nA b))), ((q 2), .inl (cZ, 36, .inl (bA za_8))), ((q 4), .inl (cI, 36, .inl (nA faa_10)))] H ∧ va_D A [(h0, wMo q R C tn dn ag md em), ((q 0), .inl (cI, 36, .inl (nA b))), ((q 2), .inl (cZ, 36, .inl (bA za_8))), ((q 4), .inl (cI, 36, .inl (nA faa_10)))] ∧ va_S A s.heap H locs ∧ lv_has ls 9 [(0, .ref h0), (1, .int (nI j)), (2, .int (nI n)), (3, .int (nI (mWho R C b))), (4, .int (nI g)), (5, .int (nI k)), (6, .int (nI nx)), (7, .int (nI d))] ∧ (d ≤ 6) ∧ (nxP R C faa_10 (n - k) g d nx)) (fun zz => match zz with | (nx, d) => 6 - d) (36, 0) ⟨hP, hD, hS, lv_sub hl [2, 3, 4, 5, 6, 7, 1, 0] rfl, Nat.zero_le _, nx_0⟩ ?_
            clear hP hD hS hl
            rintro ⟨nx, d⟩ H locs ls ⟨hP, hD, hS, hl, hd9, hx9⟩ ih_78
            have hP : va_P D vwCl [(h0, wMo q R C tn dn ag md em), ((q 0), .inl (cI, 36, .inl (nA b))), ((q 2), .inl (cZ, 36, .inl (bA za_8))), ((q 4), .inl (cI, 36, .inl (nA faa_10)))] H := hP
            have hD : va_D A [(h0, wMo q R C tn dn ag md em), ((q 0), .inl (cI, 36, .inl (nA b))), ((q 2), .inl (cZ, 36, .inl (bA za_8))), ((q 4), .inl (cI, 36, .inl (nA faa_10)))] := hD
            have hl : lv_has ls 9 [(0, .ref h0), (1, .int (nI j)), (2, .int (nI n)), (3, .int (nI (mWho R C b))), (4, .int (nI g)), (5, .int (nI k)), (6, .int (nI nx)), (7, .int (nI d))] := hl
            have hxb := hx9.1
            have hd9 : d ≤ 6 := hd9
            have hx9 : nxP R C faa_10 (n - k) g d nx := hx9
            refine lv_iload hx hb dX6_way_78 (lv_at hl 7 rfl) ?_
            refine lv_bipush (v := (nI 6)) hx hb dX6_way_80 (by decide) ?_
            refine kw_icmp_ge (tgt := 132) hx hb dX6_way_82 (by decide) (by omega) (by omega) (fun c_82_17 => ?_) (fun c_82_17 => ?_)
            · refine lv_iload hx hb dX6_way_132 (lv_at hl 6 rfl) ?_
              refine lv_istore (lv' := [(4, .int (nI nx)), (0, .ref h0), (1, .int (nI j)), (2, .int (nI n)), (3, .int (nI (mWho R C b))), (5, .int (nI k)), (6, .int (nI nx)), (7, .int (nI d))]) hx hb dX6_way_134 hl (by decide) rfl (fun ls hl => ?_)
              refine lv_iinc (v := (nI (k + 1))) (lv' := [(5, .int (nI (k + 1))), (4, .int (nI nx)), (0, .ref h0), (1, .int (nI j)), (2, .int (nI n)), (3, .int (nI (mWho R C b))), (6, .int (nI nx)), (7, .int (nI d))]) hx hb dX6_way_136 hl (k := 5) rfl (k_inc _ 1) (by decide) rfl (fun ls hl => ?_)
              refine lv_goto (tgt := 65) hx hb dX6_way_139 (by decide) ?_
              exact ih_65 ((k + 1), nx) _ _ _ (by show j + 1 - (k + 1) < j + 1 - k; omega) ⟨hP, hD, hS, lv_sub hl [2, 3, 4, 5, 1, 0] rfl, ⟨by omega, by omega⟩, by have h8 := nx_end hC1 hRC hfb9 hw9 hn36 (show k - 1 + 1 < n by omega) (by rw [show k - 1 + 1 = k by omega]; have e9 : d = 6 := (by omega); rw [e9] at hx9; exact hx9); rw [show k - 1 + 1 = k by omega] at h8; exact h8⟩
            · refine lv_aload_n hx hb dX6_way_85 rfl (lv_at hl 0 rfl) ?_
              refine lv_iload hx hb dX6_way_86 (lv_at hl 4 rfl) ?_
              refine lv_iload hx hb dX6_way_88 (lv_at hl 7 rfl) ?_
              refine k_calli (wr := [((q 0), .inl (cI, 36, .inl (nA b))), ((q 2), .inl (cZ, 36, .inl (bA za_8))), ((q 4), .inl (cI, 36, .inl (nA faa_10)))]) (w2 := (fun _ : Unit => [(h0, wMo q R C tn dn ag md em), ((q 0), .inl (cI, 36, .inl (nA b))), ((q 2), .inl (cZ, 36, .inl (bA za_8))), ((q 4), .inl (cI, 36, .inl (nA faa_10)))])) (va_runV (As := [.int (nI g), .int (nI d)]) (rest := []) ⟨hx, hb, hml, hown, hts⟩ (c_R_beside l D cI cJ cZ h0 q R C tn dn ag md em g d hR1 hR2 hC1 hC2 hRC (by omega) (by omega)  H.size) (cwV 2 hts gX6_way_X6_beside rfl rfl rfl (by decide +kernel) ⟨Nat.le_of_ble_eq_true rfl, Nat.le_of_ble_eq_true rfl⟩) (kPV (ci := 6) (q0 := 0) (wc := [(h0, wMo q R C tn dn ag md em)]) hK2 hP hD [0] rfl (by decide) rfl rfl) rfl rfl hl.1 rfl (lv_room (Nat.le_of_ble_eq_true rfl)) dX6_way_90 ⟨Nat.le_of_ble_eq_true rfl, Nat.le_of_ble_eq_true rfl⟩) hP hD hS hA [0] [1, 2, 3] [3, 0, 1, 2] rfl rfl (by decide) (by decide) (fun _ => rfl) (by decide) (fun r_18 u_18 H locs hw_18 hP hD hS => ?_)
              have hP : va_P D vwCl [(h0, wMo q R C tn dn ag md em), ((q 0), .inl (cI, 36, .inl (nA b))), ((q 2), .inl (cZ, 36, .inl (bA za_8))), ((q 4), .inl (cI, 36, .inl (nA faa_10)))] H := hP
              have hD : va_D A [(h0, wMo q R C tn dn ag md em), ((q 0), .inl (cI, 36, .inl (nA b))), ((q 2), .inl (cZ, 36, .inl (bA za_8))), ((q 4), .inl (cI, 36, .inl (nA faa_10)))] := hD
              subst hw_18
              rcases hm9 : mBe R C g d with _ | g9
              · refine k_toi (y := (-1)) rfl ?_
                refine lv_istore (lv' := [(8, .int (-1)), (0, .ref h0), (1, .int (nI j)), (2, .int (nI n)), (3, .int (nI (mWho R C b))), (4, .int (nI g)), (5, .int (nI k)), (6, .int (nI nx)), (7, .int (nI d))]) hx hb dX6_way_93 hl (by decide) rfl (fun ls hl => ?_)
                refine lv_iload hx hb dX6_way_95 (lv_at hl 0 rfl) ?_
                refine lv_iconst (v := (-1)) hx hb dX6_way_97 (by decide) ?_
                refine lv_icmp_eq (tgt := 126) hx hb dX6_way_98 (by decide) (fun c_98_19 => ?_) (fun c_98_19 => absurd c_98_19 (by decide))
                refine lv_iinc (v := (nI (d + 1))) (lv' := [(7, .int (nI (d + 1))), (8, .int (-1)), (0, .ref h0), (1, .int (nI j)), (2, .int (nI n)), (3, .int (nI (mWho R C b))), (4, .int (nI g)), (5, .int (nI k)), (6, .int (nI nx))]) hx hb dX6_way_126 hl (k := 8) rfl (k_inc _ 1) (by decide) rfl (fun ls hl => ?_)
                refine lv_goto (tgt := 78) hx hb dX6_way_129 (by decide) ?_
                exact ih_78 (nx, (d + 1)) _ _ _ (by show 6 - (d + 1) < 6 - d; omega) ⟨hP, hD, hS, lv_sub hl [2, 3, 4, 5, 6, 7, 8, 0] rfl, by omega, nx_no hx9 (fun y h9 => by rw [hm9] at h9; cases h9)⟩
              · refine k_toi (y := nI g9) rfl ?_
                have hg9 := mBe_adj hC1 hgl (by omega) hm9
                have hgl9 := hg9.1
                have hfg := (hfb9 g9 hgl9).1
                refine lv_istore (lv' := [(8, .int (nI g9)), (0, .ref h0), (1, .int (nI j)), (2, .int (nI n)), (3, .int (nI (mWho R C b))), (4, .int (nI g)), (5, .int (nI k)), (6, .int (nI nx)), (7, .int (nI d))]) hx hb dX6_way_93 hl (by decide) rfl (fun ls hl => ?_)
                refine lv_iload hx hb dX6_way_95 (lv_at hl 0 rfl) ?_
                refine lv_iconst (v := (-1)) hx hb dX6_way_97 (by decide) ?_
                refine lv_icmp_eq (tgt := 126) hx hb dX6_way_98 (by decide) (fun c_98_20 => absurd c_98_20 (k_ne_m (by omega) (by decide))) (fun c_98_20 => ?_)
                refine lv_aload_n hx hb dX6_way_101 rfl (lv_at hl 1 rfl) ?_
                refine va_get (D := D) (ci := 6) (v := .ref (q 4)) (C := RX6) (T := TX6) (N := 17) hx hb hts kiX6_way_X6 hown hK hP 0 rfl rfl 10 (by decide) (hts (.fieldLink RX6 37 "TwoBanksModel" "far" "[I") (List.mem_of_getElem? (i := 1) rfl)) (fun _ h9 => h9) rfl dX6_way_102 ?_
                refine lv_iload hx hb dX6_way_105 (lv_at hl 0 rfl) ?_
                refine va_iald hx hb hK hP 3 0 rfl rfl (vp_in_nI (by omega) (by omega)) dX6_way_107 ?_
                refine k_toi (y := nI (faa_10 g9)) (congrArg (nA faa_10) (nI_clamp (by omega))) ?_
                refine lv_iload_n hx hb dX6_way_108 rfl (lv_at hl 3 rfl) ?_
                refine lv_iload hx hb dX6_way_109 (lv_at hl 6 rfl) ?_
                refine lv_isub hx hb dX6_way_111 ?_
                refine k_toi (y := nI (n - k)) (pk_sub (by omega)) ?_
                refine kw_icmp_ne (tgt := 126) hx hb dX6_way_112 (by decide) (by omega) (by omega) (fun c_112_21 => ?_) (fun c_112_21 => ?_)
                · have hne9 : faa_10 g9 ≠ n - k := c_112_21
                  refine lv_iinc (v := (nI (d + 1))) (lv' := [(7, .int (nI (d + 1))), (8, .int (nI g9)), (0, .ref h0), (1, .int (nI j)), (2, .int (nI n)), (3, .int (nI (mWho R C b))), (4, .int (nI g)), (5, .int (nI k)), (6, .int (nI nx))]) hx hb dX6_way_126 hl (k := 8) rfl (k_inc _ 1) (by decide) rfl (fun ls hl => ?_)
                  refine lv_goto (tgt := 78) hx hb dX6_way_129 (by decide) ?_
                  exact ih_78 (nx, (d + 1)) _ _ _ (by show 6 - (d + 1) < 6 - d; omega) ⟨hP, hD, hS, lv_sub hl [2, 3, 4, 5, 6, 7, 8, 0] rfl, by omega, nx_no hx9 (fun y h9 hv => by rw [hm9] at h9; cases h9; exact absurd hv hne9)⟩
                · have heq9 : faa_10 g9 = n - k := c_112_21
                  refine lv_iload hx hb dX6_way_115 (lv_at hl 0 rfl) ?_
                  refine lv_iload hx hb dX6_way_117 (lv_at hl 7 rfl) ?_
                  refine kw_icmp_ge (tgt := 126) hx hb dX6_way_119 (by decide) (by omega) (by omega) (fun c_119_22 => ?_) (fun c_119_22 => ?_)
                  · have hge9 : nx ≤ g9 := c_119_22
                    refine lv_iinc (v := (nI (d + 1))) (lv' := [(7, .int (nI (d + 1))), (8, .int (nI g9)), (0, .ref h0), (1, .int (nI j)), (2, .int (nI n)), (3, .int (nI (mWho R C b))), (4, .int (nI g)), (5, .int (nI k)), (6, .int (nI nx))]) hx hb dX6_way_126 hl (k := 8) rfl (k_inc _ 1) (by decide) rfl (fun ls hl => ?_)
                    refine lv_goto (tgt := 78) hx hb dX6_way_129 (by decide) ?_
                    exact ih_78 (nx, (d + 1)) _ _ _ (by show 6 - (d + 1) < 6 - d; omega) ⟨hP, hD, hS, lv_sub hl [2, 3, 4, 5, 6, 7, 8, 0] rfl, by omega, nx_no hx9 (fun y h9 _ => by rw [hm9] at h9; cases h9; exact hge9)⟩
                  · have hlt9 : g9 < nx := c_119_22
                    refine lv_iload hx hb dX6_way_122 (lv_at hl 0 rfl) ?_
                    refine lv_istore (lv' := [(6, .int (nI g9)), (8, .int (nI g9)), (0, .ref h0), (1, .int (nI j)), (2, .int (nI n)), (3, .int (nI (mWho R C b))), (4, .int (nI g)), (5, .int (nI k)), (7, .int (nI d))]) hx hb dX6_way_124 hl (by decide) rfl (fun ls hl => ?_)
                    refine lv_iinc (v := (nI (d + 1))) (lv' := [(7, .int (nI (d + 1))), (6, .int (nI g9)), (8, .int (nI g9)), (0, .ref h0), (1, .int (nI j)), (2, .int (nI n)), (3, .int (nI (mWho R C b))), (4, .int (nI g)), (5, .int (nI k))]) hx hb dX6_way_126 hl (k := 8) rfl (k_inc _ 1) (by decide) rfl (fun ls hl => ?_)
                    refine lv_goto (tgt := 78) hx hb dX6_way_129 (by decide) ?_
                    exact ih_78 (g9, (d + 1)) _ _ _ (by show 6 - (d + 1) < 6 - d; omega) ⟨hP, hD, hS, lv_sub hl [3, 4, 5, 6, 7, 8, 1, 0] rfl, by omega, nx_yes hRC hx9 hm9 hg9.1 hg9.2 heq9 hlt9⟩
        · have hne9 : faa_10 f ≠ n := c_53_15
          have hfx : f < x0 := by rcases Nat.eq_or_lt_of_le hf9 with q9 | q9; rw [q9] at hne9; exact absurd hx2 hne9; exact q9
          refine lv_iinc (v := (nI (f + 1))) (lv' := [(4, .int (nI (f + 1))), (0, .ref h0), (1, .int (nI j)), (2, .int (nI n)), (3, .int (nI (mWho R C b)))]) hx hb dX6_way_56 hl (k := 4) rfl (k_inc _ 1) (by decide) rfl (fun ls hl => ?_)
          refine lv_goto (tgt := 31) hx hb dX6_way_59 (by decide) ?_
          exact ih_31 (f + 1) _ _ _ (by show x0 - (f + 1) < x0 - f; omega) ⟨hP, hD, hS, lv_sub hl [1, 2, 3, 4, 0] rfl, by omega, lt_sp hn9 (fun h9 => absurd h9.2 hne9)⟩
    · skip
      refine lv_if_ne (tgt := 18) hx hb dX6_way_13 (by decide) (fun c_13_23 => absurd c_13_23 (by decide)) (fun c_13_23 => ?_)
      refine lv_iconst (v := (-1)) hx hb dX6_way_16 (by decide) ?_
      exact W.iret (v := (-1)) hx hb hr (fun t ht hW => ⟨⟨(-1), (za_1, faa_2), rfl, Or.inr ⟨hp9, n, ⟨hn1, hn36⟩, hfa9, hbe9, Or.inl ⟨rfl, hw_6⟩⟩, by rw [ht]; exact hP, hD⟩, hS.F ht⟩) hS.2.2 dX6_way_17
