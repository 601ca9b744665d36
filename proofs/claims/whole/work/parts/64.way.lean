/-! the way alike -/
theorem pF_is {R C : Nat} (hR1 : 1 ≤ R) (hR2 : R ≤ 6) (hC1 : 1 ≤ C) (hC2 : C ≤ 6) (hRC : R * C ≤ 36) {b fa : Nat → Nat} {cl : Nat} {x : Int64} (hx : ∀ f, bq x f = true ↔ f < R * C ∧ b f = cl) (hf : faP R C b cl 36 fa) : ∀ k, k < 36 → ∀ f, bq (pL R C x (toB R C cl) k).1 f = true ↔ f < R * C ∧ fa f = k + 1 := by
  have hin : ∀ i, bq x i = true → i < R * C := fun i hi => ((hx i).mp hi).1
  have eP : xP x = fun f => f < R * C ∧ b f = cl := by funext f; exact propext (hx f)
  have eS : xS x (toB R C cl) = mSL R C b cl := by
    funext f
    apply propext
    show (bq x f = true ∧ bq (toB R C cl) f = true) ↔ _
    rw [hx f]
    constructor
    · rintro ⟨⟨h1, h2⟩, h3⟩; exact ⟨h1, h2, (toB_iff hR1 hR2 hC1 hC2 hRC h1).mp h3⟩
    · rintro ⟨h1, h2, h3⟩; exact ⟨⟨h1, h2⟩, (toB_iff hR1 hR2 hC1 hC2 hRC h1).mpr h3⟩
  intro k hk f
  rw [(pL_bits hR1 hR2 hC1 hC2 (t := toB R C cl) hin k f).2, eP, eS]
  cases k with
  | zero =>
    show mSL R C b cl f ↔ _
    constructor
    · intro h
      have h1 := ((hf f h.1).2 0 (by decide)).mpr h
      have := (hf f h.1).1.1
      exact ⟨h.1, by omega⟩
    · rintro ⟨h1, h2⟩
      exact ((hf f h1).2 0 (by decide)).mp (by omega)
  | succ k =>
    show (mR R C b cl (k + 1) f ∧ ¬ mR R C b cl k f) ↔ _
    constructor
    · rintro ⟨h1, h2⟩
      have hl := mR_lt h1
      have h3 := ((hf f hl).2 (k + 1) hk).mpr h1
      have h4 : ¬ fa f ≤ k + 1 := fun q => h2 (((hf f hl).2 k (by omega)).mp q)
      exact ⟨hl, by omega⟩
    · rintro ⟨h1, h2⟩
      refine ⟨((hf f h1).2 (k + 1) hk).mp (by omega), fun q => ?_⟩
      have := ((hf f h1).2 k (by omega)).mpr q
      omega
theorem low_of {x : Int64} {k : Nat} {p : Nat → Prop} (h : ∀ f, bq x f = true ↔ p f) (h1 : p k) (h2 : ∀ j, j < k → ¬ p j) : gLow x = nI k := gLow_at ⟨(h k).mpr h1, fun j hj => by
  cases q : bq x j with
  | false => rfl
  | true => exact absurd ((h j).mp q) (h2 j hj)⟩
theorem wayX {R C : Nat} (hR1 : 1 ≤ R) (hR2 : R ≤ 6) (hC1 : 1 ≤ C) (hC2 : C ≤ 6) (hRC : R * C ≤ 36) {b fa : Nat → Nat} {cl n ln : Nat} {x : Int64} {fs : Nat → Int32} (hx : ∀ f, bq x f = true ↔ f < R * C ∧ b f = cl) (hf : faP R C b cl 36 fa) (hb : beP R C cl fa (R * C) n) (hw : wayOK R C x (frB R C cl) (toB R C cl) ln fs) : ln = n ∧ ∀ j f, j < n → wpP R C cl fa n j f → fs j = nI f := by
  obtain ⟨K, ⟨k1, k2, k3, _⟩, rfl, k5⟩ := hw
  have hp := pF_is hR1 hR2 hC1 hC2 hRC hx hf
  have hn : n = K + 1 := by
    obtain ⟨s, s1, s2⟩ := and_ne0.mp k3
    obtain ⟨s3, s4⟩ := (hp K k1 s).mp s1
    have s5 := hb.2.2 s s3 ((frB_iff hR2 hC1 hC2 hRC s3).mp s2)
    rcases hb.2.1 with e | ⟨y, y1, y2, y3⟩
    · omega
    · have y4 := (hf y y1).1.1
      rcases Nat.lt_or_ge (n - 1) K with q | q
      · exfalso
        have hne : (pL R C x (toB R C cl) (n - 1)).1 &&& frB R C cl ≠ 0 := and_ne0.mpr ⟨y, (hp (n - 1) (by omega) y).mpr ⟨y1, by omega⟩, (frB_iff hR2 hC1 hC2 hRC y1).mpr y2⟩
        exact hne (k2 (n - 1) q)
      · omega
  subst hn
  refine ⟨rfl, fun j f hj hwp => ?_⟩
  rw [k5 j (by omega)]
  have key : ∀ j f, j ≤ K → wpP R C cl fa (K + 1) j f → pF R C x (toB R C cl) (frB R C cl) K j = nI f := by
    intro j
    induction j with
    | zero =>
      rintro f _ ⟨h1, h2, h3, h4⟩
      show gLow ((pL R C x (toB R C cl) K).1 &&& frB R C cl) = nI f
      refine low_of (p := fun g => g < R * C ∧ fa g = K + 1 ∧ 0 < mBk R C g &&& mF cl) (fun g => ?_) ⟨h1, h3, h2⟩ (fun g hg hq => h4 g hg ⟨hq.2.2, hq.2.1⟩)
      rw [bq_and, Bool.and_eq_true, hp K k1 g]
      constructor
      · rintro ⟨⟨a, b⟩, c⟩; exact ⟨a, b, (frB_iff hR2 hC1 hC2 hRC a).mp c⟩
      · rintro ⟨a, b, c⟩; exact ⟨⟨a, b⟩, (frB_iff hR2 hC1 hC2 hRC a).mpr c⟩
    | succ j ih =>
      rintro f hjk ⟨g, h0, h1, h2, h3, h4⟩
      have hg := wp_lt h0
      have e := ih g (by omega) h0
      show gLow ((pL R C x (toB R C cl) (K - (j + 1))).1 &&& gBes R C (gBit (pF R C x (toB R C cl) (frB R C cl) K j))) = nI f
      rw [e]
      refine low_of (p := fun y => y < R * C ∧ adj C y g ∧ fa y = K + 1 - (j + 1)) (fun y => ?_) ⟨h1, h2, h3⟩ (fun y hy hq => h4 y hy hq)
      rw [bq_and, Bool.and_eq_true, hp (K - (j + 1)) (by omega) y, gBes_bits hR1 hR2 hC1 hC2 (fun i hi => by rw [(bit_iff (by omega) i).mp hi]; exact hg)]
      constructor
      · rintro ⟨⟨a1, a2⟩, _, z, z1, z2⟩
        rw [(bit_iff (by omega) z).mp z1] at z2
        exact ⟨a1, adj_symm z2, by omega⟩
      · rintro ⟨a1, a2, a3⟩
        exact ⟨⟨a1, by omega⟩, a1, g, (bit_iff (by omega) g).mpr rfl, adj_symm a2⟩
  exact key j f (by omega) hwp
theorem wayY {R C : Nat} (hR1 : 1 ≤ R) (hR2 : R ≤ 6) (hC1 : 1 ≤ C) (hC2 : C ≤ 6) (hRC : R * C ≤ 36) {no we : Int64} {b fa : Nat → Nat} {n ln : Nat} {fs : Nat → Int32} (h : sR R C no we b) (hp : 0 < mWho R C b) (hf : faP R C b (mWho R C b) 36 fa) (hb : beP R C (mWho R C b) fa (R * C) n) (hw : wayIs R C no we ln fs) : ln = n ∧ ∀ j f, j < n → wpP R C (mWho R C b) fa n j f → fs j = nI f := by
  have e := sR_who hR1 hR2 hC1 hC2 hRC h
  rcases hw with ⟨h1, h2⟩ | ⟨h1, h2⟩ | ⟨h1, h2⟩
  · rw [h1] at e
    rw [← e] at hf hb ⊢
    exact wayX hR1 hR2 hC1 hC2 hRC h.1 hf hb h2
  · rw [h1] at e
    rw [← e] at hf hb ⊢
    exact wayX hR1 hR2 hC1 hC2 hRC h.2.1 hf hb h2
  · rw [h1] at e; omega
theorem wayZ {R C : Nat} (hR1 : 1 ≤ R) (hR2 : R ≤ 6) (hC1 : 1 ≤ C) (hC2 : C ≤ 6) (hRC : R * C ≤ 36) {no we : Int64} {b : Nat → Nat} {ln : Nat} {fs : Nat → Int32} (h : sR R C no we b) (hp : mWho R C b = 0) (hw : wayIs R C no we ln fs) : ln = 0 := by
  have e := sR_who hR1 hR2 hC1 hC2 hRC h
  rcases hw with ⟨h1, h2⟩ | ⟨h1, h2⟩ | ⟨h1, h2⟩
  · omega
  · omega
  · exact h2
theorem int_nat {i : Int32} {n : Nat} (h1 : ((0 : Nat) : Int) ≤ i.toInt) (h2 : i.toInt < (n : Int)) : fIn n i := by
  obtain ⟨j, h5, rfl⟩ := nI_of (x := i) (fun hh => by
    have := Int32.lt_iff_toInt_lt.mp hh
    have e0 : (0 : Int32).toInt = 0 := by decide
    omega)
  rw [nI_toInt h5] at h2
  exact ⟨j, by omega, rfl⟩
/-! what was done, and what can be done again: alike -/
theorem gPut_iff {x : Int64} {k : Nat} (hk : k < 64) (v : Bool) (f : Nat) : bq (gPut x k v) f = true ↔ (f = k ∧ v = true) ∨ (f ≠ k ∧ bq x f = true) := by
  have hb := bit_iff hk f
  unfold gPut
  have e : bq (x &&& (gBit (nI k) ^^^ (-1))) f = true ↔ (f ≠ k ∧ bq x f = true) := by
    rw [bq_andn, Bool.and_eq_true]
    constructor
    · rintro ⟨h1, h2⟩
      refine ⟨fun q => ?_, h1⟩
      rw [hb.mpr q] at h2
      cases h2
    · rintro ⟨h1, h2⟩
      refine ⟨h2, ?_⟩
      cases q : bq (gBit (nI k)) f with
      | false => rfl
      | true => exact absurd (hb.mp q) h1
  cases v with
  | true =>
    rw [if_pos rfl, bq_or, Bool.or_eq_true, e, hb]
    constructor
    · rintro (h | h)
      · exact Or.inr h
      · exact Or.inl ⟨h, rfl⟩
    · rintro (h | h)
      · exact Or.inr h.1
      · exact Or.inl h
  | false =>
    rw [if_neg (by decide), e]
    constructor
    · intro h; exact Or.inr h
    · rintro (h | h)
      · exact absurd h.2 (by decide)
      · exact h
theorem sR_put {R C : Nat} (hRC : R * C ≤ 36) {no we : Int64} {b : Nat → Nat} (h : sR R C no we b) {k cv : Nat} (hk : k < R * C) (hc : cv ≤ 2) : sR R C (gPut no k (decide (cv = 1))) (gPut we k (decide (cv = 2))) (uN b k cv) := by
  refine ⟨fun f => ?_, fun f => ?_, hbv_up h.2.2 hc⟩
  · rw [gPut_iff (by omega), decide_eq_true_iff, h.1 f]
    by_cases e : f = k
    · rw [e, uN_s]
      constructor
      · rintro (q | q)
        · exact ⟨hk, q.2⟩
        · exact absurd rfl q.1
      · rintro ⟨_, q⟩; exact Or.inl ⟨rfl, q⟩
    · rw [uN_n e]
      constructor
      · rintro (q | q)
        · exact absurd q.1 e
        · exact q.2
      · intro q; exact Or.inr ⟨e, q⟩
  · rw [gPut_iff (by omega), decide_eq_true_iff, h.2.1 f]
    by_cases e : f = k
    · rw [e, uN_s]
      constructor
      · rintro (q | q)
        · exact ⟨hk, q.2⟩
        · exact absurd rfl q.1
      · rintro ⟨_, q⟩; exact Or.inl ⟨rfl, q⟩
    · rw [uN_n e]
      constructor
      · rintro (q | q)
        · exact absurd q.1 e
        · exact q.2
      · intro q; exact Or.inr ⟨e, q⟩
theorem tW_tF {C : Nat} (x : Nat) : tW C C x = tF C x := rfl
/-- a swap: the one stone goes over the way -/
theorem sR_swap {C : Nat} (hC1 : 1 ≤ C) (hRC : C * C ≤ 36) {no we : Int64} {b : Nat → Nat} (h : sR C C no we b) {F : Nat} (hF : F < C * C) (hb : ∀ f, f < C * C → b f = if f = F then 1 else 0) : sR C C 0 (gTu C C no) (uN (uN b F 0) (tF C F) 2) := by
  have ht : tF C F < C * C := tW_lt hC1 hC1 hF
  have hv : ∀ f, f < C * C → uN (uN b F 0) (tF C F) 2 f = if f = tF C F then 2 else 0 := fun f hf => by
    by_cases e : f = tF C F
    · rw [e, uN_s, if_pos rfl]
    · rw [uN_n e, if_neg e]
      by_cases e2 : f = F
      · rw [e2, uN_s]
      · rw [uN_n e2, hb f hf, if_neg e2]
  refine ⟨fun f => ?_, fun f => ?_, fun f hf => ?_⟩
  · rw [bq_0]
    constructor
    · intro q; cases q
    · rintro ⟨h1, h2⟩
      rw [hv f h1] at h2
      split at h2
      · cases h2
      · cases h2
  · rw [gTu_bits hC1 hRC]
    constructor
    · rintro ⟨g, g1, g2, g3⟩
      have g4 := ((h.1 g).mp g3).2
      rw [hb g g1] at g4
      have e : g = F := by
        by_cases q : g = F
        · exact q
        · rw [if_neg q] at g4; cases g4
      rw [e, tW_tF] at g2
      rw [g2]
      exact ⟨ht, by rw [hv _ ht, if_pos rfl]⟩
    · rintro ⟨h1, h2⟩
      rw [hv f h1] at h2
      have e : f = tF C F := by
        by_cases q : f = tF C F
        · exact q
        · rw [if_neg q] at h2; cases h2
      exact ⟨F, hF, e, (h.1 F).mpr ⟨hF, by rw [hb F hF, if_pos rfl]⟩⟩
  · rw [hv f hf]
    split <;> omega
theorem sR_back {C : Nat} (hC1 : 1 ≤ C) (hRC : C * C ≤ 36) {no we : Int64} {b b1 : Nat → Nat} (h : sR C C no we b) {F : Nat} (hF : F < C * C) (hb : ∀ f, f < C * C → b f = if f = tF C F then 2 else 0) (hb1 : ∀ f, f < C * C → b1 f = if f = F then 1 else 0) : sR C C (gTu C C we) 0 b1 := by
  have ht : tF C F < C * C := tW_lt hC1 hC1 hF
  have hti : tW C C (tF C F) = F := tW_inv hC1 hF
  refine ⟨fun f => ?_, fun f => ?_, fun f hf => ?_⟩
  · rw [gTu_bits hC1 hRC]
    constructor
    · rintro ⟨g, g1, g2, g3⟩
      have g4 := ((h.2.1 g).mp g3).2
      rw [hb g g1] at g4
      have e : g = tF C F := by
        by_cases q : g = tF C F
        · exact q
        · rw [if_neg q] at g4; cases g4
      rw [e, hti] at g2
      rw [g2]
      exact ⟨hF, by rw [hb1 F hF, if_pos rfl]⟩
    · rintro ⟨h1, h2⟩
      rw [hb1 f h1] at h2
      have e : f = F := by
        by_cases q : f = F
        · exact q
        · rw [if_neg q] at h2; cases h2
      exact ⟨tF C F, ht, by rw [e, hti], (h.2.1 _).mpr ⟨ht, by rw [hb _ ht, if_pos rfl]⟩⟩
  · rw [bq_0]
    constructor
    · intro q; cases q
    · rintro ⟨h1, h2⟩
      rw [hb1 f h1] at h2
      split at h2
      · cases h2
      · cases h2
  · rw [hb1 f hf]
    split <;> omega
def cst (R C : Nat) (b : Nat → Nat) : Nat := fb_ct (fun f => !mE b f) (R * C)
def hS9 (R C md : Nat) (row : Nat → Int32) (ac : Nat → Nat) (bs : Nat → Nat → Nat) (ts : Nat → Nat) (j : Nat) : Prop :=
  (ac j < R * C ∧ row j = nI (ac j) ∧ bs j (ac j) = 0 ∧ bs (j + 1) = uN (bs j) (ac j) (ts j) ∧ ts (j + 1) = 3 - ts j) ∨ (j = 1 ∧ md = 1 ∧ R = C ∧ ∃ F, F < R * C ∧ ac 1 = 100 + F ∧ ac 0 = F ∧ row 1 = -2 ∧ bs 2 = uN (uN (bs 1) F 0) (tF C F) 2 ∧ ts 2 = 1)
/-- the boards and turns behind each deed, from the first -/
def hR (R C md dn kn : Nat) (b : Nat → Nat) (tn : Nat) (row : Nat → Int32) (ac : Nat → Nat) (bs : Nat → Nat → Nat) (ts : Nat → Nat) : Prop :=
  dn ≤ kn ∧ bs dn = b ∧ ts dn = tn ∧ (md = 1 → (∀ f, f < R * C → bs 0 f = 0) ∧ ts 0 = 1) ∧ (∀ j, j ≤ kn → j ≤ cst R C (bs j) + 1 ∧ (ts j = 1 ∨ ts j = 2)) ∧ ∀ j, j < kn → hS9 R C md row ac bs ts j
theorem hR_0 {R C md : Nat} {b : Nat → Nat} {tn : Nat} {row : Nat → Int32} {ac : Nat → Nat} (ht : tn = 1 ∨ tn = 2) (hm : md = 1 → (∀ f, f < R * C → b f = 0) ∧ tn = 1) : hR R C md 0 0 b tn row ac (fun _ => b) (fun _ => tn) :=
  ⟨Nat.le_refl _, rfl, rfl, hm, fun j hj => ⟨by omega, ht⟩, fun j hj => absurd hj (Nat.not_lt_zero j)⟩
theorem cst_lay {R C : Nat} {b : Nat → Nat} {k v : Nat} (hk : k < R * C) (h0 : b k = 0) (hv : 0 < v) : cst R C (uN b k v) = cst R C b + 1 := by
  unfold cst
  have e := fb_ct_upd (fun f => !mE b f) true hk
  have e0 : (!mE b k) = false := by unfold mE; rw [decide_eq_true h0]; rfl
  simp only [e0, if_true, Bool.false_eq_true, if_false] at e
  rw [show (fun f => !mE (uN b k v) f) = fun f => if f = k then true else !mE b f from by
    funext f
    by_cases c : f = k
    · rw [if_pos c]
      unfold mE
      rw [c, uN_s, decide_eq_false (by omega)]
      rfl
    · rw [if_neg c]
      unfold mE
      rw [uN_n c]]
  omega
theorem cst_room {R C : Nat} (hRC : R * C ≤ 36) {b : Nat → Nat} {k : Nat} (hk : k < R * C) (h0 : b k = 0) : cst R C b ≤ 35 := by
  have h1 := fb_ct_not (mE b) (R * C)
  have h2 : 0 < fb_ct (mE b) (R * C) := fb_ct_pos.mpr ⟨k, hk, decide_eq_true h0⟩
  unfold cst
  omega
theorem cst_le {R C : Nat} (b : Nat → Nat) : cst R C b ≤ R * C := fb_ct_le _ _
theorem hR_kn {R C md dn kn : Nat} (hRC : R * C ≤ 36) {b : Nat → Nat} {tn : Nat} {row : Nat → Int32} {ac : Nat → Nat} {bs : Nat → Nat → Nat} {ts : Nat → Nat} (h : hR R C md dn kn b tn row ac bs ts) : kn ≤ 37 := by
  have h1 := (h.2.2.2.2.1 kn (Nat.le_refl _)).1
  have h2 := cst_le (R := R) (C := C) (bs kn)
  omega
theorem hR_dn {R C md dn kn : Nat} (hRC : R * C ≤ 36) {b : Nat → Nat} {tn : Nat} {row : Nat → Int32} {ac : Nat → Nat} {bs : Nat → Nat → Nat} {ts : Nat → Nat} (h : hR R C md dn kn b tn row ac bs ts) {k : Nat} (hk : k < R * C) (h0 : b k = 0) : dn < 37 := by
  have h1 := (h.2.2.2.2.1 dn h.1).1
  rw [h.2.1] at h1
  have := cst_room hRC hk h0
  omega
def cutS {α : Type} (bs : Nat → α) (dn : Nat) (v : α) : Nat → α := fun j => if j ≤ dn then bs j else v
theorem cut_le {α : Type} {bs : Nat → α} {dn : Nat} {v : α} {j : Nat} (h : j ≤ dn) : cutS bs dn v j = bs j := if_pos h
theorem cut_gt {α : Type} {bs : Nat → α} {dn : Nat} {v : α} {j : Nat} (h : dn < j) : cutS bs dn v j = v := if_neg (by omega)
theorem hS9_keep {R C md : Nat} {row row2 : Nat → Int32} {ac ac2 : Nat → Nat} {bs bs2 : Nat → Nat → Nat} {ts ts2 : Nat → Nat} {dn j : Nat} (hj : j < dn) (hr : ∀ i, i < dn → row2 i = row i) (ha : ∀ i, i < dn → ac2 i = ac i) (hb : ∀ i, i ≤ dn → bs2 i = bs i) (ht : ∀ i, i ≤ dn → ts2 i = ts i) (h : hS9 R C md row ac bs ts j) : hS9 R C md row2 ac2 bs2 ts2 j := by
  unfold hS9 at h ⊢
  rcases h with h | ⟨rfl, h1, h2, F, h3, h4, h5, h6, h7, h8⟩
  · refine Or.inl ?_
    rw [hr j hj, ha j hj, hb j (by omega), hb (j + 1) (by omega), ht j (by omega), ht (j + 1) (by omega)]
    exact h
  · refine Or.inr ⟨rfl, h1, h2, F, h3, ?_, ?_, ?_, ?_, ?_⟩
    · rw [ha 1 hj]; exact h4
    · rw [ha 0 (by omega)]; exact h5
    · rw [hr 1 hj]; exact h6
    · rw [hb 2 (by omega), hb 1 (by omega)]; exact h7
    · rw [ht 2 (by omega)]; exact h8
theorem hR_lay {R C md dn kn : Nat} {b : Nat → Nat} {tn : Nat} {row : Nat → Int32} {ac : Nat → Nat} {bs : Nat → Nat → Nat} {ts : Nat → Nat} (h : hR R C md dn kn b tn row ac bs ts) {k : Nat} (hk : k < R * C) (h0 : b k = 0) : hR R C md (dn + 1) (dn + 1) (uN b k tn) (3 - tn) (upd row dn (nI k)) (uN ac dn k) (cutS bs dn (uN b k tn)) (cutS ts dn (3 - tn)) := by
  obtain ⟨h1, h2, h3, h4, h5, h6⟩ := h
  have h7 := h5 dn h1
  rw [h2, h3] at h7
  refine ⟨Nat.le_refl _, cut_gt (Nat.lt_succ_self dn), cut_gt (Nat.lt_succ_self dn), fun hm => ?_, fun j hj => ?_, fun j hj => ?_⟩
  · rw [cut_le (Nat.zero_le dn), cut_le (Nat.zero_le dn)]; exact h4 hm
  · rcases Nat.lt_or_ge dn j with q | q
    · rw [cut_gt q, cut_gt q, cst_lay hk h0 (by omega)]
      exact ⟨by omega, by omega⟩
    · rw [cut_le q, cut_le q]; exact h5 j (by omega)
  · rcases Nat.lt_or_ge j dn with q | q
    · exact hS9_keep q (fun i hi => pk_un (by omega)) (fun i hi => uN_n (by omega)) (fun i hi => cut_le hi) (fun i hi => cut_le hi) (h6 j (by omega))
    · have e : j = dn := by omega
      subst e
      refine Or.inl ?_
      rw [uN_s, pk_us, cut_le (Nat.le_refl _), cut_gt (Nat.lt_succ_self _), cut_le (Nat.le_refl _), cut_gt (Nat.lt_succ_self _), h2, h3]
      exact ⟨hk, rfl, h0, rfl, rfl⟩
/-- behind the first stone of a board that was made: that stone alone -/
theorem hR_one {R C md dn kn : Nat} {b : Nat → Nat} {tn : Nat} {row : Nat → Int32} {ac : Nat → Nat} {bs : Nat → Nat → Nat} {ts : Nat → Nat} (h : hR R C md dn kn b tn row ac bs ts) (hm : md = 1) (hk : 1 ≤ kn) : ac 0 < R * C ∧ bs 1 = uN (bs 0) (ac 0) 1 ∧ ts 1 = 2 ∧ ∀ f, f < R * C → bs 1 f = if f = ac 0 then 1 else 0 := by
  obtain ⟨h1, h2, h3, h4, h5, h6⟩ := h
  obtain ⟨h7, h8⟩ := h4 hm
  rcases h6 0 (by omega) with ⟨g1, g2, g3, g4, g5⟩ | ⟨g1, _⟩
  · rw [h8] at g4 g5
    have g4 : bs 1 = uN (bs 0) (ac 0) 1 := g4
    refine ⟨g1, g4, g5, fun f hf => ?_⟩
    rw [g4]
    by_cases e : f = ac 0
    · rw [e, uN_s, if_pos rfl]
    · rw [uN_n e, if_neg e]; exact h7 f hf
  · exact absurd g1 (by decide)
theorem hR_swap {R C md dn kn : Nat} (hC1 : 1 ≤ C) {b : Nat → Nat} {tn : Nat} {row : Nat → Int32} {ac : Nat → Nat} {bs : Nat → Nat → Nat} {ts : Nat → Nat} (h : hR R C md dn kn b tn row ac bs ts) (hm : md = 1) (hd : dn = 1) (hRC : R = C) : hR R C md (dn + 1) (dn + 1) (uN (uN b (ac 0) 0) (tF C (ac 0)) 2) 1 (upd row dn (-2)) (uN ac dn (100 + ac 0)) (cutS bs dn (uN (uN b (ac 0) 0) (tF C (ac 0)) 2)) (cutS ts dn 1) := by
  obtain ⟨o1, o2, o3, o4⟩ := hR_one h hm (by have := h.1; omega)
  obtain ⟨h1, h2, h3, h4, h5, h6⟩ := h
  subst hd
  refine ⟨Nat.le_refl _, cut_gt (Nat.lt_succ_self _), cut_gt (Nat.lt_succ_self _), fun hm => ?_, fun j hj => ?_, fun j hj => ?_⟩
  · rw [cut_le (Nat.zero_le _), cut_le (Nat.zero_le _)]; exact h4 hm
  · rcases Nat.lt_or_ge 1 j with q | q
    · rw [cut_gt q, cut_gt q]
      have ht : tF C (ac 0) < R * C := tF_lt hC1 hRC o1
      have : 0 < cst R C (uN (uN b (ac 0) 0) (tF C (ac 0)) 2) := fb_ct_pos.mpr ⟨tF C (ac 0), ht, by unfold mE; rw [uN_s]; rfl⟩
      exact ⟨by omega, Or.inl rfl⟩
    · rw [cut_le q, cut_le q]; exact h5 j (by omega)
  · rcases Nat.lt_or_ge j 1 with q | q
    · exact hS9_keep q (fun i hi => pk_un (by omega)) (fun i hi => uN_n (by omega)) (fun i hi => cut_le hi) (fun i hi => cut_le hi) (h6 j (by omega))
    · have e : j = 1 := by omega
      subst e
      refine Or.inr ⟨rfl, hm, hRC, ac 0, o1, uN_s, uN_n (by decide), pk_us, ?_, cut_gt (by decide)⟩
      rw [cut_gt (by decide), cut_le (Nat.le_refl _), h2]
theorem hR_at {R C md dn kn : Nat} {b : Nat → Nat} {tn : Nat} {row : Nat → Int32} {ac : Nat → Nat} {bs : Nat → Nat → Nat} {ts : Nat → Nat} (h : hR R C md dn kn b tn row ac bs ts) {e : Nat} (he : e ≤ kn) : hR R C md e kn (bs e) (ts e) row ac bs ts := ⟨he, rfl, rfl, h.2.2.2.1, h.2.2.2.2.1, h.2.2.2.2.2⟩
theorem uN_back {b : Nat → Nat} {k v : Nat} (h : b k = 0) : uN (uN b k v) k 0 = b := by
  funext x
  by_cases e : x = k
  · rw [e, uN_s, h]
  · rw [uN_n e, uN_n e]
theorem sw_back {R C : Nat} (hC1 : 1 ≤ C) (hRC : R = C) {b0 b1 : Nat → Nat} {F : Nat} (hF : F < R * C) (h1 : b1 = uN b0 F 1) (h0 : ∀ f, f < R * C → b0 f = 0) : uN (uN (uN (uN b1 F 0) (tF C F) 2) (tF C F) 0) F 1 = b1 := by
  have ht : tF C F < R * C := tF_lt hC1 hRC hF
  funext x
  by_cases e : x = F
  · rw [e, uN_s, h1, uN_s]
  · rw [uN_n e]
    by_cases e2 : x = tF C F
    · rw [e2, uN_s, h1, uN_n (by rw [← e2]; exact e), h0 _ ht]
    · rw [uN_n e2, uN_n e2, uN_n e]
