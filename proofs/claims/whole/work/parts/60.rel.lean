/-! the two states alike: the class's sets and the reference's board -/
def sR (R C : Nat) (no we : Int64) (b : Nat → Nat) : Prop := (∀ f, bq no f = true ↔ f < R * C ∧ b f = 1) ∧ (∀ f, bq we f = true ↔ f < R * C ∧ b f = 2) ∧ ∀ f, f < R * C → b f ≤ 2
theorem sR_no {R C : Nat} {no we : Int64} {b : Nat → Nat} (h : sR R C no we b) : ∀ i, bq no i = true → i < R * C := fun i hi => ((h.1 i).mp hi).1
theorem sR_we {R C : Nat} {no we : Int64} {b : Nat → Nat} (h : sR R C no we b) : ∀ i, bq we i = true → i < R * C := fun i hi => ((h.2.1 i).mp hi).1
theorem sR_at {R C : Nat} {no we : Int64} {b : Nat → Nat} (h : sR R C no we b) {f : Nat} (hf : f < R * C) : sAt no we f = b f := by
  unfold sAt
  have h3 := h.2.2 f hf
  by_cases h1 : bq no f = true
  · rw [if_pos h1]; exact ((h.1 f).mp h1).2.symm
  · rw [if_neg h1]
    by_cases h2 : bq we f = true
    · rw [if_pos h2]; exact ((h.2.1 f).mp h2).2.symm
    · rw [if_neg h2]
      have n1 : b f ≠ 1 := fun e => h1 ((h.1 f).mpr ⟨hf, e⟩)
      have n2 : b f ≠ 2 := fun e => h2 ((h.2.1 f).mpr ⟨hf, e⟩)
      omega
theorem sR_st {R C : Nat} {no we : Int64} {b : Nat → Nat} (h : sR R C no we b) {cv : Nat} (hc : cv = 1 ∨ cv = 2) (f : Nat) : bq (gSt no we cv) f = true ↔ f < R * C ∧ b f = cv := by
  rcases hc with rfl | rfl
  · exact h.1 f
  · exact h.2.1 f
theorem gAll_iff {R C : Nat} (hR2 : R ≤ 6) (hC2 : C ≤ 6) (f : Nat) : bq (gAll R C) f = true ↔ f < R * C := by
  have hRC := rc_lt36 hR2 hC2
  rcases Nat.lt_or_ge f 64 with e | e
  · rw [gAll_bits R (by omega) C (by omega) f e, decide_eq_true_iff]
  · rw [bq_big e]
    constructor
    · intro h; cases h
    · intro h; omega
theorem sR_sp {R C : Nat} (hR2 : R ≤ 6) (hC2 : C ≤ 6) {no we : Int64} {b : Nat → Nat} (h : sR R C no we b) (f : Nat) : bq (gSpots R C no we) f = true ↔ f < R * C ∧ b f = 0 := by
  unfold gSpots
  rw [bq_andn, Bool.and_eq_true, gAll_iff hR2 hC2, bq_or]
  constructor
  · rintro ⟨h1, h2⟩
    refine ⟨h1, ?_⟩
    have h3 := h.2.2 f h1
    have n1 : b f ≠ 1 := fun e => by rw [(h.1 f).mpr ⟨h1, e⟩] at h2; cases h2
    have n2 : b f ≠ 2 := fun e => by rw [(h.2.1 f).mpr ⟨h1, e⟩, Bool.or_true] at h2; cases h2
    omega
  · rintro ⟨h1, h2⟩
    refine ⟨h1, ?_⟩
    cases q : (bq no f || bq we f) with
    | false => rfl
    | true =>
      rw [Bool.or_eq_true, h.1, h.2.1] at q
      omega
theorem fb_ct_top {p : Nat → Bool} {n m : Nat} (h : ∀ i, p i = true → i < n) (hm : n ≤ m) : fb_ct p m = fb_ct p n := by
  have e := fb_ct_split p n (m - n)
  rw [show n + (m - n) = m by omega] at e
  have z : fb_ct (fun k => p (n + k)) (m - n) = 0 := fb_ct_zero.mpr (fun k _ => by
    cases hk : p (n + k) with
    | false => rfl
    | true => have := h _ hk; omega)
  omega
theorem pcn_top {x : Int64} {n : Nat} (h : ∀ i, bq x i = true → i < n) (hn : n ≤ 64) : pcn x = fb_ct (bq x) n := fb_ct_top h hn
theorem bq_dec {x : Int64} {f : Nat} {p : Prop} (d : Decidable p) (h : bq x f = true ↔ p) : bq x f = decide p := by
  by_cases c : p
  · rw [decide_eq_true c]; exact h.mpr c
  · rw [decide_eq_false c]
    cases q : bq x f with
    | false => rfl
    | true => exact absurd (h.mp q) c
theorem sR_ct {R C : Nat} (hR2 : R ≤ 6) (hC2 : C ≤ 6) {no we : Int64} {b : Nat → Nat} (h : sR R C no we b) {f : Nat} (hf : f ≤ R * C) : fb_ct (bq (gSpots R C no we)) f = fb_ct (mE b) f := by
  apply fb_ct_cong
  intro k hk
  unfold mE
  exact bq_dec _ ((sR_sp hR2 hC2 h k).trans ⟨fun q => q.2, fun q => ⟨by omega, q⟩⟩)
theorem sR_pcn {R C : Nat} (hR2 : R ≤ 6) (hC2 : C ≤ 6) {no we : Int64} {b : Nat → Nat} (h : sR R C no we b) : pcn (gSpots R C no we) = fb_ct (mE b) (R * C) := by
  have hRC := rc_lt36 hR2 hC2
  rw [pcn_top (fun i hi => ((sR_sp hR2 hC2 h i).mp hi).1) (by omega), sR_ct hR2 hC2 h (Nat.le_refl _)]
/-! the banks -/
theorem bk_1 {R C F : Nat} : 0 < mBk R C F &&& 1 ↔ F / C = 0 := by
  unfold mBk
  by_cases h1 : F / C = 0 <;> by_cases h2 : F / C = R - 1 <;> by_cases h3 : F % C = 0 <;> by_cases h4 : F % C = C - 1 <;> (first | rw [if_pos h1] | rw [if_neg h1]) <;> (first | rw [if_pos h2] | rw [if_neg h2]) <;> (first | rw [if_pos h3] | rw [if_neg h3]) <;> (first | rw [if_pos h4] | rw [if_neg h4]) <;> first | exact ⟨fun _ => h1, fun _ => by decide⟩ | exact ⟨fun h => absurd h (by decide), fun h => absurd h h1⟩
theorem bk_2 {R C F : Nat} : 0 < mBk R C F &&& 2 ↔ F / C = R - 1 := by
  unfold mBk
  by_cases h1 : F / C = 0 <;> by_cases h2 : F / C = R - 1 <;> by_cases h3 : F % C = 0 <;> by_cases h4 : F % C = C - 1 <;> (first | rw [if_pos h1] | rw [if_neg h1]) <;> (first | rw [if_pos h2] | rw [if_neg h2]) <;> (first | rw [if_pos h3] | rw [if_neg h3]) <;> (first | rw [if_pos h4] | rw [if_neg h4]) <;> first | exact ⟨fun _ => h2, fun _ => by decide⟩ | exact ⟨fun h => absurd h (by decide), fun h => absurd h h2⟩
theorem bk_4 {R C F : Nat} : 0 < mBk R C F &&& 4 ↔ F % C = 0 := by
  unfold mBk
  by_cases h1 : F / C = 0 <;> by_cases h2 : F / C = R - 1 <;> by_cases h3 : F % C = 0 <;> by_cases h4 : F % C = C - 1 <;> (first | rw [if_pos h1] | rw [if_neg h1]) <;> (first | rw [if_pos h2] | rw [if_neg h2]) <;> (first | rw [if_pos h3] | rw [if_neg h3]) <;> (first | rw [if_pos h4] | rw [if_neg h4]) <;> first | exact ⟨fun _ => h3, fun _ => by decide⟩ | exact ⟨fun h => absurd h (by decide), fun h => absurd h h3⟩
theorem bk_8 {R C F : Nat} : 0 < mBk R C F &&& 8 ↔ F % C = C - 1 := by
  unfold mBk
  by_cases h1 : F / C = 0 <;> by_cases h2 : F / C = R - 1 <;> by_cases h3 : F % C = 0 <;> by_cases h4 : F % C = C - 1 <;> (first | rw [if_pos h1] | rw [if_neg h1]) <;> (first | rw [if_pos h2] | rw [if_neg h2]) <;> (first | rw [if_pos h3] | rw [if_neg h3]) <;> (first | rw [if_pos h4] | rw [if_neg h4]) <;> first | exact ⟨fun _ => h4, fun _ => by decide⟩ | exact ⟨fun h => absurd h (by decide), fun h => absurd h h4⟩
theorem div_0 {C F : Nat} (hC : 1 ≤ C) : F / C = 0 ↔ F < C := by
  constructor
  · intro h
    have := Nat.div_add_mod F C
    have := Nat.mod_lt F (show 0 < C by omega)
    rw [h, Nat.mul_zero] at *
    omega
  · exact Nat.div_eq_of_lt
theorem div_l {R C F : Nat} (hR : 1 ≤ R) (hF : F < R * C) : F / C = R - 1 ↔ C * (R - 1) ≤ F := by
  have e := Nat.div_add_mod F C
  have hC : 0 < C := by
    rcases Nat.eq_zero_or_pos C with q | q
    · rw [q, Nat.mul_zero] at hF; omega
    · exact q
  have l := fd_lt hF
  constructor
  · intro h; rw [h] at e; omega
  · intro h
    have := (Nat.le_div_iff_mul_le hC).mpr (show (R - 1) * C ≤ F by rw [Nat.mul_comm]; exact h)
    omega
theorem bN {R C : Nat} (hC1 : 1 ≤ C) (hC2 : C ≤ 6) (hRC : R * C ≤ 36) {f : Nat} (hf : f < R * C) : bq (gNo C) f = true ↔ 0 < mBk R C f &&& 1 := by
  rw [gNo_bits C (by omega) f (by omega), bk_1, decide_eq_true_iff, div_0 hC1]
theorem bS {R C : Nat} (hR1 : 1 ≤ R) (hR2 : R ≤ 6) (hC2 : C ≤ 6) (hRC : R * C ≤ 36) {f : Nat} (hf : f < R * C) : bq (gSo R C) f = true ↔ 0 < mBk R C f &&& 2 := by
  rw [gSo_bits R (by omega) C (by omega) hR1 f (by omega), bk_2, Bool.and_eq_true, decide_eq_true_iff, decide_eq_true_iff, div_l hR1 hf]
  exact ⟨fun h => h.1, fun h => ⟨h, by rw [Nat.mul_comm]; exact hf⟩⟩
theorem bW {R C : Nat} (hR2 : R ≤ 6) (hC1 : 1 ≤ C) (hC2 : C ≤ 6) (hRC : R * C ≤ 36) {f : Nat} (hf : f < R * C) : bq (gWeN C R) f = true ↔ 0 < mBk R C f &&& 4 := by
  rw [gWe_bits R (by omega) C (by omega) hC1 f (by omega), bk_4, Bool.and_eq_true, decide_eq_true_iff, decide_eq_true_iff]
  exact ⟨fun h => h.2, fun h => ⟨hf, h⟩⟩
theorem bE {R C : Nat} (hR2 : R ≤ 6) (hC1 : 1 ≤ C) (hC2 : C ≤ 6) (hRC : R * C ≤ 36) {f : Nat} (hf : f < R * C) : bq (gEa R C) f = true ↔ 0 < mBk R C f &&& 8 := by
  rw [gEa_bits R (by omega) C (by omega) hC1 f (by omega), bk_8, Bool.and_eq_true, decide_eq_true_iff, decide_eq_true_iff]
  exact ⟨fun h => h.2, fun h => ⟨hf, h⟩⟩
def frB (R C cl : Nat) : Int64 := if cl = 1 then gNo C else gWeN C R
def toB (R C cl : Nat) : Int64 := if cl = 1 then gSo R C else gEa R C
theorem frB_iff {R C : Nat} (hR2 : R ≤ 6) (hC1 : 1 ≤ C) (hC2 : C ≤ 6) (hRC : R * C ≤ 36) {cl f : Nat} (hf : f < R * C) : bq (frB R C cl) f = true ↔ 0 < mBk R C f &&& mF cl := by
  unfold frB mF
  by_cases c : cl = 1
  · rw [if_pos c, if_pos c]; exact bN hC1 hC2 hRC hf
  · rw [if_neg c, if_neg c]; exact bW hR2 hC1 hC2 hRC hf
theorem toB_iff {R C : Nat} (hR1 : 1 ≤ R) (hR2 : R ≤ 6) (hC1 : 1 ≤ C) (hC2 : C ≤ 6) (hRC : R * C ≤ 36) {cl f : Nat} (hf : f < R * C) : bq (toB R C cl) f = true ↔ 0 < mBk R C f &&& mL cl := by
  unfold toB mL
  by_cases c : cl = 1
  · rw [if_pos c, if_pos c]; exact bS hR1 hR2 hC2 hRC hf
  · rw [if_neg c, if_neg c]; exact bE hR2 hC1 hC2 hRC hf
theorem RE_iff {E : Nat → Nat → Prop} {P S P' S' : Nat → Prop} (hP : ∀ f, P f ↔ P' f) (hS : ∀ f, S f ↔ S' f) {f : Nat} : RE E P S f ↔ RE E P' S' f := RE_cong hP hS
/-- who has joined, told by sets -/
theorem mJ_set {R C : Nat} (hR1 : 1 ≤ R) (hR2 : R ≤ 6) (hC1 : 1 ≤ C) (hC2 : C ≤ 6) (hRC : R * C ≤ 36) {b : Nat → Nat} {x : Int64} {cl : Nat} (hx : ∀ f, bq x f = true ↔ f < R * C ∧ b f = cl) : gSp R C (frB R C cl) x &&& toB R C cl ≠ 0 ↔ mJ R C b cl := by
  have hin : ∀ i, bq x i = true → i < R * C := fun i hi => ((hx i).mp hi).1
  have e : ∀ i, bq (gSp R C (frB R C cl) x) i = true ↔ ME R C b cl (mSeed R C b cl) i := by
    intro i
    rw [gSp_bits hR1 hR2 hC1 hC2 hin]
    refine RE_iff hx (fun f => ?_)
    rw [hx f]
    constructor
    · rintro ⟨h1, h2, h3⟩; exact ⟨h2, h3, (frB_iff hR2 hC1 hC2 hRC h2).mp h1⟩
    · rintro ⟨h1, h2, h3⟩; exact ⟨(frB_iff hR2 hC1 hC2 hRC h1).mpr h3, h1, h2⟩
  rw [and_ne0]
  constructor
  · rintro ⟨i, h1, h2⟩
    have hm := (e i).mp h1
    have hi := (RE_in (fun y (hy : mSeed R C b cl y) => ⟨hy.1, hy.2.1⟩) hm).1
    exact ⟨i, hi, hm, (toB_iff hR1 hR2 hC1 hC2 hRC hi).mp h2⟩
  · rintro ⟨i, h1, h2, h3⟩
    exact ⟨i, (e i).mpr h2, (toB_iff hR1 hR2 hC1 hC2 hRC h1).mpr h3⟩
theorem sR_who {R C : Nat} (hR1 : 1 ≤ R) (hR2 : R ≤ 6) (hC1 : 1 ≤ C) (hC2 : C ≤ 6) (hRC : R * C ≤ 36) {no we : Int64} {b : Nat → Nat} (h : sR R C no we b) : gWho R C no we = mWho R C b := by
  have e1 : gSp R C (gNo C) no &&& gSo R C ≠ 0 ↔ mJ R C b 1 := mJ_set (cl := 1) hR1 hR2 hC1 hC2 hRC h.1
  have e2 : gSp R C (gWeN C R) we &&& gEa R C ≠ 0 ↔ mJ R C b 2 := mJ_set (cl := 2) hR1 hR2 hC1 hC2 hRC h.2.1
  by_cases h1 : mJ R C b 1
  · rw [mWho_1 h1, gWho_1 (e1.mpr h1)]
  · have z1 : gSp R C (gNo C) no &&& gSo R C = 0 := Classical.byContradiction (fun hn => h1 (e1.mp hn))
    by_cases h2 : mJ R C b 2
    · rw [mWho_2 h1 h2, gWho_2 z1 (e2.mpr h2)]
    · rw [mWho_0 h1 h2, gWho_0 z1 (Classical.byContradiction (fun hn => h2 (e2.mp hn)))]
/-! groups -/
theorem mG_in {R C : Nat} {b : Nat → Nat} {F f : Nat} (hF : F < R * C) (h : mG R C b F f) : f < R * C ∧ b f = b F := RE_in (fun x (hx : x = F) => by rw [hx]; exact ⟨hF, rfl⟩) h
theorem mG_symm {R C : Nat} {b : Nat → Nat} {F f : Nat} (hF : F < R * C) (h : mG R C b F f) : mG R C b f F := by
  have h1 := (RE_sym1 (P := fun x => x < R * C ∧ b x = b F) (fun _ _ => adj_symm) ⟨hF, rfl⟩ h).2
  have h2 := (mG_in hF h).2
  unfold mG ME
  rw [h2]
  exact h1
theorem mG_trans {R C : Nat} {b : Nat → Nat} {F f g : Nat} (hF : F < R * C) (h : mG R C b F f) (h2 : mG R C b f g) : mG R C b F g := by
  have e := (mG_in hF h).2
  unfold mG ME at h2
  rw [e] at h2
  exact RE_trans h2 (fun z hz => by rw [hz]; exact h)
theorem mG_set {R C : Nat} (hR1 : 1 ≤ R) (hR2 : R ≤ 6) (hC1 : 1 ≤ C) (hC2 : C ≤ 6) {b : Nat → Nat} {x s : Int64} {F : Nat} (hF : F < R * C) (hx : ∀ f, bq x f = true ↔ f < R * C ∧ b f = b F) (hs : ∀ f, bq s f = true ↔ f = F) (f : Nat) : bq (gSp R C s x) f = true ↔ mG R C b F f := by
  rw [gSp_bits hR1 hR2 hC1 hC2 (fun i hi => ((hx i).mp hi).1)]
  refine RE_iff hx (fun g => ?_)
  rw [hs g, hx g]
  exact ⟨fun h => h.1, fun h => ⟨h, by rw [h]; exact ⟨hF, rfl⟩⟩⟩
theorem bit_iff {k : Nat} (hk : k < 64) (f : Nat) : bq (gBit (nI k)) f = true ↔ f = k := by rw [bq_bit hk, decide_eq_true_iff]
theorem sR_grp {R C : Nat} (hR1 : 1 ≤ R) (hR2 : R ≤ 6) (hC1 : 1 ≤ C) (hC2 : C ≤ 6) (hRC : R * C ≤ 36) {no we : Int64} {b : Nat → Nat} (h : sR R C no we b) {F : Nat} (hF : F < R * C) (h0 : 0 < b F) (f : Nat) : bq (gGrp R C no we F) f = true ↔ mG R C b F f := by
  have hb := h.2.2 F hF
  unfold gGrp
  rw [sR_at h hF, if_neg (by omega)]
  exact mG_set hR1 hR2 hC1 hC2 hF (fun g => sR_st h (by omega) g) (fun g => bit_iff (by omega) g) f
theorem sR_grp0 {R C : Nat} {no we : Int64} {b : Nat → Nat} (h : sR R C no we b) {F : Nat} (hF : F < R * C) (h0 : b F = 0) : gGrp R C no we F = 0 := by
  unfold gGrp
  rw [sR_at h hF, if_pos h0]
theorem sR_gne {R C : Nat} (hR1 : 1 ≤ R) (hR2 : R ≤ 6) (hC1 : 1 ≤ C) (hC2 : C ≤ 6) (hRC : R * C ≤ 36) {no we : Int64} {b : Nat → Nat} (h : sR R C no we b) {F : Nat} (hF : F < R * C) (h0 : 0 < b F) : gGrp R C no we F ≠ 0 := fun e => by
  have := (sR_grp hR1 hR2 hC1 hC2 hRC h hF h0 F).mpr (RE_base rfl)
  rw [e, bq_0] at this
  cases this
theorem sR_low {R C : Nat} (hR1 : 1 ≤ R) (hR2 : R ≤ 6) (hC1 : 1 ≤ C) (hC2 : C ≤ 6) (hRC : R * C ≤ 36) {no we : Int64} {b : Nat → Nat} (h : sR R C no we b) {F g : Nat} (hF : F < R * C) (h0 : 0 < b F) (hg : mG R C b F g) (hm : ∀ x, x < g → ¬ mG R C b F x) : gLow (gGrp R C no we F) = nI g :=
  gLow_at ⟨(sR_grp hR1 hR2 hC1 hC2 hRC h hF h0 g).mpr hg, fun j hj => by
    cases q : bq (gGrp R C no we F) j with
    | false => rfl
    | true => exact absurd ((sR_grp hR1 hR2 hC1 hC2 hRC h hF h0 j).mp q) (hm j hj)⟩
theorem bq_eqB {x : Int64} {f : Nat} {v : Bool} (h : bq x f = true ↔ v = true) : bq x f = v := by
  cases v with
  | true => exact h.mpr rfl
  | false =>
    cases q : bq x f with
    | false => rfl
    | true => exact absurd (h.mp q) (by decide)
theorem sR_gct {R C : Nat} (hR1 : 1 ≤ R) (hR2 : R ≤ 6) (hC1 : 1 ≤ C) (hC2 : C ≤ 6) (hRC : R * C ≤ 36) {no we : Int64} {b : Nat → Nat} (h : sR R C no we b) {F : Nat} (hF : F < R * C) (h0 : 0 < b F) : pcn (gGrp R C no we F) = fb_ct (mGb R C b F) (R * C) := by
  have e := sR_grp hR1 hR2 hC1 hC2 hRC h hF h0
  rw [pcn_top (fun i hi => (mG_in hF ((e i).mp hi)).1) (by omega)]
  exact fb_ct_cong (fun k _ => bq_eqB ((e k).trans mGb_iff.symm))
theorem sR_gem {R C : Nat} (hR1 : 1 ≤ R) (hR2 : R ≤ 6) (hC1 : 1 ≤ C) (hC2 : C ≤ 6) (hRC : R * C ≤ 36) {no we : Int64} {b : Nat → Nat} (h : sR R C no we b) {F : Nat} (hF : F < R * C) (h0 : 0 < b F) : pcn (gBes R C (gGrp R C no we F) &&& gSpots R C no we) = fb_ct (mLb R C b F) (R * C) := by
  have e := sR_grp hR1 hR2 hC1 hC2 hRC h hF h0
  have hin : ∀ i, bq (gGrp R C no we F) i = true → i < R * C := fun i hi => (mG_in hF ((e i).mp hi)).1
  have e2 : ∀ i, bq (gBes R C (gGrp R C no we F) &&& gSpots R C no we) i = true ↔ i < R * C ∧ mLb R C b F i = true := by
    intro i
    rw [bq_and, Bool.and_eq_true, gBes_bits hR1 hR2 hC1 hC2 hin, sR_sp hR2 hC2 h, mLb_iff]
    constructor
    · rintro ⟨⟨h1, g, h2, h3⟩, _, h4⟩
      exact ⟨h1, h4, g, hin g h2, h3, (e g).mp h2⟩
    · rintro ⟨h1, h4, g, h2, h3, h5⟩
      exact ⟨⟨h1, g, (e g).mpr h5, h3⟩, h1, h4⟩
  rw [pcn_top (fun i hi => ((e2 i).mp hi).1) (by omega)]
  exact fb_ct_cong (fun k hk => bq_eqB ((e2 k).trans ⟨fun q => q.2, fun q => ⟨hk, q⟩⟩))
/-! the banks of a group -/
theorem mOr_tb {R C : Nat} {b : Nat → Nat} {F j : Nat} : ∀ n, (mOr R C b F n).testBit j = true ↔ ∃ g, g < n ∧ mG R C b F g ∧ (mBk R C g).testBit j = true
  | 0 => ⟨fun h => (by rw [show mOr R C b F 0 = 0 from rfl, Nat.zero_testBit] at h; cases h), fun ⟨g, h, _⟩ => absurd h (Nat.not_lt_zero g)⟩
  | n + 1 => by
    by_cases c : mG R C b F n
    · rw [mOr_t (mGb_iff.mpr c), Nat.testBit_or, Bool.or_eq_true, mOr_tb n]
      constructor
      · rintro (⟨g, h1, h2⟩ | h)
        · exact ⟨g, by omega, h2⟩
        · exact ⟨n, Nat.lt_succ_self n, c, h⟩
      · rintro ⟨g, h1, h2, h3⟩
        rcases Nat.eq_or_lt_of_le (Nat.le_of_lt_succ h1) with q | q
        · rw [q] at h3; exact Or.inr h3
        · exact Or.inl ⟨g, q, h2, h3⟩
    · have c2 : mGb R C b F n = false := by
        cases q : mGb R C b F n with
        | false => rfl
        | true => exact absurd (mGb_iff.mp q) c
      rw [mOr_f c2, mOr_tb n]
      constructor
      · rintro ⟨g, h1, h2⟩; exact ⟨g, by omega, h2⟩
      · rintro ⟨g, h1, h2, h3⟩
        rcases Nat.eq_or_lt_of_le (Nat.le_of_lt_succ h1) with q | q
        · rw [q] at h2; exact absurd h2 c
        · exact ⟨g, q, h2, h3⟩
theorem tb_no {p : Prop} (d : Decidable p) (i j : Nat) : (@ite Nat p d 0 (2 ^ i)).testBit j = true ↔ ¬ p ∧ j = i := by
  by_cases c : p
  · rw [if_pos c, Nat.zero_testBit]
    exact ⟨fun h => (by cases h), fun h => absurd c h.1⟩
  · rw [if_neg c, Nat.testBit_two_pow, decide_eq_true_iff]
    exact ⟨fun h => ⟨c, h.symm⟩, fun h => h.2.symm⟩
theorem tb_ye {p : Prop} (d : Decidable p) (i j : Nat) : (@ite Nat p d (2 ^ i) 0).testBit j = true ↔ p ∧ j = i := by
  by_cases c : p
  · rw [if_pos c, Nat.testBit_two_pow, decide_eq_true_iff]
    exact ⟨fun h => ⟨c, h.symm⟩, fun h => h.2.symm⟩
  · rw [if_neg c, Nat.zero_testBit]
    exact ⟨fun h => (by cases h), fun h => absurd h.1 c⟩
theorem tb_or {a b j : Nat} : (a ||| b).testBit j = true ↔ a.testBit j = true ∨ b.testBit j = true := by rw [Nat.testBit_or, Bool.or_eq_true]
theorem mBk_tb (R C g j : Nat) : (mBk R C g).testBit j = true ↔ ((g / C = 0 ∧ j = 0) ∨ (g / C = R - 1 ∧ j = 1)) ∨ ((g % C = 0 ∧ j = 2) ∨ (g % C = C - 1 ∧ j = 3)) := by
  have h0 := tb_ye (p := g / C = 0) (Nat.decEq _ _) 0 j
  have h1 := tb_ye (p := g / C = R - 1) (Nat.decEq _ _) 1 j
  have h2 := tb_ye (p := g % C = 0) (Nat.decEq _ _) 2 j
  have h3 := tb_ye (p := g % C = C - 1) (Nat.decEq _ _) 3 j
  rw [← h0, ← h1, ← h2, ← h3, ← tb_or, ← tb_or, ← tb_or]
  exact Iff.rfl
theorem nI_ite {p : Prop} (d : Decidable p) (a b : Nat) : @ite Int32 p d (nI a) (nI b) = nI (@ite Nat p d a b) := by
  by_cases c : p
  · rw [if_pos c, if_pos c]
  · rw [if_neg c, if_neg c]
theorem sR_bk {R C : Nat} (hR1 : 1 ≤ R) (hR2 : R ≤ 6) (hC1 : 1 ≤ C) (hC2 : C ≤ 6) (hRC : R * C ≤ 36) {no we : Int64} {b : Nat → Nat} (h : sR R C no we b) {F : Nat} (hF : F < R * C) (h0 : 0 < b F) : gBk R C (gGrp R C no we F) = nI (mOr R C b F (R * C)) := by
  have e := sR_grp hR1 hR2 hC1 hC2 hRC h hF h0
  generalize hx : gGrp R C no we F = x at e
  have hin : ∀ i, bq x i = true → i < R * C := fun i hi => (mG_in hF ((e i).mp hi)).1
  have key : ∀ (t : Int64) (p : Nat → Prop), (∀ f, f < R * C → (bq t f = true ↔ p f)) → (¬ x &&& t = 0 ↔ ∃ g, g < R * C ∧ mG R C b F g ∧ p g) := by
    intro t p hp
    rw [show (¬ x &&& t = 0) = (x &&& t ≠ 0) from rfl, and_ne0]
    constructor
    · rintro ⟨i, h1, h2⟩; exact ⟨i, hin i h1, (e i).mp h1, (hp i (hin i h1)).mp h2⟩
    · rintro ⟨i, h1, h2, h3⟩; exact ⟨i, (e i).mpr h2, (hp i h1).mpr h3⟩
  have k1 := key (gNo C) (fun g => g / C = 0) (fun f hf => (bN hC1 hC2 hRC hf).trans bk_1)
  have k2 := key (gSo R C) (fun g => g / C = R - 1) (fun f hf => (bS hR1 hR2 hC2 hRC hf).trans bk_2)
  have k3 := key (gWeN C R) (fun g => g % C = 0) (fun f hf => (bW hR2 hC1 hC2 hRC hf).trans bk_4)
  have k4 := key (gEa R C) (fun g => g % C = C - 1) (fun f hf => (bE hR2 hC1 hC2 hRC hf).trans bk_8)
  unfold gBk
  rw [nI_ite, nI_ite, nI_ite, nI_ite, fa_or, fa_or, fa_or]
  apply congrArg nI
  apply Nat.eq_of_testBit_eq
  intro j
  apply Bool.eq_iff_iff.mpr
  rw [mOr_tb, tb_or, tb_or, tb_or]
  have t1 := tb_no (p := x &&& gNo C = 0) inferInstance 0 j
  have t2 := tb_no (p := x &&& gSo R C = 0) inferInstance 1 j
  have t3 := tb_no (p := x &&& gWeN C R = 0) inferInstance 2 j
  have t4 := tb_no (p := x &&& gEa R C = 0) inferInstance 3 j
  rw [k1] at t1
  rw [k2] at t2
  rw [k3] at t3
  rw [k4] at t4
  refine Iff.trans (or_congr (or_congr (or_congr t1 t2) t3) t4) ?_
  constructor
  · rintro (((⟨⟨g, h1, h2, h3⟩, hj⟩ | ⟨⟨g, h1, h2, h3⟩, hj⟩) | ⟨⟨g, h1, h2, h3⟩, hj⟩) | ⟨⟨g, h1, h2, h3⟩, hj⟩)
    · exact ⟨g, h1, h2, (mBk_tb R C g j).mpr (Or.inl (Or.inl ⟨h3, hj⟩))⟩
    · exact ⟨g, h1, h2, (mBk_tb R C g j).mpr (Or.inl (Or.inr ⟨h3, hj⟩))⟩
    · exact ⟨g, h1, h2, (mBk_tb R C g j).mpr (Or.inr (Or.inl ⟨h3, hj⟩))⟩
    · exact ⟨g, h1, h2, (mBk_tb R C g j).mpr (Or.inr (Or.inr ⟨h3, hj⟩))⟩
  · rintro ⟨g, h1, h2, h3⟩
    rcases (mBk_tb R C g j).mp h3 with (⟨h4, hj⟩ | ⟨h4, hj⟩) | (⟨h4, hj⟩ | ⟨h4, hj⟩)
    · exact Or.inl (Or.inl (Or.inl ⟨⟨g, h1, h2, h4⟩, hj⟩))
    · exact Or.inl (Or.inl (Or.inr ⟨⟨g, h1, h2, h4⟩, hj⟩))
    · exact Or.inl (Or.inr ⟨⟨g, h1, h2, h4⟩, hj⟩)
    · exact Or.inr ⟨⟨g, h1, h2, h4⟩, hj⟩
/-! how many groups -/
theorem mGrP_iff {R C : Nat} {b : Nat → Nat} {cl f : Nat} : mGrP R C b cl f = true ↔ (b f = cl ∧ ∀ x, x < f → ¬ mG R C b f x) := by unfold mGrP; exact @decide_eq_true_iff _ (Classical.propDecidable _)
def cloP (R C : Nat) (b : Nat → Nat) (cl : Nat) (r : Int64) : Prop := ∀ f, bq r f = true → (f < R * C ∧ b f = cl) ∧ ∀ g, mG R C b f g → bq r g = true
theorem gGrN_ct {R C : Nat} (hR1 : 1 ≤ R) (hR2 : R ≤ 6) (hC1 : 1 ≤ C) (hC2 : C ≤ 6) (hRC : R * C ≤ 36) {b : Nat → Nat} {cl : Nat} {w : Int64} (hw : ∀ f, bq w f = true ↔ f < R * C ∧ b f = cl) : ∀ (n : Nat) (r : Int64), cloP R C b cl r → fb_ct (fun f => bq r f && mGrP R C b cl f) (R * C) ≤ n → gGrN R C w n r = fb_ct (fun f => bq r f && mGrP R C b cl f) (R * C)
  | 0, r, _, h => by show 0 = _; omega
  | n + 1, r, hc, h => by
    by_cases h0 : r = 0
    · rw [gGrN_0 h0]
      symm
      apply fb_ct_zero.mpr
      intro k _
      rw [h0, bq_0]; rfl
    · rw [gGrN_s h0]
      obtain ⟨k, _, hk⟩ := lowB_of h0
      have hk1 := hc k hk.1
      have hk2 : k < R * C := hk1.1.1
      rw [low_bit hk]
      have hg : ∀ f, bq (gSp R C (gBit (nI k)) w) f = true ↔ mG R C b k f := fun f => mG_set hR1 hR2 hC1 hC2 hk2 (fun g => by rw [hw g, hk1.1.2]) (fun g => bit_iff (by omega) g) f
      generalize hx : gSp R C (gBit (nI k)) w = x at hg
      have hr : ∀ f, bq (r &&& (x ^^^ (-1))) f = (bq r f && !bq x f) := fun f => bq_andn r x f
      have hc2 : cloP R C b cl (r &&& (x ^^^ (-1))) := by
        intro f hf
        rw [hr, Bool.and_eq_true] at hf
        have hf1 := hc f hf.1
        refine ⟨hf1.1, fun g hgf => ?_⟩
        rw [hr, hf1.2 g hgf]
        cases q : bq x g with
        | false => rfl
        | true =>
          have hkf := mG_trans hk2 ((hg g).mp q) (mG_symm hf1.1.1 hgf)
          have h9 := hf.2
          rw [(hg f).mpr hkf] at h9
          cases h9
      have hkp : mGrP R C b cl k = true := mGrP_iff.mpr ⟨hk1.1.2, fun y hy hm => by
        have := hk1.2 y hm
        rw [hk.2 y hy] at this
        cases this⟩
      have e1 : fb_ct (fun f => bq r f && mGrP R C b cl f) (R * C) = fb_ct (fun f => if f = k then true else (bq (r &&& (x ^^^ (-1))) f && mGrP R C b cl f)) (R * C) := by
        apply fb_ct_cong
        intro f hf
        by_cases c : f = k
        · rw [if_pos c, c, hk.1, hkp]; rfl
        · rw [if_neg c, hr]
          cases q : bq x f with
          | false => cases bq r f <;> rfl
          | true =>
            have hm := (hg f).mp q
            have hp : mGrP R C b cl f = false := by
              cases q2 : mGrP R C b cl f with
              | false => rfl
              | true =>
                have hlt : k < f := by
                  rcases Nat.lt_trichotomy f k with a | a | a
                  · have := hk1.2 f hm
                    rw [hk.2 f a] at this
                    cases this
                  · exact absurd a c
                  · exact a
                exact absurd (mG_symm hk2 hm) ((mGrP_iff.mp q2).2 k hlt)
            rw [hp]
            cases bq r f <;> rfl
      have hxk : bq x k = true := (hg k).mpr (RE_base rfl)
      have e2 := fb_ct_upd (fun f => bq (r &&& (x ^^^ (-1))) f && mGrP R C b cl f) true hk2
      have e3 : (bq (r &&& (x ^^^ (-1))) k && mGrP R C b cl k) = false := by rw [hr, hxk]; cases bq r k <;> rfl
      simp only [e3, if_true, Bool.false_eq_true, if_false] at e2
      rw [e1] at h ⊢
      rw [gGrN_ct hR1 hR2 hC1 hC2 hRC hw n _ hc2 (by omega)]
      omega
theorem sR_grs {R C : Nat} (hR1 : 1 ≤ R) (hR2 : R ≤ 6) (hC1 : 1 ≤ C) (hC2 : C ≤ 6) (hRC : R * C ≤ 36) {b : Nat → Nat} {cl : Nat} {w : Int64} (hw : ∀ f, bq w f = true ↔ f < R * C ∧ b f = cl) : gGr R C w = fb_ct (mGrP R C b cl) (R * C) := by
  have hc : cloP R C b cl w := fun f hf => by
    have h1 := (hw f).mp hf
    refine ⟨h1, fun g hg => ?_⟩
    have h2 := mG_in h1.1 hg
    exact (hw g).mpr ⟨h2.1, by rw [h2.2, h1.2]⟩
  have e : fb_ct (fun f => bq w f && mGrP R C b cl f) (R * C) = fb_ct (mGrP R C b cl) (R * C) := by
    apply fb_ct_cong
    intro k hk
    cases q : mGrP R C b cl k with
    | false => exact Bool.and_false _
    | true => rw [(hw k).mpr ⟨hk, (mGrP_iff.mp q).1⟩]; rfl
  unfold gGr
  have hl := fb_ct_le (mGrP R C b cl) (R * C)
  rw [gGrN_ct hR1 hR2 hC1 hC2 hRC hw 36 w hc (by omega), e]
/-! the fields over the way -/
theorem nI_or_bit {x : Int64} {k : Nat} (hk : k < 64) (i : Nat) : bq (x ||| gBit (nI k)) i = true ↔ bq x i = true ∨ i = k := by rw [bq_or, Bool.or_eq_true, bit_iff hk]
theorem and_bit0 {x : Int64} {k : Nat} (hk : k < 64) : x &&& gBit (nI k) = 0 ↔ bq x k = false := by
  constructor
  · intro h
    have := congrArg (fun y => bq y k) h
    simp only [bq_and, bq_0] at this
    rw [(bit_iff hk k).mpr rfl, Bool.and_true] at this
    exact this
  · intro h
    apply bq_eq0.mpr
    intro i _
    rw [bq_and]
    by_cases c : i = k
    · rw [c, h]; rfl
    · cases q : bq (gBit (nI k)) i with
      | false => exact Bool.and_false _
      | true => exact absurd ((bit_iff hk i).mp q) c
theorem rcell {R C r c : Nat} (hr : r < R) (hc : c < C) : C * r + c < R * C := by
  have : C * (r + 1) ≤ C * R := Nat.mul_le_mul_left C hr
  rw [Nat.mul_succ, Nat.mul_comm C R] at this
  omega
theorem gTuI_bits {R C : Nat} (hRC : R * C ≤ 36) {x : Int64} {r : Nat} (hr : r < R) {a : Int64} : ∀ (c : Nat), c ≤ C → ∀ i, bq (gTuI R C x r a c) i = true ↔ bq a i = true ∨ ∃ d, d < c ∧ i = R * d + r ∧ bq x (C * r + d) = true
  | 0, _, i => ⟨fun h => Or.inl h, fun h => by
    rcases h with h | ⟨d, h, _⟩
    · exact h
    · exact absurd h (Nat.not_lt_zero d)⟩
  | c + 1, hc, i => by
    have ih := gTuI_bits hRC hr (x := x) (a := a) c (by omega) i
    have l1 := rcell (R := R) (C := C) hr (show c < C by omega)
    have l2 := rcell (R := C) (C := R) (show c < C by omega) hr
    rw [Nat.mul_comm C R] at l2
    by_cases h0 : x &&& gBit (nI (C * r + c)) = 0
    · rw [gTuI_s0 h0, ih]
      have hz := (and_bit0 (by omega)).mp h0
      constructor
      · rintro (h | ⟨d, h1, h2⟩)
        · exact Or.inl h
        · exact Or.inr ⟨d, by omega, h2⟩
      · rintro (h | ⟨d, h1, h2, h3⟩)
        · exact Or.inl h
        · rcases Nat.eq_or_lt_of_le (Nat.le_of_lt_succ h1) with q | q
          · rw [q, hz] at h3; cases h3
          · exact Or.inr ⟨d, q, h2, h3⟩
    · rw [gTuI_s1 h0, nI_or_bit (by omega), ih]
      have ho : bq x (C * r + c) = true := by
        cases q : bq x (C * r + c) with
        | true => rfl
        | false => exact absurd ((and_bit0 (by omega)).mpr q) h0
      constructor
      · rintro ((h | ⟨d, h1, h2⟩) | h)
        · exact Or.inl h
        · exact Or.inr ⟨d, by omega, h2⟩
        · exact Or.inr ⟨c, Nat.lt_succ_self c, h, ho⟩
      · rintro (h | ⟨d, h1, h2, h3⟩)
        · exact Or.inl (Or.inl h)
        · rcases Nat.eq_or_lt_of_le (Nat.le_of_lt_succ h1) with q | q
          · rw [q] at h2; exact Or.inr h2
          · exact Or.inl (Or.inr ⟨d, q, h2, h3⟩)
theorem gTuO_bits {R C : Nat} (hRC : R * C ≤ 36) {x : Int64} : ∀ (r : Nat), r ≤ R → ∀ i, bq (gTuO R C x r) i = true ↔ ∃ s d, s < r ∧ d < C ∧ i = R * d + s ∧ bq x (C * s + d) = true
  | 0, _, i => ⟨fun h => (by
    have h : bq 0 i = true := h
    rw [bq_0] at h; cases h), fun ⟨s, _, h, _⟩ => absurd h (Nat.not_lt_zero s)⟩
  | r + 1, hr, i => by
    show bq (gTuI R C x r (gTuO R C x r) C) i = true ↔ _
    rw [gTuI_bits hRC (by omega) C (Nat.le_refl _) i, gTuO_bits hRC r (by omega) i]
    constructor
    · rintro (⟨s, d, h1, h2⟩ | ⟨d, h1, h2⟩)
      · exact ⟨s, d, by omega, h2⟩
      · exact ⟨r, d, Nat.lt_succ_self r, h1, h2⟩
    · rintro ⟨s, d, h1, h2, h3⟩
      rcases Nat.eq_or_lt_of_le (Nat.le_of_lt_succ h1) with q | q
      · rw [q] at h3; exact Or.inr ⟨d, h2, h3⟩
      · exact Or.inl ⟨s, d, q, h2, h3⟩
theorem gTu_bits {R C : Nat} (hC1 : 1 ≤ C) (hRC : R * C ≤ 36) {x : Int64} (i : Nat) : bq (gTu R C x) i = true ↔ ∃ f, f < R * C ∧ i = tW R C f ∧ bq x f = true := by
  unfold gTu
  rw [gTuO_bits hRC R (Nat.le_refl _) i]
  constructor
  · rintro ⟨s, d, h1, h2, h3, h4⟩
    have e1 : (C * s + d) / C = s := by rw [Nat.mul_add_div (by omega), Nat.div_eq_of_lt h2, Nat.add_zero]
    have e2 : (C * s + d) % C = d := by rw [Nat.mul_add_mod, Nat.mod_eq_of_lt h2]
    exact ⟨C * s + d, rcell h1 h2, by unfold tW; rw [e1, e2]; exact h3, h4⟩
  · rintro ⟨f, h1, h2, h3⟩
    exact ⟨f / C, f % C, fd_lt h1, Nat.mod_lt f (by omega), h2, by rw [Nat.div_add_mod]; exact h3⟩
theorem sR_change {R C : Nat} (hR1 : 1 ≤ R) (hC1 : 1 ≤ C) (hRC : R * C ≤ 36) {no we : Int64} {b t : Nat → Nat} (h : sR R C no we b) (ht : ∀ x, x < R * C → t (tW R C x) = chV (b x)) : sR C R (gTu R C we) (gTu R C no) t := by
  have hi : ∀ i, i < C * R → ∃ f, f < R * C ∧ i = tW R C f := fun i hi => by
    have h1 := tW_lt hC1 hR1 hi
    exact ⟨tW C R i, by rw [Nat.mul_comm R C]; exact h1, (tW_inv hC1 hi).symm⟩
  have cm : C * R = R * C := Nat.mul_comm C R
  refine ⟨fun i => ?_, fun i => ?_, fun i hi2 => ?_⟩
  · rw [gTu_bits hC1 hRC]
    constructor
    · rintro ⟨f, h1, rfl, h3⟩
      refine ⟨by rw [cm]; exact tW_lt hR1 hC1 h1, ?_⟩
      rw [ht f h1, ((h.2.1 f).mp h3).2]; rfl
    · rintro ⟨h1, h2⟩
      obtain ⟨f, f1, rfl⟩ := hi i h1
      rw [ht f f1] at h2
      have := h.2.2 f f1
      refine ⟨f, f1, rfl, (h.2.1 f).mpr ⟨f1, ?_⟩⟩
      rcases (show b f = 0 ∨ b f = 1 ∨ b f = 2 by omega) with q | q | q
      · rw [q] at h2; cases h2
      · rw [q] at h2; cases h2
      · exact q
  · rw [gTu_bits hC1 hRC]
    constructor
    · rintro ⟨f, h1, rfl, h3⟩
      refine ⟨by rw [cm]; exact tW_lt hR1 hC1 h1, ?_⟩
      rw [ht f h1, ((h.1 f).mp h3).2]; rfl
    · rintro ⟨h1, h2⟩
      obtain ⟨f, f1, rfl⟩ := hi i h1
      rw [ht f f1] at h2
      have := h.2.2 f f1
      refine ⟨f, f1, rfl, (h.1 f).mpr ⟨f1, ?_⟩⟩
      rcases (show b f = 0 ∨ b f = 1 ∨ b f = 2 by omega) with q | q | q
      · rw [q] at h2; cases h2
      · exact q
      · rw [q] at h2; cases h2
  · obtain ⟨f, f1, rfl⟩ := hi i hi2
    rw [ht f f1]
    have := h.2.2 f f1
    unfold chV
    split <;> omega
/-! the class's game and the reference's -/
theorem ey_rank {R C : Nat} {b ey : Nat → Nat} (h : eyP b (R * C) ey) (hn : fb_ct (mE b) (R * C) ≤ 10) {f : Nat} (hf : f < R * C) (h0 : b f = 0) : fb_ct (mE b) f < fb_ct (mE b) (R * C) ∧ ey (fb_ct (mE b) f) = f := by
  have h8 := fb_ct_mono (mE b) (show f + 1 ≤ R * C by omega)
  rw [ct_1 (decide_eq_true h0)] at h8
  exact ⟨by omega, h f hf h0 (by omega)⟩
theorem full_off {R C : Nat} {b ey : Nat → Nat} (h : eyP b (R * C) ey) (hn : fb_ct (mE b) (R * C) ≤ 10) {c f : Nat} (h0 : b f ≠ 0) : mFill b ey c (fb_ct (mE b) (R * C)) f = b f :=
  mFill_off (fun k hk e => h0 (by rw [← e]; exact (ey_lt h hn k hk).2.1))
theorem full_on {R C : Nat} {b ey : Nat → Nat} (h : eyP b (R * C) ey) (hn : fb_ct (mE b) (R * C) ≤ 10) {c f : Nat} (hf : f < R * C) (h0 : b f = 0) : mFill b ey c (fb_ct (mE b) (R * C)) f = dg c (fb_ct (mE b) f) := by
  obtain ⟨h1, h2⟩ := ey_rank h hn hf h0
  have := mFill_at (b := b) (ey := ey) (cd := c) (k := fb_ct (mE b) f) (n := fb_ct (mE b) (R * C)) (ey_inj h hn) h1
  rw [h2] at this
  exact this
theorem full_set {R C : Nat} (hR2 : R ≤ 6) (hC2 : C ≤ 6) {no we : Int64} {b ey : Nat → Nat} (h : sR R C no we b) (he : eyP b (R * C) ey) (hn : fb_ct (mE b) (R * C) ≤ 10) {cv : Nat} (hc : cv = 1 ∨ cv = 2) (c f : Nat) : bq (gSt no we cv ||| fLaid (gSpots R C no we) (mkD cv c (fb_ct (mE b) (R * C)))) f = true ↔ f < R * C ∧ mFill b ey c (fb_ct (mE b) (R * C)) f = cv := by
  rw [bq_or, Bool.or_eq_true, sR_st h hc]
  constructor
  · rintro (⟨h1, h2⟩ | h1)
    · exact ⟨h1, by rw [full_off he hn (by omega)]; exact h2⟩
    · obtain ⟨h2, h3⟩ := fLaid_in h1
      obtain ⟨h4, h5⟩ := (sR_sp hR2 hC2 h f).mp h2
      rw [sR_ct hR2 hC2 h (by omega), mkD_bit _ _ _ _ (ey_rank he hn h4 h5).1, decide_eq_true_iff] at h3
      exact ⟨h4, by rw [full_on he hn h4 h5]; exact h3⟩
  · rintro ⟨h1, h2⟩
    by_cases h0 : b f = 0
    · rw [full_on he hn h1 h0] at h2
      refine Or.inr ?_
      have hRC := rc_lt36 hR2 hC2
      rw [fLaid_bits _ _ (by omega), (sR_sp hR2 hC2 h f).mpr ⟨h1, h0⟩, sR_ct hR2 hC2 h (by omega), mkD_bit _ _ _ _ (ey_rank he hn h1 h0).1, decide_eq_true h2]
      rfl
    · rw [full_off he hn h0] at h2
      exact Or.inl ⟨h1, h2⟩
theorem dec_jB {P Q : Prop} (d : Decidable P) (h : P ↔ Q) : decide P = jB Q := by
  by_cases c : Q
  · rw [jB_t c]; exact decide_eq_true (h.mpr c)
  · rw [jB_f c]; exact decide_eq_false (fun p => c (h.mp p))
theorem bQ_jb {R C : Nat} (hR1 : 1 ≤ R) (hR2 : R ≤ 6) (hC1 : 1 ≤ C) (hC2 : C ≤ 6) (hRC : R * C ≤ 36) {no we : Int64} {b ey : Nat → Nat} (h : sR R C no we b) (he : eyP b (R * C) ey) (hn : fb_ct (mE b) (R * C) ≤ 10) (c : Nat) : jb R C b ey (fb_ct (mE b) (R * C)) 1 c = bQ R C no we (mkD 1 c (fb_ct (mE b) (R * C))) := by
  unfold jb bQ fQ
  exact (dec_jB _ (mJ_set (cl := 1) hR1 hR2 hC1 hC2 hRC (full_set hR2 hC2 h he hn (cv := 1) (Or.inl rfl) c))).symm
theorem lQ_jl {R C : Nat} (hR1 : 1 ≤ R) (hR2 : R ≤ 6) (hC1 : 1 ≤ C) (hC2 : C ≤ 6) (hRC : R * C ≤ 36) {no we : Int64} {b ey : Nat → Nat} (h : sR R C no we b) (he : eyP b (R * C) ey) (hn : fb_ct (mE b) (R * C) ≤ 10) {cv x y : Nat} (hc : cv = 1 ∨ cv = 2) (hx : x < R * C) (hy : y < R * C) (c : Nat) : jl R C b ey (fb_ct (mE b) (R * C)) cv x y c = lQ R C no we cv x y (mkD cv c (fb_ct (mE b) (R * C))) := by
  have hs := full_set hR2 hC2 h he hn hc c
  unfold jl lQ fQ
  generalize gSt no we cv ||| fLaid (gSpots R C no we) (mkD cv c (fb_ct (mE b) (R * C))) = w at hs
  generalize mFill b ey c (fb_ct (mE b) (R * C)) = b2 at hs
  have hin : ∀ i, bq w i = true → i < R * C := fun i hi => ((hs i).mp hi).1
  refine (dec_jB _ ?_).symm
  rw [and_ne0]
  constructor
  · rintro ⟨i, h1, h2⟩
    have e := (bit_iff (by omega) i).mp h2
    subst e
    rw [gSp_bits hR1 hR2 hC1 hC2 hin] at h1
    have h3 := (hs i).mp (RE_in (P := fun f => bq w f = true) (fun g hg => hg.2) h1)
    obtain ⟨s, s1, s2⟩ := RE_src h1
    have e := (bit_iff (by omega) s).mp s1.1
    subst e
    have h4 := (hs s).mp s1.2
    refine ⟨h4.2, h3.2, ?_⟩
    unfold mG ME
    rw [h4.2]
    exact (RE_iff hs (fun _ => Iff.rfl)).mp s2
  · rintro ⟨h1, h2, h3⟩
    refine ⟨y, ?_, (bit_iff (by omega) y).mpr rfl⟩
    rw [gSp_bits hR1 hR2 hC1 hC2 hin]
    unfold mG ME at h3
    rw [h1] at h3
    exact (RE_iff hs (fun f => ⟨fun q => (bit_iff (by omega) f).mp q.1, fun q => ⟨(bit_iff (by omega) f).mpr q, (hs f).mpr (by rw [q]; exact ⟨hx, h1⟩)⟩⟩)).mpr h3
theorem anyU_cong {p q : Nat → Bool} : ∀ {n : Nat}, (∀ k, k < n → p k = q k) → anyU p n = anyU q n
  | 0, _ => rfl
  | n + 1, h => by
    show (anyU p n || p n) = (anyU q n || q n)
    rw [anyU_cong (fun k hk => h k (by omega)), h n (Nat.lt_succ_self n)]
theorem allU_cong {p q : Nat → Bool} : ∀ {n : Nat}, (∀ k, k < n → p k = q k) → allU p n = allU q n
  | 0, _ => rfl
  | n + 1, h => by
    show (allU p n && p n) = (allU q n && q n)
    rw [allU_cong (fun k hk => h k (by omega)), h n (Nat.lt_succ_self n)]
theorem anyU_not {p q : Nat → Bool} : ∀ {n : Nat}, (∀ k, k < n → p k = !q k) → anyU p n = !allU q n
  | 0, _ => rfl
  | n + 1, h => by
    show (anyU p n || p n) = !(allU q n && q n)
    rw [anyU_not (fun k hk => h k (by omega)), h n (Nat.lt_succ_self n), Bool.not_and]
theorem allU_not {p q : Nat → Bool} : ∀ {n : Nat}, (∀ k, k < n → p k = !q k) → allU p n = !anyU q n
  | 0, _ => rfl
  | n + 1, h => by
    show (allU p n && p n) = !(anyU q n || q n)
    rw [allU_not (fun k hk => h k (by omega)), h n (Nat.lt_succ_self n), Bool.not_or]
theorem zs_kid {c a k n d : Nat} (hz : zs c n = d + 1) (h0 : dg c k = 0) (hk : k < n) (ha : a = 1 ∨ a = 2) : zs (c + a * 3 ^ k) n = d := by
  have := zs_put (a := a) h0 (by omega) (by omega) hk
  omega
theorem rv_1 {q J : Nat → Bool} {n : Nat} (hJ : ∀ c, J c = q (mkD 1 c n)) : ∀ (d c : Nat) (l : Bool), c < 3 ^ n → zs c n = d → rv 1 J n d c l = gv q n d c l
  | 0, c, l, _, _ => hJ c
  | d + 1, c, l, hc, hz => by
    unfold rv gv
    have e1 : ∀ k, k < n → (decide (dg c k = 0) && rv 1 J n d (c + 1 * 3 ^ k) false) = (decide (dg c k = 0) && gv q n d (c + 1 * 3 ^ k) false) := fun k hk => by
      by_cases h0 : dg c k = 0
      · rw [rv_1 hJ d _ _ (dg_bound hc h0 (by decide) hk) (zs_kid hz h0 hk (Or.inl rfl))]
      · rw [decide_eq_false h0]; rfl
    have e2 : ∀ k, k < n → (!decide (dg c k = 0) || rv 1 J n d (c + (3 - 1) * 3 ^ k) true) = (!decide (dg c k = 0) || gv q n d (c + 2 * 3 ^ k) true) := fun k hk => by
      by_cases h0 : dg c k = 0
      · rw [show (3 - 1) * 3 ^ k = 2 * 3 ^ k from rfl, rv_1 hJ d _ _ (dg_bound hc h0 (by decide) hk) (zs_kid hz h0 hk (Or.inr rfl))]
      · rw [decide_eq_false h0]; rfl
    cases l with
    | true => simp only [if_true]; exact anyU_cong e1
    | false => simp only [Bool.false_eq_true, if_false]; exact allU_cong e2
def flip9 (n c e : Nat) : Prop := ∀ k, k < n → (dg c k = 0 ↔ dg e k = 0) ∧ (dg c k = 2 ↔ dg e k = 1)
theorem flip_put {n c e k : Nat} (h : flip9 n c e) (h0 : dg c k = 0) (hk : k < n) : flip9 n (c + 2 * 3 ^ k) (e + 1 * 3 ^ k) ∧ flip9 n (c + 1 * 3 ^ k) (e + 2 * 3 ^ k) := by
  have h1 := (h k hk).1.mp h0
  refine ⟨fun j hj => ?_, fun j hj => ?_⟩
  · rw [dg_put h0 (by decide), dg_put h1 (by decide)]
    by_cases q : j = k
    · rw [if_pos q, if_pos q]; omega
    · rw [if_neg q, if_neg q]; exact h j hj
  · rw [dg_put h0 (by decide), dg_put h1 (by decide)]
    by_cases q : j = k
    · rw [if_pos q, if_pos q]; omega
    · rw [if_neg q, if_neg q]; exact h j hj
theorem flip_mk {n c e : Nat} (h : flip9 n c e) : mkD 1 e n = mkD 2 c n := by
  apply Nat.eq_of_testBit_eq
  intro i
  rcases Nat.lt_or_ge i n with hi | hi
  · rw [mkD_bit _ _ _ _ hi, mkD_bit _ _ _ _ hi]
    by_cases q : dg c i = 2
    · rw [decide_eq_true q, decide_eq_true ((h i hi).2.mp q)]
    · rw [decide_eq_false q, decide_eq_false (fun q2 => q ((h i hi).2.mpr q2))]
  · rw [mkD_out hi, mkD_out hi]
theorem flip_zs {n c e : Nat} (h : flip9 n c e) : ∀ m, m ≤ n → zs c m = zs e m
  | 0, _ => rfl
  | m + 1, hm => by
    unfold zs
    rw [flip_zs h m (by omega)]
    by_cases q : dg c m = 0
    · rw [if_pos q, if_pos ((h m (by omega)).1.mp q)]
    · rw [if_neg q, if_neg (fun q2 => q ((h m (by omega)).1.mpr q2))]
theorem rv_2 {q J : Nat → Bool} {n : Nat} (hJ : ∀ c, J c = q (mkD 2 c n)) : ∀ (d c e : Nat) (l : Bool), c < 3 ^ n → e < 3 ^ n → zs c n = d → flip9 n c e → rv 2 J n d c l = gv q n d e l
  | 0, c, e, l, _, _, _, hf => by show J c = q (mkD 1 e n); rw [flip_mk hf]; exact hJ c
  | d + 1, c, e, l, hc, he, hz, hf => by
    unfold rv gv
    have ez : ∀ k, k < n → decide (dg c k = 0) = decide (dg e k = 0) := fun k hk => by
      by_cases h0 : dg c k = 0
      · rw [decide_eq_true h0, decide_eq_true ((hf k hk).1.mp h0)]
      · rw [decide_eq_false h0, decide_eq_false (fun q2 => h0 ((hf k hk).1.mpr q2))]
    have e1 : ∀ k, k < n → (decide (dg c k = 0) && rv 2 J n d (c + 2 * 3 ^ k) false) = (decide (dg e k = 0) && gv q n d (e + 1 * 3 ^ k) false) := fun k hk => by
      rw [← ez k hk]
      by_cases h0 : dg c k = 0
      · have h1 := (hf k hk).1.mp h0
        rw [rv_2 hJ d _ _ _ (dg_bound hc h0 (by decide) hk) (dg_bound he h1 (by decide) hk) (zs_kid hz h0 hk (Or.inr rfl)) (flip_put hf h0 hk).1]
      · rw [decide_eq_false h0]; rfl
    have e2 : ∀ k, k < n → (!decide (dg c k = 0) || rv 2 J n d (c + (3 - 2) * 3 ^ k) true) = (!decide (dg e k = 0) || gv q n d (e + 2 * 3 ^ k) true) := fun k hk => by
      rw [← ez k hk]
      by_cases h0 : dg c k = 0
      · have h1 := (hf k hk).1.mp h0
        rw [show (3 - 2) * 3 ^ k = 1 * 3 ^ k from rfl, rv_2 hJ d _ _ _ (dg_bound hc h0 (by decide) hk) (dg_bound he h1 (by decide) hk) (zs_kid hz h0 hk (Or.inl rfl)) (flip_put hf h0 hk).2]
      · rw [decide_eq_false h0]; rfl
    cases l with
    | true => simp only [if_true]; exact anyU_cong e1
    | false => simp only [Bool.false_eq_true, if_false]; exact allU_cong e2
theorem rv_n {q J : Nat → Bool} {n : Nat} (hJ : ∀ c, c < 3 ^ n → zs c n = 0 → J c = !q (mkD 1 c n)) : ∀ (d c : Nat) (l : Bool), c < 3 ^ n → zs c n = d → rv 2 J n d c l = !gv q n d c (!l)
  | 0, c, l, hc, hz => hJ c hc hz
  | d + 1, c, l, hc, hz => by
    unfold rv gv
    have e1 : ∀ k, k < n → (decide (dg c k = 0) && rv 2 J n d (c + 2 * 3 ^ k) false) = !(!decide (dg c k = 0) || gv q n d (c + 2 * 3 ^ k) true) := fun k hk => by
      by_cases h0 : dg c k = 0
      · rw [rv_n hJ d _ _ (dg_bound hc h0 (by decide) hk) (zs_kid hz h0 hk (Or.inr rfl)), decide_eq_true h0]; rfl
      · rw [decide_eq_false h0]; rfl
    have e2 : ∀ k, k < n → (!decide (dg c k = 0) || rv 2 J n d (c + (3 - 2) * 3 ^ k) true) = !(decide (dg c k = 0) && gv q n d (c + 1 * 3 ^ k) false) := fun k hk => by
      by_cases h0 : dg c k = 0
      · rw [show (3 - 2) * 3 ^ k = 1 * 3 ^ k from rfl, rv_n hJ d _ _ (dg_bound hc h0 (by decide) hk) (zs_kid hz h0 hk (Or.inl rfl)), decide_eq_true h0]; rfl
      · rw [decide_eq_false h0]; rfl
    cases l with
    | true => simp only [if_true, Bool.not_true, Bool.false_eq_true, if_false]; exact anyU_not e1
    | false => simp only [Bool.not_false, Bool.false_eq_true, if_false, if_true]; exact allU_not e2
/-! on a full board just one has joined -/
theorem adj_tA {C f g : Nat} (h : adj C f g) : tA (f / C, f % C) (g / C, g % C) := h
theorem adj_tA2 {C f g : Nat} (h : adj C f g) : tA (f % C, f / C) (g % C, g / C) := by
  unfold adj at h
  unfold tA
  simp only
  generalize f / C = a at *
  generalize f % C = b at *
  generalize g / C = c at *
  generalize g % C = d at *
  omega
theorem dm_1 {C i j : Nat} (h : j < C) : (C * i + j) / C = i := by rw [Nat.mul_add_div (by omega), Nat.div_eq_of_lt h, Nat.add_zero]
theorem dm_2 {C i j : Nat} (h : j < C) : (C * i + j) % C = j := by rw [Nat.mul_add_mod, Nat.mod_eq_of_lt h]
theorem tA_adj {C : Nat} {a c : Nat × Nat} (ha : a.2 < C) (hc : c.2 < C) (h : tA a c) : adj C (C * a.1 + a.2) (C * c.1 + c.2) := by
  unfold adj
  rw [dm_1 ha, dm_1 hc, dm_2 ha, dm_2 hc]
  exact h
theorem tA_adj2 {C : Nat} {a c : Nat × Nat} (ha : a.1 < C) (hc : c.1 < C) (h : tA a c) : adj C (C * a.2 + a.1) (C * c.2 + c.1) := by
  unfold adj
  rw [dm_1 ha, dm_1 hc, dm_2 ha, dm_2 hc]
  unfold tA at h
  omega
theorem mJ_h1 {R C : Nat} (hR1 : 1 ≤ R) (hC1 : 1 ≤ C) {b : Nat → Nat} : mJ R C b 1 ↔ hJ R C (fun a => b (C * a.1 + a.2) = 1) := by
  have hp : ∀ f, f < R * C → b f = 1 → hP R C (fun a => b (C * a.1 + a.2) = 1) (f / C, f % C) := fun f hf h => ⟨fd_lt hf, Nat.mod_lt f (by omega), by show b (C * (f / C) + f % C) = 1; rw [Nat.div_add_mod]; exact h⟩
  constructor
  · rintro ⟨f, h1, h2, h3⟩
    obtain ⟨s, s1, s2⟩ := RE_src h2
    have hm : TR tA (hP R C (fun a => b (C * a.1 + a.2) = 1)) (fun z => z = (s / C, s % C)) (f / C, f % C) := by
      refine RE_ind (fun f => TR tA (hP R C (fun a => b (C * a.1 + a.2) = 1)) (fun z => z = (s / C, s % C)) (f / C, f % C)) (fun x hx => by rw [hx]; exact TR_base rfl) (fun g x hg e p => ?_) s2
      exact TR_step hg (adj_tA e) (hp x p.1 p.2)
    exact ⟨(s / C, s % C), (f / C, f % C), hp s s1.1 s1.2.1, bk_1.mp s1.2.2, by have := bk_2.mp h3; show f / C + 1 = R; omega, hm⟩
  · rintro ⟨a, c, h1, h2, h3, h4⟩
    have hm : (hP R C (fun a => b (C * a.1 + a.2) = 1) c) ∧ ME R C b 1 (mSeed R C b 1) (C * c.1 + c.2) := by
      refine TR_ind (fun c => (hP R C (fun a => b (C * a.1 + a.2) = 1) c) ∧ ME R C b 1 (mSeed R C b 1) (C * c.1 + c.2)) (fun x hx => ?_) (fun g x hg e p => ?_) h4
      · rw [hx]
        exact ⟨h1, RE_base ⟨rcell h1.1 h1.2.1, h1.2.2, bk_1.mpr (by rw [dm_1 h1.2.1]; exact h2)⟩⟩
      · exact ⟨p, RE_step hg.2 (tA_adj hg.1.2.1 p.2.1 e) ⟨rcell p.1 p.2.1, p.2.2⟩⟩
    exact ⟨C * c.1 + c.2, rcell hm.1.1 hm.1.2.1, hm.2, bk_2.mpr (by rw [dm_1 hm.1.2.1]; omega)⟩
theorem mJ_h2 {R C : Nat} (hR1 : 1 ≤ R) (hC1 : 1 ≤ C) {b : Nat → Nat} : mJ R C b 2 ↔ hJ C R (fun a => b (C * a.2 + a.1) = 2) := by
  have hp : ∀ f, f < R * C → b f = 2 → hP C R (fun a => b (C * a.2 + a.1) = 2) (f % C, f / C) := fun f hf h => ⟨Nat.mod_lt f (by omega), fd_lt hf, by show b (C * (f / C) + f % C) = 2; rw [Nat.div_add_mod]; exact h⟩
  constructor
  · rintro ⟨f, h1, h2, h3⟩
    obtain ⟨s, s1, s2⟩ := RE_src h2
    have hm : TR tA (hP C R (fun a => b (C * a.2 + a.1) = 2)) (fun z => z = (s % C, s / C)) (f % C, f / C) := by
      refine RE_ind (fun f => TR tA (hP C R (fun a => b (C * a.2 + a.1) = 2)) (fun z => z = (s % C, s / C)) (f % C, f / C)) (fun x hx => by rw [hx]; exact TR_base rfl) (fun g x hg e p => ?_) s2
      exact TR_step hg (adj_tA2 e) (hp x p.1 p.2)
    exact ⟨(s % C, s / C), (f % C, f / C), hp s s1.1 s1.2.1, bk_4.mp s1.2.2, by have := bk_8.mp h3; show f % C + 1 = C; omega, hm⟩
  · rintro ⟨a, c, h1, h2, h3, h4⟩
    have hm : (hP C R (fun a => b (C * a.2 + a.1) = 2) c) ∧ ME R C b 2 (mSeed R C b 2) (C * c.2 + c.1) := by
      refine TR_ind (fun c => (hP C R (fun a => b (C * a.2 + a.1) = 2) c) ∧ ME R C b 2 (mSeed R C b 2) (C * c.2 + c.1)) (fun x hx => ?_) (fun g x hg e p => ?_) h4
      · rw [hx]
        exact ⟨h1, RE_base ⟨rcell h1.2.1 h1.1, h1.2.2, bk_4.mpr (by rw [dm_2 h1.1]; exact h2)⟩⟩
      · exact ⟨p, RE_step hg.2 (tA_adj2 hg.1.1 p.1 e) ⟨rcell p.2.1 p.1, p.2.2⟩⟩
    exact ⟨C * c.2 + c.1, rcell hm.1.2.1 hm.1.1, hm.2, bk_8.mpr (by rw [dm_2 hm.1.1]; omega)⟩
theorem hJ_cong {h w : Nat} {B B2 : Nat × Nat → Prop} (e : ∀ a : Nat × Nat, a.1 < h → a.2 < w → (B a ↔ B2 a)) : hJ h w B ↔ hJ h w B2 := by
  have : hP h w B = hP h w B2 := by
    funext a
    apply propext
    unfold hP
    constructor
    · rintro ⟨h1, h2, h3⟩; exact ⟨h1, h2, (e a h1 h2).mp h3⟩
    · rintro ⟨h1, h2, h3⟩; exact ⟨h1, h2, (e a h1 h2).mpr h3⟩
  unfold hJ
  rw [this]
theorem mJ_one {R C : Nat} (hR1 : 1 ≤ R) (hC1 : 1 ≤ C) {b : Nat → Nat} (hb : ∀ f, f < R * C → b f = 1 ∨ b f = 2) : mJ R C b 2 ↔ ¬ mJ R C b 1 := by
  rw [mJ_h1 hR1 hC1, mJ_h2 hR1 hC1, hex hR1 hC1, Classical.not_not]
  apply hJ_cong
  intro a h1 h2
  have := hb (C * a.2 + a.1) (rcell h2 h1)
  show b (C * a.2 + a.1) = 2 ↔ ¬ b (C * a.2 + a.1) = 1
  omega
/-! answers alike -/
theorem full_12 {R C : Nat} {b ey : Nat → Nat} (he : eyP b (R * C) ey) (hn : fb_ct (mE b) (R * C) ≤ 10) (hb : ∀ f, f < R * C → b f ≤ 2) {c : Nat} (hz : zs c (fb_ct (mE b) (R * C)) = 0) : ∀ f, f < R * C → mFill b ey c (fb_ct (mE b) (R * C)) f = 1 ∨ mFill b ey c (fb_ct (mE b) (R * C)) f = 2 := by
  intro f hf
  by_cases h0 : b f = 0
  · rw [full_on he hn hf h0]
    have h1 := zs_zero hz (ey_rank he hn hf h0).1
    have := dg_lt c (fb_ct (mE b) f)
    omega
  · rw [full_off he hn h0]
    have := hb f hf
    omega
/-- the game of the banks, NORTH to make it -/
theorem an_win {R C : Nat} (hR1 : 1 ≤ R) (hR2 : R ≤ 6) (hC1 : 1 ≤ C) (hC2 : C ≤ 6) (hRC : R * C ≤ 36) {no we : Int64} {b ey : Nat → Nat} (h : sR R C no we b) (he : eyP b (R * C) ey) (hn : fb_ct (mE b) (R * C) ≤ 10) (l : Bool) : rv 1 (jb R C b ey (fb_ct (mE b) (R * C)) 1) (fb_ct (mE b) (R * C)) (fb_ct (mE b) (R * C)) 0 l = gv (bQ R C no we) (pcn (gSpots R C no we)) (pcn (gSpots R C no we)) 0 l := by
  rw [sR_pcn hR2 hC2 h]
  exact rv_1 (fun c => bQ_jb hR1 hR2 hC1 hC2 hRC h he hn c) _ _ _ (Nat.pow_pos (by decide)) (zs_0 _)
theorem gW_1 {q : Nat → Bool} {n k : Nat} : gW q n true k = gv q n (n - 1) (3 ^ k) false := rfl
theorem gW_2 {q : Nat → Bool} {n k : Nat} : gW q n false k = !gv q n (n - 1) (2 * 3 ^ k) true := rfl
theorem an_first {R C : Nat} (hR1 : 1 ≤ R) (hR2 : R ≤ 6) (hC1 : 1 ≤ C) (hC2 : C ≤ 6) (hRC : R * C ≤ 36) {no we : Int64} {b ey : Nat → Nat} (h : sR R C no we b) (he : eyP b (R * C) ey) (hn : fb_ct (mE b) (R * C) ≤ 10) {wn : Nat} (hw : wn = 1 ∨ wn = 2) : ∀ k, k < fb_ct (mE b) (R * C) → wOwn (jb R C b ey (fb_ct (mE b) (R * C)) wn) wn (fb_ct (mE b) (R * C)) 0 k = gW (bQ R C no we) (fb_ct (mE b) (R * C)) (decide (wn = 1)) k := by
  intro k hk
  unfold wOwn
  rcases hw with rfl | rfl
  · rw [decide_eq_true rfl, gW_1, pw_1, zs_0]
    exact rv_1 (fun c => bQ_jb hR1 hR2 hC1 hC2 hRC h he hn c) _ _ _ (b3_p1 hk) (zs_p1 hk)
  · rw [decide_eq_false (by decide), gW_2, pw_2, zs_0]
    refine rv_n (fun c hc hz => ?_) _ _ false (b3_p2 hk) (zs_p2 hk)
    rw [← bQ_jb hR1 hR2 hC1 hC2 hRC h he hn c]
    have hm := mJ_one hR1 hC1 (full_12 he hn h.2.2 hz)
    unfold jb
    by_cases q : mJ R C (mFill b ey c (fb_ct (mE b) (R * C))) 1
    · rw [jB_t q, jB_f (fun q2 => hm.mp q2 q)]; rfl
    · rw [jB_f q, jB_t (hm.mpr q)]; rfl
theorem an_link {R C : Nat} (hR1 : 1 ≤ R) (hR2 : R ≤ 6) (hC1 : 1 ≤ C) (hC2 : C ≤ 6) (hRC : R * C ≤ 36) {no we : Int64} {b ey : Nat → Nat} (h : sR R C no we b) (he : eyP b (R * C) ey) (hn : fb_ct (mE b) (R * C) ≤ 10) {cv x y : Nat} (hc : cv = 1 ∨ cv = 2) (hx : x < R * C) (hy : y < R * C) (l : Bool) : rv cv (jl R C b ey (fb_ct (mE b) (R * C)) cv x y) (fb_ct (mE b) (R * C)) (fb_ct (mE b) (R * C)) 0 l = gv (lQ R C no we cv x y) (fb_ct (mE b) (R * C)) (fb_ct (mE b) (R * C)) 0 l := by
  have hq := lQ_jl hR1 hR2 hC1 hC2 hRC h he hn hc hx hy
  rcases hc with rfl | rfl
  · exact rv_1 hq _ _ _ (Nat.pow_pos (by decide)) (zs_0 _)
  · exact rv_2 hq _ _ _ _ (Nat.pow_pos (by decide)) (Nat.pow_pos (by decide)) (zs_0 _) (fun k _ => by rw [dg_0]; exact ⟨Iff.rfl, by omega⟩)
theorem flip_1 {n k : Nat} (hk : k < n) : flip9 n (2 * 3 ^ k) (3 ^ k) := by
  have := (flip_put (n := n) (c := 0) (e := 0) (k := k) (fun j _ => by rw [dg_0]; exact ⟨Iff.rfl, by omega⟩) (dg_0 k) hk).1
  rw [Nat.zero_add, Nat.zero_add, Nat.one_mul] at this
  exact this
theorem an_half {R C : Nat} (hR1 : 1 ≤ R) (hR2 : R ≤ 6) (hC1 : 1 ≤ C) (hC2 : C ≤ 6) (hRC : R * C ≤ 36) {no we : Int64} {b ey : Nat → Nat} (h : sR R C no we b) (he : eyP b (R * C) ey) (hn : fb_ct (mE b) (R * C) ≤ 10) {cv x y : Nat} (hc : cv = 1 ∨ cv = 2) (hx : x < R * C) (hy : y < R * C) : ∀ k, k < fb_ct (mE b) (R * C) → wOwn (jl R C b ey (fb_ct (mE b) (R * C)) cv x y) cv (fb_ct (mE b) (R * C)) 0 k = gW (lQ R C no we cv x y) (fb_ct (mE b) (R * C)) true k := by
  intro k hk
  have hq := lQ_jl hR1 hR2 hC1 hC2 hRC h he hn hc hx hy
  unfold wOwn
  rw [gW_1, zs_0]
  rcases hc with rfl | rfl
  · rw [pw_1]; exact rv_1 hq _ _ _ (b3_p1 hk) (zs_p1 hk)
  · rw [pw_2]; exact rv_2 hq _ _ _ _ (b3_p2 hk) (b3_p1 hk) (zs_p2 hk) (flip_1 hk)
theorem ct_w {p w : Nat → Bool} {n k : Nat} (h : ∀ k, k < n → p k = w k) (hk : k ≤ n) : fb_ct p k = fb_ct w k := fb_ct_cong (fun j hj => h j (by omega))
theorem an_wfA {R C : Nat} (hR2 : R ≤ 6) (hC2 : C ≤ 6) (hRC : R * C ≤ 36) {no we : Int64} {b ey : Nat → Nat} (h : sR R C no we b) (he : eyP b (R * C) ey) (hn : fb_ct (mE b) (R * C) ≤ 10) {w p : Nat → Bool} (hp : ∀ k, k < fb_ct (mE b) (R * C) → p k = w k) {j : Nat} (hj : j < 2 ^ 31) {r s : Int32} (hr : wfA (gSpots R C no we) (pcn (gSpots R C no we)) w (nI j) r) (hs : (s = -1 ∧ fb_ct p (fb_ct (mE b) (R * C)) ≤ j) ∨ ∃ k, k < fb_ct (mE b) (R * C) ∧ p k = true ∧ fb_ct p k = j ∧ s = nI (ey k)) : r = s := by
  rw [sR_pcn hR2 hC2 h] at hr
  rcases hr with ⟨f, rfl, f1, f2, f3, f4⟩ | ⟨rfl, f1⟩
  · obtain ⟨g1, g2⟩ := (sR_sp hR2 hC2 h f).mp f2
    rw [sR_ct hR2 hC2 h (by omega)] at f3 f4
    obtain ⟨g3, g4⟩ := ey_rank he hn g1 g2
    have hle := fb_ct_le w (fb_ct (mE b) f)
    have e := (nI_eq hj (by omega)).mp f4
    rw [← ct_w hp (by omega)] at e
    rw [← hp _ g3] at f3
    rcases hs with ⟨rfl, s1⟩ | ⟨k, s1, s2, s3, rfl⟩
    · have := fb_ct_mono p (show fb_ct (mE b) f + 1 ≤ fb_ct (mE b) (R * C) by omega)
      rw [ct_1 f3] at this
      omega
    · have := fb_ct_kth_one s2 f3 (by omega)
      rw [this, g4]
  · rcases hs with ⟨rfl, s1⟩ | ⟨k, s1, s2, s3, rfl⟩
    · rfl
    · exact absurd ⟨k, s1, by rw [← hp k s1]; exact s2, by rw [← ct_w hp (by omega), s3]⟩ f1
theorem wfA_i0 {sp : Int64} {sc : Nat} {w : Nat → Bool} {i r : Int32} (hi : i < 0) (h : wfA sp sc w i r) : r = -1 := by
  rcases h with ⟨f, h1, h2, h3, h4, h5⟩ | ⟨h, _⟩
  · have hle := fb_ct_le (bq sp) f
    have hle2 := fb_ct_le w (fb_ct (bq sp) f)
    rw [h5] at hi
    exact absurd hi (nI_pos (by omega))
  · exact h
/-! fillings -/
theorem cdOf_dg (bits : Nat) : ∀ (n k : Nat), k < n → dg (cdOf bits n) k = 1 + bits / 2 ^ k % 2
  | 0, k, h => absurd h (Nat.not_lt_zero k)
  | n + 1, k, h => by
    have hl := cdOf_lt bits n
    have h0 : dg (cdOf bits n) n = 0 := by unfold dg; rw [Nat.div_eq_of_lt hl]
    have h2 : bits / 2 ^ n % 2 < 2 := Nat.mod_lt _ (by decide)
    show dg (cdOf bits n + (1 + bits / 2 ^ n % 2) * 3 ^ n) k = _
    rw [dg_put h0 (by omega)]
    rcases Nat.eq_or_lt_of_le (Nat.le_of_lt_succ h) with q | q
    · rw [if_pos q, q]
    · rw [if_neg (by omega)]; exact cdOf_dg bits n k q
theorem tb_dm (x k : Nat) : x.testBit k = decide (x / 2 ^ k % 2 = 1) := by rw [Nat.testBit_eq_decide_div_mod_eq]
theorem cd_mk {bits n : Nat} (hb : bits < 2 ^ n) : mkD 1 (cdOf bits n) n = 2 ^ n - (bits + 1) := by
  apply Nat.eq_of_testBit_eq
  intro i
  rw [Nat.testBit_two_pow_sub_succ hb]
  rcases Nat.lt_or_ge i n with hi | hi
  · rw [mkD_bit _ _ _ _ hi, cdOf_dg bits n i hi, tb_dm, decide_eq_true hi, Bool.true_and]
    have h2 : bits / 2 ^ i % 2 < 2 := Nat.mod_lt _ (by decide)
    rcases (show bits / 2 ^ i % 2 = 0 ∨ bits / 2 ^ i % 2 = 1 by omega) with q | q
    · rw [q]; rfl
    · rw [q]; rfl
  · rw [mkD_out hi, decide_eq_false (by omega)]; rfl
theorem nJ_bQ {R C : Nat} (hR1 : 1 ≤ R) (hR2 : R ≤ 6) (hC1 : 1 ≤ C) (hC2 : C ≤ 6) (hRC : R * C ≤ 36) {no we : Int64} {b ey : Nat → Nat} (h : sR R C no we b) (he : eyP b (R * C) ey) (hn : fb_ct (mE b) (R * C) ≤ 10) {bits : Nat} (hb : bits < 2 ^ fb_ct (mE b) (R * C)) : nJ R C b ey (fb_ct (mE b) (R * C)) bits = bQ R C no we (2 ^ fb_ct (mE b) (R * C) - (bits + 1)) := by
  rw [← cd_mk hb, ← bQ_jb hR1 hR2 hC1 hC2 hRC h he hn]
  rfl
theorem fb_ct_rev : ∀ (N : Nat) (p : Nat → Bool), fb_ct (fun i => p (N - (i + 1))) N = fb_ct p N
  | 0, _ => rfl
  | N + 1, p => by
    rw [fb_ct_succ]
    have e := fb_ct_split p 1 N
    rw [Nat.add_comm 1 N] at e
    have e2 : fb_ct (fun i => p (N + 1 - (i + 1))) N = fb_ct (fun i => (fun k => p (1 + k)) (N - (i + 1))) N := by
      apply fb_ct_cong
      intro k hk
      show p (N + 1 - (k + 1)) = p (1 + (N - (k + 1)))
      rw [show N + 1 - (k + 1) = 1 + (N - (k + 1)) by omega]
    rw [e2, fb_ct_rev N (fun k => p (1 + k)), e, fb_ct_succ, show N + 1 - (N + 1) = 0 by omega]
    show _ = 0 + (if p 0 = true then 1 else 0) + _
    omega
theorem an_fill {R C : Nat} (hR1 : 1 ≤ R) (hR2 : R ≤ 6) (hC1 : 1 ≤ C) (hC2 : C ≤ 6) (hRC : R * C ≤ 36) {no we : Int64} {b ey : Nat → Nat} (h : sR R C no we b) (he : eyP b (R * C) ey) (hn : fb_ct (mE b) (R * C) ≤ 10) : fb_ct (nJ R C b ey (fb_ct (mE b) (R * C))) (2 ^ fb_ct (mE b) (R * C)) = fb_ct (bQ R C no we) (2 ^ fb_ct (mE b) (R * C)) := by
  rw [← fb_ct_rev _ (bQ R C no we)]
  exact fb_ct_cong (fun k hk => nJ_bQ hR1 hR2 hC1 hC2 hRC h he hn hk)
theorem x_comp {n k i : Nat} (hk : k < n) (hi : i < 2 ^ n) : 2 ^ n - ((i ^^^ 2 ^ k) + 1) = (2 ^ n - (i + 1)) ^^^ 2 ^ k := by
  have hx : i ^^^ 2 ^ k < 2 ^ n := Nat.xor_lt_two_pow hi (Nat.pow_lt_pow_right (by decide) hk)
  apply Nat.eq_of_testBit_eq
  intro j
  rw [Nat.testBit_two_pow_sub_succ hx, Nat.testBit_xor, Nat.testBit_xor, Nat.testBit_two_pow_sub_succ hi, Nat.testBit_two_pow]
  by_cases c : k = j
  · rw [decide_eq_true c, decide_eq_true (show j < n by omega)]
    cases i.testBit j <;> rfl
  · rw [decide_eq_false c, Bool.xor_false, Bool.xor_false]
theorem nvm_x {q : Nat → Bool} {n k : Nat} (hk : k < n) : nvm q n k ↔ ∀ m, m < 2 ^ n → q m = q (m ^^^ 2 ^ k) := by
  have e0 : ∀ m : Nat, m.testBit k = false → m ^^^ 2 ^ k = m ||| 2 ^ k := fun m hm => by
    apply Nat.eq_of_testBit_eq
    intro j
    rw [Nat.testBit_xor, Nat.testBit_or, Nat.testBit_two_pow]
    by_cases c : k = j
    · rw [decide_eq_true c, ← c, hm]; rfl
    · rw [decide_eq_false c, Bool.xor_false, Bool.or_false]
  constructor
  · intro h m hm
    have hx : m ^^^ 2 ^ k < 2 ^ n := Nat.xor_lt_two_pow hm (Nat.pow_lt_pow_right (by decide) hk)
    cases c : m.testBit k with
    | false => rw [e0 m c]; exact h m hm c
    | true =>
      have c2 : (m ^^^ 2 ^ k).testBit k = false := by rw [Nat.testBit_xor, Nat.testBit_two_pow, decide_eq_true rfl, c]; rfl
      have h1 := h _ hx c2
      rw [← e0 _ c2, Nat.xor_assoc, Nat.xor_self, Nat.xor_zero] at h1
      exact h1.symm
  · intro h m hm c
    rw [← e0 m c]
    exact h m hm
theorem an_dead {R C : Nat} (hR1 : 1 ≤ R) (hR2 : R ≤ 6) (hC1 : 1 ≤ C) (hC2 : C ≤ 6) (hRC : R * C ≤ 36) {no we : Int64} {b ey : Nat → Nat} (h : sR R C no we b) (he : eyP b (R * C) ey) (hn : fb_ct (mE b) (R * C) ≤ 10) {k : Nat} (hk : k < fb_ct (mE b) (R * C)) : (∀ i, i < 2 ^ fb_ct (mE b) (R * C) → nJ R C b ey (fb_ct (mE b) (R * C)) i = nJ R C b ey (fb_ct (mE b) (R * C)) (i ^^^ 2 ^ k)) ↔ nvm (bQ R C no we) (fb_ct (mE b) (R * C)) k := by
  rw [nvm_x hk]
  have hx : ∀ i, i < 2 ^ fb_ct (mE b) (R * C) → i ^^^ 2 ^ k < 2 ^ fb_ct (mE b) (R * C) := fun i hi => Nat.xor_lt_two_pow hi (Nat.pow_lt_pow_right (by decide) hk)
  constructor
  · intro h1 m hm
    have h2 := h1 (2 ^ fb_ct (mE b) (R * C) - (m + 1)) (by omega)
    rw [nJ_bQ hR1 hR2 hC1 hC2 hRC h he hn (by omega), nJ_bQ hR1 hR2 hC1 hC2 hRC h he hn (hx _ (by omega)), x_comp hk (by omega), show 2 ^ fb_ct (mE b) (R * C) - (2 ^ fb_ct (mE b) (R * C) - (m + 1) + 1) = m by omega] at h2
    exact h2
  · intro h1 i hi
    rw [nJ_bQ hR1 hR2 hC1 hC2 hRC h he hn hi, nJ_bQ hR1 hR2 hC1 hC2 hRC h he hn (hx i hi), x_comp hk hi]
    exact h1 _ (by omega)
theorem ct_rank {sp g : Nat → Bool} : ∀ N, fb_ct (fun f => sp f && g (fb_ct sp f)) N = fb_ct g (fb_ct sp N)
  | 0 => rfl
  | N + 1 => by
    rw [fb_ct_succ, ct_rank N]
    cases q : sp N with
    | false =>
      rw [ct_0 q]
      show fb_ct g (fb_ct sp N) + (if (false && g (fb_ct sp N)) = true then 1 else 0) = _
      rw [Bool.false_and, if_neg (by decide)]
      rfl
    | true =>
      rw [ct_1 q, fb_ct_succ]
      show fb_ct g (fb_ct sp N) + (if (true && g (fb_ct sp N)) = true then 1 else 0) = _
      rw [Bool.true_and]
theorem an_dct {R C : Nat} (hR1 : 1 ≤ R) (hR2 : R ≤ 6) (hC1 : 1 ≤ C) (hC2 : C ≤ 6) (hRC : R * C ≤ 36) {no we : Int64} {b ey : Nat → Nat} (h : sR R C no we b) (he : eyP b (R * C) ey) (hn : fb_ct (mE b) (R * C) ≤ 10) {ds : Int64} (hd : dsOK (bQ R C no we) (pcn (gSpots R C no we)) (gSpots R C no we) ds) : pcn ds = fb_ct (dkP R C b ey (fb_ct (mE b) (R * C))) (fb_ct (mE b) (R * C)) := by
  rw [sR_pcn hR2 hC2 h] at hd
  have hin : ∀ i, bq ds i = true → i < R * C := fun i hi => ((sR_sp hR2 hC2 h i).mp ((hd i).mp hi).2.1).1
  rw [pcn_top hin (by omega)]
  rw [← ct_rank (sp := mE b) (R * C)]
  apply fb_ct_cong
  intro f hf
  have e2 : dkP R C b ey (fb_ct (mE b) (R * C)) (fb_ct (mE b) f) = true ↔ (∀ i, i < 2 ^ fb_ct (mE b) (R * C) → nJ R C b ey (fb_ct (mE b) (R * C)) i = nJ R C b ey (fb_ct (mE b) (R * C)) (i ^^^ 2 ^ fb_ct (mE b) f)) := jB_iff
  apply bq_eqB
  rw [hd f, Bool.and_eq_true, sR_sp hR2 hC2 h, sR_ct hR2 hC2 h (by omega)]
  unfold mE at *
  rw [decide_eq_true_iff]
  constructor
  · rintro ⟨h1, ⟨h2, h3⟩, h4⟩
    exact ⟨h3, e2.mpr ((an_dead hR1 hR2 hC1 hC2 hRC h he hn (ey_rank he hn h2 h3).1).mpr h4)⟩
  · rintro ⟨h3, h4⟩
    exact ⟨by omega, ⟨hf, h3⟩, (an_dead hR1 hR2 hC1 hC2 hRC h he hn (ey_rank he hn hf h3).1).mp (e2.mp h4)⟩
