abbrev vwCl : List vw_C := [(RX0, TX0, 3), (RX1, TX1, 15), (RX2, TX2, 7), (RX3, TX3, 1), (RX4, TX4, 3), (RX5, TX5, 9), (RX6, TX6, 17)]
/-! The rows of this claim's own: pictures, calls, branches over numbers -/
def kN (U : State) : Prop := va_Nw (.methodLinkNest RX2 18 yX5_bit RX5) U ∧ va_Nw (.methodLinkNest RX4 38 yX5_lowest RX5) U ∧ va_Nw (.methodLinkNest RX4 42 yX5_bit RX5) U ∧ va_Nw (.methodLinkNest RX3 25 yX5_bit RX5) U ∧ va_Nw (.methodLinkNest RX1 110 yX5_bit RX5) U ∧ va_Nw (.methodLinkNest RX5 11 yX2_init RX5) U ∧ va_Nw (.methodLinkNest RX5 18 yX0_init RX5) U ∧ va_Nw (.methodLinkNest RX5 25 yX4_init RX5) U ∧ va_Nw (.methodLinkNest RX5 32 yX1_init RX5) U
theorem kN_X2_18 {U : State} (h : kN U) : va_Nw (.methodLinkNest RX2 18 yX5_bit RX5) U := h.1
theorem kN_X4_38 {U : State} (h : kN U) : va_Nw (.methodLinkNest RX4 38 yX5_lowest RX5) U := h.2.1
theorem kN_X4_42 {U : State} (h : kN U) : va_Nw (.methodLinkNest RX4 42 yX5_bit RX5) U := h.2.2.1
theorem kN_X3_25 {U : State} (h : kN U) : va_Nw (.methodLinkNest RX3 25 yX5_bit RX5) U := h.2.2.2.1
theorem kN_X1_110 {U : State} (h : kN U) : va_Nw (.methodLinkNest RX1 110 yX5_bit RX5) U := h.2.2.2.2.1
theorem kN_X5_11 {U : State} (h : kN U) : va_Nw (.methodLinkNest RX5 11 yX2_init RX5) U := h.2.2.2.2.2.1
theorem kN_X5_18 {U : State} (h : kN U) : va_Nw (.methodLinkNest RX5 18 yX0_init RX5) U := h.2.2.2.2.2.2.1
theorem kN_X5_25 {U : State} (h : kN U) : va_Nw (.methodLinkNest RX5 25 yX4_init RX5) U := h.2.2.2.2.2.2.2.1
theorem kN_X5_32 {U : State} (h : kN U) : va_Nw (.methodLinkNest RX5 32 yX1_init RX5) U := h.2.2.2.2.2.2.2.2
theorem kN.warm {s U : State} (hW : s.WarmedH U.vm) (h : kN s) : kN U := ⟨va_Nw.warmM hW h.1, va_Nw.warmM hW h.2.1, va_Nw.warmM hW h.2.2.1, va_Nw.warmM hW h.2.2.2.1, va_Nw.warmM hW h.2.2.2.2.1, va_Nw.warmM hW h.2.2.2.2.2.1, va_Nw.warmM hW h.2.2.2.2.2.2.1, va_Nw.warmM hW h.2.2.2.2.2.2.2.1, va_Nw.warmM hW h.2.2.2.2.2.2.2.2⟩
theorem kN.same {s U : State} (e : s.vm = U.vm) (h : kN s) : kN U := ⟨va_Nw.same rfl e h.1, va_Nw.same rfl e h.2.1, va_Nw.same rfl e h.2.2.1, va_Nw.same rfl e h.2.2.2.1, va_Nw.same rfl e h.2.2.2.2.1, va_Nw.same rfl e h.2.2.2.2.2.1, va_Nw.same rfl e h.2.2.2.2.2.2.1, va_Nw.same rfl e h.2.2.2.2.2.2.2.1, va_Nw.same rfl e h.2.2.2.2.2.2.2.2⟩
abbrev kT (cI cJ cZ : ClassId) : List (ClassId × FieldType) := [(cI, .int), (cJ, .long), (cZ, .boolean)]
def kK (D : va_G) (cI cJ cZ : ClassId) (U : State) : Prop := va_K D vwCl (kT cI cJ cZ) U ∧ kN U
theorem kK.warm {D : va_G} {cI cJ cZ : ClassId} {s U : State} (hW : s.WarmedH U.vm) (h : kK D cI cJ cZ s) : kK D cI cJ cZ U := ⟨va_K.moved hW.alike h.1, h.2.warm hW⟩
/-- a method's start -/
def kP0 (D : va_G) (cI cJ cZ : ClassId) (ws : va_W) (sz : Nat) (U : State) : Prop := U.heap.size = sz ∧ va_P D vwCl ws U.heap ∧ kK D cI cJ cZ U ∧ va_D (fun _ => True) ws
theorem kP0_blind {av : List Value} {D : va_G} {cI cJ cZ : ClassId} {ws : va_W} {sz : Nat} : FrameBlind (va_Pc av (kP0 D cI cJ cZ ws sz)) := by
  intro a U g mk q
  obtain ⟨q0, q1, qP, ⟨qK, qN⟩, qD⟩ := q
  exact ⟨q0, q1, qP, ⟨va_K.moved (u := U) (U := U.calling g mk a) (Vm.Alike.refl U.vm) qK, qN.same rfl⟩, qD⟩
/-- a method's end: its world -/
def kB {S : Type} (D : va_G) (A : Nat → Prop) (f : S → va_W) (u : S) (t : State) : Prop := va_P D vwCl (f u) t.heap ∧ va_D A (f u)
abbrev kMI (l : Launch) (y : MethodName) (ws : List Cond) (fr lo : Nat) (D : va_G) (cI cJ cZ : ClassId) (av : List Value) (wc : va_W) (sz : Nat) {S : Type} (post : Int32 → S → Prop) (f : S → va_W) : Prop :=
  Met l y ws ({ frames := fr, cells := 0, slots := 0, locals := lo }) (va_Pc av (kP0 D cI cJ cZ wc sz)) (va_Qi post (kB D (va_A wc sz) f) (va_A wc sz)) 0 0 (va_A wc sz)
abbrev kMJ (l : Launch) (y : MethodName) (ws : List Cond) (fr lo : Nat) (D : va_G) (cI cJ cZ : ClassId) (av : List Value) (wc : va_W) (sz : Nat) {S : Type} (post : Int64 → S → Prop) (f : S → va_W) : Prop :=
  Met l y ws ({ frames := fr, cells := 0, slots := 0, locals := lo }) (va_Pc av (kP0 D cI cJ cZ wc sz)) (va_Ql post (kB D (va_A wc sz) f) (va_A wc sz)) 0 0 (va_A wc sz)
abbrev kMV (l : Launch) (y : MethodName) (ws : List Cond) (fr lo : Nat) (D : va_G) (cI cJ cZ : ClassId) (av : List Value) (wc : va_W) (sz : Nat) {S : Type} (post : S → Prop) (f : S → va_W) : Prop :=
  Met l y ws ({ frames := fr, cells := 0, slots := 0, locals := lo }) (va_Pc av (kP0 D cI cJ cZ wc sz)) (va_Qv post (kB D (va_A wc sz) f) (va_A wc sz)) 0 0 (va_A wc sz)
theorem k_pick {ws wc : va_W} {is : List Nat} (hC : is.map (fun i => ws[i]?) = wc.map some) : is.filterMap (fun i => ws[i]?) = wc := by
  have h2 : is.filterMap (fun i => ws[i]?) = (is.map (fun i => ws[i]?)).filterMap id := by rw [List.filterMap_map]; rfl
  rw [h2, hC, List.filterMap_map]
  exact List.filterMap_some
theorem kPS {D : va_G} {cI cJ cZ : ClassId} {A : Nat → Prop} {ws wc : va_W} {s : State} {H : Heap} {As : List Value} (hK : kK D cI cJ cZ s) (hP : va_P D vwCl ws H) (hD : va_D A ws) (is : List Nat) (hC : is.map (fun i => ws[i]?) = wc.map some) (hn : va_nd is = true) : PreS s H (va_Pc As (kP0 D cI cJ cZ wc H.size)) As := by
  have hPc : va_P D vwCl wc H := hP.sub is (k_pick hC)
  exact ⟨kP0_blind, fun U hU hW => ⟨rfl, by rw [hU], by rw [hU]; exact hPc, hK.warm hW, (hD.sub is hn hC).weaken (fun _ _ _ _ => trivial)⟩⟩
theorem kPV {D : va_G} {cI cJ cZ : ClassId} {A : Nat → Prop} {ws wc : va_W} {s : State} {H : Heap} {b : Nat} {As : List Value} {ci q0 : Nat} {q : vw_C} {fs : List Value} (hK : kK D cI cJ cZ s) (hP : va_P D vwCl ws H) (hD : va_D A ws) (is : List Nat) (hC : is.map (fun i => ws[i]?) = wc.map some) (hn : va_nd is = true) (hc : vwCl[ci]? = some q) (he : wc[q0]? = some (b, .inr (ci, fs))) : PreV s H q.1 b (va_Pc (.ref b :: As) (kP0 D cI cJ cZ wc H.size)) As := by
  have hS := kPS (As := .ref b :: As) hK hP hD is hC hn
  have hPc : va_P D vwCl wc H := hP.sub is (k_pick hC)
  exact ⟨hS.1, va_recv hK.1 hPc (ci := ci) (q0 := q0) hc he, hS.2⟩
section KW
variable {p : Program} {l : Launch} {e : Env} {R : Room} {s : State} {m : MethodId} {args : Array Value} {below : List Frame} {meth : Method} {c : Code} {H : Heap} {locs : List Loc} {cells slots : Nat} {Q : State → Prop} {pc : Nat} {ls : Array Slot} {rest st0 : List Value} {cc : ByteArray}
theorem k_toi {x y : Int32} (h : x = y) (k : W p l e R s m args below meth c H locs cells slots Q (F0 m pc ls (.int y :: rest))) : W p l e R s m args below meth c H locs cells slots Q (F0 m pc ls (.int x :: rest)) := h ▸ k
theorem k_tol {x y : Int64} (h : x = y) (k : W p l e R s m args below meth c H locs cells slots Q (F0 m pc ls (.long y :: rest))) : W p l e R s m args below meth c H locs cells slots Q (F0 m pc ls (.long x :: rest)) := h ▸ k
theorem k_inc (n k : Nat) : nI n + Int32.ofInt (k : Int) = nI (n + k) := by
  have h : Int32.ofInt (k : Int) = nI k := by
    apply Int32.toBitVec_inj.mp
    show BitVec.ofInt 32 (k : Int) = BitVec.ofNat 32 k
    exact BitVec.ofInt_natCast 32 k
  rw [h, nI_add]
/-- a loop: a measure falls -/
theorem kw_loop {σ : Type} (I : σ → Heap → List Loc → Array Slot → Prop) (μ : σ → Nat)
    (x : σ) (h0 : I x H locs ls)
    (step : ∀ (x : σ) (H : Heap) (locs : List Loc) (ls : Array Slot), I x H locs ls → (∀ (x' : σ) (H' : Heap) (locs' : List Loc) (ls' : Array Slot), μ x' < μ x → I x' H' locs' ls' → W p l e R s m args below meth c H' locs' cells slots Q (F0 m pc ls' [])) → W p l e R s m args below meth c H locs cells slots Q (F0 m pc ls [])) :
    W p l e R s m args below meth c H locs cells slots Q (F0 m pc ls []) := by
  suffices h : ∀ (n : Nat) (x : σ) (H : Heap) (locs : List Loc) (ls : Array Slot), μ x < n → I x H locs ls → W p l e R s m args below meth c H locs cells slots Q (F0 m pc ls []) from h (μ x + 1) x H locs ls (Nat.lt_succ_self _) h0
  intro n
  induction n with
  | zero => intro x H locs ls h; exact absurd h (Nat.not_lt_zero _)
  | succ n ih => intro x H locs ls h hI; exact step x H locs ls hI (fun x' H' locs' ls' hx' hI' => ih x' H' locs' ls' (by omega) hI')
/-- roads that meet -/
theorem kw_cut {σ : Type} (I : σ → Heap → List Loc → Array Slot → Prop) (pc' : Nat) (st : σ → List Value)
    (main : (∀ (x : σ) (H : Heap) (locs : List Loc) (ls : Array Slot), I x H locs ls → W p l e R s m args below meth c H locs cells slots Q (F0 m pc' ls (st x))) → W p l e R s m args below meth c H locs cells slots Q (F0 m pc ls st0))
    (cont : ∀ (x : σ) (H : Heap) (locs : List Loc) (ls : Array Slot), I x H locs ls → W p l e R s m args below meth c H locs cells slots Q (F0 m pc' ls (st x))) :
    W p l e R s m args below meth c H locs cells slots Q (F0 m pc ls st0) := main cont
theorem k_cmp0 {x y : Int64} : lg_cmp x y = 0 ↔ x = y := by
  unfold lg_cmp
  by_cases h1 : y < x
  · simp only [h1, if_true]
    refine ⟨fun h => absurd h (by decide), fun h => ?_⟩
    subst h
    exact absurd h1 (Int64.lt_irrefl)
  · by_cases h2 : x = y
    · simp [h1, h2]
    · simp only [h1, h2, if_false]
      exact ⟨fun h => absurd h (by decide), fun h => absurd h (by first | exact h2 | decide)⟩
theorem kw_cmp_eq (hexec : p.tables.exec = Jvm.exec) (hb : c.code = cc) {x y : Int64} {off : Int} {tgt : Nat} (hdg : decode cc pc = .ok (.ifCond .eq off, 3)) (ht : (pc : Int) + off = (tgt : Int))
    (kt : x = y → W p l e R s m args below meth c H locs cells slots Q (F0 m tgt ls rest)) (kf : ¬ x = y → W p l e R s m args below meth c H locs cells slots Q (F0 m (pc + 3) ls rest)) : W p l e R s m args below meth c H locs cells slots Q (F0 m pc ls (.int (lg_cmp x y) :: rest)) :=
  lv_if_eq hexec hb hdg ht (fun h => kt (k_cmp0.mp h)) (fun h => kf (fun h' => h (k_cmp0.mpr h')))
theorem kw_cmp_ne (hexec : p.tables.exec = Jvm.exec) (hb : c.code = cc) {x y : Int64} {off : Int} {tgt : Nat} (hdg : decode cc pc = .ok (.ifCond .ne off, 3)) (ht : (pc : Int) + off = (tgt : Int))
    (kt : ¬ x = y → W p l e R s m args below meth c H locs cells slots Q (F0 m tgt ls rest)) (kf : x = y → W p l e R s m args below meth c H locs cells slots Q (F0 m (pc + 3) ls rest)) : W p l e R s m args below meth c H locs cells slots Q (F0 m pc ls (.int (lg_cmp x y) :: rest)) :=
  lv_if_ne hexec hb hdg ht (fun h => kt (fun h' => h (k_cmp0.mpr h'))) (fun h => kf (k_cmp0.mp h))
theorem kw_if_eq (hexec : p.tables.exec = Jvm.exec) (hb : c.code = cc) {a : Nat} {off : Int} {tgt : Nat} (hdg : decode cc pc = .ok (.ifCond .eq off, 3)) (ht : (pc : Int) + off = (tgt : Int)) (ha : a < 2 ^ 31)
    (kt : a = 0 → W p l e R s m args below meth c H locs cells slots Q (F0 m tgt ls rest)) (kf : 0 < a → W p l e R s m args below meth c H locs cells slots Q (F0 m (pc + 3) ls rest)) : W p l e R s m args below meth c H locs cells slots Q (F0 m pc ls (.int (nI a) :: rest)) :=
  lv_if_eq hexec hb hdg ht (fun h => kt (Nat.eq_zero_or_pos a |>.elim id (fun h2 => absurd h (nI_ne0 h2 ha)))) (fun h => kf (Nat.pos_of_ne_zero (fun h2 => h (by rw [h2, nI_0]))))
theorem kw_if_ne (hexec : p.tables.exec = Jvm.exec) (hb : c.code = cc) {a : Nat} {off : Int} {tgt : Nat} (hdg : decode cc pc = .ok (.ifCond .ne off, 3)) (ht : (pc : Int) + off = (tgt : Int)) (ha : a < 2 ^ 31)
    (kt : 0 < a → W p l e R s m args below meth c H locs cells slots Q (F0 m tgt ls rest)) (kf : a = 0 → W p l e R s m args below meth c H locs cells slots Q (F0 m (pc + 3) ls rest)) : W p l e R s m args below meth c H locs cells slots Q (F0 m pc ls (.int (nI a) :: rest)) :=
  lv_if_ne hexec hb hdg ht (fun h => kt (Nat.pos_of_ne_zero (fun h2 => h (by rw [h2, nI_0])))) (fun h => kf (Nat.eq_zero_or_pos a |>.elim id (fun h2 => absurd h (nI_ne0 h2 ha))))
theorem kw_if_lt (hexec : p.tables.exec = Jvm.exec) (hb : c.code = cc) {a : Nat} {off : Int} {tgt : Nat} (hdg : decode cc pc = .ok (.ifCond .lt off, 3)) (ht : (pc : Int) + off = (tgt : Int)) (ha : a < 2 ^ 31)
    (_kt : False → W p l e R s m args below meth c H locs cells slots Q (F0 m tgt ls rest)) (kf : True → W p l e R s m args below meth c H locs cells slots Q (F0 m (pc + 3) ls rest)) : W p l e R s m args below meth c H locs cells slots Q (F0 m pc ls (.int (nI a) :: rest)) :=
  lv_if_lt hexec hb hdg ht (fun h => absurd h (nI_pos ha)) (fun _ => kf trivial)
theorem kw_if_le (hexec : p.tables.exec = Jvm.exec) (hb : c.code = cc) {a : Nat} {off : Int} {tgt : Nat} (hdg : decode cc pc = .ok (.ifCond .le off, 3)) (ht : (pc : Int) + off = (tgt : Int)) (ha : a < 2 ^ 31)
    (kt : a = 0 → W p l e R s m args below meth c H locs cells slots Q (F0 m tgt ls rest)) (kf : 0 < a → W p l e R s m args below meth c H locs cells slots Q (F0 m (pc + 3) ls rest)) : W p l e R s m args below meth c H locs cells slots Q (F0 m pc ls (.int (nI a) :: rest)) :=
  lv_if_le hexec hb hdg ht (fun h => kt (Nat.eq_zero_or_pos a |>.elim id (fun h2 => absurd h (nI_nle h2 ha)))) (fun h => kf (Nat.pos_of_ne_zero (fun h2 => h (by rw [h2]; decide))))
theorem kw_icmp_eq (hexec : p.tables.exec = Jvm.exec) (hb : c.code = cc) {a b : Nat} {off : Int} {tgt : Nat} (hdg : decode cc pc = .ok (.if_icmp .eq off, 3)) (ht : (pc : Int) + off = (tgt : Int)) (ha : a < 2 ^ 31) (hb2 : b < 2 ^ 31)
    (kt : a = b → W p l e R s m args below meth c H locs cells slots Q (F0 m tgt ls rest)) (kf : a ≠ b → W p l e R s m args below meth c H locs cells slots Q (F0 m (pc + 3) ls rest)) : W p l e R s m args below meth c H locs cells slots Q (F0 m pc ls (.int (nI b) :: .int (nI a) :: rest)) :=
  lv_icmp_eq hexec hb hdg ht (fun h => kt ((nI_eq ha hb2).mp h)) (fun h => kf (fun h2 => h ((nI_eq ha hb2).mpr h2)))
theorem kw_icmp_ne (hexec : p.tables.exec = Jvm.exec) (hb : c.code = cc) {a b : Nat} {off : Int} {tgt : Nat} (hdg : decode cc pc = .ok (.if_icmp .ne off, 3)) (ht : (pc : Int) + off = (tgt : Int)) (ha : a < 2 ^ 31) (hb2 : b < 2 ^ 31)
    (kt : a ≠ b → W p l e R s m args below meth c H locs cells slots Q (F0 m tgt ls rest)) (kf : a = b → W p l e R s m args below meth c H locs cells slots Q (F0 m (pc + 3) ls rest)) : W p l e R s m args below meth c H locs cells slots Q (F0 m pc ls (.int (nI b) :: .int (nI a) :: rest)) :=
  lv_icmp_ne hexec hb hdg ht (fun h => kt (fun h2 => h ((nI_eq ha hb2).mpr h2))) (fun h => kf ((nI_eq ha hb2).mp h))
theorem kw_icmp_lt (hexec : p.tables.exec = Jvm.exec) (hb : c.code = cc) {a b : Nat} {off : Int} {tgt : Nat} (hdg : decode cc pc = .ok (.if_icmp .lt off, 3)) (ht : (pc : Int) + off = (tgt : Int)) (ha : a < 2 ^ 31) (hb2 : b < 2 ^ 31)
    (kt : a < b → W p l e R s m args below meth c H locs cells slots Q (F0 m tgt ls rest)) (kf : b ≤ a → W p l e R s m args below meth c H locs cells slots Q (F0 m (pc + 3) ls rest)) : W p l e R s m args below meth c H locs cells slots Q (F0 m pc ls (.int (nI b) :: .int (nI a) :: rest)) :=
  lv_icmp_lt hexec hb hdg ht (fun h => kt ((nI_ltI ha hb2).mp h)) (fun h => kf (Nat.le_of_not_lt (fun h2 => h ((nI_ltI ha hb2).mpr h2))))
theorem kw_icmp_ge (hexec : p.tables.exec = Jvm.exec) (hb : c.code = cc) {a b : Nat} {off : Int} {tgt : Nat} (hdg : decode cc pc = .ok (.if_icmp .ge off, 3)) (ht : (pc : Int) + off = (tgt : Int)) (ha : a < 2 ^ 31) (hb2 : b < 2 ^ 31)
    (kt : b ≤ a → W p l e R s m args below meth c H locs cells slots Q (F0 m tgt ls rest)) (kf : a < b → W p l e R s m args below meth c H locs cells slots Q (F0 m (pc + 3) ls rest)) : W p l e R s m args below meth c H locs cells slots Q (F0 m pc ls (.int (nI b) :: .int (nI a) :: rest)) :=
  lv_icmp_ge hexec hb hdg ht (fun h => kt ((nI_leI hb2 ha).mp h)) (fun h => kf (Nat.lt_of_not_le (fun h2 => h ((nI_leI hb2 ha).mpr h2))))
theorem kw_icmp_gt (hexec : p.tables.exec = Jvm.exec) (hb : c.code = cc) {a b : Nat} {off : Int} {tgt : Nat} (hdg : decode cc pc = .ok (.if_icmp .gt off, 3)) (ht : (pc : Int) + off = (tgt : Int)) (ha : a < 2 ^ 31) (hb2 : b < 2 ^ 31)
    (kt : b < a → W p l e R s m args below meth c H locs cells slots Q (F0 m tgt ls rest)) (kf : a ≤ b → W p l e R s m args below meth c H locs cells slots Q (F0 m (pc + 3) ls rest)) : W p l e R s m args below meth c H locs cells slots Q (F0 m pc ls (.int (nI b) :: .int (nI a) :: rest)) :=
  lv_icmp_gt hexec hb hdg ht (fun h => kt ((nI_ltI hb2 ha).mp h)) (fun h => kf (Nat.le_of_not_lt (fun h2 => h ((nI_ltI hb2 ha).mpr h2))))
theorem kw_icmp_le (hexec : p.tables.exec = Jvm.exec) (hb : c.code = cc) {a b : Nat} {off : Int} {tgt : Nat} (hdg : decode cc pc = .ok (.if_icmp .le off, 3)) (ht : (pc : Int) + off = (tgt : Int)) (ha : a < 2 ^ 31) (hb2 : b < 2 ^ 31)
    (kt : a ≤ b → W p l e R s m args below meth c H locs cells slots Q (F0 m tgt ls rest)) (kf : b < a → W p l e R s m args below meth c H locs cells slots Q (F0 m (pc + 3) ls rest)) : W p l e R s m args below meth c H locs cells slots Q (F0 m pc ls (.int (nI b) :: .int (nI a) :: rest)) :=
  lv_icmp_le hexec hb hdg ht (fun h => kt ((nI_leI ha hb2).mp h)) (fun h => kf (Nat.lt_of_not_le (fun h2 => h ((nI_leI ha hb2).mpr h2))))
/-- behind a call, for the three kinds of answers: the caller's cells in their own order -/
theorem k_back {D : va_G} {A : Nat → Prop} {ws wc wr w1 w2 : va_W} {H H1 : Heap} (hP : va_P D vwCl ws H) (hD : va_D A ws) (hF : ∀ q, va_A wc H.size q → A q) (isC isR perm : List Nat) (hC : isC.map (fun i => ws[i]?) = wc.map some) (hR : isR.map (fun i => ws[i]?) = wr.map some) (hn : va_nd isR = true) (hdis : ∀ i ∈ isR, i ∉ isC)
    (hp1 : perm.map (fun i => (wr ++ w1)[i]?) = w2.map some) (hp2 : va_nd perm = true) (hk : ∀ q : Nat, q < H.size → ¬ va_A wc H.size q → H1[q]? = H[q]?) (hP1 : va_P D vwCl w1 H1) (hD1 : va_D (va_A wc H.size) w1) : va_P D vwCl w2 H1 ∧ va_D A w2 := by
  obtain ⟨h1, h2⟩ := va_join (wr := wr) (w1 := w1) hP hD isC isR hC hR hn hdis hk hF hP1 hD1
  exact ⟨h1.sub perm (k_pick hp1), h2.sub perm hp2 hp1⟩
theorem k_calli {D : va_G} {A : Nat → Prop} {S : Type} {post : Int32 → S → Prop} {f : S → va_W} {ws wc wr : va_W} {a : Array Value} {w2 : S → va_W}
    (hr : va_Run p l e R s m args below meth c H locs cells slots 0 0 (F0 m pc ls st0) rest (va_Qi post (kB D (va_A wc H.size) f) (va_A wc H.size) a) (va_A wc H.size))
    (hP : va_P D vwCl ws H) (hD : va_D A ws) (hS : va_S A s.heap H locs) (hA : ∀ q, s.heap.size ≤ q → A q) (isC isR perm : List Nat) (hC : isC.map (fun i => ws[i]?) = wc.map some) (hR : isR.map (fun i => ws[i]?) = wr.map some) (hn : va_nd isR = true) (hdis : ∀ i ∈ isR, i ∉ isC)
    (hp1 : ∀ u, perm.map (fun i => (wr ++ f u)[i]?) = (w2 u).map some) (hp2 : va_nd perm = true)
    (kk : ∀ (r : Int32) (u : S) (H1 : Heap) (locs1 : List Loc), post r u → va_P D vwCl (w2 u) H1 → va_D A (w2 u) → va_S A s.heap H1 locs1 → W p l e R s m args below meth c H1 locs1 cells slots Q (F0 m (pc + 3) ls (.int r :: rest))) :
    W p l e R s m args below meth c H locs cells slots Q (F0 m pc ls st0) := by
  have hF := va_free (wc := wc) hD hS hA isC hC
  refine va_calli hr hS (fun q _ h => hF q h) hF (fun r u t H1 locs1 ht hvm hw hB hz1 hk1 hS1 => ?_)
  obtain ⟨hP1, hD1⟩ := hB
  rw [ht] at hP1
  obtain ⟨h1, h2⟩ := k_back hP hD hF isC isR perm hC hR hn hdis (hp1 u) hp2 hk1 hP1 hD1
  exact kk r u H1 locs1 hw h1 h2 hS1
theorem k_calll {D : va_G} {A : Nat → Prop} {S : Type} {post : Int64 → S → Prop} {f : S → va_W} {ws wc wr : va_W} {a : Array Value} {w2 : S → va_W}
    (hr : va_Run p l e R s m args below meth c H locs cells slots 0 0 (F0 m pc ls st0) rest (va_Ql post (kB D (va_A wc H.size) f) (va_A wc H.size) a) (va_A wc H.size))
    (hP : va_P D vwCl ws H) (hD : va_D A ws) (hS : va_S A s.heap H locs) (hA : ∀ q, s.heap.size ≤ q → A q) (isC isR perm : List Nat) (hC : isC.map (fun i => ws[i]?) = wc.map some) (hR : isR.map (fun i => ws[i]?) = wr.map some) (hn : va_nd isR = true) (hdis : ∀ i ∈ isR, i ∉ isC)
    (hp1 : ∀ u, perm.map (fun i => (wr ++ f u)[i]?) = (w2 u).map some) (hp2 : va_nd perm = true)
    (kk : ∀ (r : Int64) (u : S) (H1 : Heap) (locs1 : List Loc), post r u → va_P D vwCl (w2 u) H1 → va_D A (w2 u) → va_S A s.heap H1 locs1 → W p l e R s m args below meth c H1 locs1 cells slots Q (F0 m (pc + 3) ls (.long r :: rest))) :
    W p l e R s m args below meth c H locs cells slots Q (F0 m pc ls st0) := by
  have hF := va_free (wc := wc) hD hS hA isC hC
  refine va_calll hr hS (fun q _ h => hF q h) hF (fun r u t H1 locs1 ht hvm hw hB hz1 hk1 hS1 => ?_)
  obtain ⟨hP1, hD1⟩ := hB
  rw [ht] at hP1
  obtain ⟨h1, h2⟩ := k_back hP hD hF isC isR perm hC hR hn hdis (hp1 u) hp2 hk1 hP1 hD1
  exact kk r u H1 locs1 hw h1 h2 hS1
theorem k_callv {D : va_G} {A : Nat → Prop} {S : Type} {post : S → Prop} {f : S → va_W} {ws wc wr : va_W} {a : Array Value} {w2 : S → va_W}
    (hr : va_Run p l e R s m args below meth c H locs cells slots 0 0 (F0 m pc ls st0) rest (va_Qv post (kB D (va_A wc H.size) f) (va_A wc H.size) a) (va_A wc H.size))
    (hP : va_P D vwCl ws H) (hD : va_D A ws) (hS : va_S A s.heap H locs) (hA : ∀ q, s.heap.size ≤ q → A q) (isC isR perm : List Nat) (hC : isC.map (fun i => ws[i]?) = wc.map some) (hR : isR.map (fun i => ws[i]?) = wr.map some) (hn : va_nd isR = true) (hdis : ∀ i ∈ isR, i ∉ isC)
    (hp1 : ∀ u, perm.map (fun i => (wr ++ f u)[i]?) = (w2 u).map some) (hp2 : va_nd perm = true)
    (kk : ∀ (u : S) (H1 : Heap) (locs1 : List Loc), post u → va_P D vwCl (w2 u) H1 → va_D A (w2 u) → va_S A s.heap H1 locs1 → W p l e R s m args below meth c H1 locs1 cells slots Q (F0 m (pc + 3) ls rest)) :
    W p l e R s m args below meth c H locs cells slots Q (F0 m pc ls st0) := by
  have hF := va_free (wc := wc) hD hS hA isC hC
  refine va_callv hr hS (fun q _ h => hF q h) hF (fun u t H1 locs1 ht hvm hw hB hz1 hk1 hS1 => ?_)
  obtain ⟨hP1, hD1⟩ := hB
  rw [ht] at hP1
  obtain ⟨h1, h2⟩ := k_back hP hD hF isC isR perm hC hR hn hdis (hp1 u) hp2 hk1 hP1 hD1
  exact kk u H1 locs1 hw h1 h2 hS1
end KW
/-- the shifts of longs as the machine does them -/
abbrev kShl (x : Int64) (y : Int32) : Int64 := x <<< (y.toInt64 &&& 63)
abbrev kShr (x : Int64) (y : Int32) : Int64 := (x.toUInt64 >>> (y.toInt64.toUInt64 &&& Int64.toUInt64 63)).toInt64
theorem kz_nar {x : Int32} (h : x = 0 ∨ x = 1) : vp_nar .boolean x = x := by
  rcases h with rfl | rfl <;> decide
theorem kz_narr {x : Int32} (h : x = 0 ∨ x = 1) : narrow .boolean (.int x) = .int x := by
  rcases h with rfl | rfl <;> decide
section KW2
variable {p : Program} {l : Launch} {e : Env} {R : Room} {s : State} {m : MethodId} {args : Array Value} {below : List Frame} {meth : Method} {c : Code} {H : Heap} {locs : List Loc} {cells slots : Nat} {Q : State → Prop} {pc : Nat} {ls : Array Slot} {rest st0 : List Value} {cc : ByteArray}
theorem kw_if_ge (hexec : p.tables.exec = Jvm.exec) (hb : c.code = cc) {a : Nat} {off : Int} {tgt : Nat} (hdg : decode cc pc = .ok (.ifCond .ge off, 3)) (ht : (pc : Int) + off = (tgt : Int)) (ha : a < 2 ^ 31)
    (kt : True → W p l e R s m args below meth c H locs cells slots Q (F0 m tgt ls rest)) (_kf : False → W p l e R s m args below meth c H locs cells slots Q (F0 m (pc + 3) ls rest)) : W p l e R s m args below meth c H locs cells slots Q (F0 m pc ls (.int (nI a) :: rest)) :=
  lv_if_ge hexec hb hdg ht (fun _ => kt trivial) (fun h => absurd (nI_pos' ha) h)
theorem kw_if_gt (hexec : p.tables.exec = Jvm.exec) (hb : c.code = cc) {a : Nat} {off : Int} {tgt : Nat} (hdg : decode cc pc = .ok (.ifCond .gt off, 3)) (ht : (pc : Int) + off = (tgt : Int)) (ha : a < 2 ^ 31)
    (kt : 0 < a → W p l e R s m args below meth c H locs cells slots Q (F0 m tgt ls rest)) (kf : a = 0 → W p l e R s m args below meth c H locs cells slots Q (F0 m (pc + 3) ls rest)) : W p l e R s m args below meth c H locs cells slots Q (F0 m pc ls (.int (nI a) :: rest)) :=
  lv_if_gt hexec hb hdg ht (fun h => kt (Nat.pos_of_ne_zero (fun h2 => absurd h (by rw [h2]; decide)))) (fun h => kf (Nat.eq_zero_or_pos a |>.elim id (fun h2 => absurd (show (0 : Int32) < nI a from nI_lt (a := 0) h2 ha) h)))
end KW2
/-- one less, as an int -/
def kPr : Nat → Int32 | 0 => -1 | n + 1 => nI n
theorem k_dec (n : Nat) : nI n + Int32.ofInt (-1) = kPr n := by
  cases n with
  | zero => decide
  | succ n => exact pk_m1 n
theorem k_sub1 (n : Nat) : nI n - nI 1 = kPr n := by
  cases n with
  | zero => decide
  | succ n => exact nI_pred n
