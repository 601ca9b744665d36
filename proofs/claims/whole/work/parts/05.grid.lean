
def gBit (f : Int32) : Int64 := kShl 1 f
def gAll (R C : Nat) : Int64 := kShl 1 (nI (R * C)) - 1
def gNo (C : Nat) : Int64 := kShl 1 (nI C) - 1
def gSo (R C : Nat) : Int64 := kShl (gNo C) (nI (C * (R - 1)))
def gWeN (C : Nat) : Nat → Int64 | 0 => 0 | n + 1 => gWeN C n ||| kShl 1 (nI (C * n))
def gEa (R C : Nat) : Int64 := kShl (gWeN C R) (nI (C - 1))
abbrev wGr (R C : Nat) : va_E := .inr (2, [.int (nI R), .int (nI C), .long (gAll R C), .long (gNo C), .long (gSo R C), .long (gWeN C R), .long (gEa R C)])
/-- the fields of a board of n fields, as ints -/
def fIn (n : Nat) (f : Int32) : Prop := ∃ k, k < n ∧ f = nI k
def jBC (x0 : Int64) : Int32 :=
  let x1 := x0 - (kShr x0 (nI 1) &&& 6148914691236517205)
  let x2 := (x1 &&& 3689348814741910323) + (kShr x1 (nI 2) &&& 3689348814741910323)
  let x3 := (x2 + kShr x2 (nI 4)) &&& 1085102592571150095
  let x4 := x3 + kShr x3 (nI 8)
  let x5 := x4 + kShr x4 (nI 16)
  let x6 := x5 + kShr x5 (nI 32)
  x6.toInt32 &&& nI 127
def gLow (x : Int64) : Int32 := jBC ((x &&& (-x)) - 1)
def gBes (R C : Nat) (x : Int64) : Int64 :=
  let ne := x &&& (gEa R C ^^^ (-1))
  let nw := x &&& (gWeN C R ^^^ (-1))
  let al := kShl ne (nI 1) ||| kShr nw (nI 1)
  let ac := kShl x (nI C) ||| kShr x (nI C)
  let sl := kShr ne (nI (C - 1)) ||| kShl nw (nI (C - 1))
  ((al ||| ac) ||| sl) &&& gAll R C
def gStep (R C : Nat) (w a : Int64) : Int64 := (a ||| gBes R C a) &&& w
def gIt (R C : Nat) (w : Int64) : Nat → Int64 → Int64 | 0, a => a | n + 1, a => gIt R C w n (gStep R C w a)
theorem gIt_fix {R C : Nat} {w a : Int64} (h : gStep R C w a = a) : ∀ n, gIt R C w n a = a
  | 0 => rfl
  | n + 1 => by show gIt R C w n (gStep R C w a) = a; rw [h]; exact gIt_fix h n
def gSp (R C : Nat) (x w : Int64) : Int64 := gIt R C w 36 (x &&& w)
def gGrN (R C : Nat) (w : Int64) : Nat → Int64 → Nat | 0, _ => 0 | n + 1, r => if r = 0 then 0 else gGrN R C w n (r &&& (gSp R C (r &&& (-r)) w ^^^ (-1))) + 1
def gGr (R C : Nat) (w : Int64) : Nat := gGrN R C w 36 w
theorem gGrN_0 {R C : Nat} {w : Int64} {n : Nat} {r : Int64} (h : r = 0) : gGrN R C w n r = 0 := by
  cases n with
  | zero => rfl
  | succ n => exact if_pos h
theorem gGrN_s {R C : Nat} {w : Int64} {n : Nat} {r : Int64} (h : ¬ r = 0) : gGrN R C w (n + 1) r = gGrN R C w n (r &&& (gSp R C (r &&& (-r)) w ^^^ (-1))) + 1 := if_neg h
theorem gGrN_le (R C : Nat) (w : Int64) : ∀ n r, gGrN R C w n r ≤ n
  | 0, _ => Nat.le_refl _
  | n + 1, r => by
    unfold gGrN
    split
    · omega
    · have := gGrN_le R C w n (r &&& (gSp R C (r &&& (-r)) w ^^^ (-1)))
      omega
def gBk (R C : Nat) (x : Int64) : Int32 := ((((if x &&& gNo C = 0 then nI 0 else nI 1) ||| (if x &&& gSo R C = 0 then nI 0 else nI 2)) ||| (if x &&& gWeN C R = 0 then nI 0 else nI 4)) ||| (if x &&& gEa R C = 0 then nI 0 else nI 8))
def gTuI (R C : Nat) (x : Int64) (r : Nat) (a : Int64) : Nat → Int64 | 0 => a | c + 1 => if x &&& gBit (nI (C * r + c)) = 0 then gTuI R C x r a c else gTuI R C x r a c ||| gBit (nI (R * c + r))
theorem gTuI_s0 {R C : Nat} {x : Int64} {r : Nat} {a : Int64} {c : Nat} (h : x &&& gBit (nI (C * r + c)) = 0) : gTuI R C x r a (c + 1) = gTuI R C x r a c := if_pos h
theorem gTuI_s1 {R C : Nat} {x : Int64} {r : Nat} {a : Int64} {c : Nat} (h : ¬ x &&& gBit (nI (C * r + c)) = 0) : gTuI R C x r a (c + 1) = gTuI R C x r a c ||| gBit (nI (R * c + r)) := if_neg h
def gTuO (R C : Nat) (x : Int64) : Nat → Int64 | 0 => 0 | r + 1 => gTuI R C x r (gTuO R C x r) C
def gTu (R C : Nat) (x : Int64) : Int64 := gTuO R C x R
theorem kz_side1 {n : Int32} (h1 : ¬ n < nI 1) (h2 : ¬ nI 6 < n) : 1 ≤ n ∧ n ≤ 6 := ⟨Int32.not_lt.mp h1, Int32.not_lt.mp h2⟩
theorem kz_side0 {n : Int32} (h : n < nI 1 ∨ nI 6 < n) : ¬ (1 ≤ n ∧ n ≤ 6) := by
  rintro ⟨h1, h2⟩
  rcases h with h | h
  · exact Int32.not_lt.mpr h1 h
  · exact Int32.not_lt.mpr h2 h
theorem kz_has1 {n : Nat} {f : Int32} (hn : n ≤ 36) (h1 : ¬ f < 0) (h2 : ¬ nI n ≤ f) : fIn n f := by
  obtain ⟨j, hj, he, -⟩ := pk_mu h1 h2 (by omega)
  exact ⟨j, hj, he⟩
theorem kz_has0 {n : Nat} {f : Int32} (hn : n ≤ 36) (h : f < 0 ∨ nI n ≤ f) : ¬ fIn n f := by
  rintro ⟨k, hk, rfl⟩
  rcases h with h | h
  · exact nI_pos (by omega) h
  · have := (nI_leI (a := n) (b := k) (by omega) (by omega)).mp h
    omega
set_option maxHeartbeats 4000000 in
set_option maxRecDepth 100000 in
theorem c_bit (l : Launch) (D : va_G) (cI cJ cZ : ClassId) (f : Int32) (sz : Nat) : kMJ l yX5_bit wsX5_bit 0 0 D cI cJ cZ [.int f] [] sz (fun r (_ : Unit) => r = gBit f) (fun _ : Unit => []) := by
  refine Met.ofW (cc := cX5_bit) (maxL := 1) (ret := (some .long)) (by decide) rfl ?_
  intro p e s m args below meth c s₁ B hml hv
  obtain ⟨rfl, hsz, hP, ⟨hK, hN⟩, hD0⟩ := hv
  have hx := B.exec
  have hb := B.bytes
  have hr := B.returns
  have hts := atoms_spec (ws := wsX5_bit) B.pre
  have hown : s.vm.findClass RX5 = some m.cls := findClass_of_methodNamed B.named
  have hlocks := B.notSynchronized
  subst hsz
  have hD := hD0.self (sz := s.heap.size)
  generalize hAe : va_A [] s.heap.size = A at hD ⊢
  have hA : ∀ q : Nat, s.heap.size ≤ q → A q := fun q h => by rw [← hAe]; exact Or.inr h
  have hS : va_S A s.heap s.heap [] := va_S.rf
  have hl := lv_entry ([.int f]) (n := 1) (Nat.le_of_ble_eq_true rfl)
  rw [lg_entry_eq]
  generalize (lg_sl ([.int f]) ++ List.replicate (1 - (lg_sl ([.int f])).length) Slot.unset).toArray = ls at hl ⊢
  have hl : lv_has ls 1 [(0, .int f)] := hl
  have hK2 : kK D cI cJ cZ s := ⟨hK, hN⟩
  clear hD0
  refine lv_lconst (v := 1) hx hb dX5_bit_0 (by decide) ?_
  refine lv_iload_n hx hb dX5_bit_1 rfl (lv_at hl 0 rfl) ?_
  refine lv_lshl (v := (kShl 1 f)) hx hb dX5_bit_2 rfl ?_
  exact W.lret (v := (kShl 1 f)) hx hb hr (fun t ht hW => ⟨⟨(kShl 1 f), (), rfl, rfl, by rw [ht]; exact hP, hD⟩, hS.F ht⟩) hS.2.2 dX5_bit_3

set_option maxHeartbeats 4000000 in
set_option maxRecDepth 100000 in
theorem c_bitCount (l : Launch) (D : va_G) (cI cJ cZ : ClassId) (x : Int64) (sz : Nat) : kMI l yJ13_bitCount_95d88 wsJ13_bitCount_95d88 0 0 D cI cJ cZ [.long x] [] sz (fun r (_ : Unit) => r = jBC x) (fun _ : Unit => []) := by
  refine Met.ofW (cc := cJ13_bitCount_95d88) (maxL := 2) (ret := (some .int)) (by decide) rfl ?_
  intro p e s m args below meth c s₁ B hml hv
  obtain ⟨rfl, hsz, hP, ⟨hK, hN⟩, hD0⟩ := hv
  have hx := B.exec
  have hb := B.bytes
  have hr := B.returns
  have hts := atoms_spec (ws := wsJ13_bitCount_95d88) B.pre
  have hown : s.vm.findClass RJ13 = some m.cls := findClass_of_methodNamed B.named
  have hlocks := B.notSynchronized
  subst hsz
  have hD := hD0.self (sz := s.heap.size)
  generalize hAe : va_A [] s.heap.size = A at hD ⊢
  have hA : ∀ q : Nat, s.heap.size ≤ q → A q := fun q h => by rw [← hAe]; exact Or.inr h
  have hS : va_S A s.heap s.heap [] := va_S.rf
  have hl := lv_entry ([.long x]) (n := 2) (Nat.le_of_ble_eq_true rfl)
  rw [lg_entry_eq]
  generalize (lg_sl ([.long x]) ++ List.replicate (2 - (lg_sl ([.long x])).length) Slot.unset).toArray = ls at hl ⊢
  have hl : lv_has ls 2 [(0, .long x)] := hl
  have hK2 : kK D cI cJ cZ s := ⟨hK, hN⟩
  clear hD0
  refine lv_lload_n hx hb dJ13_bitCount_95d88_0 rfl (lv_at hl 0 rfl) ?_
  refine lv_lload_n hx hb dJ13_bitCount_95d88_1 rfl (lv_at hl 0 rfl) ?_
  refine lv_iconst (v := (nI 1)) hx hb dJ13_bitCount_95d88_2 (by decide) ?_
  refine lv_lushr (v := (kShr x (nI 1))) hx hb dJ13_bitCount_95d88_3 rfl ?_
  refine lv_ldc2 (v := (6148914691236517205)) hx hb hown (hts (.constantLong RJ13 314 (6148914691236517205)) (List.mem_of_getElem? (i := 1) rfl)) dJ13_bitCount_95d88_4 ?_
  refine lv_land hx hb dJ13_bitCount_95d88_7 ?_
  refine lv_lsub hx hb dJ13_bitCount_95d88_8 ?_
  refine lv_lstore_n (lv' := [(0, .long (x - ((kShr x (nI 1)) &&& 6148914691236517205)))]) hx hb dJ13_bitCount_95d88_9 rfl hl (by decide) rfl (fun ls hl => ?_)
  refine lv_lload_n hx hb dJ13_bitCount_95d88_10 rfl (lv_at hl 0 rfl) ?_
  refine lv_ldc2 (v := (3689348814741910323)) hx hb hown (hts (.constantLong RJ13 316 (3689348814741910323)) (List.mem_of_getElem? (i := 2) rfl)) dJ13_bitCount_95d88_11 ?_
  refine lv_land hx hb dJ13_bitCount_95d88_14 ?_
  refine lv_lload_n hx hb dJ13_bitCount_95d88_15 rfl (lv_at hl 0 rfl) ?_
  refine lv_iconst (v := (nI 2)) hx hb dJ13_bitCount_95d88_16 (by decide) ?_
  refine lv_lushr (v := (kShr (x - ((kShr x (nI 1)) &&& 6148914691236517205)) (nI 2))) hx hb dJ13_bitCount_95d88_17 rfl ?_
  refine lv_ldc2 (v := (3689348814741910323)) hx hb hown (hts (.constantLong RJ13 316 (3689348814741910323)) (List.mem_of_getElem? (i := 2) rfl)) dJ13_bitCount_95d88_18 ?_
  refine lv_land hx hb dJ13_bitCount_95d88_21 ?_
  refine lv_ladd hx hb dJ13_bitCount_95d88_22 ?_
  refine lv_topl (fun x_1 ex_1 => ?_)
  refine lv_lstore_n (lv' := [(0, .long x_1)]) hx hb dJ13_bitCount_95d88_23 rfl hl (by decide) rfl (fun ls hl => ?_)
  refine lv_lload_n hx hb dJ13_bitCount_95d88_24 rfl (lv_at hl 0 rfl) ?_
  refine lv_lload_n hx hb dJ13_bitCount_95d88_25 rfl (lv_at hl 0 rfl) ?_
  refine lv_iconst (v := (nI 4)) hx hb dJ13_bitCount_95d88_26 (by decide) ?_
  refine lv_lushr (v := (kShr x_1 (nI 4))) hx hb dJ13_bitCount_95d88_27 rfl ?_
  refine lv_ladd hx hb dJ13_bitCount_95d88_28 ?_
  refine lv_ldc2 (v := (1085102592571150095)) hx hb hown (hts (.constantLong RJ13 318 (1085102592571150095)) (List.mem_of_getElem? (i := 3) rfl)) dJ13_bitCount_95d88_29 ?_
  refine lv_land hx hb dJ13_bitCount_95d88_32 ?_
  refine lv_lstore_n (lv' := [(0, .long ((x_1 + (kShr x_1 (nI 4))) &&& 1085102592571150095))]) hx hb dJ13_bitCount_95d88_33 rfl hl (by decide) rfl (fun ls hl => ?_)
  refine lv_lload_n hx hb dJ13_bitCount_95d88_34 rfl (lv_at hl 0 rfl) ?_
  refine lv_lload_n hx hb dJ13_bitCount_95d88_35 rfl (lv_at hl 0 rfl) ?_
  refine lv_bipush (v := (nI 8)) hx hb dJ13_bitCount_95d88_36 (by decide) ?_
  refine lv_lushr (v := (kShr ((x_1 + (kShr x_1 (nI 4))) &&& 1085102592571150095) (nI 8))) hx hb dJ13_bitCount_95d88_38 rfl ?_
  refine lv_ladd hx hb dJ13_bitCount_95d88_39 ?_
  refine lv_topl (fun x_2 ex_2 => ?_)
  refine lv_lstore_n (lv' := [(0, .long x_2)]) hx hb dJ13_bitCount_95d88_40 rfl hl (by decide) rfl (fun ls hl => ?_)
  refine lv_lload_n hx hb dJ13_bitCount_95d88_41 rfl (lv_at hl 0 rfl) ?_
  refine lv_lload_n hx hb dJ13_bitCount_95d88_42 rfl (lv_at hl 0 rfl) ?_
  refine lv_bipush (v := (nI 16)) hx hb dJ13_bitCount_95d88_43 (by decide) ?_
  refine lv_lushr (v := (kShr x_2 (nI 16))) hx hb dJ13_bitCount_95d88_45 rfl ?_
  refine lv_ladd hx hb dJ13_bitCount_95d88_46 ?_
  refine lv_lstore_n (lv' := [(0, .long (x_2 + (kShr x_2 (nI 16))))]) hx hb dJ13_bitCount_95d88_47 rfl hl (by decide) rfl (fun ls hl => ?_)
  refine lv_lload_n hx hb dJ13_bitCount_95d88_48 rfl (lv_at hl 0 rfl) ?_
  refine lv_lload_n hx hb dJ13_bitCount_95d88_49 rfl (lv_at hl 0 rfl) ?_
  refine lv_bipush (v := (nI 32)) hx hb dJ13_bitCount_95d88_50 (by decide) ?_
  refine lv_lushr (v := (kShr (x_2 + (kShr x_2 (nI 16))) (nI 32))) hx hb dJ13_bitCount_95d88_52 rfl ?_
  refine lv_ladd hx hb dJ13_bitCount_95d88_53 ?_
  refine lv_topl (fun x_3 ex_3 => ?_)
  refine lv_lstore_n (lv' := [(0, .long x_3)]) hx hb dJ13_bitCount_95d88_54 rfl hl (by decide) rfl (fun ls hl => ?_)
  refine lv_lload_n hx hb dJ13_bitCount_95d88_55 rfl (lv_at hl 0 rfl) ?_
  refine lv_l2i (v := x_3.toInt32) hx hb dJ13_bitCount_95d88_56 rfl ?_
  refine lv_bipush (v := (nI 127)) hx hb dJ13_bitCount_95d88_57 (by decide) ?_
  refine lv_iand hx hb dJ13_bitCount_95d88_59 ?_
  exact W.iret (v := ((x_3.toInt32) &&& (nI 127))) hx hb hr (fun t ht hW => ⟨⟨((x_3.toInt32) &&& (nI 127)), (), rfl, (by subst_vars; rfl), by rw [ht]; exact hP, hD⟩, hS.F ht⟩) hS.2.2 dJ13_bitCount_95d88_60

set_option maxHeartbeats 4000000 in
set_option maxRecDepth 100000 in
theorem c_lowest (l : Launch) (D : va_G) (cI cJ cZ : ClassId) (x : Int64) (sz : Nat) : kMI l yX5_lowest wsX5_lowest 1 21 D cI cJ cZ [.long x] [] sz (fun r (_ : Unit) => r = gLow x) (fun _ : Unit => []) := by
  refine Met.ofW (cc := cX5_lowest) (maxL := 2) (ret := (some .int)) (by decide) rfl ?_
  intro p e s m args below meth c s₁ B hml hv
  obtain ⟨rfl, hsz, hP, ⟨hK, hN⟩, hD0⟩ := hv
  have hx := B.exec
  have hb := B.bytes
  have hr := B.returns
  have hts := atoms_spec (ws := wsX5_lowest) B.pre
  have hown : s.vm.findClass RX5 = some m.cls := findClass_of_methodNamed B.named
  have hlocks := B.notSynchronized
  subst hsz
  have hD := hD0.self (sz := s.heap.size)
  generalize hAe : va_A [] s.heap.size = A at hD ⊢
  have hA : ∀ q : Nat, s.heap.size ≤ q → A q := fun q h => by rw [← hAe]; exact Or.inr h
  have hS : va_S A s.heap s.heap [] := va_S.rf
  have hl := lv_entry ([.long x]) (n := 2) (Nat.le_of_ble_eq_true rfl)
  rw [lg_entry_eq]
  generalize (lg_sl ([.long x]) ++ List.replicate (2 - (lg_sl ([.long x])).length) Slot.unset).toArray = ls at hl ⊢
  have hl : lv_has ls 2 [(0, .long x)] := hl
  have hK2 : kK D cI cJ cZ s := ⟨hK, hN⟩
  clear hD0
  refine lv_lload_n hx hb dX5_lowest_0 rfl (lv_at hl 0 rfl) ?_
  refine lv_lload_n hx hb dX5_lowest_1 rfl (lv_at hl 0 rfl) ?_
  refine lv_lneg hx hb dX5_lowest_2 ?_
  refine lv_land hx hb dX5_lowest_3 ?_
  refine lv_lconst (v := 1) hx hb dX5_lowest_4 (by decide) ?_
  refine lv_lsub hx hb dX5_lowest_5 ?_
  refine k_calli (wr := []) (w2 := (fun _ : Unit => [])) (va_runS (As := [.long ((x &&& (-x)) - 1)]) (rest := []) ⟨hx, hb, hml, hown, hts⟩ (c_bitCount l D cI cJ cZ ((x &&& (-x)) - 1)  s.heap.size) (va_cwS 1 hts gX5_lowest_J13_bitCount_95d88 rfl rfl rfl (by decide +kernel) ⟨Nat.le_of_ble_eq_true rfl, Nat.le_of_ble_eq_true rfl⟩) (kPS (wc := []) hK2 hP hD [] rfl (by decide)) rfl rfl hl.1 rfl (lv_room (Nat.le_of_ble_eq_true rfl)) dX5_lowest_6 ⟨Nat.le_of_ble_eq_true rfl, Nat.le_of_ble_eq_true rfl⟩) hP hD hS hA [] [] [] rfl rfl (by decide) (by decide) (fun _ => rfl) (by decide) (fun r_1 u_1 H locs hw_1 hP hD hS => ?_)
  have hP : va_P D vwCl [] H := hP
  have hD : va_D A [] := hD
  subst hw_1
  exact W.iret (v := (jBC ((x &&& (-x)) - 1))) hx hb hr (fun t ht hW => ⟨⟨(jBC ((x &&& (-x)) - 1)), (), rfl, rfl, by rw [ht]; exact hP, hD⟩, hS.F ht⟩) hS.2.2 dX5_lowest_9

set_option maxHeartbeats 4000000 in
set_option maxRecDepth 100000 in
theorem c_isSide (l : Launch) (D : va_G) (cI cJ cZ : ClassId) (n : Int32) (sz : Nat) : kMI l yX5_isSide wsX5_isSide 0 0 D cI cJ cZ [.int n] [] sz (fun r (_ : Unit) => (r = nI 1 ∧ 1 ≤ n ∧ n ≤ 6) ∨ (r = nI 0 ∧ ¬ (1 ≤ n ∧ n ≤ 6))) (fun _ : Unit => []) := by
  refine Met.ofW (cc := cX5_isSide) (maxL := 1) (ret := (some .boolean)) (by decide) rfl ?_
  intro p e s m args below meth c s₁ B hml hv
  obtain ⟨rfl, hsz, hP, ⟨hK, hN⟩, hD0⟩ := hv
  have hx := B.exec
  have hb := B.bytes
  have hr := B.returns
  have hts := atoms_spec (ws := wsX5_isSide) B.pre
  have hown : s.vm.findClass RX5 = some m.cls := findClass_of_methodNamed B.named
  have hlocks := B.notSynchronized
  subst hsz
  have hD := hD0.self (sz := s.heap.size)
  generalize hAe : va_A [] s.heap.size = A at hD ⊢
  have hA : ∀ q : Nat, s.heap.size ≤ q → A q := fun q h => by rw [← hAe]; exact Or.inr h
  have hS : va_S A s.heap s.heap [] := va_S.rf
  have hl := lv_entry ([.int n]) (n := 1) (Nat.le_of_ble_eq_true rfl)
  rw [lg_entry_eq]
  generalize (lg_sl ([.int n]) ++ List.replicate (1 - (lg_sl ([.int n])).length) Slot.unset).toArray = ls at hl ⊢
  have hl : lv_has ls 1 [(0, .int n)] := hl
  have hK2 : kK D cI cJ cZ s := ⟨hK, hN⟩
  clear hD0
  refine lv_iload_n hx hb dX5_isSide_0 rfl (lv_at hl 0 rfl) ?_
  refine lv_iconst (v := (nI 1)) hx hb dX5_isSide_1 (by decide) ?_
  refine lv_icmp_lt (tgt := 15) hx hb dX5_isSide_2 (by decide) (fun c_2_1 => ?_) (fun c_2_1 => ?_)
  · refine lv_iconst (v := (nI 0)) hx hb dX5_isSide_15 (by decide) ?_
    exact W.zret (v := (nI 0)) hx hb hr (by first | decide +kernel | assumption | exact kz_narr (by first | assumption | omega)) (fun t ht hW => ⟨⟨(nI 0), (), rfl, Or.inr ⟨rfl, (kz_side0 (by first | assumption | exact Or.inl (by assumption) | exact Or.inr (by assumption)))⟩, by rw [ht]; exact hP, hD⟩, hS.F ht⟩) hS.2.2 dX5_isSide_16
  · refine lv_iload_n hx hb dX5_isSide_5 rfl (lv_at hl 0 rfl) ?_
    refine lv_bipush (v := (nI 6)) hx hb dX5_isSide_6 (by decide) ?_
    refine lv_icmp_gt (tgt := 15) hx hb dX5_isSide_8 (by decide) (fun c_8_2 => ?_) (fun c_8_2 => ?_)
    · refine lv_iconst (v := (nI 0)) hx hb dX5_isSide_15 (by decide) ?_
      exact W.zret (v := (nI 0)) hx hb hr (by first | decide +kernel | assumption | exact kz_narr (by first | assumption | omega)) (fun t ht hW => ⟨⟨(nI 0), (), rfl, Or.inr ⟨rfl, (kz_side0 (by first | assumption | exact Or.inl (by assumption) | exact Or.inr (by assumption)))⟩, by rw [ht]; exact hP, hD⟩, hS.F ht⟩) hS.2.2 dX5_isSide_16
    · refine lv_iconst (v := (nI 1)) hx hb dX5_isSide_11 (by decide) ?_
      refine lv_goto (tgt := 16) hx hb dX5_isSide_12 (by decide) ?_
      exact W.zret (v := (nI 1)) hx hb hr (by first | decide +kernel | assumption | exact kz_narr (by first | assumption | omega)) (fun t ht hW => ⟨⟨(nI 1), (), rfl, Or.inl ⟨rfl, (kz_side1 (by assumption) (by assumption))⟩, by rw [ht]; exact hP, hD⟩, hS.F ht⟩) hS.2.2 dX5_isSide_16

set_option maxHeartbeats 4000000 in
set_option maxRecDepth 100000 in
theorem c_isColour (l : Launch) (D : va_G) (cI cJ cZ : ClassId) (n : Int32) (sz : Nat) : kMI l yX5_isColour wsX5_isColour 0 0 D cI cJ cZ [.int n] [] sz (fun r (_ : Unit) => (r = nI 1 ∧ (n = nI 1 ∨ n = nI 2)) ∨ (r = nI 0 ∧ n ≠ nI 1 ∧ n ≠ nI 2)) (fun _ : Unit => []) := by
  refine Met.ofW (cc := cX5_isColour) (maxL := 1) (ret := (some .boolean)) (by decide) rfl ?_
  intro p e s m args below meth c s₁ B hml hv
  obtain ⟨rfl, hsz, hP, ⟨hK, hN⟩, hD0⟩ := hv
  have hx := B.exec
  have hb := B.bytes
  have hr := B.returns
  have hts := atoms_spec (ws := wsX5_isColour) B.pre
  have hown : s.vm.findClass RX5 = some m.cls := findClass_of_methodNamed B.named
  have hlocks := B.notSynchronized
  subst hsz
  have hD := hD0.self (sz := s.heap.size)
  generalize hAe : va_A [] s.heap.size = A at hD ⊢
  have hA : ∀ q : Nat, s.heap.size ≤ q → A q := fun q h => by rw [← hAe]; exact Or.inr h
  have hS : va_S A s.heap s.heap [] := va_S.rf
  have hl := lv_entry ([.int n]) (n := 1) (Nat.le_of_ble_eq_true rfl)
  rw [lg_entry_eq]
  generalize (lg_sl ([.int n]) ++ List.replicate (1 - (lg_sl ([.int n])).length) Slot.unset).toArray = ls at hl ⊢
  have hl : lv_has ls 1 [(0, .int n)] := hl
  have hK2 : kK D cI cJ cZ s := ⟨hK, hN⟩
  clear hD0
  refine lv_iload_n hx hb dX5_isColour_0 rfl (lv_at hl 0 rfl) ?_
  refine lv_iconst (v := (nI 1)) hx hb dX5_isColour_1 (by decide) ?_
  refine lv_icmp_eq (tgt := 10) hx hb dX5_isColour_2 (by decide) (fun c_2_1 => ?_) (fun c_2_1 => ?_)
  · refine lv_iconst (v := (nI 1)) hx hb dX5_isColour_10 (by decide) ?_
    refine lv_goto (tgt := 15) hx hb dX5_isColour_11 (by decide) ?_
    exact W.zret (v := (nI 1)) hx hb hr (by first | decide +kernel | assumption | exact kz_narr (by first | assumption | omega)) (fun t ht hW => ⟨⟨(nI 1), (), rfl, Or.inl ⟨rfl, (by first | exact Or.inl (by assumption) | exact Or.inr (by assumption))⟩, by rw [ht]; exact hP, hD⟩, hS.F ht⟩) hS.2.2 dX5_isColour_15
  · refine lv_iload_n hx hb dX5_isColour_5 rfl (lv_at hl 0 rfl) ?_
    refine lv_iconst (v := (nI 2)) hx hb dX5_isColour_6 (by decide) ?_
    refine lv_icmp_ne (tgt := 14) hx hb dX5_isColour_7 (by decide) (fun c_7_2 => ?_) (fun c_7_2 => ?_)
    · refine lv_iconst (v := (nI 0)) hx hb dX5_isColour_14 (by decide) ?_
      exact W.zret (v := (nI 0)) hx hb hr (by first | decide +kernel | assumption | exact kz_narr (by first | assumption | omega)) (fun t ht hW => ⟨⟨(nI 0), (), rfl, Or.inr ⟨rfl, ⟨by assumption, by assumption⟩⟩, by rw [ht]; exact hP, hD⟩, hS.F ht⟩) hS.2.2 dX5_isColour_15
    · refine lv_iconst (v := (nI 1)) hx hb dX5_isColour_10 (by decide) ?_
      refine lv_goto (tgt := 15) hx hb dX5_isColour_11 (by decide) ?_
      exact W.zret (v := (nI 1)) hx hb hr (by first | decide +kernel | assumption | exact kz_narr (by first | assumption | omega)) (fun t ht hW => ⟨⟨(nI 1), (), rfl, Or.inl ⟨rfl, (by first | exact Or.inl (by assumption) | exact Or.inr (by assumption))⟩, by rw [ht]; exact hP, hD⟩, hS.F ht⟩) hS.2.2 dX5_isColour_15

set_option maxHeartbeats 4000000 in
set_option maxRecDepth 100000 in
theorem c_other (l : Launch) (D : va_G) (cI cJ cZ : ClassId) (n : Int32) (sz : Nat) : kMI l yX5_other wsX5_other 0 0 D cI cJ cZ [.int n] [] sz (fun r (_ : Unit) => r = if n = nI 1 then nI 2 else nI 1) (fun _ : Unit => []) := by
  refine Met.ofW (cc := cX5_other) (maxL := 1) (ret := (some .int)) (by decide) rfl ?_
  intro p e s m args below meth c s₁ B hml hv
  obtain ⟨rfl, hsz, hP, ⟨hK, hN⟩, hD0⟩ := hv
  have hx := B.exec
  have hb := B.bytes
  have hr := B.returns
  have hts := atoms_spec (ws := wsX5_other) B.pre
  have hown : s.vm.findClass RX5 = some m.cls := findClass_of_methodNamed B.named
  have hlocks := B.notSynchronized
  subst hsz
  have hD := hD0.self (sz := s.heap.size)
  generalize hAe : va_A [] s.heap.size = A at hD ⊢
  have hA : ∀ q : Nat, s.heap.size ≤ q → A q := fun q h => by rw [← hAe]; exact Or.inr h
  have hS : va_S A s.heap s.heap [] := va_S.rf
  have hl := lv_entry ([.int n]) (n := 1) (Nat.le_of_ble_eq_true rfl)
  rw [lg_entry_eq]
  generalize (lg_sl ([.int n]) ++ List.replicate (1 - (lg_sl ([.int n])).length) Slot.unset).toArray = ls at hl ⊢
  have hl : lv_has ls 1 [(0, .int n)] := hl
  have hK2 : kK D cI cJ cZ s := ⟨hK, hN⟩
  clear hD0
  refine lv_iload_n hx hb dX5_other_0 rfl (lv_at hl 0 rfl) ?_
  refine lv_iconst (v := (nI 1)) hx hb dX5_other_1 (by decide) ?_
  refine lv_icmp_ne (tgt := 9) hx hb dX5_other_2 (by decide) (fun c_2_1 => ?_) (fun c_2_1 => ?_)
  · refine lv_iconst (v := (nI 1)) hx hb dX5_other_9 (by decide) ?_
    exact W.iret (v := (nI 1)) hx hb hr (fun t ht hW => ⟨⟨(nI 1), (), rfl, (by first | rw [if_pos (by assumption)] | rw [if_neg (by assumption)]), by rw [ht]; exact hP, hD⟩, hS.F ht⟩) hS.2.2 dX5_other_10
  · refine lv_iconst (v := (nI 2)) hx hb dX5_other_5 (by decide) ?_
    refine lv_goto (tgt := 10) hx hb dX5_other_6 (by decide) ?_
    exact W.iret (v := (nI 2)) hx hb hr (fun t ht hW => ⟨⟨(nI 2), (), rfl, (by first | rw [if_pos (by assumption)] | rw [if_neg (by assumption)]), by rw [ht]; exact hP, hD⟩, hS.F ht⟩) hS.2.2 dX5_other_10

theorem kiX2_rows_X2 : ∀ w ∈ u_ws RX2 TX2 7, w ∈ wsX2_rows := fun w h => List.mem_cons_of_mem _ (List.mem_append_right _ h)
set_option maxHeartbeats 4000000 in
set_option maxRecDepth 100000 in
theorem c_G_rows (l : Launch) (D : va_G) (cI cJ cZ : ClassId) (h0 : Nat) (R C : Nat) (sz : Nat) : kMI l yX2_rows wsX2_rows 0 0 D cI cJ cZ [.ref h0] [(h0, wGr R C)] sz (fun r (_ : Unit) => r = nI R) (fun _ : Unit => [(h0, wGr R C)]) := by
  refine Met.ofW (cc := cX2_rows) (maxL := 1) (ret := (some .int)) (by decide) rfl ?_
  intro p e s m args below meth c s₁ B hml hv
  obtain ⟨rfl, hsz, hP, ⟨hK, hN⟩, hD0⟩ := hv
  have hx := B.exec
  have hb := B.bytes
  have hr := B.returns
  have hts := atoms_spec (ws := wsX2_rows) B.pre
  have hown : s.vm.findClass RX2 = some m.cls := findClass_of_methodNamed B.named
  have hlocks := B.notSynchronized
  subst hsz
  have hD := hD0.self (sz := s.heap.size)
  generalize hAe : va_A [(h0, wGr R C)] s.heap.size = A at hD ⊢
  have hA : ∀ q : Nat, s.heap.size ≤ q → A q := fun q h => by rw [← hAe]; exact Or.inr h
  have hS : va_S A s.heap s.heap [] := va_S.rf
  have hl := lv_entry ([.ref h0]) (n := 1) (Nat.le_of_ble_eq_true rfl)
  rw [lg_entry_eq]
  generalize (lg_sl ([.ref h0]) ++ List.replicate (1 - (lg_sl ([.ref h0])).length) Slot.unset).toArray = ls at hl ⊢
  have hl : lv_has ls 1 [(0, .ref h0)] := hl
  have hK2 : kK D cI cJ cZ s := ⟨hK, hN⟩
  clear hD0
  refine lv_aload_n hx hb dX2_rows_0 rfl (lv_at hl 0 rfl) ?_
  refine va_get (D := D) (ci := 2) (v := .int (nI R)) (C := RX2) (T := TX2) (N := 7) hx hb hts kiX2_rows_X2 hown hK hP 0 rfl rfl 0 (by decide) (hts (.fieldLink RX2 9 "TwoBanks$Grid" "rows" "I") (List.mem_of_getElem? (i := 1) rfl)) (fun _ h9 => h9) rfl dX2_rows_1 ?_
  exact W.iret (v := (nI R)) hx hb hr (fun t ht hW => ⟨⟨(nI R), (), rfl, rfl, by rw [ht]; exact hP, hD⟩, hS.F ht⟩) hS.2.2 dX2_rows_4

theorem kiX2_columns_X2 : ∀ w ∈ u_ws RX2 TX2 7, w ∈ wsX2_columns := fun w h => List.mem_cons_of_mem _ (List.mem_append_right _ h)
set_option maxHeartbeats 4000000 in
set_option maxRecDepth 100000 in
theorem c_G_columns (l : Launch) (D : va_G) (cI cJ cZ : ClassId) (h0 : Nat) (R C : Nat) (sz : Nat) : kMI l yX2_columns wsX2_columns 0 0 D cI cJ cZ [.ref h0] [(h0, wGr R C)] sz (fun r (_ : Unit) => r = nI C) (fun _ : Unit => [(h0, wGr R C)]) := by
  refine Met.ofW (cc := cX2_columns) (maxL := 1) (ret := (some .int)) (by decide) rfl ?_
  intro p e s m args below meth c s₁ B hml hv
  obtain ⟨rfl, hsz, hP, ⟨hK, hN⟩, hD0⟩ := hv
  have hx := B.exec
  have hb := B.bytes
  have hr := B.returns
  have hts := atoms_spec (ws := wsX2_columns) B.pre
  have hown : s.vm.findClass RX2 = some m.cls := findClass_of_methodNamed B.named
  have hlocks := B.notSynchronized
  subst hsz
  have hD := hD0.self (sz := s.heap.size)
  generalize hAe : va_A [(h0, wGr R C)] s.heap.size = A at hD ⊢
  have hA : ∀ q : Nat, s.heap.size ≤ q → A q := fun q h => by rw [← hAe]; exact Or.inr h
  have hS : va_S A s.heap s.heap [] := va_S.rf
  have hl := lv_entry ([.ref h0]) (n := 1) (Nat.le_of_ble_eq_true rfl)
  rw [lg_entry_eq]
  generalize (lg_sl ([.ref h0]) ++ List.replicate (1 - (lg_sl ([.ref h0])).length) Slot.unset).toArray = ls at hl ⊢
  have hl : lv_has ls 1 [(0, .ref h0)] := hl
  have hK2 : kK D cI cJ cZ s := ⟨hK, hN⟩
  clear hD0
  refine lv_aload_n hx hb dX2_columns_0 rfl (lv_at hl 0 rfl) ?_
  refine va_get (D := D) (ci := 2) (v := .int (nI C)) (C := RX2) (T := TX2) (N := 7) hx hb hts kiX2_columns_X2 hown hK hP 0 rfl rfl 1 (by decide) (hts (.fieldLink RX2 15 "TwoBanks$Grid" "columns" "I") (List.mem_of_getElem? (i := 1) rfl)) (fun _ h9 => h9) rfl dX2_columns_1 ?_
  exact W.iret (v := (nI C)) hx hb hr (fun t ht hW => ⟨⟨(nI C), (), rfl, rfl, by rw [ht]; exact hP, hD⟩, hS.F ht⟩) hS.2.2 dX2_columns_4

theorem kiX2_all_X2 : ∀ w ∈ u_ws RX2 TX2 7, w ∈ wsX2_all := fun w h => List.mem_cons_of_mem _ (List.mem_append_right _ h)
set_option maxHeartbeats 4000000 in
set_option maxRecDepth 100000 in
theorem c_G_all (l : Launch) (D : va_G) (cI cJ cZ : ClassId) (h0 : Nat) (R C : Nat) (sz : Nat) : kMJ l yX2_all wsX2_all 0 0 D cI cJ cZ [.ref h0] [(h0, wGr R C)] sz (fun r (_ : Unit) => r = gAll R C) (fun _ : Unit => [(h0, wGr R C)]) := by
  refine Met.ofW (cc := cX2_all) (maxL := 1) (ret := (some .long)) (by decide) rfl ?_
  intro p e s m args below meth c s₁ B hml hv
  obtain ⟨rfl, hsz, hP, ⟨hK, hN⟩, hD0⟩ := hv
  have hx := B.exec
  have hb := B.bytes
  have hr := B.returns
  have hts := atoms_spec (ws := wsX2_all) B.pre
  have hown : s.vm.findClass RX2 = some m.cls := findClass_of_methodNamed B.named
  have hlocks := B.notSynchronized
  subst hsz
  have hD := hD0.self (sz := s.heap.size)
  generalize hAe : va_A [(h0, wGr R C)] s.heap.size = A at hD ⊢
  have hA : ∀ q : Nat, s.heap.size ≤ q → A q := fun q h => by rw [← hAe]; exact Or.inr h
  have hS : va_S A s.heap s.heap [] := va_S.rf
  have hl := lv_entry ([.ref h0]) (n := 1) (Nat.le_of_ble_eq_true rfl)
  rw [lg_entry_eq]
  generalize (lg_sl ([.ref h0]) ++ List.replicate (1 - (lg_sl ([.ref h0])).length) Slot.unset).toArray = ls at hl ⊢
  have hl : lv_has ls 1 [(0, .ref h0)] := hl
  have hK2 : kK D cI cJ cZ s := ⟨hK, hN⟩
  clear hD0
  refine lv_aload_n hx hb dX2_all_0 rfl (lv_at hl 0 rfl) ?_
  refine va_get (D := D) (ci := 2) (v := .long (gAll R C)) (C := RX2) (T := TX2) (N := 7) hx hb hts kiX2_all_X2 hown hK hP 0 rfl rfl 2 (by decide) (hts (.fieldLink RX2 22 "TwoBanks$Grid" "all" "J") (List.mem_of_getElem? (i := 1) rfl)) (fun _ h9 => h9) rfl dX2_all_1 ?_
  exact W.lret (v := (gAll R C)) hx hb hr (fun t ht hW => ⟨⟨(gAll R C), (), rfl, rfl, by rw [ht]; exact hP, hD⟩, hS.F ht⟩) hS.2.2 dX2_all_4

theorem kiX2_northBank_X2 : ∀ w ∈ u_ws RX2 TX2 7, w ∈ wsX2_northBank := fun w h => List.mem_cons_of_mem _ (List.mem_append_right _ h)
set_option maxHeartbeats 4000000 in
set_option maxRecDepth 100000 in
theorem c_G_northBank (l : Launch) (D : va_G) (cI cJ cZ : ClassId) (h0 : Nat) (R C : Nat) (sz : Nat) : kMJ l yX2_northBank wsX2_northBank 0 0 D cI cJ cZ [.ref h0] [(h0, wGr R C)] sz (fun r (_ : Unit) => r = gNo C) (fun _ : Unit => [(h0, wGr R C)]) := by
  refine Met.ofW (cc := cX2_northBank) (maxL := 1) (ret := (some .long)) (by decide) rfl ?_
  intro p e s m args below meth c s₁ B hml hv
  obtain ⟨rfl, hsz, hP, ⟨hK, hN⟩, hD0⟩ := hv
  have hx := B.exec
  have hb := B.bytes
  have hr := B.returns
  have hts := atoms_spec (ws := wsX2_northBank) B.pre
  have hown : s.vm.findClass RX2 = some m.cls := findClass_of_methodNamed B.named
  have hlocks := B.notSynchronized
  subst hsz
  have hD := hD0.self (sz := s.heap.size)
  generalize hAe : va_A [(h0, wGr R C)] s.heap.size = A at hD ⊢
  have hA : ∀ q : Nat, s.heap.size ≤ q → A q := fun q h => by rw [← hAe]; exact Or.inr h
  have hS : va_S A s.heap s.heap [] := va_S.rf
  have hl := lv_entry ([.ref h0]) (n := 1) (Nat.le_of_ble_eq_true rfl)
  rw [lg_entry_eq]
  generalize (lg_sl ([.ref h0]) ++ List.replicate (1 - (lg_sl ([.ref h0])).length) Slot.unset).toArray = ls at hl ⊢
  have hl : lv_has ls 1 [(0, .ref h0)] := hl
  have hK2 : kK D cI cJ cZ s := ⟨hK, hN⟩
  clear hD0
  refine lv_aload_n hx hb dX2_northBank_0 rfl (lv_at hl 0 rfl) ?_
  refine va_get (D := D) (ci := 2) (v := .long (gNo C)) (C := RX2) (T := TX2) (N := 7) hx hb hts kiX2_northBank_X2 hown hK hP 0 rfl rfl 3 (by decide) (hts (.fieldLink RX2 26 "TwoBanks$Grid" "northBank" "J") (List.mem_of_getElem? (i := 1) rfl)) (fun _ h9 => h9) rfl dX2_northBank_1 ?_
  exact W.lret (v := (gNo C)) hx hb hr (fun t ht hW => ⟨⟨(gNo C), (), rfl, rfl, by rw [ht]; exact hP, hD⟩, hS.F ht⟩) hS.2.2 dX2_northBank_4

theorem kiX2_southBank_X2 : ∀ w ∈ u_ws RX2 TX2 7, w ∈ wsX2_southBank := fun w h => List.mem_cons_of_mem _ (List.mem_append_right _ h)
set_option maxHeartbeats 4000000 in
set_option maxRecDepth 100000 in
theorem c_G_southBank (l : Launch) (D : va_G) (cI cJ cZ : ClassId) (h0 : Nat) (R C : Nat) (sz : Nat) : kMJ l yX2_southBank wsX2_southBank 0 0 D cI cJ cZ [.ref h0] [(h0, wGr R C)] sz (fun r (_ : Unit) => r = gSo R C) (fun _ : Unit => [(h0, wGr R C)]) := by
  refine Met.ofW (cc := cX2_southBank) (maxL := 1) (ret := (some .long)) (by decide) rfl ?_
  intro p e s m args below meth c s₁ B hml hv
  obtain ⟨rfl, hsz, hP, ⟨hK, hN⟩, hD0⟩ := hv
  have hx := B.exec
  have hb := B.bytes
  have hr := B.returns
  have hts := atoms_spec (ws := wsX2_southBank) B.pre
  have hown : s.vm.findClass RX2 = some m.cls := findClass_of_methodNamed B.named
  have hlocks := B.notSynchronized
  subst hsz
  have hD := hD0.self (sz := s.heap.size)
  generalize hAe : va_A [(h0, wGr R C)] s.heap.size = A at hD ⊢
  have hA : ∀ q : Nat, s.heap.size ≤ q → A q := fun q h => by rw [← hAe]; exact Or.inr h
  have hS : va_S A s.heap s.heap [] := va_S.rf
  have hl := lv_entry ([.ref h0]) (n := 1) (Nat.le_of_ble_eq_true rfl)
  rw [lg_entry_eq]
  generalize (lg_sl ([.ref h0]) ++ List.replicate (1 - (lg_sl ([.ref h0])).length) Slot.unset).toArray = ls at hl ⊢
  have hl : lv_has ls 1 [(0, .ref h0)] := hl
  have hK2 : kK D cI cJ cZ s := ⟨hK, hN⟩
  clear hD0
  refine lv_aload_n hx hb dX2_southBank_0 rfl (lv_at hl 0 rfl) ?_
  refine va_get (D := D) (ci := 2) (v := .long (gSo R C)) (C := RX2) (T := TX2) (N := 7) hx hb hts kiX2_southBank_X2 hown hK hP 0 rfl rfl 4 (by decide) (hts (.fieldLink RX2 29 "TwoBanks$Grid" "southBank" "J") (List.mem_of_getElem? (i := 1) rfl)) (fun _ h9 => h9) rfl dX2_southBank_1 ?_
  exact W.lret (v := (gSo R C)) hx hb hr (fun t ht hW => ⟨⟨(gSo R C), (), rfl, rfl, by rw [ht]; exact hP, hD⟩, hS.F ht⟩) hS.2.2 dX2_southBank_4

theorem kiX2_westBank_X2 : ∀ w ∈ u_ws RX2 TX2 7, w ∈ wsX2_westBank := fun w h => List.mem_cons_of_mem _ (List.mem_append_right _ h)
set_option maxHeartbeats 4000000 in
set_option maxRecDepth 100000 in
theorem c_G_westBank (l : Launch) (D : va_G) (cI cJ cZ : ClassId) (h0 : Nat) (R C : Nat) (sz : Nat) : kMJ l yX2_westBank wsX2_westBank 0 0 D cI cJ cZ [.ref h0] [(h0, wGr R C)] sz (fun r (_ : Unit) => r = gWeN C R) (fun _ : Unit => [(h0, wGr R C)]) := by
  refine Met.ofW (cc := cX2_westBank) (maxL := 1) (ret := (some .long)) (by decide) rfl ?_
  intro p e s m args below meth c s₁ B hml hv
  obtain ⟨rfl, hsz, hP, ⟨hK, hN⟩, hD0⟩ := hv
  have hx := B.exec
  have hb := B.bytes
  have hr := B.returns
  have hts := atoms_spec (ws := wsX2_westBank) B.pre
  have hown : s.vm.findClass RX2 = some m.cls := findClass_of_methodNamed B.named
  have hlocks := B.notSynchronized
  subst hsz
  have hD := hD0.self (sz := s.heap.size)
  generalize hAe : va_A [(h0, wGr R C)] s.heap.size = A at hD ⊢
  have hA : ∀ q : Nat, s.heap.size ≤ q → A q := fun q h => by rw [← hAe]; exact Or.inr h
  have hS : va_S A s.heap s.heap [] := va_S.rf
  have hl := lv_entry ([.ref h0]) (n := 1) (Nat.le_of_ble_eq_true rfl)
  rw [lg_entry_eq]
  generalize (lg_sl ([.ref h0]) ++ List.replicate (1 - (lg_sl ([.ref h0])).length) Slot.unset).toArray = ls at hl ⊢
  have hl : lv_has ls 1 [(0, .ref h0)] := hl
  have hK2 : kK D cI cJ cZ s := ⟨hK, hN⟩
  clear hD0
  refine lv_aload_n hx hb dX2_westBank_0 rfl (lv_at hl 0 rfl) ?_
  refine va_get (D := D) (ci := 2) (v := .long (gWeN C R)) (C := RX2) (T := TX2) (N := 7) hx hb hts kiX2_westBank_X2 hown hK hP 0 rfl rfl 5 (by decide) (hts (.fieldLink RX2 32 "TwoBanks$Grid" "westBank" "J") (List.mem_of_getElem? (i := 1) rfl)) (fun _ h9 => h9) rfl dX2_westBank_1 ?_
  exact W.lret (v := (gWeN C R)) hx hb hr (fun t ht hW => ⟨⟨(gWeN C R), (), rfl, rfl, by rw [ht]; exact hP, hD⟩, hS.F ht⟩) hS.2.2 dX2_westBank_4

theorem kiX2_eastBank_X2 : ∀ w ∈ u_ws RX2 TX2 7, w ∈ wsX2_eastBank := fun w h => List.mem_cons_of_mem _ (List.mem_append_right _ h)
set_option maxHeartbeats 4000000 in
set_option maxRecDepth 100000 in
theorem c_G_eastBank (l : Launch) (D : va_G) (cI cJ cZ : ClassId) (h0 : Nat) (R C : Nat) (sz : Nat) : kMJ l yX2_eastBank wsX2_eastBank 0 0 D cI cJ cZ [.ref h0] [(h0, wGr R C)] sz (fun r (_ : Unit) => r = gEa R C) (fun _ : Unit => [(h0, wGr R C)]) := by
  refine Met.ofW (cc := cX2_eastBank) (maxL := 1) (ret := (some .long)) (by decide) rfl ?_
  intro p e s m args below meth c s₁ B hml hv
  obtain ⟨rfl, hsz, hP, ⟨hK, hN⟩, hD0⟩ := hv
  have hx := B.exec
  have hb := B.bytes
  have hr := B.returns
  have hts := atoms_spec (ws := wsX2_eastBank) B.pre
  have hown : s.vm.findClass RX2 = some m.cls := findClass_of_methodNamed B.named
  have hlocks := B.notSynchronized
  subst hsz
  have hD := hD0.self (sz := s.heap.size)
  generalize hAe : va_A [(h0, wGr R C)] s.heap.size = A at hD ⊢
  have hA : ∀ q : Nat, s.heap.size ≤ q → A q := fun q h => by rw [← hAe]; exact Or.inr h
  have hS : va_S A s.heap s.heap [] := va_S.rf
  have hl := lv_entry ([.ref h0]) (n := 1) (Nat.le_of_ble_eq_true rfl)
  rw [lg_entry_eq]
  generalize (lg_sl ([.ref h0]) ++ List.replicate (1 - (lg_sl ([.ref h0])).length) Slot.unset).toArray = ls at hl ⊢
  have hl : lv_has ls 1 [(0, .ref h0)] := hl
  have hK2 : kK D cI cJ cZ s := ⟨hK, hN⟩
  clear hD0
  refine lv_aload_n hx hb dX2_eastBank_0 rfl (lv_at hl 0 rfl) ?_
  refine va_get (D := D) (ci := 2) (v := .long (gEa R C)) (C := RX2) (T := TX2) (N := 7) hx hb hts kiX2_eastBank_X2 hown hK hP 0 rfl rfl 6 (by decide) (hts (.fieldLink RX2 35 "TwoBanks$Grid" "eastBank" "J") (List.mem_of_getElem? (i := 1) rfl)) (fun _ h9 => h9) rfl dX2_eastBank_1 ?_
  exact W.lret (v := (gEa R C)) hx hb hr (fun t ht hW => ⟨⟨(gEa R C), (), rfl, rfl, by rw [ht]; exact hP, hD⟩, hS.F ht⟩) hS.2.2 dX2_eastBank_4

theorem kiX2_has_X2 : ∀ w ∈ u_ws RX2 TX2 7, w ∈ wsX2_has := fun w h => List.mem_cons_of_mem _ (List.mem_append_right _ h)
set_option maxHeartbeats 4000000 in
set_option maxRecDepth 100000 in
theorem c_G_has (l : Launch) (D : va_G) (cI cJ cZ : ClassId) (h0 : Nat) (R C : Nat) (f : Int32) (hRC : R * C ≤ 36) (sz : Nat) : kMI l yX2_has wsX2_has 0 0 D cI cJ cZ [.ref h0, .int f] [(h0, wGr R C)] sz (fun r (_ : Unit) => (r = nI 1 ∧ fIn (R * C) f) ∨ (r = nI 0 ∧ ¬ fIn (R * C) f)) (fun _ : Unit => [(h0, wGr R C)]) := by
  refine Met.ofW (cc := cX2_has) (maxL := 2) (ret := (some .boolean)) (by decide) rfl ?_
  intro p e s m args below meth c s₁ B hml hv
  obtain ⟨rfl, hsz, hP, ⟨hK, hN⟩, hD0⟩ := hv
  have hx := B.exec
  have hb := B.bytes
  have hr := B.returns
  have hts := atoms_spec (ws := wsX2_has) B.pre
  have hown : s.vm.findClass RX2 = some m.cls := findClass_of_methodNamed B.named
  have hlocks := B.notSynchronized
  subst hsz
  have hD := hD0.self (sz := s.heap.size)
  generalize hAe : va_A [(h0, wGr R C)] s.heap.size = A at hD ⊢
  have hA : ∀ q : Nat, s.heap.size ≤ q → A q := fun q h => by rw [← hAe]; exact Or.inr h
  have hS : va_S A s.heap s.heap [] := va_S.rf
  have hl := lv_entry ([.ref h0, .int f]) (n := 2) (Nat.le_of_ble_eq_true rfl)
  rw [lg_entry_eq]
  generalize (lg_sl ([.ref h0, .int f]) ++ List.replicate (2 - (lg_sl ([.ref h0, .int f])).length) Slot.unset).toArray = ls at hl ⊢
  have hl : lv_has ls 2 [(0, .ref h0), (1, .int f)] := hl
  have hK2 : kK D cI cJ cZ s := ⟨hK, hN⟩
  clear hD0
  refine lv_iload_n hx hb dX2_has_0 rfl (lv_at hl 1 rfl) ?_
  refine lv_if_lt (tgt := 21) hx hb dX2_has_1 (by decide) (fun c_1_1 => ?_) (fun c_1_1 => ?_)
  · refine lv_iconst (v := (nI 0)) hx hb dX2_has_21 (by decide) ?_
    exact W.zret (v := (nI 0)) hx hb hr (by first | decide +kernel | assumption | exact kz_narr (by first | assumption | omega)) (fun t ht hW => ⟨⟨(nI 0), (), rfl, Or.inr ⟨rfl, (kz_has0 hRC (by first | exact Or.inl (by assumption) | exact Or.inr (by assumption)))⟩, by rw [ht]; exact hP, hD⟩, hS.F ht⟩) hS.2.2 dX2_has_22
  · refine lv_iload_n hx hb dX2_has_4 rfl (lv_at hl 1 rfl) ?_
    refine lv_aload_n hx hb dX2_has_5 rfl (lv_at hl 0 rfl) ?_
    refine va_get (D := D) (ci := 2) (v := .int (nI R)) (C := RX2) (T := TX2) (N := 7) hx hb hts kiX2_has_X2 hown hK hP 0 rfl rfl 0 (by decide) (hts (.fieldLink RX2 9 "TwoBanks$Grid" "rows" "I") (List.mem_of_getElem? (i := 1) rfl)) (fun _ h9 => h9) rfl dX2_has_6 ?_
    refine lv_aload_n hx hb dX2_has_9 rfl (lv_at hl 0 rfl) ?_
    refine va_get (D := D) (ci := 2) (v := .int (nI C)) (C := RX2) (T := TX2) (N := 7) hx hb hts kiX2_has_X2 hown hK hP 0 rfl rfl 1 (by decide) (hts (.fieldLink RX2 15 "TwoBanks$Grid" "columns" "I") (List.mem_of_getElem? (i := 2) rfl)) (fun _ h9 => h9) rfl dX2_has_10 ?_
    refine lv_imul hx hb dX2_has_13 ?_
    refine k_toi (y := nI (R * C)) (pk_mul _ _) ?_
    refine lv_icmp_ge (tgt := 21) hx hb dX2_has_14 (by decide) (fun c_14_2 => ?_) (fun c_14_2 => ?_)
    · refine lv_iconst (v := (nI 0)) hx hb dX2_has_21 (by decide) ?_
      exact W.zret (v := (nI 0)) hx hb hr (by first | decide +kernel | assumption | exact kz_narr (by first | assumption | omega)) (fun t ht hW => ⟨⟨(nI 0), (), rfl, Or.inr ⟨rfl, (kz_has0 hRC (by first | exact Or.inl (by assumption) | exact Or.inr (by assumption)))⟩, by rw [ht]; exact hP, hD⟩, hS.F ht⟩) hS.2.2 dX2_has_22
    · refine lv_iconst (v := (nI 1)) hx hb dX2_has_17 (by decide) ?_
      refine lv_goto (tgt := 22) hx hb dX2_has_18 (by decide) ?_
      exact W.zret (v := (nI 1)) hx hb hr (by first | decide +kernel | assumption | exact kz_narr (by first | assumption | omega)) (fun t ht hW => ⟨⟨(nI 1), (), rfl, Or.inl ⟨rfl, (kz_has1 hRC (by assumption) (by assumption))⟩, by rw [ht]; exact hP, hD⟩, hS.F ht⟩) hS.2.2 dX2_has_22

theorem kiX2_beside_X2 : ∀ w ∈ u_ws RX2 TX2 7, w ∈ wsX2_beside := fun w h => List.mem_cons_of_mem _ (List.mem_append_right _ h)
set_option maxHeartbeats 4000000 in
set_option maxRecDepth 100000 in
theorem c_G_beside (l : Launch) (D : va_G) (cI cJ cZ : ClassId) (h0 : Nat) (R C : Nat) (x : Int64) (hR1 : 1 ≤ R) (hR2 : R ≤ 6) (hC1 : 1 ≤ C) (hC2 : C ≤ 6) (hRC : R * C ≤ 36) (sz : Nat) : kMJ l yX2_beside wsX2_beside 0 0 D cI cJ cZ [.ref h0, .long x] [(h0, wGr R C)] sz (fun r (_ : Unit) => r = gBes R C x) (fun _ : Unit => [(h0, wGr R C)]) := by
  refine Met.ofW (cc := cX2_beside) (maxL := 13) (ret := (some .long)) (by decide) rfl ?_
  intro p e s m args below meth c s₁ B hml hv
  obtain ⟨rfl, hsz, hP, ⟨hK, hN⟩, hD0⟩ := hv
  have hx := B.exec
  have hb := B.bytes
  have hr := B.returns
  have hts := atoms_spec (ws := wsX2_beside) B.pre
  have hown : s.vm.findClass RX2 = some m.cls := findClass_of_methodNamed B.named
  have hlocks := B.notSynchronized
  subst hsz
  have hD := hD0.self (sz := s.heap.size)
  generalize hAe : va_A [(h0, wGr R C)] s.heap.size = A at hD ⊢
  have hA : ∀ q : Nat, s.heap.size ≤ q → A q := fun q h => by rw [← hAe]; exact Or.inr h
  have hS : va_S A s.heap s.heap [] := va_S.rf
  have hl := lv_entry ([.ref h0, .long x]) (n := 13) (Nat.le_of_ble_eq_true rfl)
  rw [lg_entry_eq]
  generalize (lg_sl ([.ref h0, .long x]) ++ List.replicate (13 - (lg_sl ([.ref h0, .long x])).length) Slot.unset).toArray = ls at hl ⊢
  have hl : lv_has ls 13 [(0, .ref h0), (1, .long x)] := hl
  have hK2 : kK D cI cJ cZ s := ⟨hK, hN⟩
  clear hD0
  refine lv_lload_n hx hb dX2_beside_0 rfl (lv_at hl 1 rfl) ?_
  refine lv_aload_n hx hb dX2_beside_1 rfl (lv_at hl 0 rfl) ?_
  refine va_get (D := D) (ci := 2) (v := .long (gEa R C)) (C := RX2) (T := TX2) (N := 7) hx hb hts kiX2_beside_X2 hown hK hP 0 rfl rfl 6 (by decide) (hts (.fieldLink RX2 35 "TwoBanks$Grid" "eastBank" "J") (List.mem_of_getElem? (i := 1) rfl)) (fun _ h9 => h9) rfl dX2_beside_2 ?_
  refine lv_ldc2 (v := (-1)) hx hb hown (hts (.constantLong RX2 38 (-1)) (List.mem_of_getElem? (i := 2) rfl)) dX2_beside_5 ?_
  refine lv_lxor hx hb dX2_beside_8 ?_
  refine lv_land hx hb dX2_beside_9 ?_
  refine lv_lstore_n (lv' := [(3, .long (x &&& ((gEa R C) ^^^ (-1)))), (0, .ref h0), (1, .long x)]) hx hb dX2_beside_10 rfl hl (by decide) rfl (fun ls hl => ?_)
  refine lv_lload_n hx hb dX2_beside_11 rfl (lv_at hl 2 rfl) ?_
  refine lv_aload_n hx hb dX2_beside_12 rfl (lv_at hl 1 rfl) ?_
  refine va_get (D := D) (ci := 2) (v := .long (gWeN C R)) (C := RX2) (T := TX2) (N := 7) hx hb hts kiX2_beside_X2 hown hK hP 0 rfl rfl 5 (by decide) (hts (.fieldLink RX2 32 "TwoBanks$Grid" "westBank" "J") (List.mem_of_getElem? (i := 3) rfl)) (fun _ h9 => h9) rfl dX2_beside_13 ?_
  refine lv_ldc2 (v := (-1)) hx hb hown (hts (.constantLong RX2 38 (-1)) (List.mem_of_getElem? (i := 2) rfl)) dX2_beside_16 ?_
  refine lv_lxor hx hb dX2_beside_19 ?_
  refine lv_land hx hb dX2_beside_20 ?_
  refine lv_lstore (lv' := [(5, .long (x &&& ((gWeN C R) ^^^ (-1)))), (3, .long (x &&& ((gEa R C) ^^^ (-1)))), (0, .ref h0), (1, .long x)]) hx hb dX2_beside_21 hl (by decide) rfl (fun ls hl => ?_)
  refine lv_lload_n hx hb dX2_beside_23 rfl (lv_at hl 1 rfl) ?_
  refine lv_iconst (v := (nI 1)) hx hb dX2_beside_24 (by decide) ?_
  refine lv_lshl (v := (kShl (x &&& ((gEa R C) ^^^ (-1))) (nI 1))) hx hb dX2_beside_25 rfl ?_
  refine lv_lload hx hb dX2_beside_26 (lv_at hl 0 rfl) ?_
  refine lv_iconst (v := (nI 1)) hx hb dX2_beside_28 (by decide) ?_
  refine lv_lushr (v := (kShr (x &&& ((gWeN C R) ^^^ (-1))) (nI 1))) hx hb dX2_beside_29 rfl ?_
  refine lv_lor hx hb dX2_beside_30 ?_
  refine lv_topl (fun x_1 ex_1 => ?_)
  refine lv_lstore (lv' := [(7, .long x_1), (5, .long (x &&& ((gWeN C R) ^^^ (-1)))), (3, .long (x &&& ((gEa R C) ^^^ (-1)))), (0, .ref h0), (1, .long x)]) hx hb dX2_beside_31 hl (by decide) rfl (fun ls hl => ?_)
  refine lv_lload_n hx hb dX2_beside_33 rfl (lv_at hl 4 rfl) ?_
  refine lv_aload_n hx hb dX2_beside_34 rfl (lv_at hl 3 rfl) ?_
  refine va_get (D := D) (ci := 2) (v := .int (nI C)) (C := RX2) (T := TX2) (N := 7) hx hb hts kiX2_beside_X2 hown hK hP 0 rfl rfl 1 (by decide) (hts (.fieldLink RX2 15 "TwoBanks$Grid" "columns" "I") (List.mem_of_getElem? (i := 4) rfl)) (fun _ h9 => h9) rfl dX2_beside_35 ?_
  refine lv_lshl (v := (kShl x (nI C))) hx hb dX2_beside_38 rfl ?_
  refine lv_lload_n hx hb dX2_beside_39 rfl (lv_at hl 4 rfl) ?_
  refine lv_aload_n hx hb dX2_beside_40 rfl (lv_at hl 3 rfl) ?_
  refine va_get (D := D) (ci := 2) (v := .int (nI C)) (C := RX2) (T := TX2) (N := 7) hx hb hts kiX2_beside_X2 hown hK hP 0 rfl rfl 1 (by decide) (hts (.fieldLink RX2 15 "TwoBanks$Grid" "columns" "I") (List.mem_of_getElem? (i := 4) rfl)) (fun _ h9 => h9) rfl dX2_beside_41 ?_
  refine lv_lushr (v := (kShr x (nI C))) hx hb dX2_beside_44 rfl ?_
  refine lv_lor hx hb dX2_beside_45 ?_
  refine lv_lstore (lv' := [(9, .long ((kShl x (nI C)) ||| (kShr x (nI C)))), (7, .long x_1), (5, .long (x &&& ((gWeN C R) ^^^ (-1)))), (3, .long (x &&& ((gEa R C) ^^^ (-1)))), (0, .ref h0), (1, .long x)]) hx hb dX2_beside_46 hl (by decide) rfl (fun ls hl => ?_)
  refine lv_lload_n hx hb dX2_beside_48 rfl (lv_at hl 3 rfl) ?_
  refine lv_aload_n hx hb dX2_beside_49 rfl (lv_at hl 4 rfl) ?_
  refine va_get (D := D) (ci := 2) (v := .int (nI C)) (C := RX2) (T := TX2) (N := 7) hx hb hts kiX2_beside_X2 hown hK hP 0 rfl rfl 1 (by decide) (hts (.fieldLink RX2 15 "TwoBanks$Grid" "columns" "I") (List.mem_of_getElem? (i := 4) rfl)) (fun _ h9 => h9) rfl dX2_beside_50 ?_
  refine lv_iconst (v := (nI 1)) hx hb dX2_beside_53 (by decide) ?_
  refine lv_isub hx hb dX2_beside_54 ?_
  refine k_toi (y := nI (C - 1)) (pk_sub (by omega)) ?_
  refine lv_lushr (v := (kShr (x &&& ((gEa R C) ^^^ (-1))) (nI (C - 1)))) hx hb dX2_beside_55 rfl ?_
  refine lv_lload hx hb dX2_beside_56 (lv_at hl 2 rfl) ?_
  refine lv_aload_n hx hb dX2_beside_58 rfl (lv_at hl 4 rfl) ?_
  refine va_get (D := D) (ci := 2) (v := .int (nI C)) (C := RX2) (T := TX2) (N := 7) hx hb hts kiX2_beside_X2 hown hK hP 0 rfl rfl 1 (by decide) (hts (.fieldLink RX2 15 "TwoBanks$Grid" "columns" "I") (List.mem_of_getElem? (i := 4) rfl)) (fun _ h9 => h9) rfl dX2_beside_59 ?_
  refine lv_iconst (v := (nI 1)) hx hb dX2_beside_62 (by decide) ?_
  refine lv_isub hx hb dX2_beside_63 ?_
  refine k_toi (y := nI (C - 1)) (pk_sub (by omega)) ?_
  refine lv_lshl (v := (kShl (x &&& ((gWeN C R) ^^^ (-1))) (nI (C - 1)))) hx hb dX2_beside_64 rfl ?_
  refine lv_lor hx hb dX2_beside_65 ?_
  refine lv_topl (fun x_2 ex_2 => ?_)
  refine lv_lstore (lv' := [(11, .long x_2), (9, .long ((kShl x (nI C)) ||| (kShr x (nI C)))), (7, .long x_1), (5, .long (x &&& ((gWeN C R) ^^^ (-1)))), (3, .long (x &&& ((gEa R C) ^^^ (-1)))), (0, .ref h0), (1, .long x)]) hx hb dX2_beside_66 hl (by decide) rfl (fun ls hl => ?_)
  refine lv_lload hx hb dX2_beside_68 (lv_at hl 2 rfl) ?_
  refine lv_lload hx hb dX2_beside_70 (lv_at hl 1 rfl) ?_
  refine lv_lor hx hb dX2_beside_72 ?_
  refine lv_lload hx hb dX2_beside_73 (lv_at hl 0 rfl) ?_
  refine lv_lor hx hb dX2_beside_75 ?_
  refine lv_aload_n hx hb dX2_beside_76 rfl (lv_at hl 5 rfl) ?_
  refine va_get (D := D) (ci := 2) (v := .long (gAll R C)) (C := RX2) (T := TX2) (N := 7) hx hb hts kiX2_beside_X2 hown hK hP 0 rfl rfl 2 (by decide) (hts (.fieldLink RX2 22 "TwoBanks$Grid" "all" "J") (List.mem_of_getElem? (i := 5) rfl)) (fun _ h9 => h9) rfl dX2_beside_77 ?_
  refine lv_land hx hb dX2_beside_80 ?_
  exact W.lret (v := (((x_1 ||| ((kShl x (nI C)) ||| (kShr x (nI C)))) ||| x_2) &&& (gAll R C))) hx hb hr (fun t ht hW => ⟨⟨(((x_1 ||| ((kShl x (nI C)) ||| (kShr x (nI C)))) ||| x_2) &&& (gAll R C)), (), rfl, (by subst_vars; rfl), by rw [ht]; exact hP, hD⟩, hS.F ht⟩) hS.2.2 dX2_beside_81

set_option maxHeartbeats 4000000 in
set_option maxRecDepth 100000 in
theorem c_G_spread (l : Launch) (D : va_G) (cI cJ cZ : ClassId) (h0 : Nat) (R C : Nat) (x w : Int64) (hR1 : 1 ≤ R) (hR2 : R ≤ 6) (hC1 : 1 ≤ C) (hC2 : C ≤ 6) (hRC : R * C ≤ 36) (sz : Nat) : kMJ l yX2_spread wsX2_spread 1 32 D cI cJ cZ [.ref h0, .long x, .long w] [(h0, wGr R C)] sz (fun r (_ : Unit) => r = gSp R C x w) (fun _ : Unit => [(h0, wGr R C)]) := by
  refine Met.ofW (cc := cX2_spread) (maxL := 10) (ret := (some .long)) (by decide) rfl ?_
  intro p e s m args below meth c s₁ B hml hv
  obtain ⟨rfl, hsz, hP, ⟨hK, hN⟩, hD0⟩ := hv
  have hx := B.exec
  have hb := B.bytes
  have hr := B.returns
  have hts := atoms_spec (ws := wsX2_spread) B.pre
  have hown : s.vm.findClass RX2 = some m.cls := findClass_of_methodNamed B.named
  have hlocks := B.notSynchronized
  subst hsz
  have hD := hD0.self (sz := s.heap.size)
  generalize hAe : va_A [(h0, wGr R C)] s.heap.size = A at hD ⊢
  have hA : ∀ q : Nat, s.heap.size ≤ q → A q := fun q h => by rw [← hAe]; exact Or.inr h
  have hS : va_S A s.heap s.heap [] := va_S.rf
  have hl := lv_entry ([.ref h0, .long x, .long w]) (n := 10) (Nat.le_of_ble_eq_true rfl)
  rw [lg_entry_eq]
  generalize (lg_sl ([.ref h0, .long x, .long w]) ++ List.replicate (10 - (lg_sl ([.ref h0, .long x, .long w])).length) Slot.unset).toArray = ls at hl ⊢
  have hl : lv_has ls 10 [(0, .ref h0), (1, .long x), (3, .long w)] := hl
  have hK2 : kK D cI cJ cZ s := ⟨hK, hN⟩
  clear hD0
  refine lv_lload_n hx hb dX2_spread_0 rfl (lv_at hl 1 rfl) ?_
  refine lv_lload_n hx hb dX2_spread_1 rfl (lv_at hl 2 rfl) ?_
  refine lv_land hx hb dX2_spread_2 ?_
  refine k_tol (y := (x &&& w)) rfl ?_
  refine lv_lstore (lv' := [(5, .long (x &&& w)), (0, .ref h0), (1, .long x), (3, .long w)]) hx hb dX2_spread_3 hl (by decide) rfl (fun ls hl => ?_)
  refine lv_iconst (v := (nI 0)) hx hb dX2_spread_5 (by decide) ?_
  refine lv_istore (lv' := [(7, .int (nI 0)), (5, .long (x &&& w)), (0, .ref h0), (1, .long x), (3, .long w)]) hx hb dX2_spread_6 hl (by decide) rfl (fun ls hl => ?_)
  refine kw_loop (σ := Int64 × Nat) (fun zz H locs ls => match zz with | (a, k) => va_P D vwCl [(h0, wGr R C)] H ∧ va_D A [(h0, wGr R C)] ∧ va_S A s.heap H locs ∧ lv_has ls 10 [(0, .ref h0), (1, .long x), (3, .long w), (5, .long a), (7, .int (nI k))] ∧ (gIt R C w (36 - k) a = gSp R C x w) ∧ (k ≤ 36)) (fun zz => match zz with | (a, k) => 36 - k) ((x &&& w), 0) ⟨hP, hD, hS, lv_sub hl [2, 3, 4, 1, 0] rfl, rfl, by omega⟩ ?_
  clear hP hD hS hl
  rintro ⟨a, k⟩ H locs ls ⟨hP, hD, hS, hl, hg, hk⟩ ih_8
  have hP : va_P D vwCl [(h0, wGr R C)] H := hP
  have hD : va_D A [(h0, wGr R C)] := hD
  have hl : lv_has ls 10 [(0, .ref h0), (1, .long x), (3, .long w), (5, .long a), (7, .int (nI k))] := hl
  have hg : gIt R C w (36 - k) a = gSp R C x w := hg
  have hk : k ≤ 36 := hk
  refine lv_iload hx hb dX2_spread_8 (lv_at hl 4 rfl) ?_
  refine lv_bipush (v := (nI 36)) hx hb dX2_spread_10 (by decide) ?_
  refine kw_icmp_ge (tgt := 49) hx hb dX2_spread_12 (by decide) (by omega) (by omega) (fun c_12_1 => ?_) (fun c_12_1 => ?_)
  · refine lv_lload hx hb dX2_spread_49 (lv_at hl 3 rfl) ?_
    exact W.lret (v := a) hx hb hr (fun t ht hW => ⟨⟨a, (), rfl, (by first | (rw [← hg]; exact (gIt_fix (by assumption) _).symm) | (rw [← hg, show 36 - k = 0 by omega]; rfl)), by rw [ht]; exact hP, hD⟩, hS.F ht⟩) hS.2.2 dX2_spread_51
  · refine lv_lload hx hb dX2_spread_15 (lv_at hl 3 rfl) ?_
    refine lv_aload_n hx hb dX2_spread_17 rfl (lv_at hl 0 rfl) ?_
    refine lv_lload hx hb dX2_spread_18 (lv_at hl 3 rfl) ?_
    refine k_calll (wr := []) (w2 := (fun _ : Unit => [(h0, wGr R C)])) (va_runV (As := [.long a]) (rest := [.long a]) ⟨hx, hb, hml, hown, hts⟩ (c_G_beside l D cI cJ cZ h0 R C a hR1 hR2 hC1 hC2 hRC  H.size) (cwV 1 hts gX2_spread_X2_beside rfl rfl rfl (by decide +kernel) ⟨Nat.le_of_ble_eq_true rfl, Nat.le_of_ble_eq_true rfl⟩) (kPV (ci := 2) (q0 := 0) (wc := [(h0, wGr R C)]) hK2 hP hD [0] rfl (by decide) rfl rfl) rfl rfl hl.1 rfl (lv_room (Nat.le_of_ble_eq_true rfl)) dX2_spread_20 ⟨Nat.le_of_ble_eq_true rfl, Nat.le_of_ble_eq_true rfl⟩) hP hD hS hA [0] [] [0] rfl rfl (by decide) (by decide) (fun _ => rfl) (by decide) (fun r_2 u_2 H locs hw_2 hP hD hS => ?_)
    have hP : va_P D vwCl [(h0, wGr R C)] H := hP
    have hD : va_D A [(h0, wGr R C)] := hD
    subst hw_2
    refine lv_lor hx hb dX2_spread_23 ?_
    refine lv_lload_n hx hb dX2_spread_24 rfl (lv_at hl 2 rfl) ?_
    refine lv_land hx hb dX2_spread_25 ?_
    refine k_tol (y := (gStep R C w a)) rfl ?_
    refine lv_lstore (lv' := [(8, .long (gStep R C w a)), (0, .ref h0), (1, .long x), (3, .long w), (5, .long a), (7, .int (nI k))]) hx hb dX2_spread_26 hl (by decide) rfl (fun ls hl => ?_)
    refine lv_lload hx hb dX2_spread_28 (lv_at hl 0 rfl) ?_
    refine lv_lload hx hb dX2_spread_30 (lv_at hl 4 rfl) ?_
    refine W.lcmp hx hb dX2_spread_32 ?_
    refine kw_cmp_ne (tgt := 39) hx hb dX2_spread_33 (by decide) (fun c_33_3 => ?_) (fun c_33_3 => ?_)
    · refine lv_lload hx hb dX2_spread_39 (lv_at hl 0 rfl) ?_
      refine lv_lstore (lv' := [(5, .long (gStep R C w a)), (8, .long (gStep R C w a)), (0, .ref h0), (1, .long x), (3, .long w), (7, .int (nI k))]) hx hb dX2_spread_41 hl (by decide) rfl (fun ls hl => ?_)
      refine lv_iinc (v := (nI (k + 1))) (lv' := [(7, .int (nI (k + 1))), (5, .long (gStep R C w a)), (8, .long (gStep R C w a)), (0, .ref h0), (1, .long x), (3, .long w)]) hx hb dX2_spread_43 hl (k := 5) rfl (k_inc _ 1) (by decide) rfl (fun ls hl => ?_)
      refine lv_goto (tgt := 8) hx hb dX2_spread_46 (by decide) ?_
      exact ih_8 ((gStep R C w a), (k + 1)) _ _ _ (by show 36 - (k + 1) < 36 - k; omega) ⟨hP, hD, hS, lv_sub hl [3, 4, 5, 1, 0] rfl, by rw [← hg, show 36 - k = (36 - (k + 1)) + 1 by omega]; rfl, by omega⟩
    · refine lv_lload hx hb dX2_spread_36 (lv_at hl 4 rfl) ?_
      exact W.lret (v := a) hx hb hr (fun t ht hW => ⟨⟨a, (), rfl, (by first | (rw [← hg]; exact (gIt_fix (by assumption) _).symm) | (rw [← hg, show 36 - k = 0 by omega]; rfl)), by rw [ht]; exact hP, hD⟩, hS.F ht⟩) hS.2.2 dX2_spread_38

set_option maxHeartbeats 4000000 in
set_option maxRecDepth 100000 in
theorem c_G_joins (l : Launch) (D : va_G) (cI cJ cZ : ClassId) (h0 : Nat) (R C : Nat) (x b t : Int64) (hR1 : 1 ≤ R) (hR2 : R ≤ 6) (hC1 : 1 ≤ C) (hC2 : C ≤ 6) (hRC : R * C ≤ 36) (sz : Nat) : kMI l yX2_joins wsX2_joins 2 61 D cI cJ cZ [.ref h0, .long x, .long b, .long t] [(h0, wGr R C)] sz (fun r (_ : Unit) => (r = nI 1 ∧ gSp R C b x &&& t ≠ 0) ∨ (r = nI 0 ∧ gSp R C b x &&& t = 0)) (fun _ : Unit => [(h0, wGr R C)]) := by
  refine Met.ofW (cc := cX2_joins) (maxL := 7) (ret := (some .boolean)) (by decide) rfl ?_
  intro p e s m args below meth c s₁ B hml hv
  obtain ⟨rfl, hsz, hP, ⟨hK, hN⟩, hD0⟩ := hv
  have hx := B.exec
  have hb := B.bytes
  have hr := B.returns
  have hts := atoms_spec (ws := wsX2_joins) B.pre
  have hown : s.vm.findClass RX2 = some m.cls := findClass_of_methodNamed B.named
  have hlocks := B.notSynchronized
  subst hsz
  have hD := hD0.self (sz := s.heap.size)
  generalize hAe : va_A [(h0, wGr R C)] s.heap.size = A at hD ⊢
  have hA : ∀ q : Nat, s.heap.size ≤ q → A q := fun q h => by rw [← hAe]; exact Or.inr h
  have hS : va_S A s.heap s.heap [] := va_S.rf
  have hl := lv_entry ([.ref h0, .long x, .long b, .long t]) (n := 7) (Nat.le_of_ble_eq_true rfl)
  rw [lg_entry_eq]
  generalize (lg_sl ([.ref h0, .long x, .long b, .long t]) ++ List.replicate (7 - (lg_sl ([.ref h0, .long x, .long b, .long t])).length) Slot.unset).toArray = ls at hl ⊢
  have hl : lv_has ls 7 [(0, .ref h0), (1, .long x), (3, .long b), (5, .long t)] := hl
  have hK2 : kK D cI cJ cZ s := ⟨hK, hN⟩
  clear hD0
  refine lv_aload_n hx hb dX2_joins_0 rfl (lv_at hl 0 rfl) ?_
  refine lv_lload_n hx hb dX2_joins_1 rfl (lv_at hl 2 rfl) ?_
  refine lv_lload_n hx hb dX2_joins_2 rfl (lv_at hl 1 rfl) ?_
  refine k_calll (wr := []) (w2 := (fun _ : Unit => [(h0, wGr R C)])) (va_runV (As := [.long b, .long x]) (rest := []) ⟨hx, hb, hml, hown, hts⟩ (c_G_spread l D cI cJ cZ h0 R C b x hR1 hR2 hC1 hC2 hRC  s.heap.size) (cwV 2 hts gX2_joins_X2_spread rfl rfl rfl (by decide +kernel) ⟨Nat.le_of_ble_eq_true rfl, Nat.le_of_ble_eq_true rfl⟩) (kPV (ci := 2) (q0 := 0) (wc := [(h0, wGr R C)]) hK2 hP hD [0] rfl (by decide) rfl rfl) rfl rfl hl.1 rfl (lv_room (Nat.le_of_ble_eq_true rfl)) dX2_joins_3 ⟨Nat.le_of_ble_eq_true rfl, Nat.le_of_ble_eq_true rfl⟩) hP hD hS hA [0] [] [0] rfl rfl (by decide) (by decide) (fun _ => rfl) (by decide) (fun r_1 u_1 H locs hw_1 hP hD hS => ?_)
  have hP : va_P D vwCl [(h0, wGr R C)] H := hP
  have hD : va_D A [(h0, wGr R C)] := hD
  subst hw_1
  refine lv_lload hx hb dX2_joins_6 (lv_at hl 3 rfl) ?_
  refine lv_land hx hb dX2_joins_8 ?_
  refine lv_lconst (v := 0) hx hb dX2_joins_9 (by decide) ?_
  refine W.lcmp hx hb dX2_joins_10 ?_
  refine kw_cmp_eq (tgt := 18) hx hb dX2_joins_11 (by decide) (fun c_11_2 => ?_) (fun c_11_2 => ?_)
  · refine lv_iconst (v := (nI 0)) hx hb dX2_joins_18 (by decide) ?_
    exact W.zret (v := (nI 0)) hx hb hr (by first | decide +kernel | assumption | exact kz_narr (by first | assumption | omega)) (fun t ht hW => ⟨⟨(nI 0), (), rfl, Or.inr ⟨rfl, by assumption⟩, by rw [ht]; exact hP, hD⟩, hS.F ht⟩) hS.2.2 dX2_joins_19
  · refine lv_iconst (v := (nI 1)) hx hb dX2_joins_14 (by decide) ?_
    refine lv_goto (tgt := 19) hx hb dX2_joins_15 (by decide) ?_
    exact W.zret (v := (nI 1)) hx hb hr (by first | decide +kernel | assumption | exact kz_narr (by first | assumption | omega)) (fun t ht hW => ⟨⟨(nI 1), (), rfl, Or.inl ⟨rfl, by assumption⟩, by rw [ht]; exact hP, hD⟩, hS.F ht⟩) hS.2.2 dX2_joins_19

set_option maxHeartbeats 4000000 in
set_option maxRecDepth 100000 in
theorem c_G_groupsOf (l : Launch) (D : va_G) (cI cJ cZ : ClassId) (h0 : Nat) (R C : Nat) (w : Int64) (hR1 : 1 ≤ R) (hR2 : R ≤ 6) (hC1 : 1 ≤ C) (hC2 : C ≤ 6) (hRC : R * C ≤ 36) (sz : Nat) : kMI l yX2_groupsOf wsX2_groupsOf 2 61 D cI cJ cZ [.ref h0, .long w] [(h0, wGr R C)] sz (fun r (_ : Unit) => r = nI (gGr R C w)) (fun _ : Unit => [(h0, wGr R C)]) := by
  refine Met.ofW (cc := cX2_groupsOf) (maxL := 7) (ret := (some .int)) (by decide) rfl ?_
  intro p e s m args below meth c s₁ B hml hv
  obtain ⟨rfl, hsz, hP, ⟨hK, hN⟩, hD0⟩ := hv
  have hx := B.exec
  have hb := B.bytes
  have hr := B.returns
  have hts := atoms_spec (ws := wsX2_groupsOf) B.pre
  have hown : s.vm.findClass RX2 = some m.cls := findClass_of_methodNamed B.named
  have hlocks := B.notSynchronized
  subst hsz
  have hD := hD0.self (sz := s.heap.size)
  generalize hAe : va_A [(h0, wGr R C)] s.heap.size = A at hD ⊢
  have hA : ∀ q : Nat, s.heap.size ≤ q → A q := fun q h => by rw [← hAe]; exact Or.inr h
  have hS : va_S A s.heap s.heap [] := va_S.rf
  have hl := lv_entry ([.ref h0, .long w]) (n := 7) (Nat.le_of_ble_eq_true rfl)
  rw [lg_entry_eq]
  generalize (lg_sl ([.ref h0, .long w]) ++ List.replicate (7 - (lg_sl ([.ref h0, .long w])).length) Slot.unset).toArray = ls at hl ⊢
  have hl : lv_has ls 7 [(0, .ref h0), (1, .long w)] := hl
  have hK2 : kK D cI cJ cZ s := ⟨hK, hN⟩
  clear hD0
  refine lv_iconst (v := (nI 0)) hx hb dX2_groupsOf_0 (by decide) ?_
  refine lv_istore_n (lv' := [(3, .int (nI 0)), (0, .ref h0), (1, .long w)]) hx hb dX2_groupsOf_1 rfl hl (by decide) rfl (fun ls hl => ?_)
  refine lv_lload_n hx hb dX2_groupsOf_2 rfl (lv_at hl 2 rfl) ?_
  refine lv_lstore (lv' := [(4, .long w), (3, .int (nI 0)), (0, .ref h0), (1, .long w)]) hx hb dX2_groupsOf_3 hl (by decide) rfl (fun ls hl => ?_)
  refine lv_iconst (v := (nI 0)) hx hb dX2_groupsOf_5 (by decide) ?_
  refine lv_istore (lv' := [(6, .int (nI 0)), (4, .long w), (3, .int (nI 0)), (0, .ref h0), (1, .long w)]) hx hb dX2_groupsOf_6 hl (by decide) rfl (fun ls hl => ?_)
  refine kw_loop (σ := Nat × Int64 × Nat) (fun zz H locs ls => match zz with | (g, a, k) => va_P D vwCl [(h0, wGr R C)] H ∧ va_D A [(h0, wGr R C)] ∧ va_S A s.heap H locs ∧ lv_has ls 7 [(0, .ref h0), (1, .long w), (3, .int (nI g)), (4, .long a), (6, .int (nI k))] ∧ (g + gGrN R C w (36 - k) a = gGr R C w) ∧ (k ≤ 36)) (fun zz => match zz with | (g, a, k) => 36 - k) (0, w, 0) ⟨hP, hD, hS, lv_sub hl [3, 4, 2, 1, 0] rfl, Nat.zero_add _, by omega⟩ ?_
  clear hP hD hS hl
  rintro ⟨g, a, k⟩ H locs ls ⟨hP, hD, hS, hl, hg, hk⟩ ih_8
  have hP : va_P D vwCl [(h0, wGr R C)] H := hP
  have hD : va_D A [(h0, wGr R C)] := hD
  have hl : lv_has ls 7 [(0, .ref h0), (1, .long w), (3, .int (nI g)), (4, .long a), (6, .int (nI k))] := hl
  have hg : g + gGrN R C w (36 - k) a = gGr R C w := hg
  have hk : k ≤ 36 := hk
  refine lv_iload hx hb dX2_groupsOf_8 (lv_at hl 4 rfl) ?_
  refine lv_bipush (v := (nI 36)) hx hb dX2_groupsOf_10 (by decide) ?_
  refine kw_icmp_ge (tgt := 51) hx hb dX2_groupsOf_12 (by decide) (by omega) (by omega) (fun c_12_1 => ?_) (fun c_12_1 => ?_)
  · refine lv_iload_n hx hb dX2_groupsOf_51 rfl (lv_at hl 2 rfl) ?_
    exact W.iret (v := (nI g)) hx hb hr (fun t ht hW => ⟨⟨(nI g), (), rfl, (by rw [← hg]; first | (rw [show 36 - k = 0 by omega]; rfl) | (rw [gGrN_0 (by assumption)]; rfl)), by rw [ht]; exact hP, hD⟩, hS.F ht⟩) hS.2.2 dX2_groupsOf_52
  · refine lv_lload hx hb dX2_groupsOf_15 (lv_at hl 3 rfl) ?_
    refine lv_lconst (v := 0) hx hb dX2_groupsOf_17 (by decide) ?_
    refine W.lcmp hx hb dX2_groupsOf_18 ?_
    refine kw_cmp_eq (tgt := 51) hx hb dX2_groupsOf_19 (by decide) (fun c_19_2 => ?_) (fun c_19_2 => ?_)
    · refine lv_iload_n hx hb dX2_groupsOf_51 rfl (lv_at hl 2 rfl) ?_
      exact W.iret (v := (nI g)) hx hb hr (fun t ht hW => ⟨⟨(nI g), (), rfl, (by rw [← hg]; first | (rw [show 36 - k = 0 by omega]; rfl) | (rw [gGrN_0 (by assumption)]; rfl)), by rw [ht]; exact hP, hD⟩, hS.F ht⟩) hS.2.2 dX2_groupsOf_52
    · refine lv_lload hx hb dX2_groupsOf_22 (lv_at hl 3 rfl) ?_
      refine lv_aload_n hx hb dX2_groupsOf_24 rfl (lv_at hl 0 rfl) ?_
      refine lv_lload hx hb dX2_groupsOf_25 (lv_at hl 3 rfl) ?_
      refine lv_lload hx hb dX2_groupsOf_27 (lv_at hl 3 rfl) ?_
      refine lv_lneg hx hb dX2_groupsOf_29 ?_
      refine lv_land hx hb dX2_groupsOf_30 ?_
      refine lv_lload_n hx hb dX2_groupsOf_31 rfl (lv_at hl 1 rfl) ?_
      refine k_calll (wr := []) (w2 := (fun _ : Unit => [(h0, wGr R C)])) (va_runV (As := [.long (a &&& (-a)), .long w]) (rest := [.long a]) ⟨hx, hb, hml, hown, hts⟩ (c_G_spread l D cI cJ cZ h0 R C (a &&& (-a)) w hR1 hR2 hC1 hC2 hRC  H.size) (cwV 2 hts gX2_groupsOf_X2_spread rfl rfl rfl (by decide +kernel) ⟨Nat.le_of_ble_eq_true rfl, Nat.le_of_ble_eq_true rfl⟩) (kPV (ci := 2) (q0 := 0) (wc := [(h0, wGr R C)]) hK2 hP hD [0] rfl (by decide) rfl rfl) rfl rfl hl.1 rfl (lv_room (Nat.le_of_ble_eq_true rfl)) dX2_groupsOf_32 ⟨Nat.le_of_ble_eq_true rfl, Nat.le_of_ble_eq_true rfl⟩) hP hD hS hA [0] [] [0] rfl rfl (by decide) (by decide) (fun _ => rfl) (by decide) (fun r_3 u_3 H locs hw_3 hP hD hS => ?_)
      have hP : va_P D vwCl [(h0, wGr R C)] H := hP
      have hD : va_D A [(h0, wGr R C)] := hD
      subst hw_3
      refine lv_ldc2 (v := (-1)) hx hb hown (hts (.constantLong RX2 38 (-1)) (List.mem_of_getElem? (i := 1) rfl)) dX2_groupsOf_35 ?_
      refine lv_lxor hx hb dX2_groupsOf_38 ?_
      refine lv_land hx hb dX2_groupsOf_39 ?_
      refine k_tol (y := (a &&& (gSp R C (a &&& (-a)) w ^^^ (-1)))) rfl ?_
      refine lv_lstore (lv' := [(4, .long (a &&& (gSp R C (a &&& (-a)) w ^^^ (-1)))), (0, .ref h0), (1, .long w), (3, .int (nI g)), (6, .int (nI k))]) hx hb dX2_groupsOf_40 hl (by decide) rfl (fun ls hl => ?_)
      refine lv_iinc (v := (nI (g + 1))) (lv' := [(3, .int (nI (g + 1))), (4, .long (a &&& (gSp R C (a &&& (-a)) w ^^^ (-1)))), (0, .ref h0), (1, .long w), (6, .int (nI k))]) hx hb dX2_groupsOf_42 hl (k := 3) rfl (k_inc _ 1) (by decide) rfl (fun ls hl => ?_)
      refine lv_iinc (v := (nI (k + 1))) (lv' := [(6, .int (nI (k + 1))), (3, .int (nI (g + 1))), (4, .long (a &&& (gSp R C (a &&& (-a)) w ^^^ (-1)))), (0, .ref h0), (1, .long w)]) hx hb dX2_groupsOf_45 hl (k := 4) rfl (k_inc _ 1) (by decide) rfl (fun ls hl => ?_)
      refine lv_goto (tgt := 8) hx hb dX2_groupsOf_48 (by decide) ?_
      exact ih_8 ((g + 1), (a &&& (gSp R C (a &&& (-a)) w ^^^ (-1))), (k + 1)) _ _ _ (by show 36 - (k + 1) < 36 - k; omega) ⟨hP, hD, hS, lv_sub hl [3, 4, 1, 2, 0] rfl, by rw [← hg, show 36 - k = (36 - (k + 1)) + 1 by omega, gGrN_s (by assumption)]; omega, by omega⟩

theorem kiX2_banksOf_X2 : ∀ w ∈ u_ws RX2 TX2 7, w ∈ wsX2_banksOf := fun w h => List.mem_cons_of_mem _ (List.mem_append_right _ h)
set_option maxHeartbeats 4000000 in
set_option maxRecDepth 100000 in
theorem c_G_banksOf (l : Launch) (D : va_G) (cI cJ cZ : ClassId) (h0 : Nat) (R C : Nat) (x : Int64) (sz : Nat) : kMI l yX2_banksOf wsX2_banksOf 0 0 D cI cJ cZ [.ref h0, .long x] [(h0, wGr R C)] sz (fun r (_ : Unit) => r = gBk R C x) (fun _ : Unit => [(h0, wGr R C)]) := by
  refine Met.ofW (cc := cX2_banksOf) (maxL := 4) (ret := (some .int)) (by decide) rfl ?_
  intro p e s m args below meth c s₁ B hml hv
  obtain ⟨rfl, hsz, hP, ⟨hK, hN⟩, hD0⟩ := hv
  have hx := B.exec
  have hb := B.bytes
  have hr := B.returns
  have hts := atoms_spec (ws := wsX2_banksOf) B.pre
  have hown : s.vm.findClass RX2 = some m.cls := findClass_of_methodNamed B.named
  have hlocks := B.notSynchronized
  subst hsz
  have hD := hD0.self (sz := s.heap.size)
  generalize hAe : va_A [(h0, wGr R C)] s.heap.size = A at hD ⊢
  have hA : ∀ q : Nat, s.heap.size ≤ q → A q := fun q h => by rw [← hAe]; exact Or.inr h
  have hS : va_S A s.heap s.heap [] := va_S.rf
  have hl := lv_entry ([.ref h0, .long x]) (n := 4) (Nat.le_of_ble_eq_true rfl)
  rw [lg_entry_eq]
  generalize (lg_sl ([.ref h0, .long x]) ++ List.replicate (4 - (lg_sl ([.ref h0, .long x])).length) Slot.unset).toArray = ls at hl ⊢
  have hl : lv_has ls 4 [(0, .ref h0), (1, .long x)] := hl
  have hK2 : kK D cI cJ cZ s := ⟨hK, hN⟩
  clear hD0
  refine lv_lload_n hx hb dX2_banksOf_0 rfl (lv_at hl 1 rfl) ?_
  refine lv_aload_n hx hb dX2_banksOf_1 rfl (lv_at hl 0 rfl) ?_
  refine va_get (D := D) (ci := 2) (v := .long (gNo C)) (C := RX2) (T := TX2) (N := 7) hx hb hts kiX2_banksOf_X2 hown hK hP 0 rfl rfl 3 (by decide) (hts (.fieldLink RX2 26 "TwoBanks$Grid" "northBank" "J") (List.mem_of_getElem? (i := 1) rfl)) (fun _ h9 => h9) rfl dX2_banksOf_2 ?_
  refine lv_land hx hb dX2_banksOf_5 ?_
  refine lv_lconst (v := 0) hx hb dX2_banksOf_6 (by decide) ?_
  refine W.lcmp hx hb dX2_banksOf_7 ?_
  refine kw_cmp_eq (tgt := 15) hx hb dX2_banksOf_8 (by decide) (fun c_8_1 => ?_) (fun c_8_1 => ?_)
  · refine lv_iconst (v := (nI 0)) hx hb dX2_banksOf_15 (by decide) ?_
    refine lv_istore_n (lv' := [(3, .int (nI 0)), (0, .ref h0), (1, .long x)]) hx hb dX2_banksOf_16 rfl hl (by decide) rfl (fun ls hl => ?_)
    refine lv_iload_n hx hb dX2_banksOf_17 rfl (lv_at hl 0 rfl) ?_
    refine lv_lload_n hx hb dX2_banksOf_18 rfl (lv_at hl 2 rfl) ?_
    refine lv_aload_n hx hb dX2_banksOf_19 rfl (lv_at hl 1 rfl) ?_
    refine va_get (D := D) (ci := 2) (v := .long (gSo R C)) (C := RX2) (T := TX2) (N := 7) hx hb hts kiX2_banksOf_X2 hown hK hP 0 rfl rfl 4 (by decide) (hts (.fieldLink RX2 29 "TwoBanks$Grid" "southBank" "J") (List.mem_of_getElem? (i := 2) rfl)) (fun _ h9 => h9) rfl dX2_banksOf_20 ?_
    refine lv_land hx hb dX2_banksOf_23 ?_
    refine lv_lconst (v := 0) hx hb dX2_banksOf_24 (by decide) ?_
    refine W.lcmp hx hb dX2_banksOf_25 ?_
    refine kw_cmp_eq (tgt := 33) hx hb dX2_banksOf_26 (by decide) (fun c_26_2 => ?_) (fun c_26_2 => ?_)
    · refine lv_iconst (v := (nI 0)) hx hb dX2_banksOf_33 (by decide) ?_
      refine lv_ior hx hb dX2_banksOf_34 ?_
      refine lv_istore_n (lv' := [(3, .int ((nI 0) ||| (nI 0))), (0, .ref h0), (1, .long x)]) hx hb dX2_banksOf_35 rfl hl (by decide) rfl (fun ls hl => ?_)
      refine lv_iload_n hx hb dX2_banksOf_36 rfl (lv_at hl 0 rfl) ?_
      refine lv_lload_n hx hb dX2_banksOf_37 rfl (lv_at hl 2 rfl) ?_
      refine lv_aload_n hx hb dX2_banksOf_38 rfl (lv_at hl 1 rfl) ?_
      refine va_get (D := D) (ci := 2) (v := .long (gWeN C R)) (C := RX2) (T := TX2) (N := 7) hx hb hts kiX2_banksOf_X2 hown hK hP 0 rfl rfl 5 (by decide) (hts (.fieldLink RX2 32 "TwoBanks$Grid" "westBank" "J") (List.mem_of_getElem? (i := 3) rfl)) (fun _ h9 => h9) rfl dX2_banksOf_39 ?_
      refine lv_land hx hb dX2_banksOf_42 ?_
      refine lv_lconst (v := 0) hx hb dX2_banksOf_43 (by decide) ?_
      refine W.lcmp hx hb dX2_banksOf_44 ?_
      refine kw_cmp_eq (tgt := 52) hx hb dX2_banksOf_45 (by decide) (fun c_45_3 => ?_) (fun c_45_3 => ?_)
      · refine lv_iconst (v := (nI 0)) hx hb dX2_banksOf_52 (by decide) ?_
        refine lv_ior hx hb dX2_banksOf_53 ?_
        refine lv_istore_n (lv' := [(3, .int (((nI 0) ||| (nI 0)) ||| (nI 0))), (0, .ref h0), (1, .long x)]) hx hb dX2_banksOf_54 rfl hl (by decide) rfl (fun ls hl => ?_)
        refine lv_iload_n hx hb dX2_banksOf_55 rfl (lv_at hl 0 rfl) ?_
        refine lv_lload_n hx hb dX2_banksOf_56 rfl (lv_at hl 2 rfl) ?_
        refine lv_aload_n hx hb dX2_banksOf_57 rfl (lv_at hl 1 rfl) ?_
        refine va_get (D := D) (ci := 2) (v := .long (gEa R C)) (C := RX2) (T := TX2) (N := 7) hx hb hts kiX2_banksOf_X2 hown hK hP 0 rfl rfl 6 (by decide) (hts (.fieldLink RX2 35 "TwoBanks$Grid" "eastBank" "J") (List.mem_of_getElem? (i := 4) rfl)) (fun _ h9 => h9) rfl dX2_banksOf_58 ?_
        refine lv_land hx hb dX2_banksOf_61 ?_
        refine lv_lconst (v := 0) hx hb dX2_banksOf_62 (by decide) ?_
        refine W.lcmp hx hb dX2_banksOf_63 ?_
        refine kw_cmp_eq (tgt := 72) hx hb dX2_banksOf_64 (by decide) (fun c_64_4 => ?_) (fun c_64_4 => ?_)
        · refine lv_iconst (v := (nI 0)) hx hb dX2_banksOf_72 (by decide) ?_
          refine lv_ior hx hb dX2_banksOf_73 ?_
          refine lv_istore_n (lv' := [(3, .int ((((nI 0) ||| (nI 0)) ||| (nI 0)) ||| (nI 0))), (0, .ref h0), (1, .long x)]) hx hb dX2_banksOf_74 rfl hl (by decide) rfl (fun ls hl => ?_)
          refine lv_iload_n hx hb dX2_banksOf_75 rfl (lv_at hl 0 rfl) ?_
          exact W.iret (v := ((((nI 0) ||| (nI 0)) ||| (nI 0)) ||| (nI 0))) hx hb hr (fun t ht hW => ⟨⟨((((nI 0) ||| (nI 0)) ||| (nI 0)) ||| (nI 0)), (), rfl, (by subst_vars; simp only [gBk, *, if_true, if_false]), by rw [ht]; exact hP, hD⟩, hS.F ht⟩) hS.2.2 dX2_banksOf_76
        · refine lv_bipush (v := (nI 8)) hx hb dX2_banksOf_67 (by decide) ?_
          refine lv_goto (tgt := 73) hx hb dX2_banksOf_69 (by decide) ?_
          refine lv_ior hx hb dX2_banksOf_73 ?_
          refine lv_istore_n (lv' := [(3, .int ((((nI 0) ||| (nI 0)) ||| (nI 0)) ||| (nI 8))), (0, .ref h0), (1, .long x)]) hx hb dX2_banksOf_74 rfl hl (by decide) rfl (fun ls hl => ?_)
          refine lv_iload_n hx hb dX2_banksOf_75 rfl (lv_at hl 0 rfl) ?_
          exact W.iret (v := ((((nI 0) ||| (nI 0)) ||| (nI 0)) ||| (nI 8))) hx hb hr (fun t ht hW => ⟨⟨((((nI 0) ||| (nI 0)) ||| (nI 0)) ||| (nI 8)), (), rfl, (by subst_vars; simp only [gBk, *, if_true, if_false]), by rw [ht]; exact hP, hD⟩, hS.F ht⟩) hS.2.2 dX2_banksOf_76
      · refine lv_iconst (v := (nI 4)) hx hb dX2_banksOf_48 (by decide) ?_
        refine lv_goto (tgt := 53) hx hb dX2_banksOf_49 (by decide) ?_
        refine lv_ior hx hb dX2_banksOf_53 ?_
        refine lv_istore_n (lv' := [(3, .int (((nI 0) ||| (nI 0)) ||| (nI 4))), (0, .ref h0), (1, .long x)]) hx hb dX2_banksOf_54 rfl hl (by decide) rfl (fun ls hl => ?_)
        refine lv_iload_n hx hb dX2_banksOf_55 rfl (lv_at hl 0 rfl) ?_
        refine lv_lload_n hx hb dX2_banksOf_56 rfl (lv_at hl 2 rfl) ?_
        refine lv_aload_n hx hb dX2_banksOf_57 rfl (lv_at hl 1 rfl) ?_
        refine va_get (D := D) (ci := 2) (v := .long (gEa R C)) (C := RX2) (T := TX2) (N := 7) hx hb hts kiX2_banksOf_X2 hown hK hP 0 rfl rfl 6 (by decide) (hts (.fieldLink RX2 35 "TwoBanks$Grid" "eastBank" "J") (List.mem_of_getElem? (i := 4) rfl)) (fun _ h9 => h9) rfl dX2_banksOf_58 ?_
        refine lv_land hx hb dX2_banksOf_61 ?_
        refine lv_lconst (v := 0) hx hb dX2_banksOf_62 (by decide) ?_
        refine W.lcmp hx hb dX2_banksOf_63 ?_
        refine kw_cmp_eq (tgt := 72) hx hb dX2_banksOf_64 (by decide) (fun c_64_5 => ?_) (fun c_64_5 => ?_)
        · refine lv_iconst (v := (nI 0)) hx hb dX2_banksOf_72 (by decide) ?_
          refine lv_ior hx hb dX2_banksOf_73 ?_
          refine lv_istore_n (lv' := [(3, .int ((((nI 0) ||| (nI 0)) ||| (nI 4)) ||| (nI 0))), (0, .ref h0), (1, .long x)]) hx hb dX2_banksOf_74 rfl hl (by decide) rfl (fun ls hl => ?_)
          refine lv_iload_n hx hb dX2_banksOf_75 rfl (lv_at hl 0 rfl) ?_
          exact W.iret (v := ((((nI 0) ||| (nI 0)) ||| (nI 4)) ||| (nI 0))) hx hb hr (fun t ht hW => ⟨⟨((((nI 0) ||| (nI 0)) ||| (nI 4)) ||| (nI 0)), (), rfl, (by subst_vars; simp only [gBk, *, if_true, if_false]), by rw [ht]; exact hP, hD⟩, hS.F ht⟩) hS.2.2 dX2_banksOf_76
        · refine lv_bipush (v := (nI 8)) hx hb dX2_banksOf_67 (by decide) ?_
          refine lv_goto (tgt := 73) hx hb dX2_banksOf_69 (by decide) ?_
          refine lv_ior hx hb dX2_banksOf_73 ?_
          refine lv_istore_n (lv' := [(3, .int ((((nI 0) ||| (nI 0)) ||| (nI 4)) ||| (nI 8))), (0, .ref h0), (1, .long x)]) hx hb dX2_banksOf_74 rfl hl (by decide) rfl (fun ls hl => ?_)
          refine lv_iload_n hx hb dX2_banksOf_75 rfl (lv_at hl 0 rfl) ?_
          exact W.iret (v := ((((nI 0) ||| (nI 0)) ||| (nI 4)) ||| (nI 8))) hx hb hr (fun t ht hW => ⟨⟨((((nI 0) ||| (nI 0)) ||| (nI 4)) ||| (nI 8)), (), rfl, (by subst_vars; simp only [gBk, *, if_true, if_false]), by rw [ht]; exact hP, hD⟩, hS.F ht⟩) hS.2.2 dX2_banksOf_76
    · refine lv_iconst (v := (nI 2)) hx hb dX2_banksOf_29 (by decide) ?_
      refine lv_goto (tgt := 34) hx hb dX2_banksOf_30 (by decide) ?_
      refine lv_ior hx hb dX2_banksOf_34 ?_
      refine lv_istore_n (lv' := [(3, .int ((nI 0) ||| (nI 2))), (0, .ref h0), (1, .long x)]) hx hb dX2_banksOf_35 rfl hl (by decide) rfl (fun ls hl => ?_)
      refine lv_iload_n hx hb dX2_banksOf_36 rfl (lv_at hl 0 rfl) ?_
      refine lv_lload_n hx hb dX2_banksOf_37 rfl (lv_at hl 2 rfl) ?_
      refine lv_aload_n hx hb dX2_banksOf_38 rfl (lv_at hl 1 rfl) ?_
      refine va_get (D := D) (ci := 2) (v := .long (gWeN C R)) (C := RX2) (T := TX2) (N := 7) hx hb hts kiX2_banksOf_X2 hown hK hP 0 rfl rfl 5 (by decide) (hts (.fieldLink RX2 32 "TwoBanks$Grid" "westBank" "J") (List.mem_of_getElem? (i := 3) rfl)) (fun _ h9 => h9) rfl dX2_banksOf_39 ?_
      refine lv_land hx hb dX2_banksOf_42 ?_
      refine lv_lconst (v := 0) hx hb dX2_banksOf_43 (by decide) ?_
      refine W.lcmp hx hb dX2_banksOf_44 ?_
      refine kw_cmp_eq (tgt := 52) hx hb dX2_banksOf_45 (by decide) (fun c_45_6 => ?_) (fun c_45_6 => ?_)
      · refine lv_iconst (v := (nI 0)) hx hb dX2_banksOf_52 (by decide) ?_
        refine lv_ior hx hb dX2_banksOf_53 ?_
        refine lv_istore_n (lv' := [(3, .int (((nI 0) ||| (nI 2)) ||| (nI 0))), (0, .ref h0), (1, .long x)]) hx hb dX2_banksOf_54 rfl hl (by decide) rfl (fun ls hl => ?_)
        refine lv_iload_n hx hb dX2_banksOf_55 rfl (lv_at hl 0 rfl) ?_
        refine lv_lload_n hx hb dX2_banksOf_56 rfl (lv_at hl 2 rfl) ?_
        refine lv_aload_n hx hb dX2_banksOf_57 rfl (lv_at hl 1 rfl) ?_
        refine va_get (D := D) (ci := 2) (v := .long (gEa R C)) (C := RX2) (T := TX2) (N := 7) hx hb hts kiX2_banksOf_X2 hown hK hP 0 rfl rfl 6 (by decide) (hts (.fieldLink RX2 35 "TwoBanks$Grid" "eastBank" "J") (List.mem_of_getElem? (i := 4) rfl)) (fun _ h9 => h9) rfl dX2_banksOf_58 ?_
        refine lv_land hx hb dX2_banksOf_61 ?_
        refine lv_lconst (v := 0) hx hb dX2_banksOf_62 (by decide) ?_
        refine W.lcmp hx hb dX2_banksOf_63 ?_
        refine kw_cmp_eq (tgt := 72) hx hb dX2_banksOf_64 (by decide) (fun c_64_7 => ?_) (fun c_64_7 => ?_)
        · refine lv_iconst (v := (nI 0)) hx hb dX2_banksOf_72 (by decide) ?_
          refine lv_ior hx hb dX2_banksOf_73 ?_
          refine lv_istore_n (lv' := [(3, .int ((((nI 0) ||| (nI 2)) ||| (nI 0)) ||| (nI 0))), (0, .ref h0), (1, .long x)]) hx hb dX2_banksOf_74 rfl hl (by decide) rfl (fun ls hl => ?_)
          refine lv_iload_n hx hb dX2_banksOf_75 rfl (lv_at hl 0 rfl) ?_
          exact W.iret (v := ((((nI 0) ||| (nI 2)) ||| (nI 0)) ||| (nI 0))) hx hb hr (fun t ht hW => ⟨⟨((((nI 0) ||| (nI 2)) ||| (nI 0)) ||| (nI 0)), (), rfl, (by subst_vars; simp only [gBk, *, if_true, if_false]), by rw [ht]; exact hP, hD⟩, hS.F ht⟩) hS.2.2 dX2_banksOf_76
        · refine lv_bipush (v := (nI 8)) hx hb dX2_banksOf_67 (by decide) ?_
          refine lv_goto (tgt := 73) hx hb dX2_banksOf_69 (by decide) ?_
          refine lv_ior hx hb dX2_banksOf_73 ?_
          refine lv_istore_n (lv' := [(3, .int ((((nI 0) ||| (nI 2)) ||| (nI 0)) ||| (nI 8))), (0, .ref h0), (1, .long x)]) hx hb dX2_banksOf_74 rfl hl (by decide) rfl (fun ls hl => ?_)
          refine lv_iload_n hx hb dX2_banksOf_75 rfl (lv_at hl 0 rfl) ?_
          exact W.iret (v := ((((nI 0) ||| (nI 2)) ||| (nI 0)) ||| (nI 8))) hx hb hr (fun t ht hW => ⟨⟨((((nI 0) ||| (nI 2)) ||| (nI 0)) ||| (nI 8)), (), rfl, (by subst_vars; simp only [gBk, *, if_true, if_false]), by rw [ht]; exact hP, hD⟩, hS.F ht⟩) hS.2.2 dX2_banksOf_76
      · refine lv_iconst (v := (nI 4)) hx hb dX2_banksOf_48 (by decide) ?_
        refine lv_goto (tgt := 53) hx hb dX2_banksOf_49 (by decide) ?_
        refine lv_ior hx hb dX2_banksOf_53 ?_
        refine lv_istore_n (lv' := [(3, .int (((nI 0) ||| (nI 2)) ||| (nI 4))), (0, .ref h0), (1, .long x)]) hx hb dX2_banksOf_54 rfl hl (by decide) rfl (fun ls hl => ?_)
        refine lv_iload_n hx hb dX2_banksOf_55 rfl (lv_at hl 0 rfl) ?_
        refine lv_lload_n hx hb dX2_banksOf_56 rfl (lv_at hl 2 rfl) ?_
        refine lv_aload_n hx hb dX2_banksOf_57 rfl (lv_at hl 1 rfl) ?_
        refine va_get (D := D) (ci := 2) (v := .long (gEa R C)) (C := RX2) (T := TX2) (N := 7) hx hb hts kiX2_banksOf_X2 hown hK hP 0 rfl rfl 6 (by decide) (hts (.fieldLink RX2 35 "TwoBanks$Grid" "eastBank" "J") (List.mem_of_getElem? (i := 4) rfl)) (fun _ h9 => h9) rfl dX2_banksOf_58 ?_
        refine lv_land hx hb dX2_banksOf_61 ?_
        refine lv_lconst (v := 0) hx hb dX2_banksOf_62 (by decide) ?_
        refine W.lcmp hx hb dX2_banksOf_63 ?_
        refine kw_cmp_eq (tgt := 72) hx hb dX2_banksOf_64 (by decide) (fun c_64_8 => ?_) (fun c_64_8 => ?_)
        · refine lv_iconst (v := (nI 0)) hx hb dX2_banksOf_72 (by decide) ?_
          refine lv_ior hx hb dX2_banksOf_73 ?_
          refine lv_istore_n (lv' := [(3, .int ((((nI 0) ||| (nI 2)) ||| (nI 4)) ||| (nI 0))), (0, .ref h0), (1, .long x)]) hx hb dX2_banksOf_74 rfl hl (by decide) rfl (fun ls hl => ?_)
          refine lv_iload_n hx hb dX2_banksOf_75 rfl (lv_at hl 0 rfl) ?_
          exact W.iret (v := ((((nI 0) ||| (nI 2)) ||| (nI 4)) ||| (nI 0))) hx hb hr (fun t ht hW => ⟨⟨((((nI 0) ||| (nI 2)) ||| (nI 4)) ||| (nI 0)), (), rfl, (by subst_vars; simp only [gBk, *, if_true, if_false]), by rw [ht]; exact hP, hD⟩, hS.F ht⟩) hS.2.2 dX2_banksOf_76
        · refine lv_bipush (v := (nI 8)) hx hb dX2_banksOf_67 (by decide) ?_
          refine lv_goto (tgt := 73) hx hb dX2_banksOf_69 (by decide) ?_
          refine lv_ior hx hb dX2_banksOf_73 ?_
          refine lv_istore_n (lv' := [(3, .int ((((nI 0) ||| (nI 2)) ||| (nI 4)) ||| (nI 8))), (0, .ref h0), (1, .long x)]) hx hb dX2_banksOf_74 rfl hl (by decide) rfl (fun ls hl => ?_)
          refine lv_iload_n hx hb dX2_banksOf_75 rfl (lv_at hl 0 rfl) ?_
          exact W.iret (v := ((((nI 0) ||| (nI 2)) ||| (nI 4)) ||| (nI 8))) hx hb hr (fun t ht hW => ⟨⟨((((nI 0) ||| (nI 2)) ||| (nI 4)) ||| (nI 8)), (), rfl, (by subst_vars; simp only [gBk, *, if_true, if_false]), by rw [ht]; exact hP, hD⟩, hS.F ht⟩) hS.2.2 dX2_banksOf_76
  · refine lv_iconst (v := (nI 1)) hx hb dX2_banksOf_11 (by decide) ?_
    refine lv_goto (tgt := 16) hx hb dX2_banksOf_12 (by decide) ?_
    refine lv_istore_n (lv' := [(3, .int (nI 1)), (0, .ref h0), (1, .long x)]) hx hb dX2_banksOf_16 rfl hl (by decide) rfl (fun ls hl => ?_)
    refine lv_iload_n hx hb dX2_banksOf_17 rfl (lv_at hl 0 rfl) ?_
    refine lv_lload_n hx hb dX2_banksOf_18 rfl (lv_at hl 2 rfl) ?_
    refine lv_aload_n hx hb dX2_banksOf_19 rfl (lv_at hl 1 rfl) ?_
    refine va_get (D := D) (ci := 2) (v := .long (gSo R C)) (C := RX2) (T := TX2) (N := 7) hx hb hts kiX2_banksOf_X2 hown hK hP 0 rfl rfl 4 (by decide) (hts (.fieldLink RX2 29 "TwoBanks$Grid" "southBank" "J") (List.mem_of_getElem? (i := 2) rfl)) (fun _ h9 => h9) rfl dX2_banksOf_20 ?_
    refine lv_land hx hb dX2_banksOf_23 ?_
    refine lv_lconst (v := 0) hx hb dX2_banksOf_24 (by decide) ?_
    refine W.lcmp hx hb dX2_banksOf_25 ?_
    refine kw_cmp_eq (tgt := 33) hx hb dX2_banksOf_26 (by decide) (fun c_26_9 => ?_) (fun c_26_9 => ?_)
    · refine lv_iconst (v := (nI 0)) hx hb dX2_banksOf_33 (by decide) ?_
      refine lv_ior hx hb dX2_banksOf_34 ?_
      refine lv_istore_n (lv' := [(3, .int ((nI 1) ||| (nI 0))), (0, .ref h0), (1, .long x)]) hx hb dX2_banksOf_35 rfl hl (by decide) rfl (fun ls hl => ?_)
      refine lv_iload_n hx hb dX2_banksOf_36 rfl (lv_at hl 0 rfl) ?_
      refine lv_lload_n hx hb dX2_banksOf_37 rfl (lv_at hl 2 rfl) ?_
      refine lv_aload_n hx hb dX2_banksOf_38 rfl (lv_at hl 1 rfl) ?_
      refine va_get (D := D) (ci := 2) (v := .long (gWeN C R)) (C := RX2) (T := TX2) (N := 7) hx hb hts kiX2_banksOf_X2 hown hK hP 0 rfl rfl 5 (by decide) (hts (.fieldLink RX2 32 "TwoBanks$Grid" "westBank" "J") (List.mem_of_getElem? (i := 3) rfl)) (fun _ h9 => h9) rfl dX2_banksOf_39 ?_
      refine lv_land hx hb dX2_banksOf_42 ?_
      refine lv_lconst (v := 0) hx hb dX2_banksOf_43 (by decide) ?_
      refine W.lcmp hx hb dX2_banksOf_44 ?_
      refine kw_cmp_eq (tgt := 52) hx hb dX2_banksOf_45 (by decide) (fun c_45_10 => ?_) (fun c_45_10 => ?_)
      · refine lv_iconst (v := (nI 0)) hx hb dX2_banksOf_52 (by decide) ?_
        refine lv_ior hx hb dX2_banksOf_53 ?_
        refine lv_istore_n (lv' := [(3, .int (((nI 1) ||| (nI 0)) ||| (nI 0))), (0, .ref h0), (1, .long x)]) hx hb dX2_banksOf_54 rfl hl (by decide) rfl (fun ls hl => ?_)
        refine lv_iload_n hx hb dX2_banksOf_55 rfl (lv_at hl 0 rfl) ?_
        refine lv_lload_n hx hb dX2_banksOf_56 rfl (lv_at hl 2 rfl) ?_
        refine lv_aload_n hx hb dX2_banksOf_57 rfl (lv_at hl 1 rfl) ?_
        refine va_get (D := D) (ci := 2) (v := .long (gEa R C)) (C := RX2) (T := TX2) (N := 7) hx hb hts kiX2_banksOf_X2 hown hK hP 0 rfl rfl 6 (by decide) (hts (.fieldLink RX2 35 "TwoBanks$Grid" "eastBank" "J") (List.mem_of_getElem? (i := 4) rfl)) (fun _ h9 => h9) rfl dX2_banksOf_58 ?_
        refine lv_land hx hb dX2_banksOf_61 ?_
        refine lv_lconst (v := 0) hx hb dX2_banksOf_62 (by decide) ?_
        refine W.lcmp hx hb dX2_banksOf_63 ?_
        refine kw_cmp_eq (tgt := 72) hx hb dX2_banksOf_64 (by decide) (fun c_64_11 => ?_) (fun c_64_11 => ?_)
        · refine lv_iconst (v := (nI 0)) hx hb dX2_banksOf_72 (by decide) ?_
          refine lv_ior hx hb dX2_banksOf_73 ?_
          refine lv_istore_n (lv' := [(3, .int ((((nI 1) ||| (nI 0)) ||| (nI 0)) ||| (nI 0))), (0, .ref h0), (1, .long x)]) hx hb dX2_banksOf_74 rfl hl (by decide) rfl (fun ls hl => ?_)
          refine lv_iload_n hx hb dX2_banksOf_75 rfl (lv_at hl 0 rfl) ?_
          exact W.iret (v := ((((nI 1) ||| (nI 0)) ||| (nI 0)) ||| (nI 0))) hx hb hr (fun t ht hW => ⟨⟨((((nI 1) ||| (nI 0)) ||| (nI 0)) ||| (nI 0)), (), rfl, (by subst_vars; simp only [gBk, *, if_true, if_false]), by rw [ht]; exact hP, hD⟩, hS.F ht⟩) hS.2.2 dX2_banksOf_76
        · refine lv_bipush (v := (nI 8)) hx hb dX2_banksOf_67 (by decide) ?_
          refine lv_goto (tgt := 73) hx hb dX2_banksOf_69 (by decide) ?_
          refine lv_ior hx hb dX2_banksOf_73 ?_
          refine lv_istore_n (lv' := [(3, .int ((((nI 1) ||| (nI 0)) ||| (nI 0)) ||| (nI 8))), (0, .ref h0), (1, .long x)]) hx hb dX2_banksOf_74 rfl hl (by decide) rfl (fun ls hl => ?_)
          refine lv_iload_n hx hb dX2_banksOf_75 rfl (lv_at hl 0 rfl) ?_
          exact W.iret (v := ((((nI 1) ||| (nI 0)) ||| (nI 0)) ||| (nI 8))) hx hb hr (fun t ht hW => ⟨⟨((((nI 1) ||| (nI 0)) ||| (nI 0)) ||| (nI 8)), (), rfl, (by subst_vars; simp only [gBk, *, if_true, if_false]), by rw [ht]; exact hP, hD⟩, hS.F ht⟩) hS.2.2 dX2_banksOf_76
      · refine lv_iconst (v := (nI 4)) hx hb dX2_banksOf_48 (by decide) ?_
        refine lv_goto (tgt := 53) hx hb dX2_banksOf_49 (by decide) ?_
        refine lv_ior hx hb dX2_banksOf_53 ?_
        refine lv_istore_n (lv' := [(3, .int (((nI 1) ||| (nI 0)) ||| (nI 4))), (0, .ref h0), (1, .long x)]) hx hb dX2_banksOf_54 rfl hl (by decide) rfl (fun ls hl => ?_)
        refine lv_iload_n hx hb dX2_banksOf_55 rfl (lv_at hl 0 rfl) ?_
        refine lv_lload_n hx hb dX2_banksOf_56 rfl (lv_at hl 2 rfl) ?_
        refine lv_aload_n hx hb dX2_banksOf_57 rfl (lv_at hl 1 rfl) ?_
        refine va_get (D := D) (ci := 2) (v := .long (gEa R C)) (C := RX2) (T := TX2) (N := 7) hx hb hts kiX2_banksOf_X2 hown hK hP 0 rfl rfl 6 (by decide) (hts (.fieldLink RX2 35 "TwoBanks$Grid" "eastBank" "J") (List.mem_of_getElem? (i := 4) rfl)) (fun _ h9 => h9) rfl dX2_banksOf_58 ?_
        refine lv_land hx hb dX2_banksOf_61 ?_
        refine lv_lconst (v := 0) hx hb dX2_banksOf_62 (by decide) ?_
        refine W.lcmp hx hb dX2_banksOf_63 ?_
        refine kw_cmp_eq (tgt := 72) hx hb dX2_banksOf_64 (by decide) (fun c_64_12 => ?_) (fun c_64_12 => ?_)
        · refine lv_iconst (v := (nI 0)) hx hb dX2_banksOf_72 (by decide) ?_
          refine lv_ior hx hb dX2_banksOf_73 ?_
          refine lv_istore_n (lv' := [(3, .int ((((nI 1) ||| (nI 0)) ||| (nI 4)) ||| (nI 0))), (0, .ref h0), (1, .long x)]) hx hb dX2_banksOf_74 rfl hl (by decide) rfl (fun ls hl => ?_)
          refine lv_iload_n hx hb dX2_banksOf_75 rfl (lv_at hl 0 rfl) ?_
          exact W.iret (v := ((((nI 1) ||| (nI 0)) ||| (nI 4)) ||| (nI 0))) hx hb hr (fun t ht hW => ⟨⟨((((nI 1) ||| (nI 0)) ||| (nI 4)) ||| (nI 0)), (), rfl, (by subst_vars; simp only [gBk, *, if_true, if_false]), by rw [ht]; exact hP, hD⟩, hS.F ht⟩) hS.2.2 dX2_banksOf_76
        · refine lv_bipush (v := (nI 8)) hx hb dX2_banksOf_67 (by decide) ?_
          refine lv_goto (tgt := 73) hx hb dX2_banksOf_69 (by decide) ?_
          refine lv_ior hx hb dX2_banksOf_73 ?_
          refine lv_istore_n (lv' := [(3, .int ((((nI 1) ||| (nI 0)) ||| (nI 4)) ||| (nI 8))), (0, .ref h0), (1, .long x)]) hx hb dX2_banksOf_74 rfl hl (by decide) rfl (fun ls hl => ?_)
          refine lv_iload_n hx hb dX2_banksOf_75 rfl (lv_at hl 0 rfl) ?_
          exact W.iret (v := ((((nI 1) ||| (nI 0)) ||| (nI 4)) ||| (nI 8))) hx hb hr (fun t ht hW => ⟨⟨((((nI 1) ||| (nI 0)) ||| (nI 4)) ||| (nI 8)), (), rfl, (by subst_vars; simp only [gBk, *, if_true, if_false]), by rw [ht]; exact hP, hD⟩, hS.F ht⟩) hS.2.2 dX2_banksOf_76
    · refine lv_iconst (v := (nI 2)) hx hb dX2_banksOf_29 (by decide) ?_
      refine lv_goto (tgt := 34) hx hb dX2_banksOf_30 (by decide) ?_
      refine lv_ior hx hb dX2_banksOf_34 ?_
      refine lv_istore_n (lv' := [(3, .int ((nI 1) ||| (nI 2))), (0, .ref h0), (1, .long x)]) hx hb dX2_banksOf_35 rfl hl (by decide) rfl (fun ls hl => ?_)
      refine lv_iload_n hx hb dX2_banksOf_36 rfl (lv_at hl 0 rfl) ?_
      refine lv_lload_n hx hb dX2_banksOf_37 rfl (lv_at hl 2 rfl) ?_
      refine lv_aload_n hx hb dX2_banksOf_38 rfl (lv_at hl 1 rfl) ?_
      refine va_get (D := D) (ci := 2) (v := .long (gWeN C R)) (C := RX2) (T := TX2) (N := 7) hx hb hts kiX2_banksOf_X2 hown hK hP 0 rfl rfl 5 (by decide) (hts (.fieldLink RX2 32 "TwoBanks$Grid" "westBank" "J") (List.mem_of_getElem? (i := 3) rfl)) (fun _ h9 => h9) rfl dX2_banksOf_39 ?_
      refine lv_land hx hb dX2_banksOf_42 ?_
      refine lv_lconst (v := 0) hx hb dX2_banksOf_43 (by decide) ?_
      refine W.lcmp hx hb dX2_banksOf_44 ?_
      refine kw_cmp_eq (tgt := 52) hx hb dX2_banksOf_45 (by decide) (fun c_45_13 => ?_) (fun c_45_13 => ?_)
      · refine lv_iconst (v := (nI 0)) hx hb dX2_banksOf_52 (by decide) ?_
        refine lv_ior hx hb dX2_banksOf_53 ?_
        refine lv_istore_n (lv' := [(3, .int (((nI 1) ||| (nI 2)) ||| (nI 0))), (0, .ref h0), (1, .long x)]) hx hb dX2_banksOf_54 rfl hl (by decide) rfl (fun ls hl => ?_)
        refine lv_iload_n hx hb dX2_banksOf_55 rfl (lv_at hl 0 rfl) ?_
        refine lv_lload_n hx hb dX2_banksOf_56 rfl (lv_at hl 2 rfl) ?_
        refine lv_aload_n hx hb dX2_banksOf_57 rfl (lv_at hl 1 rfl) ?_
        refine va_get (D := D) (ci := 2) (v := .long (gEa R C)) (C := RX2) (T := TX2) (N := 7) hx hb hts kiX2_banksOf_X2 hown hK hP 0 rfl rfl 6 (by decide) (hts (.fieldLink RX2 35 "TwoBanks$Grid" "eastBank" "J") (List.mem_of_getElem? (i := 4) rfl)) (fun _ h9 => h9) rfl dX2_banksOf_58 ?_
        refine lv_land hx hb dX2_banksOf_61 ?_
        refine lv_lconst (v := 0) hx hb dX2_banksOf_62 (by decide) ?_
        refine W.lcmp hx hb dX2_banksOf_63 ?_
        refine kw_cmp_eq (tgt := 72) hx hb dX2_banksOf_64 (by decide) (fun c_64_14 => ?_) (fun c_64_14 => ?_)
        · refine lv_iconst (v := (nI 0)) hx hb dX2_banksOf_72 (by decide) ?_
          refine lv_ior hx hb dX2_banksOf_73 ?_
          refine lv_istore_n (lv' := [(3, .int ((((nI 1) ||| (nI 2)) ||| (nI 0)) ||| (nI 0))), (0, .ref h0), (1, .long x)]) hx hb dX2_banksOf_74 rfl hl (by decide) rfl (fun ls hl => ?_)
          refine lv_iload_n hx hb dX2_banksOf_75 rfl (lv_at hl 0 rfl) ?_
          exact W.iret (v := ((((nI 1) ||| (nI 2)) ||| (nI 0)) ||| (nI 0))) hx hb hr (fun t ht hW => ⟨⟨((((nI 1) ||| (nI 2)) ||| (nI 0)) ||| (nI 0)), (), rfl, (by subst_vars; simp only [gBk, *, if_true, if_false]), by rw [ht]; exact hP, hD⟩, hS.F ht⟩) hS.2.2 dX2_banksOf_76
        · refine lv_bipush (v := (nI 8)) hx hb dX2_banksOf_67 (by decide) ?_
          refine lv_goto (tgt := 73) hx hb dX2_banksOf_69 (by decide) ?_
          refine lv_ior hx hb dX2_banksOf_73 ?_
          refine lv_istore_n (lv' := [(3, .int ((((nI 1) ||| (nI 2)) ||| (nI 0)) ||| (nI 8))), (0, .ref h0), (1, .long x)]) hx hb dX2_banksOf_74 rfl hl (by decide) rfl (fun ls hl => ?_)
          refine lv_iload_n hx hb dX2_banksOf_75 rfl (lv_at hl 0 rfl) ?_
          exact W.iret (v := ((((nI 1) ||| (nI 2)) ||| (nI 0)) ||| (nI 8))) hx hb hr (fun t ht hW => ⟨⟨((((nI 1) ||| (nI 2)) ||| (nI 0)) ||| (nI 8)), (), rfl, (by subst_vars; simp only [gBk, *, if_true, if_false]), by rw [ht]; exact hP, hD⟩, hS.F ht⟩) hS.2.2 dX2_banksOf_76
      · refine lv_iconst (v := (nI 4)) hx hb dX2_banksOf_48 (by decide) ?_
        refine lv_goto (tgt := 53) hx hb dX2_banksOf_49 (by decide) ?_
        refine lv_ior hx hb dX2_banksOf_53 ?_
        refine lv_istore_n (lv' := [(3, .int (((nI 1) ||| (nI 2)) ||| (nI 4))), (0, .ref h0), (1, .long x)]) hx hb dX2_banksOf_54 rfl hl (by decide) rfl (fun ls hl => ?_)
        refine lv_iload_n hx hb dX2_banksOf_55 rfl (lv_at hl 0 rfl) ?_
        refine lv_lload_n hx hb dX2_banksOf_56 rfl (lv_at hl 2 rfl) ?_
        refine lv_aload_n hx hb dX2_banksOf_57 rfl (lv_at hl 1 rfl) ?_
        refine va_get (D := D) (ci := 2) (v := .long (gEa R C)) (C := RX2) (T := TX2) (N := 7) hx hb hts kiX2_banksOf_X2 hown hK hP 0 rfl rfl 6 (by decide) (hts (.fieldLink RX2 35 "TwoBanks$Grid" "eastBank" "J") (List.mem_of_getElem? (i := 4) rfl)) (fun _ h9 => h9) rfl dX2_banksOf_58 ?_
        refine lv_land hx hb dX2_banksOf_61 ?_
        refine lv_lconst (v := 0) hx hb dX2_banksOf_62 (by decide) ?_
        refine W.lcmp hx hb dX2_banksOf_63 ?_
        refine kw_cmp_eq (tgt := 72) hx hb dX2_banksOf_64 (by decide) (fun c_64_15 => ?_) (fun c_64_15 => ?_)
        · refine lv_iconst (v := (nI 0)) hx hb dX2_banksOf_72 (by decide) ?_
          refine lv_ior hx hb dX2_banksOf_73 ?_
          refine lv_istore_n (lv' := [(3, .int ((((nI 1) ||| (nI 2)) ||| (nI 4)) ||| (nI 0))), (0, .ref h0), (1, .long x)]) hx hb dX2_banksOf_74 rfl hl (by decide) rfl (fun ls hl => ?_)
          refine lv_iload_n hx hb dX2_banksOf_75 rfl (lv_at hl 0 rfl) ?_
          exact W.iret (v := ((((nI 1) ||| (nI 2)) ||| (nI 4)) ||| (nI 0))) hx hb hr (fun t ht hW => ⟨⟨((((nI 1) ||| (nI 2)) ||| (nI 4)) ||| (nI 0)), (), rfl, (by subst_vars; simp only [gBk, *, if_true, if_false]), by rw [ht]; exact hP, hD⟩, hS.F ht⟩) hS.2.2 dX2_banksOf_76
        · refine lv_bipush (v := (nI 8)) hx hb dX2_banksOf_67 (by decide) ?_
          refine lv_goto (tgt := 73) hx hb dX2_banksOf_69 (by decide) ?_
          refine lv_ior hx hb dX2_banksOf_73 ?_
          refine lv_istore_n (lv' := [(3, .int ((((nI 1) ||| (nI 2)) ||| (nI 4)) ||| (nI 8))), (0, .ref h0), (1, .long x)]) hx hb dX2_banksOf_74 rfl hl (by decide) rfl (fun ls hl => ?_)
          refine lv_iload_n hx hb dX2_banksOf_75 rfl (lv_at hl 0 rfl) ?_
          exact W.iret (v := ((((nI 1) ||| (nI 2)) ||| (nI 4)) ||| (nI 8))) hx hb hr (fun t ht hW => ⟨⟨((((nI 1) ||| (nI 2)) ||| (nI 4)) ||| (nI 8)), (), rfl, (by subst_vars; simp only [gBk, *, if_true, if_false]), by rw [ht]; exact hP, hD⟩, hS.F ht⟩) hS.2.2 dX2_banksOf_76

theorem kiX2_turned_X2 : ∀ w ∈ u_ws RX2 TX2 7, w ∈ wsX2_turned := fun w h => List.mem_cons_of_mem _ (List.mem_append_right _ h)
set_option maxHeartbeats 4000000 in
set_option maxRecDepth 100000 in
theorem c_G_turned (l : Launch) (D : va_G) (cI cJ cZ : ClassId) (h0 : Nat) (R C : Nat) (x : Int64) (hR1 : 1 ≤ R) (hR2 : R ≤ 6) (hC1 : 1 ≤ C) (hC2 : C ≤ 6) (hRC : R * C ≤ 36) (sz : Nat) : kMJ l yX2_turned wsX2_turned 1 20 D cI cJ cZ [.ref h0, .long x] [(h0, wGr R C)] sz (fun r (_ : Unit) => r = gTu R C x) (fun _ : Unit => [(h0, wGr R C)]) := by
  refine Met.ofW (cc := cX2_turned) (maxL := 7) (ret := (some .long)) (by decide) rfl ?_
  intro p e s m args below meth c s₁ B hml hv
  obtain ⟨rfl, hsz, hP, ⟨hK, hN⟩, hD0⟩ := hv
  have hx := B.exec
  have hb := B.bytes
  have hr := B.returns
  have hts := atoms_spec (ws := wsX2_turned) B.pre
  have hown : s.vm.findClass RX2 = some m.cls := findClass_of_methodNamed B.named
  have hlocks := B.notSynchronized
  subst hsz
  have hD := hD0.self (sz := s.heap.size)
  generalize hAe : va_A [(h0, wGr R C)] s.heap.size = A at hD ⊢
  have hA : ∀ q : Nat, s.heap.size ≤ q → A q := fun q h => by rw [← hAe]; exact Or.inr h
  have hS : va_S A s.heap s.heap [] := va_S.rf
  have hl := lv_entry ([.ref h0, .long x]) (n := 7) (Nat.le_of_ble_eq_true rfl)
  rw [lg_entry_eq]
  generalize (lg_sl ([.ref h0, .long x]) ++ List.replicate (7 - (lg_sl ([.ref h0, .long x])).length) Slot.unset).toArray = ls at hl ⊢
  have hl : lv_has ls 7 [(0, .ref h0), (1, .long x)] := hl
  have hK2 : kK D cI cJ cZ s := ⟨hK, hN⟩
  clear hD0
  refine lv_lconst (v := 0) hx hb dX2_turned_0 (by decide) ?_
  refine lv_lstore_n (lv' := [(3, .long 0), (0, .ref h0), (1, .long x)]) hx hb dX2_turned_1 rfl hl (by decide) rfl (fun ls hl => ?_)
  refine lv_iconst (v := (nI 0)) hx hb dX2_turned_2 (by decide) ?_
  refine lv_istore (lv' := [(5, .int (nI 0)), (3, .long 0), (0, .ref h0), (1, .long x)]) hx hb dX2_turned_3 hl (by decide) rfl (fun ls hl => ?_)
  refine kw_loop (σ := Nat) (fun (r : Nat) H locs ls => va_P D vwCl [(h0, wGr R C)] H ∧ va_D A [(h0, wGr R C)] ∧ va_S A s.heap H locs ∧ lv_has ls 7 [(0, .ref h0), (1, .long x), (3, .long (gTuO R C x r)), (5, .int (nI r))] ∧ (r ≤ R)) (fun (r : Nat) => R - r) 0 ⟨hP, hD, hS, lv_sub hl [2, 3, 1, 0] rfl, by omega⟩ ?_
  clear hP hD hS hl
  rintro r H locs ls ⟨hP, hD, hS, hl, hr2⟩ ih_5
  have hP : va_P D vwCl [(h0, wGr R C)] H := hP
  have hD : va_D A [(h0, wGr R C)] := hD
  have hl : lv_has ls 7 [(0, .ref h0), (1, .long x), (3, .long (gTuO R C x r)), (5, .int (nI r))] := hl
  have hr2 : r ≤ R := hr2
  refine lv_iload hx hb dX2_turned_5 (lv_at hl 3 rfl) ?_
  refine lv_aload_n hx hb dX2_turned_7 rfl (lv_at hl 0 rfl) ?_
  refine va_get (D := D) (ci := 2) (v := .int (nI R)) (C := RX2) (T := TX2) (N := 7) hx hb hts kiX2_turned_X2 hown hK hP 0 rfl rfl 0 (by decide) (hts (.fieldLink RX2 9 "TwoBanks$Grid" "rows" "I") (List.mem_of_getElem? (i := 1) rfl)) (fun _ h9 => h9) rfl dX2_turned_8 ?_
  refine kw_icmp_ge (tgt := 74) hx hb dX2_turned_11 (by decide) (by omega) (by omega) (fun c_11_1 => ?_) (fun c_11_1 => ?_)
  · refine lv_lload_n hx hb dX2_turned_74 rfl (lv_at hl 2 rfl) ?_
    exact W.lret (v := (gTuO R C x r)) hx hb hr (fun t ht hW => ⟨⟨(gTuO R C x r), (), rfl, (by rw [show r = R by omega]; rfl), by rw [ht]; exact hP, hD⟩, hS.F ht⟩) hS.2.2 dX2_turned_75
  · refine lv_iconst (v := (nI 0)) hx hb dX2_turned_14 (by decide) ?_
    refine lv_istore (lv' := [(6, .int (nI 0)), (0, .ref h0), (1, .long x), (3, .long (gTuO R C x r)), (5, .int (nI r))]) hx hb dX2_turned_15 hl (by decide) rfl (fun ls hl => ?_)
    refine kw_loop (σ := Nat) (fun (cc : Nat) H locs ls => va_P D vwCl [(h0, wGr R C)] H ∧ va_D A [(h0, wGr R C)] ∧ va_S A s.heap H locs ∧ lv_has ls 7 [(0, .ref h0), (1, .long x), (3, .long (gTuI R C x r (gTuO R C x r) cc)), (5, .int (nI r)), (6, .int (nI cc))] ∧ (cc ≤ C)) (fun (cc : Nat) => C - cc) 0 ⟨hP, hD, hS, lv_sub hl [1, 2, 3, 4, 0] rfl, by omega⟩ ?_
    clear hP hD hS hl
    rintro cc H locs ls ⟨hP, hD, hS, hl, hc2⟩ ih_17
    have hP : va_P D vwCl [(h0, wGr R C)] H := hP
    have hD : va_D A [(h0, wGr R C)] := hD
    have hl : lv_has ls 7 [(0, .ref h0), (1, .long x), (3, .long (gTuI R C x r (gTuO R C x r) cc)), (5, .int (nI r)), (6, .int (nI cc))] := hl
    have hc2 : cc ≤ C := hc2
    refine lv_iload hx hb dX2_turned_17 (lv_at hl 4 rfl) ?_
    refine lv_aload_n hx hb dX2_turned_19 rfl (lv_at hl 0 rfl) ?_
    refine va_get (D := D) (ci := 2) (v := .int (nI C)) (C := RX2) (T := TX2) (N := 7) hx hb hts kiX2_turned_X2 hown hK hP 0 rfl rfl 1 (by decide) (hts (.fieldLink RX2 15 "TwoBanks$Grid" "columns" "I") (List.mem_of_getElem? (i := 2) rfl)) (fun _ h9 => h9) rfl dX2_turned_20 ?_
    refine kw_icmp_ge (tgt := 68) hx hb dX2_turned_23 (by decide) (by omega) (by omega) (fun c_23_2 => ?_) (fun c_23_2 => ?_)
    · have hl : lv_has ls 7 [(0, .ref h0), (1, .long x), (3, .long (gTuO R C x (r + 1))), (5, .int (nI r)), (6, .int (nI cc))] := by have e9 : gTuI R C x r (gTuO R C x r) cc = gTuO R C x (r + 1) := (by rw [show cc = C by omega]; rfl); rw [e9] at hl; exact hl
      refine lv_iinc (v := (nI (r + 1))) (lv' := [(5, .int (nI (r + 1))), (0, .ref h0), (1, .long x), (3, .long (gTuO R C x (r + 1))), (6, .int (nI cc))]) hx hb dX2_turned_68 hl (k := 3) rfl (k_inc _ 1) (by decide) rfl (fun ls hl => ?_)
      refine lv_goto (tgt := 5) hx hb dX2_turned_71 (by decide) ?_
      exact ih_5 (r + 1) _ _ _ (by show R - (r + 1) < R - r; omega) ⟨hP, hD, hS, lv_sub hl [1, 2, 3, 0] rfl, by omega⟩
    · refine lv_lload_n hx hb dX2_turned_26 rfl (lv_at hl 1 rfl) ?_
      refine lv_aload_n hx hb dX2_turned_27 rfl (lv_at hl 0 rfl) ?_
      refine va_get (D := D) (ci := 2) (v := .int (nI C)) (C := RX2) (T := TX2) (N := 7) hx hb hts kiX2_turned_X2 hown hK hP 0 rfl rfl 1 (by decide) (hts (.fieldLink RX2 15 "TwoBanks$Grid" "columns" "I") (List.mem_of_getElem? (i := 2) rfl)) (fun _ h9 => h9) rfl dX2_turned_28 ?_
      refine lv_iload hx hb dX2_turned_31 (lv_at hl 3 rfl) ?_
      refine lv_imul hx hb dX2_turned_33 ?_
      refine k_toi (y := nI (C * r)) (pk_mul _ _) ?_
      refine lv_iload hx hb dX2_turned_34 (lv_at hl 4 rfl) ?_
      refine lv_iadd hx hb dX2_turned_36 ?_
      refine k_toi (y := nI ((C * r) + cc)) (nI_add _ _) ?_
      refine k_calll (wr := [(h0, wGr R C)]) (w2 := (fun _ : Unit => [(h0, wGr R C)])) (va_runSN (As := [.int (nI ((C * r) + cc))]) (rest := [.long x]) ⟨hx, hb, hml, hown, hts⟩ (c_bit l D cI cJ cZ (nI ((C * r) + cc))  H.size) ⟨va_cnB 1 hts gX2_turned_X5_bit_n18 rfl rfl rfl (kN_X2_18 hN) (hts (.initialized RX5) (List.mem_of_getElem? (i := 4) rfl)) (by decide +kernel) ⟨Nat.le_of_ble_eq_true rfl, Nat.le_of_ble_eq_true rfl⟩, (hts (.static yX5_bit) (List.mem_of_getElem? (i := 3) rfl)), trivial⟩ (kPS (wc := []) hK2 hP hD [] rfl (by decide)) rfl rfl hl.1 rfl (lv_room (Nat.le_of_ble_eq_true rfl)) dX2_turned_37 ⟨Nat.le_of_ble_eq_true rfl, Nat.le_of_ble_eq_true rfl⟩) hP hD hS hA [] [0] [0] rfl rfl (by decide) (by decide) (fun _ => rfl) (by decide) (fun r_3 u_3 H locs hw_3 hP hD hS => ?_)
      have hP : va_P D vwCl [(h0, wGr R C)] H := hP
      have hD : va_D A [(h0, wGr R C)] := hD
      subst hw_3
      refine lv_land hx hb dX2_turned_40 ?_
      refine lv_lconst (v := 0) hx hb dX2_turned_41 (by decide) ?_
      refine W.lcmp hx hb dX2_turned_42 ?_
      refine kw_cmp_eq (tgt := 62) hx hb dX2_turned_43 (by decide) (fun c_43_4 => ?_) (fun c_43_4 => ?_)
      · have hl : lv_has ls 7 [(0, .ref h0), (1, .long x), (3, .long (gTuI R C x r (gTuO R C x r) (cc + 1))), (5, .int (nI r)), (6, .int (nI cc))] := by first | (rw [gTuI_s0 (by assumption)]; exact hl) | (subst_vars; rw [gTuI_s1 (by assumption)]; exact hl)
        refine lv_iinc (v := (nI (cc + 1))) (lv' := [(6, .int (nI (cc + 1))), (0, .ref h0), (1, .long x), (3, .long (gTuI R C x r (gTuO R C x r) (cc + 1))), (5, .int (nI r))]) hx hb dX2_turned_62 hl (k := 4) rfl (k_inc _ 1) (by decide) rfl (fun ls hl => ?_)
        refine lv_goto (tgt := 17) hx hb dX2_turned_65 (by decide) ?_
        exact ih_17 (cc + 1) _ _ _ (by show C - (cc + 1) < C - cc; omega) ⟨hP, hD, hS, lv_sub hl [1, 2, 3, 4, 0] rfl, by omega⟩
      · refine lv_lload_n hx hb dX2_turned_46 rfl (lv_at hl 2 rfl) ?_
        refine lv_aload_n hx hb dX2_turned_47 rfl (lv_at hl 0 rfl) ?_
        refine va_get (D := D) (ci := 2) (v := .int (nI R)) (C := RX2) (T := TX2) (N := 7) hx hb hts kiX2_turned_X2 hown hK hP 0 rfl rfl 0 (by decide) (hts (.fieldLink RX2 9 "TwoBanks$Grid" "rows" "I") (List.mem_of_getElem? (i := 1) rfl)) (fun _ h9 => h9) rfl dX2_turned_48 ?_
        refine lv_iload hx hb dX2_turned_51 (lv_at hl 4 rfl) ?_
        refine lv_imul hx hb dX2_turned_53 ?_
        refine k_toi (y := nI (R * cc)) (pk_mul _ _) ?_
        refine lv_iload hx hb dX2_turned_54 (lv_at hl 3 rfl) ?_
        refine lv_iadd hx hb dX2_turned_56 ?_
        refine k_toi (y := nI ((R * cc) + r)) (nI_add _ _) ?_
        refine k_calll (wr := [(h0, wGr R C)]) (w2 := (fun _ : Unit => [(h0, wGr R C)])) (va_runSN (As := [.int (nI ((R * cc) + r))]) (rest := [.long (gTuI R C x r (gTuO R C x r) cc)]) ⟨hx, hb, hml, hown, hts⟩ (c_bit l D cI cJ cZ (nI ((R * cc) + r))  H.size) ⟨va_cnB 1 hts gX2_turned_X5_bit_n18 rfl rfl rfl (kN_X2_18 hN) (hts (.initialized RX5) (List.mem_of_getElem? (i := 4) rfl)) (by decide +kernel) ⟨Nat.le_of_ble_eq_true rfl, Nat.le_of_ble_eq_true rfl⟩, (hts (.static yX5_bit) (List.mem_of_getElem? (i := 3) rfl)), trivial⟩ (kPS (wc := []) hK2 hP hD [] rfl (by decide)) rfl rfl hl.1 rfl (lv_room (Nat.le_of_ble_eq_true rfl)) dX2_turned_57 ⟨Nat.le_of_ble_eq_true rfl, Nat.le_of_ble_eq_true rfl⟩) hP hD hS hA [] [0] [0] rfl rfl (by decide) (by decide) (fun _ => rfl) (by decide) (fun r_5 u_5 H locs hw_5 hP hD hS => ?_)
        have hP : va_P D vwCl [(h0, wGr R C)] H := hP
        have hD : va_D A [(h0, wGr R C)] := hD
        subst hw_5
        refine lv_lor hx hb dX2_turned_60 ?_
        refine k_tol (y := (gTuI R C x r (gTuO R C x r) cc ||| gBit (nI (R * cc + r)))) rfl ?_
        refine lv_lstore_n (lv' := [(3, .long (gTuI R C x r (gTuO R C x r) cc ||| gBit (nI (R * cc + r)))), (0, .ref h0), (1, .long x), (5, .int (nI r)), (6, .int (nI cc))]) hx hb dX2_turned_61 rfl hl (by decide) rfl (fun ls hl => ?_)
        have hl : lv_has ls 7 [(3, .long (gTuI R C x r (gTuO R C x r) (cc + 1))), (0, .ref h0), (1, .long x), (5, .int (nI r)), (6, .int (nI cc))] := by first | (rw [gTuI_s0 (by assumption)]; exact hl) | (subst_vars; rw [gTuI_s1 (by assumption)]; exact hl)
        refine lv_iinc (v := (nI (cc + 1))) (lv' := [(6, .int (nI (cc + 1))), (3, .long (gTuI R C x r (gTuO R C x r) (cc + 1))), (0, .ref h0), (1, .long x), (5, .int (nI r))]) hx hb dX2_turned_62 hl (k := 4) rfl (k_inc _ 1) (by decide) rfl (fun ls hl => ?_)
        refine lv_goto (tgt := 17) hx hb dX2_turned_65 (by decide) ?_
        exact ih_17 (cc + 1) _ _ _ (by show C - (cc + 1) < C - cc; omega) ⟨hP, hD, hS, lv_sub hl [2, 3, 1, 4, 0] rfl, by omega⟩

theorem kiX2_shape_X2 : ∀ w ∈ u_ws RX2 TX2 7, w ∈ wsX2_shape := fun w h => List.mem_cons_of_mem _ (List.mem_append_right _ h)
set_option maxHeartbeats 4000000 in
set_option maxRecDepth 100000 in
theorem c_G_shape (l : Launch) (D : va_G) (cI cJ cZ : ClassId) (h0 : Nat) (a b : Int32) (g1 g2 g3 g4 g5 : Int64) (R C : Nat) (hR1 : 1 ≤ R) (hR2 : R ≤ 6) (hC1 : 1 ≤ C) (hC2 : C ≤ 6) (hRC : R * C ≤ 36) (sz : Nat) : kMV l yX2_shape wsX2_shape 1 20 D cI cJ cZ [.ref h0, .int (nI R), .int (nI C)] [(h0, .inr (2, [.int a, .int b, .long g1, .long g2, .long g3, .long g4, .long g5]))] sz (fun (_ : Unit) => True) (fun _ : Unit => [(h0, wGr R C)]) := by
  refine Met.ofW (cc := cX2_shape) (maxL := 4) (ret := none) (by decide) rfl ?_
  intro p e s m args below meth c s₁ B hml hv
  obtain ⟨rfl, hsz, hP, ⟨hK, hN⟩, hD0⟩ := hv
  have hx := B.exec
  have hb := B.bytes
  have hr := B.returns
  have hts := atoms_spec (ws := wsX2_shape) B.pre
  have hown : s.vm.findClass RX2 = some m.cls := findClass_of_methodNamed B.named
  have hlocks := B.notSynchronized
  subst hsz
  have hD := hD0.self (sz := s.heap.size)
  generalize hAe : va_A [(h0, .inr (2, [.int a, .int b, .long g1, .long g2, .long g3, .long g4, .long g5]))] s.heap.size = A at hD ⊢
  have hA : ∀ q : Nat, s.heap.size ≤ q → A q := fun q h => by rw [← hAe]; exact Or.inr h
  have hS : va_S A s.heap s.heap [] := va_S.rf
  have hl := lv_entry ([.ref h0, .int (nI R), .int (nI C)]) (n := 4) (Nat.le_of_ble_eq_true rfl)
  rw [lg_entry_eq]
  generalize (lg_sl ([.ref h0, .int (nI R), .int (nI C)]) ++ List.replicate (4 - (lg_sl ([.ref h0, .int (nI R), .int (nI C)])).length) Slot.unset).toArray = ls at hl ⊢
  have hl : lv_has ls 4 [(0, .ref h0), (1, .int (nI R)), (2, .int (nI C))] := hl
  have hK2 : kK D cI cJ cZ s := ⟨hK, hN⟩
  clear hD0
  refine lv_aload_n hx hb dX2_shape_0 rfl (lv_at hl 0 rfl) ?_
  refine lv_iload_n hx hb dX2_shape_1 rfl (lv_at hl 1 rfl) ?_
  refine va_put (D := D) (ci := 2) (v := .int (nI R)) (ty := .int) (C := RX2) (T := TX2) (N := 7) hx hb hts kiX2_shape_X2 tyX2 tyX2_ok nmX2 hown hK hP hD hS 0 rfl rfl 0 (by decide) (hts (.fieldLink RX2 9 "TwoBanks$Grid" "rows" "I") (List.mem_of_getElem? (i := 1) rfl)) (fun _ h9 => h9) rfl  (by decide +kernel) rfl rfl (Nat.le_of_ble_eq_true rfl) dX2_shape_2 (fun H locs hP hD hS => ?_)
  have hP : va_P D vwCl [(h0, .inr (2, [.int (nI R), .int b, .long g1, .long g2, .long g3, .long g4, .long g5]))] H := hP
  have hD : va_D A [(h0, .inr (2, [.int (nI R), .int b, .long g1, .long g2, .long g3, .long g4, .long g5]))] := hD
  refine lv_aload_n hx hb dX2_shape_5 rfl (lv_at hl 0 rfl) ?_
  refine lv_iload_n hx hb dX2_shape_6 rfl (lv_at hl 2 rfl) ?_
  refine va_put (D := D) (ci := 2) (v := .int (nI C)) (ty := .int) (C := RX2) (T := TX2) (N := 7) hx hb hts kiX2_shape_X2 tyX2 tyX2_ok nmX2 hown hK hP hD hS 0 rfl rfl 1 (by decide) (hts (.fieldLink RX2 15 "TwoBanks$Grid" "columns" "I") (List.mem_of_getElem? (i := 2) rfl)) (fun _ h9 => h9) rfl  (by decide +kernel) rfl rfl (Nat.le_of_ble_eq_true rfl) dX2_shape_7 (fun H locs hP hD hS => ?_)
  have hP : va_P D vwCl [(h0, .inr (2, [.int (nI R), .int (nI C), .long g1, .long g2, .long g3, .long g4, .long g5]))] H := hP
  have hD : va_D A [(h0, .inr (2, [.int (nI R), .int (nI C), .long g1, .long g2, .long g3, .long g4, .long g5]))] := hD
  refine lv_aload_n hx hb dX2_shape_10 rfl (lv_at hl 0 rfl) ?_
  refine lv_aload_n hx hb dX2_shape_11 rfl (lv_at hl 0 rfl) ?_
  refine va_get (D := D) (ci := 2) (v := .int (nI R)) (C := RX2) (T := TX2) (N := 7) hx hb hts kiX2_shape_X2 hown hK hP 0 rfl rfl 0 (by decide) (hts (.fieldLink RX2 9 "TwoBanks$Grid" "rows" "I") (List.mem_of_getElem? (i := 1) rfl)) (fun _ h9 => h9) rfl dX2_shape_12 ?_
  refine lv_aload_n hx hb dX2_shape_15 rfl (lv_at hl 0 rfl) ?_
  refine va_get (D := D) (ci := 2) (v := .int (nI C)) (C := RX2) (T := TX2) (N := 7) hx hb hts kiX2_shape_X2 hown hK hP 0 rfl rfl 1 (by decide) (hts (.fieldLink RX2 15 "TwoBanks$Grid" "columns" "I") (List.mem_of_getElem? (i := 2) rfl)) (fun _ h9 => h9) rfl dX2_shape_16 ?_
  refine lv_imul hx hb dX2_shape_19 ?_
  refine k_toi (y := nI (R * C)) (pk_mul _ _) ?_
  refine k_calll (wr := [(h0, .inr (2, [.int (nI R), .int (nI C), .long g1, .long g2, .long g3, .long g4, .long g5]))]) (w2 := (fun _ : Unit => [(h0, .inr (2, [.int (nI R), .int (nI C), .long g1, .long g2, .long g3, .long g4, .long g5]))])) (va_runSN (As := [.int (nI (R * C))]) (rest := [.ref h0]) ⟨hx, hb, hml, hown, hts⟩ (c_bit l D cI cJ cZ (nI (R * C))  H.size) ⟨va_cnB 1 hts gX2_shape_X5_bit_n18 rfl rfl rfl (kN_X2_18 hN) (hts (.initialized RX5) (List.mem_of_getElem? (i := 9) rfl)) (by decide +kernel) ⟨Nat.le_of_ble_eq_true rfl, Nat.le_of_ble_eq_true rfl⟩, (hts (.static yX5_bit) (List.mem_of_getElem? (i := 8) rfl)), trivial⟩ (kPS (wc := []) hK2 hP hD [] rfl (by decide)) rfl rfl hl.1 rfl (lv_room (Nat.le_of_ble_eq_true rfl)) dX2_shape_20 ⟨Nat.le_of_ble_eq_true rfl, Nat.le_of_ble_eq_true rfl⟩) hP hD hS hA [] [0] [0] rfl rfl (by decide) (by decide) (fun _ => rfl) (by decide) (fun r_1 u_1 H locs hw_1 hP hD hS => ?_)
  have hP : va_P D vwCl [(h0, .inr (2, [.int (nI R), .int (nI C), .long g1, .long g2, .long g3, .long g4, .long g5]))] H := hP
  have hD : va_D A [(h0, .inr (2, [.int (nI R), .int (nI C), .long g1, .long g2, .long g3, .long g4, .long g5]))] := hD
  subst hw_1
  refine lv_lconst (v := 1) hx hb dX2_shape_23 (by decide) ?_
  refine lv_lsub hx hb dX2_shape_24 ?_
  refine k_tol (y := (gAll R C)) rfl ?_
  refine va_put (D := D) (ci := 2) (v := .long (gAll R C)) (ty := .long) (C := RX2) (T := TX2) (N := 7) hx hb hts kiX2_shape_X2 tyX2 tyX2_ok nmX2 hown hK hP hD hS 0 rfl rfl 2 (by decide) (hts (.fieldLink RX2 22 "TwoBanks$Grid" "all" "J") (List.mem_of_getElem? (i := 3) rfl)) (fun _ h9 => h9) rfl  (by decide +kernel) rfl rfl (Nat.le_of_ble_eq_true rfl) dX2_shape_25 (fun H locs hP hD hS => ?_)
  have hP : va_P D vwCl [(h0, .inr (2, [.int (nI R), .int (nI C), .long (gAll R C), .long g2, .long g3, .long g4, .long g5]))] H := hP
  have hD : va_D A [(h0, .inr (2, [.int (nI R), .int (nI C), .long (gAll R C), .long g2, .long g3, .long g4, .long g5]))] := hD
  refine lv_aload_n hx hb dX2_shape_28 rfl (lv_at hl 0 rfl) ?_
  refine lv_aload_n hx hb dX2_shape_29 rfl (lv_at hl 0 rfl) ?_
  refine va_get (D := D) (ci := 2) (v := .int (nI C)) (C := RX2) (T := TX2) (N := 7) hx hb hts kiX2_shape_X2 hown hK hP 0 rfl rfl 1 (by decide) (hts (.fieldLink RX2 15 "TwoBanks$Grid" "columns" "I") (List.mem_of_getElem? (i := 2) rfl)) (fun _ h9 => h9) rfl dX2_shape_30 ?_
  refine k_calll (wr := [(h0, .inr (2, [.int (nI R), .int (nI C), .long (gAll R C), .long g2, .long g3, .long g4, .long g5]))]) (w2 := (fun _ : Unit => [(h0, .inr (2, [.int (nI R), .int (nI C), .long (gAll R C), .long g2, .long g3, .long g4, .long g5]))])) (va_runSN (As := [.int (nI C)]) (rest := [.ref h0]) ⟨hx, hb, hml, hown, hts⟩ (c_bit l D cI cJ cZ (nI C)  H.size) ⟨va_cnB 1 hts gX2_shape_X5_bit_n18 rfl rfl rfl (kN_X2_18 hN) (hts (.initialized RX5) (List.mem_of_getElem? (i := 9) rfl)) (by decide +kernel) ⟨Nat.le_of_ble_eq_true rfl, Nat.le_of_ble_eq_true rfl⟩, (hts (.static yX5_bit) (List.mem_of_getElem? (i := 8) rfl)), trivial⟩ (kPS (wc := []) hK2 hP hD [] rfl (by decide)) rfl rfl hl.1 rfl (lv_room (Nat.le_of_ble_eq_true rfl)) dX2_shape_33 ⟨Nat.le_of_ble_eq_true rfl, Nat.le_of_ble_eq_true rfl⟩) hP hD hS hA [] [0] [0] rfl rfl (by decide) (by decide) (fun _ => rfl) (by decide) (fun r_2 u_2 H locs hw_2 hP hD hS => ?_)
  have hP : va_P D vwCl [(h0, .inr (2, [.int (nI R), .int (nI C), .long (gAll R C), .long g2, .long g3, .long g4, .long g5]))] H := hP
  have hD : va_D A [(h0, .inr (2, [.int (nI R), .int (nI C), .long (gAll R C), .long g2, .long g3, .long g4, .long g5]))] := hD
  subst hw_2
  refine lv_lconst (v := 1) hx hb dX2_shape_36 (by decide) ?_
  refine lv_lsub hx hb dX2_shape_37 ?_
  refine k_tol (y := (gNo C)) rfl ?_
  refine va_put (D := D) (ci := 2) (v := .long (gNo C)) (ty := .long) (C := RX2) (T := TX2) (N := 7) hx hb hts kiX2_shape_X2 tyX2 tyX2_ok nmX2 hown hK hP hD hS 0 rfl rfl 3 (by decide) (hts (.fieldLink RX2 26 "TwoBanks$Grid" "northBank" "J") (List.mem_of_getElem? (i := 4) rfl)) (fun _ h9 => h9) rfl  (by decide +kernel) rfl rfl (Nat.le_of_ble_eq_true rfl) dX2_shape_38 (fun H locs hP hD hS => ?_)
  have hP : va_P D vwCl [(h0, .inr (2, [.int (nI R), .int (nI C), .long (gAll R C), .long (gNo C), .long g3, .long g4, .long g5]))] H := hP
  have hD : va_D A [(h0, .inr (2, [.int (nI R), .int (nI C), .long (gAll R C), .long (gNo C), .long g3, .long g4, .long g5]))] := hD
  refine lv_aload_n hx hb dX2_shape_41 rfl (lv_at hl 0 rfl) ?_
  refine lv_aload_n hx hb dX2_shape_42 rfl (lv_at hl 0 rfl) ?_
  refine va_get (D := D) (ci := 2) (v := .long (gNo C)) (C := RX2) (T := TX2) (N := 7) hx hb hts kiX2_shape_X2 hown hK hP 0 rfl rfl 3 (by decide) (hts (.fieldLink RX2 26 "TwoBanks$Grid" "northBank" "J") (List.mem_of_getElem? (i := 4) rfl)) (fun _ h9 => h9) rfl dX2_shape_43 ?_
  refine lv_aload_n hx hb dX2_shape_46 rfl (lv_at hl 0 rfl) ?_
  refine va_get (D := D) (ci := 2) (v := .int (nI C)) (C := RX2) (T := TX2) (N := 7) hx hb hts kiX2_shape_X2 hown hK hP 0 rfl rfl 1 (by decide) (hts (.fieldLink RX2 15 "TwoBanks$Grid" "columns" "I") (List.mem_of_getElem? (i := 2) rfl)) (fun _ h9 => h9) rfl dX2_shape_47 ?_
  refine lv_aload_n hx hb dX2_shape_50 rfl (lv_at hl 0 rfl) ?_
  refine va_get (D := D) (ci := 2) (v := .int (nI R)) (C := RX2) (T := TX2) (N := 7) hx hb hts kiX2_shape_X2 hown hK hP 0 rfl rfl 0 (by decide) (hts (.fieldLink RX2 9 "TwoBanks$Grid" "rows" "I") (List.mem_of_getElem? (i := 1) rfl)) (fun _ h9 => h9) rfl dX2_shape_51 ?_
  refine lv_iconst (v := (nI 1)) hx hb dX2_shape_54 (by decide) ?_
  refine lv_isub hx hb dX2_shape_55 ?_
  refine k_toi (y := nI (R - 1)) (pk_sub (by omega)) ?_
  refine lv_imul hx hb dX2_shape_56 ?_
  refine k_toi (y := nI (C * (R - 1))) (pk_mul _ _) ?_
  refine lv_lshl (v := (kShl (gNo C) (nI (C * (R - 1))))) hx hb dX2_shape_57 rfl ?_
  refine k_tol (y := (gSo R C)) rfl ?_
  refine va_put (D := D) (ci := 2) (v := .long (gSo R C)) (ty := .long) (C := RX2) (T := TX2) (N := 7) hx hb hts kiX2_shape_X2 tyX2 tyX2_ok nmX2 hown hK hP hD hS 0 rfl rfl 4 (by decide) (hts (.fieldLink RX2 29 "TwoBanks$Grid" "southBank" "J") (List.mem_of_getElem? (i := 5) rfl)) (fun _ h9 => h9) rfl  (by decide +kernel) rfl rfl (Nat.le_of_ble_eq_true rfl) dX2_shape_58 (fun H locs hP hD hS => ?_)
  have hP : va_P D vwCl [(h0, .inr (2, [.int (nI R), .int (nI C), .long (gAll R C), .long (gNo C), .long (gSo R C), .long g4, .long g5]))] H := hP
  have hD : va_D A [(h0, .inr (2, [.int (nI R), .int (nI C), .long (gAll R C), .long (gNo C), .long (gSo R C), .long g4, .long g5]))] := hD
  refine lv_aload_n hx hb dX2_shape_61 rfl (lv_at hl 0 rfl) ?_
  refine lv_lconst (v := 0) hx hb dX2_shape_62 (by decide) ?_
  refine va_put (D := D) (ci := 2) (v := .long 0) (ty := .long) (C := RX2) (T := TX2) (N := 7) hx hb hts kiX2_shape_X2 tyX2 tyX2_ok nmX2 hown hK hP hD hS 0 rfl rfl 5 (by decide) (hts (.fieldLink RX2 32 "TwoBanks$Grid" "westBank" "J") (List.mem_of_getElem? (i := 6) rfl)) (fun _ h9 => h9) rfl  (by decide +kernel) rfl rfl (Nat.le_of_ble_eq_true rfl) dX2_shape_63 (fun H locs hP hD hS => ?_)
  have hP : va_P D vwCl [(h0, .inr (2, [.int (nI R), .int (nI C), .long (gAll R C), .long (gNo C), .long (gSo R C), .long 0, .long g5]))] H := hP
  have hD : va_D A [(h0, .inr (2, [.int (nI R), .int (nI C), .long (gAll R C), .long (gNo C), .long (gSo R C), .long 0, .long g5]))] := hD
  refine lv_iconst (v := (nI 0)) hx hb dX2_shape_66 (by decide) ?_
  refine lv_istore_n (lv' := [(3, .int (nI 0)), (0, .ref h0), (1, .int (nI R)), (2, .int (nI C))]) hx hb dX2_shape_67 rfl hl (by decide) rfl (fun ls hl => ?_)
  have hP := hP
  refine kw_loop (σ := Nat) (fun (r : Nat) H locs ls => va_P D vwCl [(h0, .inr (2, [.int (nI R), .int (nI C), .long (gAll R C), .long (gNo C), .long (gSo R C), .long (gWeN C r), .long g5]))] H ∧ va_D A [(h0, .inr (2, [.int (nI R), .int (nI C), .long (gAll R C), .long (gNo C), .long (gSo R C), .long (gWeN C r), .long g5]))] ∧ va_S A s.heap H locs ∧ lv_has ls 4 [(0, .ref h0), (1, .int (nI R)), (2, .int (nI C)), (3, .int (nI r))] ∧ (r ≤ R)) (fun (r : Nat) => R - r) 0 ⟨hP, hD, hS, lv_sub hl [1, 2, 3, 0] rfl, by omega⟩ ?_
  clear hP hD hS hl
  rintro r H locs ls ⟨hP, hD, hS, hl, hr2⟩ ih_68
  have hP : va_P D vwCl [(h0, .inr (2, [.int (nI R), .int (nI C), .long (gAll R C), .long (gNo C), .long (gSo R C), .long (gWeN C r), .long g5]))] H := hP
  have hD : va_D A [(h0, .inr (2, [.int (nI R), .int (nI C), .long (gAll R C), .long (gNo C), .long (gSo R C), .long (gWeN C r), .long g5]))] := hD
  have hl : lv_has ls 4 [(0, .ref h0), (1, .int (nI R)), (2, .int (nI C)), (3, .int (nI r))] := hl
  have hr2 : r ≤ R := hr2
  refine lv_iload_n hx hb dX2_shape_68 rfl (lv_at hl 3 rfl) ?_
  refine lv_aload_n hx hb dX2_shape_69 rfl (lv_at hl 0 rfl) ?_
  refine va_get (D := D) (ci := 2) (v := .int (nI R)) (C := RX2) (T := TX2) (N := 7) hx hb hts kiX2_shape_X2 hown hK hP 0 rfl rfl 0 (by decide) (hts (.fieldLink RX2 9 "TwoBanks$Grid" "rows" "I") (List.mem_of_getElem? (i := 1) rfl)) (fun _ h9 => h9) rfl dX2_shape_70 ?_
  refine kw_icmp_ge (tgt := 100) hx hb dX2_shape_73 (by decide) (by omega) (by omega) (fun c_73_3 => ?_) (fun c_73_3 => ?_)
  · have hP : va_P D vwCl [(h0, .inr (2, [.int (nI R), .int (nI C), .long (gAll R C), .long (gNo C), .long (gSo R C), .long (gWeN C R), .long g5]))] H := (by rw [show r = R by omega] at hP; exact hP)
    have hD : va_D A [(h0, .inr (2, [.int (nI R), .int (nI C), .long (gAll R C), .long (gNo C), .long (gSo R C), .long (gWeN C R), .long g5]))] := (by rw [show r = R by omega] at hD; exact hD)
    refine lv_aload_n hx hb dX2_shape_100 rfl (lv_at hl 0 rfl) ?_
    refine lv_aload_n hx hb dX2_shape_101 rfl (lv_at hl 0 rfl) ?_
    refine va_get (D := D) (ci := 2) (v := .long (gWeN C R)) (C := RX2) (T := TX2) (N := 7) hx hb hts kiX2_shape_X2 hown hK hP 0 rfl rfl 5 (by decide) (hts (.fieldLink RX2 32 "TwoBanks$Grid" "westBank" "J") (List.mem_of_getElem? (i := 6) rfl)) (fun _ h9 => h9) rfl dX2_shape_102 ?_
    refine lv_aload_n hx hb dX2_shape_105 rfl (lv_at hl 0 rfl) ?_
    refine va_get (D := D) (ci := 2) (v := .int (nI C)) (C := RX2) (T := TX2) (N := 7) hx hb hts kiX2_shape_X2 hown hK hP 0 rfl rfl 1 (by decide) (hts (.fieldLink RX2 15 "TwoBanks$Grid" "columns" "I") (List.mem_of_getElem? (i := 2) rfl)) (fun _ h9 => h9) rfl dX2_shape_106 ?_
    refine lv_iconst (v := (nI 1)) hx hb dX2_shape_109 (by decide) ?_
    refine lv_isub hx hb dX2_shape_110 ?_
    refine k_toi (y := nI (C - 1)) (pk_sub (by omega)) ?_
    refine lv_lshl (v := (kShl (gWeN C R) (nI (C - 1)))) hx hb dX2_shape_111 rfl ?_
    refine k_tol (y := (gEa R C)) rfl ?_
    refine va_put (D := D) (ci := 2) (v := .long (gEa R C)) (ty := .long) (C := RX2) (T := TX2) (N := 7) hx hb hts kiX2_shape_X2 tyX2 tyX2_ok nmX2 hown hK hP hD hS 0 rfl rfl 6 (by decide) (hts (.fieldLink RX2 35 "TwoBanks$Grid" "eastBank" "J") (List.mem_of_getElem? (i := 7) rfl)) (fun _ h9 => h9) rfl  (by decide +kernel) rfl rfl (Nat.le_of_ble_eq_true rfl) dX2_shape_112 (fun H locs hP hD hS => ?_)
    have hP : va_P D vwCl [(h0, .inr (2, [.int (nI R), .int (nI C), .long (gAll R C), .long (gNo C), .long (gSo R C), .long (gWeN C R), .long (gEa R C)]))] H := hP
    have hD : va_D A [(h0, .inr (2, [.int (nI R), .int (nI C), .long (gAll R C), .long (gNo C), .long (gSo R C), .long (gWeN C R), .long (gEa R C)]))] := hD
    exact W.vret hx hb hr (fun t ht hW => ⟨⟨(), rfl, trivial, by rw [ht]; exact hP, hD⟩, hS.F ht⟩) hS.2.2 dX2_shape_115
  · refine lv_aload_n hx hb dX2_shape_76 rfl (lv_at hl 0 rfl) ?_
    refine lv_dup hx hb dX2_shape_77 rfl ?_
    refine va_get (D := D) (ci := 2) (v := .long (gWeN C r)) (C := RX2) (T := TX2) (N := 7) hx hb hts kiX2_shape_X2 hown hK hP 0 rfl rfl 5 (by decide) (hts (.fieldLink RX2 32 "TwoBanks$Grid" "westBank" "J") (List.mem_of_getElem? (i := 6) rfl)) (fun _ h9 => h9) rfl dX2_shape_78 ?_
    refine lv_aload_n hx hb dX2_shape_81 rfl (lv_at hl 0 rfl) ?_
    refine va_get (D := D) (ci := 2) (v := .int (nI C)) (C := RX2) (T := TX2) (N := 7) hx hb hts kiX2_shape_X2 hown hK hP 0 rfl rfl 1 (by decide) (hts (.fieldLink RX2 15 "TwoBanks$Grid" "columns" "I") (List.mem_of_getElem? (i := 2) rfl)) (fun _ h9 => h9) rfl dX2_shape_82 ?_
    refine lv_iload_n hx hb dX2_shape_85 rfl (lv_at hl 3 rfl) ?_
    refine lv_imul hx hb dX2_shape_86 ?_
    refine k_toi (y := nI (C * r)) (pk_mul _ _) ?_
    refine k_calll (wr := [(h0, .inr (2, [.int (nI R), .int (nI C), .long (gAll R C), .long (gNo C), .long (gSo R C), .long (gWeN C r), .long g5]))]) (w2 := (fun _ : Unit => [(h0, .inr (2, [.int (nI R), .int (nI C), .long (gAll R C), .long (gNo C), .long (gSo R C), .long (gWeN C r), .long g5]))])) (va_runSN (As := [.int (nI (C * r))]) (rest := [.long (gWeN C r), .ref h0]) ⟨hx, hb, hml, hown, hts⟩ (c_bit l D cI cJ cZ (nI (C * r))  H.size) ⟨va_cnB 1 hts gX2_shape_X5_bit_n18 rfl rfl rfl (kN_X2_18 hN) (hts (.initialized RX5) (List.mem_of_getElem? (i := 9) rfl)) (by decide +kernel) ⟨Nat.le_of_ble_eq_true rfl, Nat.le_of_ble_eq_true rfl⟩, (hts (.static yX5_bit) (List.mem_of_getElem? (i := 8) rfl)), trivial⟩ (kPS (wc := []) hK2 hP hD [] rfl (by decide)) rfl rfl hl.1 rfl (lv_room (Nat.le_of_ble_eq_true rfl)) dX2_shape_87 ⟨Nat.le_of_ble_eq_true rfl, Nat.le_of_ble_eq_true rfl⟩) hP hD hS hA [] [0] [0] rfl rfl (by decide) (by decide) (fun _ => rfl) (by decide) (fun r_4 u_4 H locs hw_4 hP hD hS => ?_)
    have hP : va_P D vwCl [(h0, .inr (2, [.int (nI R), .int (nI C), .long (gAll R C), .long (gNo C), .long (gSo R C), .long (gWeN C r), .long g5]))] H := hP
    have hD : va_D A [(h0, .inr (2, [.int (nI R), .int (nI C), .long (gAll R C), .long (gNo C), .long (gSo R C), .long (gWeN C r), .long g5]))] := hD
    subst hw_4
    refine lv_lor hx hb dX2_shape_90 ?_
    refine k_tol (y := (gWeN C (r + 1))) rfl ?_
    refine va_put (D := D) (ci := 2) (v := .long (gWeN C (r + 1))) (ty := .long) (C := RX2) (T := TX2) (N := 7) hx hb hts kiX2_shape_X2 tyX2 tyX2_ok nmX2 hown hK hP hD hS 0 rfl rfl 5 (by decide) (hts (.fieldLink RX2 32 "TwoBanks$Grid" "westBank" "J") (List.mem_of_getElem? (i := 6) rfl)) (fun _ h9 => h9) rfl  (by decide +kernel) rfl rfl (Nat.le_of_ble_eq_true rfl) dX2_shape_91 (fun H locs hP hD hS => ?_)
    have hP : va_P D vwCl [(h0, .inr (2, [.int (nI R), .int (nI C), .long (gAll R C), .long (gNo C), .long (gSo R C), .long (gWeN C (r + 1)), .long g5]))] H := hP
    have hD : va_D A [(h0, .inr (2, [.int (nI R), .int (nI C), .long (gAll R C), .long (gNo C), .long (gSo R C), .long (gWeN C (r + 1)), .long g5]))] := hD
    refine lv_iinc (v := (nI (r + 1))) (lv' := [(3, .int (nI (r + 1))), (0, .ref h0), (1, .int (nI R)), (2, .int (nI C))]) hx hb dX2_shape_94 hl (k := 3) rfl (k_inc _ 1) (by decide) rfl (fun ls hl => ?_)
    refine lv_goto (tgt := 68) hx hb dX2_shape_97 (by decide) ?_
    exact ih_68 (r + 1) _ _ _ (by show R - (r + 1) < R - r; omega) ⟨hP, hD, hS, lv_sub hl [1, 2, 3, 0] rfl, by omega⟩
