theorem side_nat {n : Int32} (h1 : 1 ≤ n) (h2 : n ≤ 6) : ∃ k, 1 ≤ k ∧ k ≤ 6 ∧ n = nI k := by
  have h1' : (1 : Int32).toInt ≤ n.toInt := Int32.le_iff_toInt_le.mp h1
  have h2' : n.toInt ≤ (6 : Int32).toInt := Int32.le_iff_toInt_le.mp h2
  have e1 : (1 : Int32).toInt = 1 := by decide
  have e6 : (6 : Int32).toInt = 6 := by decide
  obtain ⟨j, hj, rfl⟩ := nI_of (x := n) (fun h => by
    have := Int32.lt_iff_toInt_lt.mp h
    have e0 : (0 : Int32).toInt = 0 := by decide
    omega)
  rw [nI_toInt hj] at h1' h2'
  exact ⟨j, by omega, by omega, rfl⟩
theorem rc_le {R C : Nat} (hR2 : R ≤ 6) (hC2 : C ≤ 6) : R * C ≤ 36 := Nat.mul_le_mul hR2 hC2
abbrev TS : Type := Nat × Nat × Int64 × Int64 × Nat × Nat × Nat × Nat × (Nat → Int32)
theorem k_ne_m {k : Nat} {m : Int32} (hk : k < 36) (hm : m < 0) : nI k ≠ m := by
  intro e
  rw [← e] at hm
  exact nI_pos (by omega) hm
theorem kiX5_makeEmpty_X5 : ∀ w ∈ u_ws RX5 TX5 9, w ∈ wsX5_makeEmpty := fun w h => List.mem_cons_of_mem _ (List.mem_append_left _ (List.mem_append_left _ (List.mem_append_right _ h)))
set_option maxHeartbeats 4000000 in
set_option maxRecDepth 100000 in
theorem c_T_makeEmpty (l : Launch) (D : va_G) (cI cJ cZ : ClassId) (t0 tg td tp b0 l0 : Nat) (no we : Int64) (tl un : Nat) (ga gb : Int32) (g1 g2 g3 g4 g5 : Int64) (R C : Nat) (tr dn kn : Nat) (row : Nat → Int32) (hR1 : 1 ≤ R) (hR2 : R ≤ 6) (hC1 : 1 ≤ C) (hC2 : C ≤ 6) (hRC : R * C ≤ 36) (sz : Nat) : kMV l yX5_makeEmpty wsX5_makeEmpty 2 43 D cI cJ cZ [.ref t0, .int (nI R), .int (nI C)] [(t0, wTB tg td tp b0 l0 no we tl un), (tg, .inr (2, [.int ga, .int gb, .long g1, .long g2, .long g3, .long g4, .long g5])), (td, .inr (0, [.ref tr, .int (nI dn), .int (nI kn)])), (tr, .inl (cI, 37, .inl row))] sz (fun (_ : Unit) => True) (fun _ : Unit => [(t0, wTB tg td tp b0 l0 0 0 1 1), (tg, wGr R C), (td, .inr (0, [.ref tr, .int (nI 0), .int (nI 0)])), (tr, .inl (cI, 37, .inl row))]) := by
  refine Met.ofW (cc := cX5_makeEmpty) (maxL := 3) (ret := none) (by decide) rfl ?_
  intro p e s m args below meth c s₁ B hml hv
  obtain ⟨rfl, hsz, hP, ⟨hK, hN⟩, hD0⟩ := hv
  have hx := B.exec
  have hb := B.bytes
  have hr := B.returns
  have hts := atoms_spec (ws := wsX5_makeEmpty) B.pre
  have hown : s.vm.findClass RX5 = some m.cls := findClass_of_methodNamed B.named
  have hlocks := B.notSynchronized
  subst hsz
  have hD := hD0.self (sz := s.heap.size)
  generalize hAe : va_A [(t0, wTB tg td tp b0 l0 no we tl un), (tg, .inr (2, [.int ga, .int gb, .long g1, .long g2, .long g3, .long g4, .long g5])), (td, .inr (0, [.ref tr, .int (nI dn), .int (nI kn)])), (tr, .inl (cI, 37, .inl row))] s.heap.size = A at hD ⊢
  have hA : ∀ q : Nat, s.heap.size ≤ q → A q := fun q h => by rw [← hAe]; exact Or.inr h
  have hS : va_S A s.heap s.heap [] := va_S.rf
  have hl := lv_entry ([.ref t0, .int (nI R), .int (nI C)]) (n := 3) (Nat.le_of_ble_eq_true rfl)
  rw [lg_entry_eq]
  generalize (lg_sl ([.ref t0, .int (nI R), .int (nI C)]) ++ List.replicate (3 - (lg_sl ([.ref t0, .int (nI R), .int (nI C)])).length) Slot.unset).toArray = ls at hl ⊢
  have hl : lv_has ls 3 [(0, .ref t0), (1, .int (nI R)), (2, .int (nI C))] := hl
  have hK2 : kK D cI cJ cZ s := ⟨hK, hN⟩
  clear hD0
  refine lv_aload_n hx hb dX5_makeEmpty_0 rfl (lv_at hl 0 rfl) ?_
  refine va_get (D := D) (ci := 5) (v := .ref tg) (C := RX5) (T := TX5) (N := 9) hx hb hts kiX5_makeEmpty_X5 hown hK hP 0 rfl rfl 0 (by decide) (hts (.fieldLink RX5 12 "TwoBanks" "grid" "LTwoBanks$Grid;") (List.mem_of_getElem? (i := 1) rfl)) (fun _ h9 => h9) rfl dX5_makeEmpty_1 ?_
  refine lv_iload_n hx hb dX5_makeEmpty_4 rfl (lv_at hl 1 rfl) ?_
  refine lv_iload_n hx hb dX5_makeEmpty_5 rfl (lv_at hl 2 rfl) ?_
  refine k_callv (wr := [(t0, wTB tg td tp b0 l0 no we tl un), (td, .inr (0, [.ref tr, .int (nI dn), .int (nI kn)])), (tr, .inl (cI, 37, .inl row))]) (w2 := (fun _ : Unit => [(t0, wTB tg td tp b0 l0 no we tl un), (tg, wGr R C), (td, .inr (0, [.ref tr, .int (nI dn), .int (nI kn)])), (tr, .inl (cI, 37, .inl row))])) (va_runV (As := [.int (nI R), .int (nI C)]) (rest := []) ⟨hx, hb, hml, hown, hts⟩ (c_G_shape l D cI cJ cZ tg ga gb g1 g2 g3 g4 g5 R C hR1 hR2 hC1 hC2 hRC  s.heap.size) (cwV 2 hts gX5_makeEmpty_X2_shape rfl rfl rfl (by decide +kernel) ⟨Nat.le_of_ble_eq_true rfl, Nat.le_of_ble_eq_true rfl⟩) (kPV (ci := 2) (q0 := 0) (wc := [(tg, .inr (2, [.int ga, .int gb, .long g1, .long g2, .long g3, .long g4, .long g5]))]) hK2 hP hD [1] rfl (by decide) rfl rfl) rfl rfl hl.1 rfl (lv_room (Nat.le_of_ble_eq_true rfl)) dX5_makeEmpty_6 ⟨Nat.le_of_ble_eq_true rfl, Nat.le_of_ble_eq_true rfl⟩) hP hD hS hA [1] [0, 2, 3] [0, 3, 1, 2] rfl rfl (by decide) (by decide) (fun _ => rfl) (by decide) (fun u_1 H locs hw_1 hP hD hS => ?_)
  have hP : va_P D vwCl [(t0, wTB tg td tp b0 l0 no we tl un), (tg, wGr R C), (td, .inr (0, [.ref tr, .int (nI dn), .int (nI kn)])), (tr, .inl (cI, 37, .inl row))] H := hP
  have hD : va_D A [(t0, wTB tg td tp b0 l0 no we tl un), (tg, wGr R C), (td, .inr (0, [.ref tr, .int (nI dn), .int (nI kn)])), (tr, .inl (cI, 37, .inl row))] := hD
  refine lv_aload_n hx hb dX5_makeEmpty_9 rfl (lv_at hl 0 rfl) ?_
  refine lv_lconst (v := 0) hx hb dX5_makeEmpty_10 (by decide) ?_
  refine va_put (D := D) (ci := 5) (v := .long 0) (ty := .long) (C := RX5) (T := TX5) (N := 9) hx hb hts kiX5_makeEmpty_X5 tyX5 tyX5_ok nmX5 hown hK hP hD hS 0 rfl rfl 5 (by decide) (hts (.fieldLink RX5 115 "TwoBanks" "north" "J") (List.mem_of_getElem? (i := 2) rfl)) (fun _ h9 => h9) rfl  (by decide +kernel) rfl rfl (Nat.le_of_ble_eq_true rfl) dX5_makeEmpty_11 (fun H locs hP hD hS => ?_)
  have hP : va_P D vwCl [(t0, .inr (5, [.ref tg, .ref td, .ref tp, .ref b0, .ref l0, .long 0, .long we, .int (nI tl), .int (nI un)])), (tg, wGr R C), (td, .inr (0, [.ref tr, .int (nI dn), .int (nI kn)])), (tr, .inl (cI, 37, .inl row))] H := hP
  have hD : va_D A [(t0, .inr (5, [.ref tg, .ref td, .ref tp, .ref b0, .ref l0, .long 0, .long we, .int (nI tl), .int (nI un)])), (tg, wGr R C), (td, .inr (0, [.ref tr, .int (nI dn), .int (nI kn)])), (tr, .inl (cI, 37, .inl row))] := hD
  refine lv_aload_n hx hb dX5_makeEmpty_14 rfl (lv_at hl 0 rfl) ?_
  refine lv_lconst (v := 0) hx hb dX5_makeEmpty_15 (by decide) ?_
  refine va_put (D := D) (ci := 5) (v := .long 0) (ty := .long) (C := RX5) (T := TX5) (N := 9) hx hb hts kiX5_makeEmpty_X5 tyX5 tyX5_ok nmX5 hown hK hP hD hS 0 rfl rfl 6 (by decide) (hts (.fieldLink RX5 107 "TwoBanks" "west" "J") (List.mem_of_getElem? (i := 3) rfl)) (fun _ h9 => h9) rfl  (by decide +kernel) rfl rfl (Nat.le_of_ble_eq_true rfl) dX5_makeEmpty_16 (fun H locs hP hD hS => ?_)
  have hP : va_P D vwCl [(t0, .inr (5, [.ref tg, .ref td, .ref tp, .ref b0, .ref l0, .long 0, .long 0, .int (nI tl), .int (nI un)])), (tg, wGr R C), (td, .inr (0, [.ref tr, .int (nI dn), .int (nI kn)])), (tr, .inl (cI, 37, .inl row))] H := hP
  have hD : va_D A [(t0, .inr (5, [.ref tg, .ref td, .ref tp, .ref b0, .ref l0, .long 0, .long 0, .int (nI tl), .int (nI un)])), (tg, wGr R C), (td, .inr (0, [.ref tr, .int (nI dn), .int (nI kn)])), (tr, .inl (cI, 37, .inl row))] := hD
  refine lv_aload_n hx hb dX5_makeEmpty_19 rfl (lv_at hl 0 rfl) ?_
  refine lv_iconst (v := (nI 1)) hx hb dX5_makeEmpty_20 (by decide) ?_
  refine va_put (D := D) (ci := 5) (v := .int (nI 1)) (ty := .int) (C := RX5) (T := TX5) (N := 9) hx hb hts kiX5_makeEmpty_X5 tyX5 tyX5_ok nmX5 hown hK hP hD hS 0 rfl rfl 7 (by decide) (hts (.fieldLink RX5 57 "TwoBanks" "toLay" "I") (List.mem_of_getElem? (i := 4) rfl)) (fun _ h9 => h9) rfl  (by decide +kernel) rfl rfl (Nat.le_of_ble_eq_true rfl) dX5_makeEmpty_21 (fun H locs hP hD hS => ?_)
  have hP : va_P D vwCl [(t0, .inr (5, [.ref tg, .ref td, .ref tp, .ref b0, .ref l0, .long 0, .long 0, .int (nI 1), .int (nI un)])), (tg, wGr R C), (td, .inr (0, [.ref tr, .int (nI dn), .int (nI kn)])), (tr, .inl (cI, 37, .inl row))] H := hP
  have hD : va_D A [(t0, .inr (5, [.ref tg, .ref td, .ref tp, .ref b0, .ref l0, .long 0, .long 0, .int (nI 1), .int (nI un)])), (tg, wGr R C), (td, .inr (0, [.ref tr, .int (nI dn), .int (nI kn)])), (tr, .inl (cI, 37, .inl row))] := hD
  refine lv_aload_n hx hb dX5_makeEmpty_24 rfl (lv_at hl 0 rfl) ?_
  refine lv_iconst (v := (nI 1)) hx hb dX5_makeEmpty_25 (by decide) ?_
  refine va_put (D := D) (ci := 5) (v := .int (nI 1)) (ty := .boolean) (C := RX5) (T := TX5) (N := 9) hx hb hts kiX5_makeEmpty_X5 tyX5 tyX5_ok nmX5 hown hK hP hD hS 0 rfl rfl 8 (by decide) (hts (.fieldLink RX5 61 "TwoBanks" "untouched" "Z") (List.mem_of_getElem? (i := 5) rfl)) (fun _ h9 => h9) rfl  (by decide +kernel) (by decide +kernel) (by decide +kernel) (Nat.le_of_ble_eq_true rfl) dX5_makeEmpty_26 (fun H locs hP hD hS => ?_)
  have hP : va_P D vwCl [(t0, .inr (5, [.ref tg, .ref td, .ref tp, .ref b0, .ref l0, .long 0, .long 0, .int (nI 1), .int (nI 1)])), (tg, wGr R C), (td, .inr (0, [.ref tr, .int (nI dn), .int (nI kn)])), (tr, .inl (cI, 37, .inl row))] H := hP
  have hD : va_D A [(t0, .inr (5, [.ref tg, .ref td, .ref tp, .ref b0, .ref l0, .long 0, .long 0, .int (nI 1), .int (nI 1)])), (tg, wGr R C), (td, .inr (0, [.ref tr, .int (nI dn), .int (nI kn)])), (tr, .inl (cI, 37, .inl row))] := hD
  refine lv_aload_n hx hb dX5_makeEmpty_29 rfl (lv_at hl 0 rfl) ?_
  refine va_get (D := D) (ci := 5) (v := .ref td) (C := RX5) (T := TX5) (N := 9) hx hb hts kiX5_makeEmpty_X5 hown hK hP 0 rfl rfl 1 (by decide) (hts (.fieldLink RX5 19 "TwoBanks" "deeds" "LTwoBanks$Deeds;") (List.mem_of_getElem? (i := 6) rfl)) (fun _ h9 => h9) rfl dX5_makeEmpty_30 ?_
  refine k_callv (wr := [(t0, .inr (5, [.ref tg, .ref td, .ref tp, .ref b0, .ref l0, .long 0, .long 0, .int (nI 1), .int (nI 1)])), (tg, wGr R C)]) (w2 := (fun _ : Unit => [(t0, .inr (5, [.ref tg, .ref td, .ref tp, .ref b0, .ref l0, .long 0, .long 0, .int (nI 1), .int (nI 1)])), (tg, wGr R C), (td, .inr (0, [.ref tr, .int (nI 0), .int (nI 0)])), (tr, .inl (cI, 37, .inl row))])) (va_runV (As := []) (rest := []) ⟨hx, hb, hml, hown, hts⟩ (c_D_forget l D cI cJ cZ td tr row dn kn  H.size) (cwV 0 hts gX5_makeEmpty_X0_forget rfl rfl rfl (by decide +kernel) ⟨Nat.le_of_ble_eq_true rfl, Nat.le_of_ble_eq_true rfl⟩) (kPV (ci := 0) (q0 := 0) (wc := [(td, .inr (0, [.ref tr, .int (nI dn), .int (nI kn)])), (tr, .inl (cI, 37, .inl row))]) hK2 hP hD [2, 3] rfl (by decide) rfl rfl) rfl rfl hl.1 rfl (lv_room (Nat.le_of_ble_eq_true rfl)) dX5_makeEmpty_33 ⟨Nat.le_of_ble_eq_true rfl, Nat.le_of_ble_eq_true rfl⟩) hP hD hS hA [2, 3] [0, 1] [0, 1, 2, 3] rfl rfl (by decide) (by decide) (fun _ => rfl) (by decide) (fun u_2 H locs hw_2 hP hD hS => ?_)
  have hP : va_P D vwCl [(t0, .inr (5, [.ref tg, .ref td, .ref tp, .ref b0, .ref l0, .long 0, .long 0, .int (nI 1), .int (nI 1)])), (tg, wGr R C), (td, .inr (0, [.ref tr, .int (nI 0), .int (nI 0)])), (tr, .inl (cI, 37, .inl row))] H := hP
  have hD : va_D A [(t0, .inr (5, [.ref tg, .ref td, .ref tp, .ref b0, .ref l0, .long 0, .long 0, .int (nI 1), .int (nI 1)])), (tg, wGr R C), (td, .inr (0, [.ref tr, .int (nI 0), .int (nI 0)])), (tr, .inl (cI, 37, .inl row))] := hD
  exact W.vret hx hb hr (fun t ht hW => ⟨⟨(), rfl, trivial, by rw [ht]; exact hP, hD⟩, hS.F ht⟩) hS.2.2 dX5_makeEmpty_36

set_option maxHeartbeats 4000000 in
set_option maxRecDepth 100000 in
theorem c_T_board (l : Launch) (D : va_G) (cI cJ cZ : ClassId) (t0 tg td tp b0 l0 : Nat) (no we : Int64) (tl un : Nat) (R C : Nat) (tr dn kn : Nat) (row : Nat → Int32) (a b : Int32) (sz : Nat) : kMI l yX5_board wsX5_board 3 65 D cI cJ cZ [.ref t0, .int a, .int b] [(t0, wTB tg td tp b0 l0 no we tl un), (tg, wGr R C), (td, .inr (0, [.ref tr, .int (nI dn), .int (nI kn)])), (tr, .inl (cI, 37, .inl row))] sz (fun r (u : TS) => (r = nI 0 ∧ ¬ ((1 ≤ a ∧ a ≤ 6) ∧ 1 ≤ b ∧ b ≤ 6) ∧ u = (R, C, no, we, tl, un, dn, kn, row)) ∨ (∃ R2 C2, (1 ≤ R2 ∧ R2 ≤ 6) ∧ (1 ≤ C2 ∧ C2 ≤ 6) ∧ a = nI R2 ∧ b = nI C2 ∧ r = nI 1 ∧ u = (R2, C2, 0, 0, 1, 1, 0, 0, row))) (fun u : TS => match u with | (Ra, Ca, noa, wea, tla, una, dna, kna, rowa) => [(t0, wTB tg td tp b0 l0 noa wea tla una), (tg, wGr Ra Ca), (td, .inr (0, [.ref tr, .int (nI dna), .int (nI kna)])), (tr, .inl (cI, 37, .inl rowa))]) := by
  refine Met.ofW (cc := cX5_board) (maxL := 3) (ret := (some .boolean)) (by decide) rfl ?_
  intro p e s m args below meth c s₁ B hml hv
  obtain ⟨rfl, hsz, hP, ⟨hK, hN⟩, hD0⟩ := hv
  have hx := B.exec
  have hb := B.bytes
  have hr := B.returns
  have hts := atoms_spec (ws := wsX5_board) B.pre
  have hown : s.vm.findClass RX5 = some m.cls := findClass_of_methodNamed B.named
  have hlocks := B.notSynchronized
  subst hsz
  have hD := hD0.self (sz := s.heap.size)
  generalize hAe : va_A [(t0, wTB tg td tp b0 l0 no we tl un), (tg, wGr R C), (td, .inr (0, [.ref tr, .int (nI dn), .int (nI kn)])), (tr, .inl (cI, 37, .inl row))] s.heap.size = A at hD ⊢
  have hA : ∀ q : Nat, s.heap.size ≤ q → A q := fun q h => by rw [← hAe]; exact Or.inr h
  have hS : va_S A s.heap s.heap [] := va_S.rf
  have hl := lv_entry ([.ref t0, .int a, .int b]) (n := 3) (Nat.le_of_ble_eq_true rfl)
  rw [lg_entry_eq]
  generalize (lg_sl ([.ref t0, .int a, .int b]) ++ List.replicate (3 - (lg_sl ([.ref t0, .int a, .int b])).length) Slot.unset).toArray = ls at hl ⊢
  have hl : lv_has ls 3 [(0, .ref t0), (1, .int a), (2, .int b)] := hl
  have hK2 : kK D cI cJ cZ s := ⟨hK, hN⟩
  clear hD0
  refine lv_iload_n hx hb dX5_board_0 rfl (lv_at hl 1 rfl) ?_
  refine k_calli (wr := [(t0, wTB tg td tp b0 l0 no we tl un), (tg, wGr R C), (td, .inr (0, [.ref tr, .int (nI dn), .int (nI kn)])), (tr, .inl (cI, 37, .inl row))]) (w2 := (fun _ : Unit => [(t0, wTB tg td tp b0 l0 no we tl un), (tg, wGr R C), (td, .inr (0, [.ref tr, .int (nI dn), .int (nI kn)])), (tr, .inl (cI, 37, .inl row))])) (va_runS (As := [.int a]) (rest := []) ⟨hx, hb, hml, hown, hts⟩ (c_isSide l D cI cJ cZ a  s.heap.size) (va_cwS 1 hts gX5_board_X5_isSide rfl rfl rfl (by decide +kernel) ⟨Nat.le_of_ble_eq_true rfl, Nat.le_of_ble_eq_true rfl⟩) (kPS (wc := []) hK2 hP hD [] rfl (by decide)) rfl rfl hl.1 rfl (lv_room (Nat.le_of_ble_eq_true rfl)) dX5_board_1 ⟨Nat.le_of_ble_eq_true rfl, Nat.le_of_ble_eq_true rfl⟩) hP hD hS hA [] [0, 1, 2, 3] [0, 1, 2, 3] rfl rfl (by decide) (by decide) (fun _ => rfl) (by decide) (fun r_1 u_1 H locs hw_1 hP hD hS => ?_)
  have hP : va_P D vwCl [(t0, wTB tg td tp b0 l0 no we tl un), (tg, wGr R C), (td, .inr (0, [.ref tr, .int (nI dn), .int (nI kn)])), (tr, .inl (cI, 37, .inl row))] H := hP
  have hD : va_D A [(t0, wTB tg td tp b0 l0 no we tl un), (tg, wGr R C), (td, .inr (0, [.ref tr, .int (nI dn), .int (nI kn)])), (tr, .inl (cI, 37, .inl row))] := hD
  rcases hw_1 with ⟨rfl, hw_1⟩ | ⟨rfl, hw_1⟩
  · skip
    refine lv_if_eq (tgt := 14) hx hb dX5_board_4 (by decide) (fun c_4_2 => absurd c_4_2 (by decide)) (fun c_4_2 => ?_)
    refine lv_iload_n hx hb dX5_board_7 rfl (lv_at hl 2 rfl) ?_
    refine k_calli (wr := [(t0, wTB tg td tp b0 l0 no we tl un), (tg, wGr R C), (td, .inr (0, [.ref tr, .int (nI dn), .int (nI kn)])), (tr, .inl (cI, 37, .inl row))]) (w2 := (fun _ : Unit => [(t0, wTB tg td tp b0 l0 no we tl un), (tg, wGr R C), (td, .inr (0, [.ref tr, .int (nI dn), .int (nI kn)])), (tr, .inl (cI, 37, .inl row))])) (va_runS (As := [.int b]) (rest := []) ⟨hx, hb, hml, hown, hts⟩ (c_isSide l D cI cJ cZ b  H.size) (va_cwS 1 hts gX5_board_X5_isSide rfl rfl rfl (by decide +kernel) ⟨Nat.le_of_ble_eq_true rfl, Nat.le_of_ble_eq_true rfl⟩) (kPS (wc := []) hK2 hP hD [] rfl (by decide)) rfl rfl hl.1 rfl (lv_room (Nat.le_of_ble_eq_true rfl)) dX5_board_8 ⟨Nat.le_of_ble_eq_true rfl, Nat.le_of_ble_eq_true rfl⟩) hP hD hS hA [] [0, 1, 2, 3] [0, 1, 2, 3] rfl rfl (by decide) (by decide) (fun _ => rfl) (by decide) (fun r_3 u_3 H locs hw_3 hP hD hS => ?_)
    have hP : va_P D vwCl [(t0, wTB tg td tp b0 l0 no we tl un), (tg, wGr R C), (td, .inr (0, [.ref tr, .int (nI dn), .int (nI kn)])), (tr, .inl (cI, 37, .inl row))] H := hP
    have hD : va_D A [(t0, wTB tg td tp b0 l0 no we tl un), (tg, wGr R C), (td, .inr (0, [.ref tr, .int (nI dn), .int (nI kn)])), (tr, .inl (cI, 37, .inl row))] := hD
    rcases hw_3 with ⟨rfl, hw_3⟩ | ⟨rfl, hw_3⟩
    · skip
      refine lv_if_ne (tgt := 16) hx hb dX5_board_11 (by decide) (fun c_11_4 => ?_) (fun c_11_4 => absurd c_11_4 (by decide))
      obtain ⟨R2, hr1, hr2, rfl⟩ := side_nat hw_1.1 hw_1.2
      obtain ⟨C2, hc1, hc2, rfl⟩ := side_nat hw_3.1 hw_3.2
      refine lv_aload_n hx hb dX5_board_16 rfl (lv_at hl 0 rfl) ?_
      refine lv_iload_n hx hb dX5_board_17 rfl (lv_at hl 1 rfl) ?_
      refine lv_iload_n hx hb dX5_board_18 rfl (lv_at hl 2 rfl) ?_
      refine k_callv (wr := []) (w2 := (fun _ : Unit => [(t0, wTB tg td tp b0 l0 0 0 1 1), (tg, wGr R2 C2), (td, .inr (0, [.ref tr, .int (nI 0), .int (nI 0)])), (tr, .inl (cI, 37, .inl row))])) (va_runV (As := [.int (nI R2), .int (nI C2)]) (rest := []) ⟨hx, hb, hml, hown, hts⟩ (c_T_makeEmpty l D cI cJ cZ t0 tg td tp b0 l0 no we tl un (nI R) (nI C) (gAll R C) (gNo C) (gSo R C) (gWeN C R) (gEa R C) R2 C2 tr dn kn row hr1 hr2 hc1 hc2 (rc_le hr2 hc2)  H.size) (cwV 2 hts gX5_board_X5_makeEmpty rfl rfl rfl (by decide +kernel) ⟨Nat.le_of_ble_eq_true rfl, Nat.le_of_ble_eq_true rfl⟩) (kPV (ci := 5) (q0 := 0) (wc := [(t0, wTB tg td tp b0 l0 no we tl un), (tg, wGr R C), (td, .inr (0, [.ref tr, .int (nI dn), .int (nI kn)])), (tr, .inl (cI, 37, .inl row))]) hK2 hP hD [0, 1, 2, 3] rfl (by decide) rfl rfl) rfl rfl hl.1 rfl (lv_room (Nat.le_of_ble_eq_true rfl)) dX5_board_19 ⟨Nat.le_of_ble_eq_true rfl, Nat.le_of_ble_eq_true rfl⟩) hP hD hS hA [0, 1, 2, 3] [] [0, 1, 2, 3] rfl rfl (by decide) (by decide) (fun _ => rfl) (by decide) (fun u_5 H locs hw_5 hP hD hS => ?_)
      have hP : va_P D vwCl [(t0, wTB tg td tp b0 l0 0 0 1 1), (tg, wGr R2 C2), (td, .inr (0, [.ref tr, .int (nI 0), .int (nI 0)])), (tr, .inl (cI, 37, .inl row))] H := hP
      have hD : va_D A [(t0, wTB tg td tp b0 l0 0 0 1 1), (tg, wGr R2 C2), (td, .inr (0, [.ref tr, .int (nI 0), .int (nI 0)])), (tr, .inl (cI, 37, .inl row))] := hD
      refine lv_iconst (v := (nI 1)) hx hb dX5_board_22 (by decide) ?_
      exact W.zret (v := (nI 1)) hx hb hr (by first | decide +kernel | assumption | exact kz_narr (by first | assumption | omega)) (fun t ht hW => ⟨⟨(nI 1), (R2, C2, 0, 0, 1, 1, 0, 0, row), rfl, Or.inr ⟨R2, C2, ⟨hr1, hr2⟩, ⟨hc1, hc2⟩, rfl, rfl, rfl, rfl⟩, by rw [ht]; exact hP, hD⟩, hS.F ht⟩) hS.2.2 dX5_board_23
    · skip
      refine lv_if_ne (tgt := 16) hx hb dX5_board_11 (by decide) (fun c_11_6 => absurd c_11_6 (by decide)) (fun c_11_6 => ?_)
      refine lv_iconst (v := (nI 0)) hx hb dX5_board_14 (by decide) ?_
      exact W.zret (v := (nI 0)) hx hb hr (by first | decide +kernel | assumption | exact kz_narr (by first | assumption | omega)) (fun t ht hW => ⟨⟨(nI 0), (R, C, no, we, tl, un, dn, kn, row), rfl, Or.inl ⟨rfl, fun h9 => hw_3 h9.2, rfl⟩, by rw [ht]; exact hP, hD⟩, hS.F ht⟩) hS.2.2 dX5_board_15
  · skip
    refine lv_if_eq (tgt := 14) hx hb dX5_board_4 (by decide) (fun c_4_7 => ?_) (fun c_4_7 => absurd c_4_7 (by decide))
    refine lv_iconst (v := (nI 0)) hx hb dX5_board_14 (by decide) ?_
    exact W.zret (v := (nI 0)) hx hb hr (by first | decide +kernel | assumption | exact kz_narr (by first | assumption | omega)) (fun t ht hW => ⟨⟨(nI 0), (R, C, no, we, tl, un, dn, kn, row), rfl, Or.inl ⟨rfl, fun h9 => hw_1 h9.1, rfl⟩, by rw [ht]; exact hP, hD⟩, hS.F ht⟩) hS.2.2 dX5_board_15

theorem kiX5_set_X5 : ∀ w ∈ u_ws RX5 TX5 9, w ∈ wsX5_set := fun w h => List.mem_cons_of_mem _ (List.mem_append_left _ (List.mem_append_left _ (List.mem_append_right _ h)))
set_option maxHeartbeats 4000000 in
set_option maxRecDepth 100000 in
theorem c_T_set (l : Launch) (D : va_G) (cI cJ cZ : ClassId) (t0 tg td tp b0 l0 : Nat) (no we : Int64) (tl un : Nat) (R C : Nat) (tr dn kn : Nat) (row : Nat → Int32) (f cl wh : Int32) (hR1 : 1 ≤ R) (hR2 : R ≤ 6) (hC1 : 1 ≤ C) (hC2 : C ≤ 6) (hRC : R * C ≤ 36) (sz : Nat) : kMI l yX5_set wsX5_set 2 42 D cI cJ cZ [.ref t0, .int f, .int cl, .int wh] [(t0, wTB tg td tp b0 l0 no we tl un), (tg, wGr R C), (td, .inr (0, [.ref tr, .int (nI dn), .int (nI kn)])), (tr, .inl (cI, 37, .inl row))] sz (fun r (u : TS) => (r = nI 0 ∧ ¬ (fIn (R * C) f ∧ (cl = nI 0 ∨ cl = nI 1 ∨ cl = nI 2) ∧ (wh = nI 1 ∨ wh = nI 2)) ∧ u = (R, C, no, we, tl, un, dn, kn, row)) ∨ (∃ k cv wn, k < R * C ∧ cv ≤ 2 ∧ (wn = 1 ∨ wn = 2) ∧ f = nI k ∧ cl = nI cv ∧ wh = nI wn ∧ r = nI 1 ∧ u = (R, C, gPut no k (decide (cv = 1)), gPut we k (decide (cv = 2)), wn, 0, 0, 0, row))) (fun u : TS => match u with | (Ra, Ca, noa, wea, tla, una, dna, kna, rowa) => [(t0, wTB tg td tp b0 l0 noa wea tla una), (tg, wGr Ra Ca), (td, .inr (0, [.ref tr, .int (nI dna), .int (nI kna)])), (tr, .inl (cI, 37, .inl rowa))]) := by
  refine Met.ofW (cc := cX5_set) (maxL := 5) (ret := (some .boolean)) (by decide) rfl ?_
  intro p e s m args below meth c s₁ B hml hv
  obtain ⟨rfl, hsz, hP, ⟨hK, hN⟩, hD0⟩ := hv
  have hx := B.exec
  have hb := B.bytes
  have hr := B.returns
  have hts := atoms_spec (ws := wsX5_set) B.pre
  have hown : s.vm.findClass RX5 = some m.cls := findClass_of_methodNamed B.named
  have hlocks := B.notSynchronized
  subst hsz
  have hD := hD0.self (sz := s.heap.size)
  generalize hAe : va_A [(t0, wTB tg td tp b0 l0 no we tl un), (tg, wGr R C), (td, .inr (0, [.ref tr, .int (nI dn), .int (nI kn)])), (tr, .inl (cI, 37, .inl row))] s.heap.size = A at hD ⊢
  have hA : ∀ q : Nat, s.heap.size ≤ q → A q := fun q h => by rw [← hAe]; exact Or.inr h
  have hS : va_S A s.heap s.heap [] := va_S.rf
  have hl := lv_entry ([.ref t0, .int f, .int cl, .int wh]) (n := 5) (Nat.le_of_ble_eq_true rfl)
  rw [lg_entry_eq]
  generalize (lg_sl ([.ref t0, .int f, .int cl, .int wh]) ++ List.replicate (5 - (lg_sl ([.ref t0, .int f, .int cl, .int wh])).length) Slot.unset).toArray = ls at hl ⊢
  have hl : lv_has ls 5 [(0, .ref t0), (1, .int f), (2, .int cl), (3, .int wh)] := hl
  have hK2 : kK D cI cJ cZ s := ⟨hK, hN⟩
  clear hD0
  refine lv_iload_n hx hb dX5_set_0 rfl (lv_at hl 2 rfl) ?_
  refine lv_if_eq (tgt := 11) hx hb dX5_set_1 (by decide) (fun c_1_1 => ?_) (fun c_1_1 => ?_)
  · obtain ⟨cv, hcv, rfl⟩ : ∃ cv, cv ≤ 2 ∧ cl = nI cv := ⟨0, by decide, c_1_1⟩
    refine lv_iconst (v := (nI 1)) hx hb dX5_set_11 (by decide) ?_
    refine lv_goto (tgt := 16) hx hb dX5_set_12 (by decide) ?_
    refine lv_istore (lv' := [(4, .int (nI 1)), (0, .ref t0), (1, .int f), (2, .int (nI cv)), (3, .int wh)]) hx hb dX5_set_16 hl (by decide) rfl (fun ls hl => ?_)
    refine lv_aload_n hx hb dX5_set_18 rfl (lv_at hl 1 rfl) ?_
    refine va_get (D := D) (ci := 5) (v := .ref tg) (C := RX5) (T := TX5) (N := 9) hx hb hts kiX5_set_X5 hown hK hP 0 rfl rfl 0 (by decide) (hts (.fieldLink RX5 12 "TwoBanks" "grid" "LTwoBanks$Grid;") (List.mem_of_getElem? (i := 1) rfl)) (fun _ h9 => h9) rfl dX5_set_19 ?_
    refine lv_iload_n hx hb dX5_set_22 rfl (lv_at hl 2 rfl) ?_
    refine k_calli (wr := [(t0, wTB tg td tp b0 l0 no we tl un), (td, .inr (0, [.ref tr, .int (nI dn), .int (nI kn)])), (tr, .inl (cI, 37, .inl row))]) (w2 := (fun _ : Unit => [(t0, wTB tg td tp b0 l0 no we tl un), (tg, wGr R C), (td, .inr (0, [.ref tr, .int (nI dn), .int (nI kn)])), (tr, .inl (cI, 37, .inl row))])) (va_runV (As := [.int f]) (rest := []) ⟨hx, hb, hml, hown, hts⟩ (c_G_has l D cI cJ cZ tg R C f hRC  s.heap.size) (cwV 1 hts gX5_set_X2_has rfl rfl rfl (by decide +kernel) ⟨Nat.le_of_ble_eq_true rfl, Nat.le_of_ble_eq_true rfl⟩) (kPV (ci := 2) (q0 := 0) (wc := [(tg, wGr R C)]) hK2 hP hD [1] rfl (by decide) rfl rfl) rfl rfl hl.1 rfl (lv_room (Nat.le_of_ble_eq_true rfl)) dX5_set_23 ⟨Nat.le_of_ble_eq_true rfl, Nat.le_of_ble_eq_true rfl⟩) hP hD hS hA [1] [0, 2, 3] [0, 3, 1, 2] rfl rfl (by decide) (by decide) (fun _ => rfl) (by decide) (fun r_2 u_2 H locs hw_2 hP hD hS => ?_)
    have hP : va_P D vwCl [(t0, wTB tg td tp b0 l0 no we tl un), (tg, wGr R C), (td, .inr (0, [.ref tr, .int (nI dn), .int (nI kn)])), (tr, .inl (cI, 37, .inl row))] H := hP
    have hD : va_D A [(t0, wTB tg td tp b0 l0 no we tl un), (tg, wGr R C), (td, .inr (0, [.ref tr, .int (nI dn), .int (nI kn)])), (tr, .inl (cI, 37, .inl row))] := hD
    rcases hw_2 with ⟨rfl, hw_2⟩ | ⟨rfl, hw_2⟩
    · obtain ⟨k, hk, rfl⟩ := hw_2
      refine lv_if_eq (tgt := 41) hx hb dX5_set_26 (by decide) (fun c_26_3 => absurd c_26_3 (by decide)) (fun c_26_3 => ?_)
      refine lv_iload hx hb dX5_set_29 (lv_at hl 0 rfl) ?_
      refine lv_if_eq (tgt := 41) hx hb dX5_set_31 (by decide) (fun c_31_4 => absurd c_31_4 (by decide)) (fun c_31_4 => ?_)
      refine lv_iload_n hx hb dX5_set_34 rfl (lv_at hl 4 rfl) ?_
      refine k_calli (wr := [(t0, wTB tg td tp b0 l0 no we tl un), (tg, wGr R C), (td, .inr (0, [.ref tr, .int (nI dn), .int (nI kn)])), (tr, .inl (cI, 37, .inl row))]) (w2 := (fun _ : Unit => [(t0, wTB tg td tp b0 l0 no we tl un), (tg, wGr R C), (td, .inr (0, [.ref tr, .int (nI dn), .int (nI kn)])), (tr, .inl (cI, 37, .inl row))])) (va_runS (As := [.int wh]) (rest := []) ⟨hx, hb, hml, hown, hts⟩ (c_isColour l D cI cJ cZ wh  H.size) (va_cwS 1 hts gX5_set_X5_isColour rfl rfl rfl (by decide +kernel) ⟨Nat.le_of_ble_eq_true rfl, Nat.le_of_ble_eq_true rfl⟩) (kPS (wc := []) hK2 hP hD [] rfl (by decide)) rfl rfl hl.1 rfl (lv_room (Nat.le_of_ble_eq_true rfl)) dX5_set_35 ⟨Nat.le_of_ble_eq_true rfl, Nat.le_of_ble_eq_true rfl⟩) hP hD hS hA [] [0, 1, 2, 3] [0, 1, 2, 3] rfl rfl (by decide) (by decide) (fun _ => rfl) (by decide) (fun r_5 u_5 H locs hw_5 hP hD hS => ?_)
      have hP : va_P D vwCl [(t0, wTB tg td tp b0 l0 no we tl un), (tg, wGr R C), (td, .inr (0, [.ref tr, .int (nI dn), .int (nI kn)])), (tr, .inl (cI, 37, .inl row))] H := hP
      have hD : va_D A [(t0, wTB tg td tp b0 l0 no we tl un), (tg, wGr R C), (td, .inr (0, [.ref tr, .int (nI dn), .int (nI kn)])), (tr, .inl (cI, 37, .inl row))] := hD
      rcases hw_5 with ⟨rfl, hw_5⟩ | ⟨rfl, hw_5⟩
      · obtain ⟨wn, hwn, rfl⟩ := col_nat hw_5
        refine lv_if_ne (tgt := 43) hx hb dX5_set_38 (by decide) (fun c_38_6 => ?_) (fun c_38_6 => absurd c_38_6 (by decide))
        refine lv_aload_n hx hb dX5_set_43 rfl (lv_at hl 1 rfl) ?_
        refine lv_iload_n hx hb dX5_set_44 rfl (lv_at hl 2 rfl) ?_
        refine lv_iload_n hx hb dX5_set_45 rfl (lv_at hl 3 rfl) ?_
        refine k_callv (wr := [(tg, wGr R C), (td, .inr (0, [.ref tr, .int (nI dn), .int (nI kn)])), (tr, .inl (cI, 37, .inl row))]) (w2 := (fun _ : Unit => [(t0, wTB tg td tp b0 l0 (gPut no k (decide (cv = 1))) (gPut we k (decide (cv = 2))) tl un), (tg, wGr R C), (td, .inr (0, [.ref tr, .int (nI dn), .int (nI kn)])), (tr, .inl (cI, 37, .inl row))])) (va_runV (As := [.int (nI k), .int (nI cv)]) (rest := []) ⟨hx, hb, hml, hown, hts⟩ (c_T_put l D cI cJ cZ t0 tg td tp b0 l0 no we tl un k cv (by omega) (by omega)  H.size) (cwV 2 hts gX5_set_X5_put rfl rfl rfl (by decide +kernel) ⟨Nat.le_of_ble_eq_true rfl, Nat.le_of_ble_eq_true rfl⟩) (kPV (ci := 5) (q0 := 0) (wc := [(t0, wTB tg td tp b0 l0 no we tl un)]) hK2 hP hD [0] rfl (by decide) rfl rfl) rfl rfl hl.1 rfl (lv_room (Nat.le_of_ble_eq_true rfl)) dX5_set_46 ⟨Nat.le_of_ble_eq_true rfl, Nat.le_of_ble_eq_true rfl⟩) hP hD hS hA [0] [1, 2, 3] [3, 0, 1, 2] rfl rfl (by decide) (by decide) (fun _ => rfl) (by decide) (fun u_7 H locs hw_7 hP hD hS => ?_)
        have hP : va_P D vwCl [(t0, wTB tg td tp b0 l0 (gPut no k (decide (cv = 1))) (gPut we k (decide (cv = 2))) tl un), (tg, wGr R C), (td, .inr (0, [.ref tr, .int (nI dn), .int (nI kn)])), (tr, .inl (cI, 37, .inl row))] H := hP
        have hD : va_D A [(t0, wTB tg td tp b0 l0 (gPut no k (decide (cv = 1))) (gPut we k (decide (cv = 2))) tl un), (tg, wGr R C), (td, .inr (0, [.ref tr, .int (nI dn), .int (nI kn)])), (tr, .inl (cI, 37, .inl row))] := hD
        refine lv_aload_n hx hb dX5_set_49 rfl (lv_at hl 1 rfl) ?_
        refine lv_iload_n hx hb dX5_set_50 rfl (lv_at hl 4 rfl) ?_
        refine va_put (D := D) (ci := 5) (v := .int (nI wn)) (ty := .int) (C := RX5) (T := TX5) (N := 9) hx hb hts kiX5_set_X5 tyX5 tyX5_ok nmX5 hown hK hP hD hS 0 rfl rfl 7 (by decide) (hts (.fieldLink RX5 57 "TwoBanks" "toLay" "I") (List.mem_of_getElem? (i := 2) rfl)) (fun _ h9 => h9) rfl  (by decide +kernel) rfl rfl (Nat.le_of_ble_eq_true rfl) dX5_set_51 (fun H locs hP hD hS => ?_)
        have hP : va_P D vwCl [(t0, .inr (5, [.ref tg, .ref td, .ref tp, .ref b0, .ref l0, .long (gPut no k (decide (cv = 1))), .long (gPut we k (decide (cv = 2))), .int (nI wn), .int (nI un)])), (tg, wGr R C), (td, .inr (0, [.ref tr, .int (nI dn), .int (nI kn)])), (tr, .inl (cI, 37, .inl row))] H := hP
        have hD : va_D A [(t0, .inr (5, [.ref tg, .ref td, .ref tp, .ref b0, .ref l0, .long (gPut no k (decide (cv = 1))), .long (gPut we k (decide (cv = 2))), .int (nI wn), .int (nI un)])), (tg, wGr R C), (td, .inr (0, [.ref tr, .int (nI dn), .int (nI kn)])), (tr, .inl (cI, 37, .inl row))] := hD
        refine lv_aload_n hx hb dX5_set_54 rfl (lv_at hl 1 rfl) ?_
        refine lv_iconst (v := (nI 0)) hx hb dX5_set_55 (by decide) ?_
        refine va_put (D := D) (ci := 5) (v := .int (nI 0)) (ty := .boolean) (C := RX5) (T := TX5) (N := 9) hx hb hts kiX5_set_X5 tyX5 tyX5_ok nmX5 hown hK hP hD hS 0 rfl rfl 8 (by decide) (hts (.fieldLink RX5 61 "TwoBanks" "untouched" "Z") (List.mem_of_getElem? (i := 3) rfl)) (fun _ h9 => h9) rfl  (by decide +kernel) (by decide +kernel) (by decide +kernel) (Nat.le_of_ble_eq_true rfl) dX5_set_56 (fun H locs hP hD hS => ?_)
        have hP : va_P D vwCl [(t0, .inr (5, [.ref tg, .ref td, .ref tp, .ref b0, .ref l0, .long (gPut no k (decide (cv = 1))), .long (gPut we k (decide (cv = 2))), .int (nI wn), .int (nI 0)])), (tg, wGr R C), (td, .inr (0, [.ref tr, .int (nI dn), .int (nI kn)])), (tr, .inl (cI, 37, .inl row))] H := hP
        have hD : va_D A [(t0, .inr (5, [.ref tg, .ref td, .ref tp, .ref b0, .ref l0, .long (gPut no k (decide (cv = 1))), .long (gPut we k (decide (cv = 2))), .int (nI wn), .int (nI 0)])), (tg, wGr R C), (td, .inr (0, [.ref tr, .int (nI dn), .int (nI kn)])), (tr, .inl (cI, 37, .inl row))] := hD
        refine lv_aload_n hx hb dX5_set_59 rfl (lv_at hl 1 rfl) ?_
        refine va_get (D := D) (ci := 5) (v := .ref td) (C := RX5) (T := TX5) (N := 9) hx hb hts kiX5_set_X5 hown hK hP 0 rfl rfl 1 (by decide) (hts (.fieldLink RX5 19 "TwoBanks" "deeds" "LTwoBanks$Deeds;") (List.mem_of_getElem? (i := 4) rfl)) (fun _ h9 => h9) rfl dX5_set_60 ?_
        refine k_callv (wr := [(t0, .inr (5, [.ref tg, .ref td, .ref tp, .ref b0, .ref l0, .long (gPut no k (decide (cv = 1))), .long (gPut we k (decide (cv = 2))), .int (nI wn), .int (nI 0)])), (tg, wGr R C)]) (w2 := (fun _ : Unit => [(t0, .inr (5, [.ref tg, .ref td, .ref tp, .ref b0, .ref l0, .long (gPut no k (decide (cv = 1))), .long (gPut we k (decide (cv = 2))), .int (nI wn), .int (nI 0)])), (tg, wGr R C), (td, .inr (0, [.ref tr, .int (nI 0), .int (nI 0)])), (tr, .inl (cI, 37, .inl row))])) (va_runV (As := []) (rest := []) ⟨hx, hb, hml, hown, hts⟩ (c_D_forget l D cI cJ cZ td tr row dn kn  H.size) (cwV 0 hts gX5_set_X0_forget rfl rfl rfl (by decide +kernel) ⟨Nat.le_of_ble_eq_true rfl, Nat.le_of_ble_eq_true rfl⟩) (kPV (ci := 0) (q0 := 0) (wc := [(td, .inr (0, [.ref tr, .int (nI dn), .int (nI kn)])), (tr, .inl (cI, 37, .inl row))]) hK2 hP hD [2, 3] rfl (by decide) rfl rfl) rfl rfl hl.1 rfl (lv_room (Nat.le_of_ble_eq_true rfl)) dX5_set_63 ⟨Nat.le_of_ble_eq_true rfl, Nat.le_of_ble_eq_true rfl⟩) hP hD hS hA [2, 3] [0, 1] [0, 1, 2, 3] rfl rfl (by decide) (by decide) (fun _ => rfl) (by decide) (fun u_8 H locs hw_8 hP hD hS => ?_)
        have hP : va_P D vwCl [(t0, .inr (5, [.ref tg, .ref td, .ref tp, .ref b0, .ref l0, .long (gPut no k (decide (cv = 1))), .long (gPut we k (decide (cv = 2))), .int (nI wn), .int (nI 0)])), (tg, wGr R C), (td, .inr (0, [.ref tr, .int (nI 0), .int (nI 0)])), (tr, .inl (cI, 37, .inl row))] H := hP
        have hD : va_D A [(t0, .inr (5, [.ref tg, .ref td, .ref tp, .ref b0, .ref l0, .long (gPut no k (decide (cv = 1))), .long (gPut we k (decide (cv = 2))), .int (nI wn), .int (nI 0)])), (tg, wGr R C), (td, .inr (0, [.ref tr, .int (nI 0), .int (nI 0)])), (tr, .inl (cI, 37, .inl row))] := hD
        refine lv_iconst (v := (nI 1)) hx hb dX5_set_66 (by decide) ?_
        exact W.zret (v := (nI 1)) hx hb hr (by first | decide +kernel | assumption | exact kz_narr (by first | assumption | omega)) (fun t ht hW => ⟨⟨(nI 1), (R, C, (gPut no k (decide (cv = 1))), (gPut we k (decide (cv = 2))), wn, 0, 0, 0, row), rfl, Or.inr ⟨k, cv, wn, hk, hcv, hwn, rfl, rfl, rfl, rfl, rfl⟩, by rw [ht]; exact hP, hD⟩, hS.F ht⟩) hS.2.2 dX5_set_67
      · skip
        refine lv_if_ne (tgt := 43) hx hb dX5_set_38 (by decide) (fun c_38_9 => absurd c_38_9 (by decide)) (fun c_38_9 => ?_)
        refine lv_iconst (v := (nI 0)) hx hb dX5_set_41 (by decide) ?_
        exact W.zret (v := (nI 0)) hx hb hr (by first | decide +kernel | assumption | exact kz_narr (by first | assumption | omega)) (fun t ht hW => ⟨⟨(nI 0), (R, C, no, we, tl, un, dn, kn, row), rfl, Or.inl ⟨rfl, fun h9 => by rcases h9.2.2 with q9 | q9; exact hw_5.1 q9; exact hw_5.2 q9, rfl⟩, by rw [ht]; exact hP, hD⟩, hS.F ht⟩) hS.2.2 dX5_set_42
    · skip
      refine lv_if_eq (tgt := 41) hx hb dX5_set_26 (by decide) (fun c_26_10 => ?_) (fun c_26_10 => absurd c_26_10 (by decide))
      refine lv_iconst (v := (nI 0)) hx hb dX5_set_41 (by decide) ?_
      exact W.zret (v := (nI 0)) hx hb hr (by first | decide +kernel | assumption | exact kz_narr (by first | assumption | omega)) (fun t ht hW => ⟨⟨(nI 0), (R, C, no, we, tl, un, dn, kn, row), rfl, Or.inl ⟨rfl, fun h9 => hw_2 h9.1, rfl⟩, by rw [ht]; exact hP, hD⟩, hS.F ht⟩) hS.2.2 dX5_set_42
  · have hcl0 : ¬ cl = nI 0 := c_1_1
    refine lv_iload_n hx hb dX5_set_4 rfl (lv_at hl 2 rfl) ?_
    refine k_calli (wr := [(t0, wTB tg td tp b0 l0 no we tl un), (tg, wGr R C), (td, .inr (0, [.ref tr, .int (nI dn), .int (nI kn)])), (tr, .inl (cI, 37, .inl row))]) (w2 := (fun _ : Unit => [(t0, wTB tg td tp b0 l0 no we tl un), (tg, wGr R C), (td, .inr (0, [.ref tr, .int (nI dn), .int (nI kn)])), (tr, .inl (cI, 37, .inl row))])) (va_runS (As := [.int cl]) (rest := []) ⟨hx, hb, hml, hown, hts⟩ (c_isColour l D cI cJ cZ cl  s.heap.size) (va_cwS 1 hts gX5_set_X5_isColour rfl rfl rfl (by decide +kernel) ⟨Nat.le_of_ble_eq_true rfl, Nat.le_of_ble_eq_true rfl⟩) (kPS (wc := []) hK2 hP hD [] rfl (by decide)) rfl rfl hl.1 rfl (lv_room (Nat.le_of_ble_eq_true rfl)) dX5_set_5 ⟨Nat.le_of_ble_eq_true rfl, Nat.le_of_ble_eq_true rfl⟩) hP hD hS hA [] [0, 1, 2, 3] [0, 1, 2, 3] rfl rfl (by decide) (by decide) (fun _ => rfl) (by decide) (fun r_11 u_11 H locs hw_11 hP hD hS => ?_)
    have hP : va_P D vwCl [(t0, wTB tg td tp b0 l0 no we tl un), (tg, wGr R C), (td, .inr (0, [.ref tr, .int (nI dn), .int (nI kn)])), (tr, .inl (cI, 37, .inl row))] H := hP
    have hD : va_D A [(t0, wTB tg td tp b0 l0 no we tl un), (tg, wGr R C), (td, .inr (0, [.ref tr, .int (nI dn), .int (nI kn)])), (tr, .inl (cI, 37, .inl row))] := hD
    rcases hw_11 with ⟨rfl, hw_11⟩ | ⟨rfl, hw_11⟩
    · obtain ⟨cv, hcv, rfl⟩ := col_nat hw_11
      have hcv : cv ≤ 2 := by omega
      refine lv_if_eq (tgt := 15) hx hb dX5_set_8 (by decide) (fun c_8_12 => absurd c_8_12 (by decide)) (fun c_8_12 => ?_)
      refine lv_iconst (v := (nI 1)) hx hb dX5_set_11 (by decide) ?_
      refine lv_goto (tgt := 16) hx hb dX5_set_12 (by decide) ?_
      refine lv_istore (lv' := [(4, .int (nI 1)), (0, .ref t0), (1, .int f), (2, .int (nI cv)), (3, .int wh)]) hx hb dX5_set_16 hl (by decide) rfl (fun ls hl => ?_)
      refine lv_aload_n hx hb dX5_set_18 rfl (lv_at hl 1 rfl) ?_
      refine va_get (D := D) (ci := 5) (v := .ref tg) (C := RX5) (T := TX5) (N := 9) hx hb hts kiX5_set_X5 hown hK hP 0 rfl rfl 0 (by decide) (hts (.fieldLink RX5 12 "TwoBanks" "grid" "LTwoBanks$Grid;") (List.mem_of_getElem? (i := 1) rfl)) (fun _ h9 => h9) rfl dX5_set_19 ?_
      refine lv_iload_n hx hb dX5_set_22 rfl (lv_at hl 2 rfl) ?_
      refine k_calli (wr := [(t0, wTB tg td tp b0 l0 no we tl un), (td, .inr (0, [.ref tr, .int (nI dn), .int (nI kn)])), (tr, .inl (cI, 37, .inl row))]) (w2 := (fun _ : Unit => [(t0, wTB tg td tp b0 l0 no we tl un), (tg, wGr R C), (td, .inr (0, [.ref tr, .int (nI dn), .int (nI kn)])), (tr, .inl (cI, 37, .inl row))])) (va_runV (As := [.int f]) (rest := []) ⟨hx, hb, hml, hown, hts⟩ (c_G_has l D cI cJ cZ tg R C f hRC  H.size) (cwV 1 hts gX5_set_X2_has rfl rfl rfl (by decide +kernel) ⟨Nat.le_of_ble_eq_true rfl, Nat.le_of_ble_eq_true rfl⟩) (kPV (ci := 2) (q0 := 0) (wc := [(tg, wGr R C)]) hK2 hP hD [1] rfl (by decide) rfl rfl) rfl rfl hl.1 rfl (lv_room (Nat.le_of_ble_eq_true rfl)) dX5_set_23 ⟨Nat.le_of_ble_eq_true rfl, Nat.le_of_ble_eq_true rfl⟩) hP hD hS hA [1] [0, 2, 3] [0, 3, 1, 2] rfl rfl (by decide) (by decide) (fun _ => rfl) (by decide) (fun r_13 u_13 H locs hw_13 hP hD hS => ?_)
      have hP : va_P D vwCl [(t0, wTB tg td tp b0 l0 no we tl un), (tg, wGr R C), (td, .inr (0, [.ref tr, .int (nI dn), .int (nI kn)])), (tr, .inl (cI, 37, .inl row))] H := hP
      have hD : va_D A [(t0, wTB tg td tp b0 l0 no we tl un), (tg, wGr R C), (td, .inr (0, [.ref tr, .int (nI dn), .int (nI kn)])), (tr, .inl (cI, 37, .inl row))] := hD
      rcases hw_13 with ⟨rfl, hw_13⟩ | ⟨rfl, hw_13⟩
      · obtain ⟨k, hk, rfl⟩ := hw_13
        refine lv_if_eq (tgt := 41) hx hb dX5_set_26 (by decide) (fun c_26_14 => absurd c_26_14 (by decide)) (fun c_26_14 => ?_)
        refine lv_iload hx hb dX5_set_29 (lv_at hl 0 rfl) ?_
        refine lv_if_eq (tgt := 41) hx hb dX5_set_31 (by decide) (fun c_31_15 => absurd c_31_15 (by decide)) (fun c_31_15 => ?_)
        refine lv_iload_n hx hb dX5_set_34 rfl (lv_at hl 4 rfl) ?_
        refine k_calli (wr := [(t0, wTB tg td tp b0 l0 no we tl un), (tg, wGr R C), (td, .inr (0, [.ref tr, .int (nI dn), .int (nI kn)])), (tr, .inl (cI, 37, .inl row))]) (w2 := (fun _ : Unit => [(t0, wTB tg td tp b0 l0 no we tl un), (tg, wGr R C), (td, .inr (0, [.ref tr, .int (nI dn), .int (nI kn)])), (tr, .inl (cI, 37, .inl row))])) (va_runS (As := [.int wh]) (rest := []) ⟨hx, hb, hml, hown, hts⟩ (c_isColour l D cI cJ cZ wh  H.size) (va_cwS 1 hts gX5_set_X5_isColour rfl rfl rfl (by decide +kernel) ⟨Nat.le_of_ble_eq_true rfl, Nat.le_of_ble_eq_true rfl⟩) (kPS (wc := []) hK2 hP hD [] rfl (by decide)) rfl rfl hl.1 rfl (lv_room (Nat.le_of_ble_eq_true rfl)) dX5_set_35 ⟨Nat.le_of_ble_eq_true rfl, Nat.le_of_ble_eq_true rfl⟩) hP hD hS hA [] [0, 1, 2, 3] [0, 1, 2, 3] rfl rfl (by decide) (by decide) (fun _ => rfl) (by decide) (fun r_16 u_16 H locs hw_16 hP hD hS => ?_)
        have hP : va_P D vwCl [(t0, wTB tg td tp b0 l0 no we tl un), (tg, wGr R C), (td, .inr (0, [.ref tr, .int (nI dn), .int (nI kn)])), (tr, .inl (cI, 37, .inl row))] H := hP
        have hD : va_D A [(t0, wTB tg td tp b0 l0 no we tl un), (tg, wGr R C), (td, .inr (0, [.ref tr, .int (nI dn), .int (nI kn)])), (tr, .inl (cI, 37, .inl row))] := hD
        rcases hw_16 with ⟨rfl, hw_16⟩ | ⟨rfl, hw_16⟩
        · obtain ⟨wn, hwn, rfl⟩ := col_nat hw_16
          refine lv_if_ne (tgt := 43) hx hb dX5_set_38 (by decide) (fun c_38_17 => ?_) (fun c_38_17 => absurd c_38_17 (by decide))
          refine lv_aload_n hx hb dX5_set_43 rfl (lv_at hl 1 rfl) ?_
          refine lv_iload_n hx hb dX5_set_44 rfl (lv_at hl 2 rfl) ?_
          refine lv_iload_n hx hb dX5_set_45 rfl (lv_at hl 3 rfl) ?_
          refine k_callv (wr := [(tg, wGr R C), (td, .inr (0, [.ref tr, .int (nI dn), .int (nI kn)])), (tr, .inl (cI, 37, .inl row))]) (w2 := (fun _ : Unit => [(t0, wTB tg td tp b0 l0 (gPut no k (decide (cv = 1))) (gPut we k (decide (cv = 2))) tl un), (tg, wGr R C), (td, .inr (0, [.ref tr, .int (nI dn), .int (nI kn)])), (tr, .inl (cI, 37, .inl row))])) (va_runV (As := [.int (nI k), .int (nI cv)]) (rest := []) ⟨hx, hb, hml, hown, hts⟩ (c_T_put l D cI cJ cZ t0 tg td tp b0 l0 no we tl un k cv (by omega) (by omega)  H.size) (cwV 2 hts gX5_set_X5_put rfl rfl rfl (by decide +kernel) ⟨Nat.le_of_ble_eq_true rfl, Nat.le_of_ble_eq_true rfl⟩) (kPV (ci := 5) (q0 := 0) (wc := [(t0, wTB tg td tp b0 l0 no we tl un)]) hK2 hP hD [0] rfl (by decide) rfl rfl) rfl rfl hl.1 rfl (lv_room (Nat.le_of_ble_eq_true rfl)) dX5_set_46 ⟨Nat.le_of_ble_eq_true rfl, Nat.le_of_ble_eq_true rfl⟩) hP hD hS hA [0] [1, 2, 3] [3, 0, 1, 2] rfl rfl (by decide) (by decide) (fun _ => rfl) (by decide) (fun u_18 H locs hw_18 hP hD hS => ?_)
          have hP : va_P D vwCl [(t0, wTB tg td tp b0 l0 (gPut no k (decide (cv = 1))) (gPut we k (decide (cv = 2))) tl un), (tg, wGr R C), (td, .inr (0, [.ref tr, .int (nI dn), .int (nI kn)])), (tr, .inl (cI, 37, .inl row))] H := hP
          have hD : va_D A [(t0, wTB tg td tp b0 l0 (gPut no k (decide (cv = 1))) (gPut we k (decide (cv = 2))) tl un), (tg, wGr R C), (td, .inr (0, [.ref tr, .int (nI dn), .int (nI kn)])), (tr, .inl (cI, 37, .inl row))] := hD
          refine lv_aload_n hx hb dX5_set_49 rfl (lv_at hl 1 rfl) ?_
          refine lv_iload_n hx hb dX5_set_50 rfl (lv_at hl 4 rfl) ?_
          refine va_put (D := D) (ci := 5) (v := .int (nI wn)) (ty := .int) (C := RX5) (T := TX5) (N := 9) hx hb hts kiX5_set_X5 tyX5 tyX5_ok nmX5 hown hK hP hD hS 0 rfl rfl 7 (by decide) (hts (.fieldLink RX5 57 "TwoBanks" "toLay" "I") (List.mem_of_getElem? (i := 2) rfl)) (fun _ h9 => h9) rfl  (by decide +kernel) rfl rfl (Nat.le_of_ble_eq_true rfl) dX5_set_51 (fun H locs hP hD hS => ?_)
          have hP : va_P D vwCl [(t0, .inr (5, [.ref tg, .ref td, .ref tp, .ref b0, .ref l0, .long (gPut no k (decide (cv = 1))), .long (gPut we k (decide (cv = 2))), .int (nI wn), .int (nI un)])), (tg, wGr R C), (td, .inr (0, [.ref tr, .int (nI dn), .int (nI kn)])), (tr, .inl (cI, 37, .inl row))] H := hP
          have hD : va_D A [(t0, .inr (5, [.ref tg, .ref td, .ref tp, .ref b0, .ref l0, .long (gPut no k (decide (cv = 1))), .long (gPut we k (decide (cv = 2))), .int (nI wn), .int (nI un)])), (tg, wGr R C), (td, .inr (0, [.ref tr, .int (nI dn), .int (nI kn)])), (tr, .inl (cI, 37, .inl row))] := hD
          refine lv_aload_n hx hb dX5_set_54 rfl (lv_at hl 1 rfl) ?_
          refine lv_iconst (v := (nI 0)) hx hb dX5_set_55 (by decide) ?_
          refine va_put (D := D) (ci := 5) (v := .int (nI 0)) (ty := .boolean) (C := RX5) (T := TX5) (N := 9) hx hb hts kiX5_set_X5 tyX5 tyX5_ok nmX5 hown hK hP hD hS 0 rfl rfl 8 (by decide) (hts (.fieldLink RX5 61 "TwoBanks" "untouched" "Z") (List.mem_of_getElem? (i := 3) rfl)) (fun _ h9 => h9) rfl  (by decide +kernel) (by decide +kernel) (by decide +kernel) (Nat.le_of_ble_eq_true rfl) dX5_set_56 (fun H locs hP hD hS => ?_)
          have hP : va_P D vwCl [(t0, .inr (5, [.ref tg, .ref td, .ref tp, .ref b0, .ref l0, .long (gPut no k (decide (cv = 1))), .long (gPut we k (decide (cv = 2))), .int (nI wn), .int (nI 0)])), (tg, wGr R C), (td, .inr (0, [.ref tr, .int (nI dn), .int (nI kn)])), (tr, .inl (cI, 37, .inl row))] H := hP
          have hD : va_D A [(t0, .inr (5, [.ref tg, .ref td, .ref tp, .ref b0, .ref l0, .long (gPut no k (decide (cv = 1))), .long (gPut we k (decide (cv = 2))), .int (nI wn), .int (nI 0)])), (tg, wGr R C), (td, .inr (0, [.ref tr, .int (nI dn), .int (nI kn)])), (tr, .inl (cI, 37, .inl row))] := hD
          refine lv_aload_n hx hb dX5_set_59 rfl (lv_at hl 1 rfl) ?_
          refine va_get (D := D) (ci := 5) (v := .ref td) (C := RX5) (T := TX5) (N := 9) hx hb hts kiX5_set_X5 hown hK hP 0 rfl rfl 1 (by decide) (hts (.fieldLink RX5 19 "TwoBanks" "deeds" "LTwoBanks$Deeds;") (List.mem_of_getElem? (i := 4) rfl)) (fun _ h9 => h9) rfl dX5_set_60 ?_
          refine k_callv (wr := [(t0, .inr (5, [.ref tg, .ref td, .ref tp, .ref b0, .ref l0, .long (gPut no k (decide (cv = 1))), .long (gPut we k (decide (cv = 2))), .int (nI wn), .int (nI 0)])), (tg, wGr R C)]) (w2 := (fun _ : Unit => [(t0, .inr (5, [.ref tg, .ref td, .ref tp, .ref b0, .ref l0, .long (gPut no k (decide (cv = 1))), .long (gPut we k (decide (cv = 2))), .int (nI wn), .int (nI 0)])), (tg, wGr R C), (td, .inr (0, [.ref tr, .int (nI 0), .int (nI 0)])), (tr, .inl (cI, 37, .inl row))])) (va_runV (As := []) (rest := []) ⟨hx, hb, hml, hown, hts⟩ (c_D_forget l D cI cJ cZ td tr row dn kn  H.size) (cwV 0 hts gX5_set_X0_forget rfl rfl rfl (by decide +kernel) ⟨Nat.le_of_ble_eq_true rfl, Nat.le_of_ble_eq_true rfl⟩) (kPV (ci := 0) (q0 := 0) (wc := [(td, .inr (0, [.ref tr, .int (nI dn), .int (nI kn)])), (tr, .inl (cI, 37, .inl row))]) hK2 hP hD [2, 3] rfl (by decide) rfl rfl) rfl rfl hl.1 rfl (lv_room (Nat.le_of_ble_eq_true rfl)) dX5_set_63 ⟨Nat.le_of_ble_eq_true rfl, Nat.le_of_ble_eq_true rfl⟩) hP hD hS hA [2, 3] [0, 1] [0, 1, 2, 3] rfl rfl (by decide) (by decide) (fun _ => rfl) (by decide) (fun u_19 H locs hw_19 hP hD hS => ?_)
          have hP : va_P D vwCl [(t0, .inr (5, [.ref tg, .ref td, .ref tp, .ref b0, .ref l0, .long (gPut no k (decide (cv = 1))), .long (gPut we k (decide (cv = 2))), .int (nI wn), .int (nI 0)])), (tg, wGr R C), (td, .inr (0, [.ref tr, .int (nI 0), .int (nI 0)])), (tr, .inl (cI, 37, .inl row))] H := hP
          have hD : va_D A [(t0, .inr (5, [.ref tg, .ref td, .ref tp, .ref b0, .ref l0, .long (gPut no k (decide (cv = 1))), .long (gPut we k (decide (cv = 2))), .int (nI wn), .int (nI 0)])), (tg, wGr R C), (td, .inr (0, [.ref tr, .int (nI 0), .int (nI 0)])), (tr, .inl (cI, 37, .inl row))] := hD
          refine lv_iconst (v := (nI 1)) hx hb dX5_set_66 (by decide) ?_
          exact W.zret (v := (nI 1)) hx hb hr (by first | decide +kernel | assumption | exact kz_narr (by first | assumption | omega)) (fun t ht hW => ⟨⟨(nI 1), (R, C, (gPut no k (decide (cv = 1))), (gPut we k (decide (cv = 2))), wn, 0, 0, 0, row), rfl, Or.inr ⟨k, cv, wn, hk, hcv, hwn, rfl, rfl, rfl, rfl, rfl⟩, by rw [ht]; exact hP, hD⟩, hS.F ht⟩) hS.2.2 dX5_set_67
        · skip
          refine lv_if_ne (tgt := 43) hx hb dX5_set_38 (by decide) (fun c_38_20 => absurd c_38_20 (by decide)) (fun c_38_20 => ?_)
          refine lv_iconst (v := (nI 0)) hx hb dX5_set_41 (by decide) ?_
          exact W.zret (v := (nI 0)) hx hb hr (by first | decide +kernel | assumption | exact kz_narr (by first | assumption | omega)) (fun t ht hW => ⟨⟨(nI 0), (R, C, no, we, tl, un, dn, kn, row), rfl, Or.inl ⟨rfl, fun h9 => by rcases h9.2.2 with q9 | q9; exact hw_16.1 q9; exact hw_16.2 q9, rfl⟩, by rw [ht]; exact hP, hD⟩, hS.F ht⟩) hS.2.2 dX5_set_42
      · skip
        refine lv_if_eq (tgt := 41) hx hb dX5_set_26 (by decide) (fun c_26_21 => ?_) (fun c_26_21 => absurd c_26_21 (by decide))
        refine lv_iconst (v := (nI 0)) hx hb dX5_set_41 (by decide) ?_
        exact W.zret (v := (nI 0)) hx hb hr (by first | decide +kernel | assumption | exact kz_narr (by first | assumption | omega)) (fun t ht hW => ⟨⟨(nI 0), (R, C, no, we, tl, un, dn, kn, row), rfl, Or.inl ⟨rfl, fun h9 => hw_13 h9.1, rfl⟩, by rw [ht]; exact hP, hD⟩, hS.F ht⟩) hS.2.2 dX5_set_42
    · skip
      refine lv_if_eq (tgt := 15) hx hb dX5_set_8 (by decide) (fun c_8_22 => ?_) (fun c_8_22 => absurd c_8_22 (by decide))
      refine lv_iconst (v := (nI 0)) hx hb dX5_set_15 (by decide) ?_
      refine lv_istore (lv' := [(4, .int (nI 0)), (0, .ref t0), (1, .int f), (2, .int cl), (3, .int wh)]) hx hb dX5_set_16 hl (by decide) rfl (fun ls hl => ?_)
      refine lv_aload_n hx hb dX5_set_18 rfl (lv_at hl 1 rfl) ?_
      refine va_get (D := D) (ci := 5) (v := .ref tg) (C := RX5) (T := TX5) (N := 9) hx hb hts kiX5_set_X5 hown hK hP 0 rfl rfl 0 (by decide) (hts (.fieldLink RX5 12 "TwoBanks" "grid" "LTwoBanks$Grid;") (List.mem_of_getElem? (i := 1) rfl)) (fun _ h9 => h9) rfl dX5_set_19 ?_
      refine lv_iload_n hx hb dX5_set_22 rfl (lv_at hl 2 rfl) ?_
      refine k_calli (wr := [(t0, wTB tg td tp b0 l0 no we tl un), (td, .inr (0, [.ref tr, .int (nI dn), .int (nI kn)])), (tr, .inl (cI, 37, .inl row))]) (w2 := (fun _ : Unit => [(t0, wTB tg td tp b0 l0 no we tl un), (tg, wGr R C), (td, .inr (0, [.ref tr, .int (nI dn), .int (nI kn)])), (tr, .inl (cI, 37, .inl row))])) (va_runV (As := [.int f]) (rest := []) ⟨hx, hb, hml, hown, hts⟩ (c_G_has l D cI cJ cZ tg R C f hRC  H.size) (cwV 1 hts gX5_set_X2_has rfl rfl rfl (by decide +kernel) ⟨Nat.le_of_ble_eq_true rfl, Nat.le_of_ble_eq_true rfl⟩) (kPV (ci := 2) (q0 := 0) (wc := [(tg, wGr R C)]) hK2 hP hD [1] rfl (by decide) rfl rfl) rfl rfl hl.1 rfl (lv_room (Nat.le_of_ble_eq_true rfl)) dX5_set_23 ⟨Nat.le_of_ble_eq_true rfl, Nat.le_of_ble_eq_true rfl⟩) hP hD hS hA [1] [0, 2, 3] [0, 3, 1, 2] rfl rfl (by decide) (by decide) (fun _ => rfl) (by decide) (fun r_23 u_23 H locs hw_23 hP hD hS => ?_)
      have hP : va_P D vwCl [(t0, wTB tg td tp b0 l0 no we tl un), (tg, wGr R C), (td, .inr (0, [.ref tr, .int (nI dn), .int (nI kn)])), (tr, .inl (cI, 37, .inl row))] H := hP
      have hD : va_D A [(t0, wTB tg td tp b0 l0 no we tl un), (tg, wGr R C), (td, .inr (0, [.ref tr, .int (nI dn), .int (nI kn)])), (tr, .inl (cI, 37, .inl row))] := hD
      rcases hw_23 with ⟨rfl, hw_23⟩ | ⟨rfl, hw_23⟩
      · obtain ⟨k, hk, rfl⟩ := hw_23
        refine lv_if_eq (tgt := 41) hx hb dX5_set_26 (by decide) (fun c_26_24 => absurd c_26_24 (by decide)) (fun c_26_24 => ?_)
        refine lv_iload hx hb dX5_set_29 (lv_at hl 0 rfl) ?_
        refine lv_if_eq (tgt := 41) hx hb dX5_set_31 (by decide) (fun c_31_25 => ?_) (fun c_31_25 => absurd c_31_25 (by decide))
        refine lv_iconst (v := (nI 0)) hx hb dX5_set_41 (by decide) ?_
        exact W.zret (v := (nI 0)) hx hb hr (by first | decide +kernel | assumption | exact kz_narr (by first | assumption | omega)) (fun t ht hW => ⟨⟨(nI 0), (R, C, no, we, tl, un, dn, kn, row), rfl, Or.inl ⟨rfl, fun h9 => by rcases h9.2.1 with q9 | q9 | q9; exact hcl0 q9; exact hw_11.1 q9; exact hw_11.2 q9, rfl⟩, by rw [ht]; exact hP, hD⟩, hS.F ht⟩) hS.2.2 dX5_set_42
      · skip
        refine lv_if_eq (tgt := 41) hx hb dX5_set_26 (by decide) (fun c_26_26 => ?_) (fun c_26_26 => absurd c_26_26 (by decide))
        refine lv_iconst (v := (nI 0)) hx hb dX5_set_41 (by decide) ?_
        exact W.zret (v := (nI 0)) hx hb hr (by first | decide +kernel | assumption | exact kz_narr (by first | assumption | omega)) (fun t ht hW => ⟨⟨(nI 0), (R, C, no, we, tl, un, dn, kn, row), rfl, Or.inl ⟨rfl, fun h9 => hw_23 h9.1, rfl⟩, by rw [ht]; exact hP, hD⟩, hS.F ht⟩) hS.2.2 dX5_set_42

theorem kiX5_lay_X5 : ∀ w ∈ u_ws RX5 TX5 9, w ∈ wsX5_lay := fun w h => List.mem_cons_of_mem _ (List.mem_append_left _ (List.mem_append_left _ (List.mem_append_right _ h)))
set_option maxHeartbeats 4000000 in
set_option maxRecDepth 100000 in
theorem c_T_lay (l : Launch) (D : va_G) (cI cJ cZ : ClassId) (t0 tg td tp b0 l0 : Nat) (no we : Int64) (tl un : Nat) (R C : Nat) (tr dn kn : Nat) (row : Nat → Int32) (f : Int32) (hR1 : 1 ≤ R) (hR2 : R ≤ 6) (hC1 : 1 ≤ C) (hC2 : C ≤ 6) (hRC : R * C ≤ 36) (qd1 : dn ≤ kn) (qd2 : kn ≤ 37) (htl : tl = 1 ∨ tl = 2) (sz : Nat) : kMI l yX5_lay wsX5_lay 4 107 D cI cJ cZ [.ref t0, .int f] [(t0, wTB tg td tp b0 l0 no we tl un), (tg, wGr R C), (td, .inr (0, [.ref tr, .int (nI dn), .int (nI kn)])), (tr, .inl (cI, 37, .inl row))] sz (fun r (u : TS) => (r = -1 ∧ ¬ (∃ k, k < R * C ∧ f = nI k ∧ sAt no we k = 0 ∧ gWho R C no we = 0 ∧ dn < 37) ∧ u = (R, C, no, we, tl, un, dn, kn, row)) ∨ (∃ k, k < R * C ∧ f = nI k ∧ sAt no we k = 0 ∧ gWho R C no we = 0 ∧ dn < 37 ∧ u = (R, C, gPut no k (decide (tl = 1)), gPut we k (decide (tl = 2)), 3 - tl, un, dn + 1, dn + 1, upd row dn (nI k)) ∧ r = nI (if gWho R C (gPut no k (decide (tl = 1))) (gPut we k (decide (tl = 2))) = 0 then 1 else 2))) (fun u : TS => match u with | (Ra, Ca, noa, wea, tla, una, dna, kna, rowa) => [(t0, wTB tg td tp b0 l0 noa wea tla una), (tg, wGr Ra Ca), (td, .inr (0, [.ref tr, .int (nI dna), .int (nI kna)])), (tr, .inl (cI, 37, .inl rowa))]) := by
  refine Met.ofW (cc := cX5_lay) (maxL := 2) (ret := (some .int)) (by decide) rfl ?_
  intro p e s m args below meth c s₁ B hml hv
  obtain ⟨rfl, hsz, hP, ⟨hK, hN⟩, hD0⟩ := hv
  have hx := B.exec
  have hb := B.bytes
  have hr := B.returns
  have hts := atoms_spec (ws := wsX5_lay) B.pre
  have hown : s.vm.findClass RX5 = some m.cls := findClass_of_methodNamed B.named
  have hlocks := B.notSynchronized
  subst hsz
  have hD := hD0.self (sz := s.heap.size)
  generalize hAe : va_A [(t0, wTB tg td tp b0 l0 no we tl un), (tg, wGr R C), (td, .inr (0, [.ref tr, .int (nI dn), .int (nI kn)])), (tr, .inl (cI, 37, .inl row))] s.heap.size = A at hD ⊢
  have hA : ∀ q : Nat, s.heap.size ≤ q → A q := fun q h => by rw [← hAe]; exact Or.inr h
  have hS : va_S A s.heap s.heap [] := va_S.rf
  have hl := lv_entry ([.ref t0, .int f]) (n := 2) (Nat.le_of_ble_eq_true rfl)
  rw [lg_entry_eq]
  generalize (lg_sl ([.ref t0, .int f]) ++ List.replicate (2 - (lg_sl ([.ref t0, .int f])).length) Slot.unset).toArray = ls at hl ⊢
  have hl : lv_has ls 2 [(0, .ref t0), (1, .int f)] := hl
  have hK2 : kK D cI cJ cZ s := ⟨hK, hN⟩
  clear hD0
  have hwl := gWho_le R C no we
  refine lv_aload_n hx hb dX5_lay_0 rfl (lv_at hl 0 rfl) ?_
  refine va_get (D := D) (ci := 5) (v := .ref tg) (C := RX5) (T := TX5) (N := 9) hx hb hts kiX5_lay_X5 hown hK hP 0 rfl rfl 0 (by decide) (hts (.fieldLink RX5 12 "TwoBanks" "grid" "LTwoBanks$Grid;") (List.mem_of_getElem? (i := 1) rfl)) (fun _ h9 => h9) rfl dX5_lay_1 ?_
  refine lv_iload_n hx hb dX5_lay_4 rfl (lv_at hl 1 rfl) ?_
  refine k_calli (wr := [(t0, wTB tg td tp b0 l0 no we tl un), (td, .inr (0, [.ref tr, .int (nI dn), .int (nI kn)])), (tr, .inl (cI, 37, .inl row))]) (w2 := (fun _ : Unit => [(t0, wTB tg td tp b0 l0 no we tl un), (tg, wGr R C), (td, .inr (0, [.ref tr, .int (nI dn), .int (nI kn)])), (tr, .inl (cI, 37, .inl row))])) (va_runV (As := [.int f]) (rest := []) ⟨hx, hb, hml, hown, hts⟩ (c_G_has l D cI cJ cZ tg R C f hRC  s.heap.size) (cwV 1 hts gX5_lay_X2_has rfl rfl rfl (by decide +kernel) ⟨Nat.le_of_ble_eq_true rfl, Nat.le_of_ble_eq_true rfl⟩) (kPV (ci := 2) (q0 := 0) (wc := [(tg, wGr R C)]) hK2 hP hD [1] rfl (by decide) rfl rfl) rfl rfl hl.1 rfl (lv_room (Nat.le_of_ble_eq_true rfl)) dX5_lay_5 ⟨Nat.le_of_ble_eq_true rfl, Nat.le_of_ble_eq_true rfl⟩) hP hD hS hA [1] [0, 2, 3] [0, 3, 1, 2] rfl rfl (by decide) (by decide) (fun _ => rfl) (by decide) (fun r_1 u_1 H locs hw_1 hP hD hS => ?_)
  have hP : va_P D vwCl [(t0, wTB tg td tp b0 l0 no we tl un), (tg, wGr R C), (td, .inr (0, [.ref tr, .int (nI dn), .int (nI kn)])), (tr, .inl (cI, 37, .inl row))] H := hP
  have hD : va_D A [(t0, wTB tg td tp b0 l0 no we tl un), (tg, wGr R C), (td, .inr (0, [.ref tr, .int (nI dn), .int (nI kn)])), (tr, .inl (cI, 37, .inl row))] := hD
  rcases hw_1 with ⟨rfl, hw_1⟩ | ⟨rfl, hw_1⟩
  · obtain ⟨k, hk, rfl⟩ := hw_1
    refine lv_if_eq (tgt := 37) hx hb dX5_lay_8 (by decide) (fun c_8_2 => absurd c_8_2 (by decide)) (fun c_8_2 => ?_)
    refine lv_aload_n hx hb dX5_lay_11 rfl (lv_at hl 0 rfl) ?_
    refine lv_iload_n hx hb dX5_lay_12 rfl (lv_at hl 1 rfl) ?_
    refine k_calli (wr := [(tg, wGr R C), (td, .inr (0, [.ref tr, .int (nI dn), .int (nI kn)])), (tr, .inl (cI, 37, .inl row))]) (w2 := (fun _ : Unit => [(t0, wTB tg td tp b0 l0 no we tl un), (tg, wGr R C), (td, .inr (0, [.ref tr, .int (nI dn), .int (nI kn)])), (tr, .inl (cI, 37, .inl row))])) (va_runV (As := [.int (nI k)]) (rest := []) ⟨hx, hb, hml, hown, hts⟩ (c_T_stoneAt l D cI cJ cZ t0 tg td tp b0 l0 no we tl un k (by omega)  H.size) (cwV 1 hts gX5_lay_X5_stoneAt rfl rfl rfl (by decide +kernel) ⟨Nat.le_of_ble_eq_true rfl, Nat.le_of_ble_eq_true rfl⟩) (kPV (ci := 5) (q0 := 0) (wc := [(t0, wTB tg td tp b0 l0 no we tl un)]) hK2 hP hD [0] rfl (by decide) rfl rfl) rfl rfl hl.1 rfl (lv_room (Nat.le_of_ble_eq_true rfl)) dX5_lay_13 ⟨Nat.le_of_ble_eq_true rfl, Nat.le_of_ble_eq_true rfl⟩) hP hD hS hA [0] [1, 2, 3] [3, 0, 1, 2] rfl rfl (by decide) (by decide) (fun _ => rfl) (by decide) (fun r_3 u_3 H locs hw_3 hP hD hS => ?_)
    have hP : va_P D vwCl [(t0, wTB tg td tp b0 l0 no we tl un), (tg, wGr R C), (td, .inr (0, [.ref tr, .int (nI dn), .int (nI kn)])), (tr, .inl (cI, 37, .inl row))] H := hP
    have hD : va_D A [(t0, wTB tg td tp b0 l0 no we tl un), (tg, wGr R C), (td, .inr (0, [.ref tr, .int (nI dn), .int (nI kn)])), (tr, .inl (cI, 37, .inl row))] := hD
    have hsk := sAt_le no we k
    subst hw_3
    refine kw_if_ne (tgt := 37) hx hb dX5_lay_16 (by decide) (by omega) (fun c_16_4 => ?_) (fun c_16_4 => ?_)
    · refine lv_iconst (v := (-1)) hx hb dX5_lay_37 (by decide) ?_
      exact W.iret (v := (-1)) hx hb hr (fun t ht hW => ⟨⟨(-1), (R, C, no, we, tl, un, dn, kn, row), rfl, Or.inl ⟨rfl, fun ⟨k9, h1, h2, h3, h4, h5⟩ => by have e9 := (nI_eq (by omega) (by omega)).mp h2; subst e9; omega, rfl⟩, by rw [ht]; exact hP, hD⟩, hS.F ht⟩) hS.2.2 dX5_lay_38
    · refine lv_aload_n hx hb dX5_lay_19 rfl (lv_at hl 0 rfl) ?_
      refine k_calli (wr := [(td, .inr (0, [.ref tr, .int (nI dn), .int (nI kn)])), (tr, .inl (cI, 37, .inl row))]) (w2 := (fun _ : Unit => [(t0, wTB tg td tp b0 l0 no we tl un), (tg, wGr R C), (td, .inr (0, [.ref tr, .int (nI dn), .int (nI kn)])), (tr, .inl (cI, 37, .inl row))])) (va_runV (As := []) (rest := []) ⟨hx, hb, hml, hown, hts⟩ (c_T_who l D cI cJ cZ t0 tg td tp b0 l0 no we tl un R C hR1 hR2 hC1 hC2 hRC  H.size) (cwV 0 hts gX5_lay_X5_whoJoined rfl rfl rfl (by decide +kernel) ⟨Nat.le_of_ble_eq_true rfl, Nat.le_of_ble_eq_true rfl⟩) (kPV (ci := 5) (q0 := 0) (wc := [(t0, wTB tg td tp b0 l0 no we tl un), (tg, wGr R C)]) hK2 hP hD [0, 1] rfl (by decide) rfl rfl) rfl rfl hl.1 rfl (lv_room (Nat.le_of_ble_eq_true rfl)) dX5_lay_20 ⟨Nat.le_of_ble_eq_true rfl, Nat.le_of_ble_eq_true rfl⟩) hP hD hS hA [0, 1] [2, 3] [2, 3, 0, 1] rfl rfl (by decide) (by decide) (fun _ => rfl) (by decide) (fun r_5 u_5 H locs hw_5 hP hD hS => ?_)
      have hP : va_P D vwCl [(t0, wTB tg td tp b0 l0 no we tl un), (tg, wGr R C), (td, .inr (0, [.ref tr, .int (nI dn), .int (nI kn)])), (tr, .inl (cI, 37, .inl row))] H := hP
      have hD : va_D A [(t0, wTB tg td tp b0 l0 no we tl un), (tg, wGr R C), (td, .inr (0, [.ref tr, .int (nI dn), .int (nI kn)])), (tr, .inl (cI, 37, .inl row))] := hD
      subst hw_5
      refine kw_if_ne (tgt := 37) hx hb dX5_lay_23 (by decide) (by omega) (fun c_23_6 => ?_) (fun c_23_6 => ?_)
      · refine lv_iconst (v := (-1)) hx hb dX5_lay_37 (by decide) ?_
        exact W.iret (v := (-1)) hx hb hr (fun t ht hW => ⟨⟨(-1), (R, C, no, we, tl, un, dn, kn, row), rfl, Or.inl ⟨rfl, fun ⟨k9, h1, h2, h3, h4, h5⟩ => by have e9 := (nI_eq (by omega) (by omega)).mp h2; subst e9; omega, rfl⟩, by rw [ht]; exact hP, hD⟩, hS.F ht⟩) hS.2.2 dX5_lay_38
      · refine lv_aload_n hx hb dX5_lay_26 rfl (lv_at hl 0 rfl) ?_
        refine va_get (D := D) (ci := 5) (v := .ref td) (C := RX5) (T := TX5) (N := 9) hx hb hts kiX5_lay_X5 hown hK hP 0 rfl rfl 1 (by decide) (hts (.fieldLink RX5 19 "TwoBanks" "deeds" "LTwoBanks$Deeds;") (List.mem_of_getElem? (i := 2) rfl)) (fun _ h9 => h9) rfl dX5_lay_27 ?_
        refine lv_iload_n hx hb dX5_lay_30 rfl (lv_at hl 1 rfl) ?_
        refine k_calli (wr := [(t0, wTB tg td tp b0 l0 no we tl un), (tg, wGr R C)]) (w2 := (fun u : (Nat → Int32) × Nat × Nat => match u with | (ra, da, ka) => [(t0, wTB tg td tp b0 l0 no we tl un), (tg, wGr R C), (td, .inr (0, [.ref tr, .int (nI da), .int (nI ka)])), (tr, .inl (cI, 37, .inl ra))])) (va_runV (As := [.int (nI k)]) (rest := []) ⟨hx, hb, hml, hown, hts⟩ (c_D_add l D cI cJ cZ td tr row dn kn (nI k) qd1 qd2  H.size) (cwV 1 hts gX5_lay_X0_add rfl rfl rfl (by decide +kernel) ⟨Nat.le_of_ble_eq_true rfl, Nat.le_of_ble_eq_true rfl⟩) (kPV (ci := 0) (q0 := 0) (wc := [(td, .inr (0, [.ref tr, .int (nI dn), .int (nI kn)])), (tr, .inl (cI, 37, .inl row))]) hK2 hP hD [2, 3] rfl (by decide) rfl rfl) rfl rfl hl.1 rfl (lv_room (Nat.le_of_ble_eq_true rfl)) dX5_lay_31 ⟨Nat.le_of_ble_eq_true rfl, Nat.le_of_ble_eq_true rfl⟩) hP hD hS hA [2, 3] [0, 1] [0, 1, 2, 3] rfl rfl (by decide) (by decide) (fun ⟨_, _, _⟩ => rfl) (by decide) (fun r_10 u_10 H locs hw_10 hP hD hS => ?_)
        obtain ⟨ra_7, da_8, ka_9⟩ := u_10
        have hP : va_P D vwCl [(t0, wTB tg td tp b0 l0 no we tl un), (tg, wGr R C), (td, .inr (0, [.ref tr, .int (nI da_8), .int (nI ka_9)])), (tr, .inl (cI, 37, .inl ra_7))] H := hP
        have hD : va_D A [(t0, wTB tg td tp b0 l0 no we tl un), (tg, wGr R C), (td, .inr (0, [.ref tr, .int (nI da_8), .int (nI ka_9)])), (tr, .inl (cI, 37, .inl ra_7))] := hD
        rcases hw_10 with ⟨rfl, hw_10⟩ | ⟨rfl, hw_10⟩
        · have e9 := hw_10.2
          simp only [Prod.mk.injEq] at e9
          obtain ⟨e1, e2, e3⟩ := e9
          have e1 := e1.symm
          have e2 := e2.symm
          have e3 := e3.symm
          subst e1 e2 e3
          have hdn : dn < 37 := hw_10.1
          refine lv_if_ne (tgt := 39) hx hb dX5_lay_34 (by decide) (fun c_34_11 => ?_) (fun c_34_11 => absurd c_34_11 (by decide))
          refine lv_aload_n hx hb dX5_lay_39 rfl (lv_at hl 0 rfl) ?_
          refine lv_iload_n hx hb dX5_lay_40 rfl (lv_at hl 1 rfl) ?_
          refine k_callv (wr := [(tg, wGr R C), (td, .inr (0, [.ref tr, .int (nI (dn + 1)), .int (nI (dn + 1))])), (tr, .inl (cI, 37, .inl (upd row dn (nI k))))]) (w2 := (fun _ : Unit => [(t0, wTB tg td tp b0 l0 (gPut no k (decide (tl = 1))) (gPut we k (decide (tl = 2))) (3 - tl) un), (tg, wGr R C), (td, .inr (0, [.ref tr, .int (nI (dn + 1)), .int (nI (dn + 1))])), (tr, .inl (cI, 37, .inl (upd row dn (nI k))))])) (va_runV (As := [.int (nI k)]) (rest := []) ⟨hx, hb, hml, hown, hts⟩ (c_T_layStone l D cI cJ cZ t0 tg td tp b0 l0 no we tl un k (by omega) (by omega)  H.size) (cwV 1 hts gX5_lay_X5_layStone rfl rfl rfl (by decide +kernel) ⟨Nat.le_of_ble_eq_true rfl, Nat.le_of_ble_eq_true rfl⟩) (kPV (ci := 5) (q0 := 0) (wc := [(t0, wTB tg td tp b0 l0 no we tl un)]) hK2 hP hD [0] rfl (by decide) rfl rfl) rfl rfl hl.1 rfl (lv_room (Nat.le_of_ble_eq_true rfl)) dX5_lay_41 ⟨Nat.le_of_ble_eq_true rfl, Nat.le_of_ble_eq_true rfl⟩) hP hD hS hA [0] [1, 2, 3] [3, 0, 1, 2] rfl rfl (by decide) (by decide) (fun _ => rfl) (by decide) (fun u_12 H locs hw_12 hP hD hS => ?_)
          have hP : va_P D vwCl [(t0, wTB tg td tp b0 l0 (gPut no k (decide (tl = 1))) (gPut we k (decide (tl = 2))) (3 - tl) un), (tg, wGr R C), (td, .inr (0, [.ref tr, .int (nI (dn + 1)), .int (nI (dn + 1))])), (tr, .inl (cI, 37, .inl (upd row dn (nI k))))] H := hP
          have hD : va_D A [(t0, wTB tg td tp b0 l0 (gPut no k (decide (tl = 1))) (gPut we k (decide (tl = 2))) (3 - tl) un), (tg, wGr R C), (td, .inr (0, [.ref tr, .int (nI (dn + 1)), .int (nI (dn + 1))])), (tr, .inl (cI, 37, .inl (upd row dn (nI k))))] := hD
          refine lv_aload_n hx hb dX5_lay_44 rfl (lv_at hl 0 rfl) ?_
          refine k_calli (wr := [(td, .inr (0, [.ref tr, .int (nI (dn + 1)), .int (nI (dn + 1))])), (tr, .inl (cI, 37, .inl (upd row dn (nI k))))]) (w2 := (fun _ : Unit => [(t0, wTB tg td tp b0 l0 (gPut no k (decide (tl = 1))) (gPut we k (decide (tl = 2))) (3 - tl) un), (tg, wGr R C), (td, .inr (0, [.ref tr, .int (nI (dn + 1)), .int (nI (dn + 1))])), (tr, .inl (cI, 37, .inl (upd row dn (nI k))))])) (va_runV (As := []) (rest := []) ⟨hx, hb, hml, hown, hts⟩ (c_T_who l D cI cJ cZ t0 tg td tp b0 l0 (gPut no k (decide (tl = 1))) (gPut we k (decide (tl = 2))) (3 - tl) un R C hR1 hR2 hC1 hC2 hRC  H.size) (cwV 0 hts gX5_lay_X5_whoJoined rfl rfl rfl (by decide +kernel) ⟨Nat.le_of_ble_eq_true rfl, Nat.le_of_ble_eq_true rfl⟩) (kPV (ci := 5) (q0 := 0) (wc := [(t0, wTB tg td tp b0 l0 (gPut no k (decide (tl = 1))) (gPut we k (decide (tl = 2))) (3 - tl) un), (tg, wGr R C)]) hK2 hP hD [0, 1] rfl (by decide) rfl rfl) rfl rfl hl.1 rfl (lv_room (Nat.le_of_ble_eq_true rfl)) dX5_lay_45 ⟨Nat.le_of_ble_eq_true rfl, Nat.le_of_ble_eq_true rfl⟩) hP hD hS hA [0, 1] [2, 3] [2, 3, 0, 1] rfl rfl (by decide) (by decide) (fun _ => rfl) (by decide) (fun r_13 u_13 H locs hw_13 hP hD hS => ?_)
          have hP : va_P D vwCl [(t0, wTB tg td tp b0 l0 (gPut no k (decide (tl = 1))) (gPut we k (decide (tl = 2))) (3 - tl) un), (tg, wGr R C), (td, .inr (0, [.ref tr, .int (nI (dn + 1)), .int (nI (dn + 1))])), (tr, .inl (cI, 37, .inl (upd row dn (nI k))))] H := hP
          have hD : va_D A [(t0, wTB tg td tp b0 l0 (gPut no k (decide (tl = 1))) (gPut we k (decide (tl = 2))) (3 - tl) un), (tg, wGr R C), (td, .inr (0, [.ref tr, .int (nI (dn + 1)), .int (nI (dn + 1))])), (tr, .inl (cI, 37, .inl (upd row dn (nI k))))] := hD
          subst hw_13
          have hwl2 := gWho_le R C (gPut no k (decide (tl = 1))) (gPut we k (decide (tl = 2)))
          refine kw_if_ne (tgt := 55) hx hb dX5_lay_48 (by decide) (by omega) (fun c_48_14 => ?_) (fun c_48_14 => ?_)
          · refine lv_iconst (v := (nI 2)) hx hb dX5_lay_55 (by decide) ?_
            exact W.iret (v := (nI 2)) hx hb hr (fun t ht hW => ⟨⟨(nI 2), (R, C, (gPut no k (decide (tl = 1))), (gPut we k (decide (tl = 2))), (3 - tl), un, (dn + 1), (dn + 1), (upd row dn (nI k))), rfl, Or.inr ⟨k, hk, rfl, by omega, by omega, hdn, rfl, by rw [if_neg (by omega)]⟩, by rw [ht]; exact hP, hD⟩, hS.F ht⟩) hS.2.2 dX5_lay_56
          · refine lv_iconst (v := (nI 1)) hx hb dX5_lay_51 (by decide) ?_
            refine lv_goto (tgt := 56) hx hb dX5_lay_52 (by decide) ?_
            exact W.iret (v := (nI 1)) hx hb hr (fun t ht hW => ⟨⟨(nI 1), (R, C, (gPut no k (decide (tl = 1))), (gPut we k (decide (tl = 2))), (3 - tl), un, (dn + 1), (dn + 1), (upd row dn (nI k))), rfl, Or.inr ⟨k, hk, rfl, by omega, by omega, hdn, rfl, by rw [if_pos (by omega)]⟩, by rw [ht]; exact hP, hD⟩, hS.F ht⟩) hS.2.2 dX5_lay_56
        · have e9 := hw_10.2
          simp only [Prod.mk.injEq] at e9
          obtain ⟨e1, e2, e3⟩ := e9
          have e1 := e1.symm
          have e2 := e2.symm
          have e3 := e3.symm
          subst e1 e2 e3
          have hdn : 37 ≤ dn := hw_10.1
          refine lv_if_ne (tgt := 39) hx hb dX5_lay_34 (by decide) (fun c_34_15 => absurd c_34_15 (by decide)) (fun c_34_15 => ?_)
          refine lv_iconst (v := (-1)) hx hb dX5_lay_37 (by decide) ?_
          exact W.iret (v := (-1)) hx hb hr (fun t ht hW => ⟨⟨(-1), (R, C, no, we, tl, un, dn, kn, row), rfl, Or.inl ⟨rfl, fun ⟨k9, h1, h2, h3, h4, h5⟩ => by have e9 := (nI_eq (by omega) (by omega)).mp h2; subst e9; omega, rfl⟩, by rw [ht]; exact hP, hD⟩, hS.F ht⟩) hS.2.2 dX5_lay_38
  · skip
    refine lv_if_eq (tgt := 37) hx hb dX5_lay_8 (by decide) (fun c_8_16 => ?_) (fun c_8_16 => absurd c_8_16 (by decide))
    refine lv_iconst (v := (-1)) hx hb dX5_lay_37 (by decide) ?_
    exact W.iret (v := (-1)) hx hb hr (fun t ht hW => ⟨⟨(-1), (R, C, no, we, tl, un, dn, kn, row), rfl, Or.inl ⟨rfl, fun ⟨k9, h1, h2, _⟩ => hw_1 ⟨k9, h1, h2⟩, rfl⟩, by rw [ht]; exact hP, hD⟩, hS.F ht⟩) hS.2.2 dX5_lay_38

theorem kiX5_swap_X5 : ∀ w ∈ u_ws RX5 TX5 9, w ∈ wsX5_swap := fun w h => List.mem_cons_of_mem _ (List.mem_append_left _ (List.mem_append_left _ (List.mem_append_right _ h)))
set_option maxHeartbeats 4000000 in
set_option maxRecDepth 100000 in
theorem c_T_swap (l : Launch) (D : va_G) (cI cJ cZ : ClassId) (t0 tg td tp b0 l0 : Nat) (no we : Int64) (tl un : Nat) (R C : Nat) (tr dn kn : Nat) (row : Nat → Int32) (hR1 : 1 ≤ R) (hR2 : R ≤ 6) (hC1 : 1 ≤ C) (hC2 : C ≤ 6) (hRC : R * C ≤ 36) (qd1 : dn ≤ kn) (qd2 : kn ≤ 37) (hun : un ≤ 1) (sz : Nat) : kMI l yX5_swap wsX5_swap 4 107 D cI cJ cZ [.ref t0] [(t0, wTB tg td tp b0 l0 no we tl un), (tg, wGr R C), (td, .inr (0, [.ref tr, .int (nI dn), .int (nI kn)])), (tr, .inl (cI, 37, .inl row))] sz (fun r (u : TS) => (r = nI 0 ∧ ¬ (un = 1 ∧ R = C ∧ dn = 1 ∧ gWho R C no we = 0 ∧ dn < 37) ∧ u = (R, C, no, we, tl, un, dn, kn, row)) ∨ (r = nI 1 ∧ (un = 1 ∧ R = C ∧ dn = 1 ∧ gWho R C no we = 0) ∧ u = (R, C, 0, gTu R C no, 1, un, dn + 1, dn + 1, upd row dn (-2)))) (fun u : TS => match u with | (Ra, Ca, noa, wea, tla, una, dna, kna, rowa) => [(t0, wTB tg td tp b0 l0 noa wea tla una), (tg, wGr Ra Ca), (td, .inr (0, [.ref tr, .int (nI dna), .int (nI kna)])), (tr, .inl (cI, 37, .inl rowa))]) := by
  refine Met.ofW (cc := cX5_swap) (maxL := 2) (ret := (some .boolean)) (by decide) rfl ?_
  intro p e s m args below meth c s₁ B hml hv
  obtain ⟨rfl, hsz, hP, ⟨hK, hN⟩, hD0⟩ := hv
  have hx := B.exec
  have hb := B.bytes
  have hr := B.returns
  have hts := atoms_spec (ws := wsX5_swap) B.pre
  have hown : s.vm.findClass RX5 = some m.cls := findClass_of_methodNamed B.named
  have hlocks := B.notSynchronized
  subst hsz
  have hD := hD0.self (sz := s.heap.size)
  generalize hAe : va_A [(t0, wTB tg td tp b0 l0 no we tl un), (tg, wGr R C), (td, .inr (0, [.ref tr, .int (nI dn), .int (nI kn)])), (tr, .inl (cI, 37, .inl row))] s.heap.size = A at hD ⊢
  have hA : ∀ q : Nat, s.heap.size ≤ q → A q := fun q h => by rw [← hAe]; exact Or.inr h
  have hS : va_S A s.heap s.heap [] := va_S.rf
  have hl := lv_entry ([.ref t0]) (n := 2) (Nat.le_of_ble_eq_true rfl)
  rw [lg_entry_eq]
  generalize (lg_sl ([.ref t0]) ++ List.replicate (2 - (lg_sl ([.ref t0])).length) Slot.unset).toArray = ls at hl ⊢
  have hl : lv_has ls 2 [(0, .ref t0)] := hl
  have hK2 : kK D cI cJ cZ s := ⟨hK, hN⟩
  clear hD0
  have hwl := gWho_le R C no we
  refine lv_aload_n hx hb dX5_swap_0 rfl (lv_at hl 0 rfl) ?_
  refine va_get (D := D) (ci := 5) (v := .int (nI un)) (C := RX5) (T := TX5) (N := 9) hx hb hts kiX5_swap_X5 hown hK hP 0 rfl rfl 8 (by decide) (hts (.fieldLink RX5 61 "TwoBanks" "untouched" "Z") (List.mem_of_getElem? (i := 1) rfl)) (fun _ h9 => h9) rfl dX5_swap_1 ?_
  refine kw_if_eq (tgt := 28) hx hb dX5_swap_4 (by decide) (by omega) (fun c_4_1 => ?_) (fun c_4_1 => ?_)
  · refine lv_iconst (v := (nI 0)) hx hb dX5_swap_28 (by decide) ?_
    refine lv_istore_n (lv' := [(1, .int (nI 0)), (0, .ref t0)]) hx hb dX5_swap_29 rfl hl (by decide) rfl (fun ls hl => ?_)
    refine lv_iload_n hx hb dX5_swap_30 rfl (lv_at hl 0 rfl) ?_
    refine lv_if_eq (tgt := 64) hx hb dX5_swap_31 (by decide) (fun c_31_2 => ?_) (fun c_31_2 => absurd c_31_2 (by decide))
    refine lv_iconst (v := (nI 0)) hx hb dX5_swap_64 (by decide) ?_
    exact W.zret (v := (nI 0)) hx hb hr (by first | decide +kernel | assumption | exact kz_narr (by first | assumption | omega)) (fun t ht hW => ⟨⟨(nI 0), (R, C, no, we, tl, un, dn, kn, row), rfl, Or.inl ⟨rfl, by omega, rfl⟩, by rw [ht]; exact hP, hD⟩, hS.F ht⟩) hS.2.2 dX5_swap_65
  · refine lv_aload_n hx hb dX5_swap_7 rfl (lv_at hl 0 rfl) ?_
    refine va_get (D := D) (ci := 5) (v := .ref tg) (C := RX5) (T := TX5) (N := 9) hx hb hts kiX5_swap_X5 hown hK hP 0 rfl rfl 0 (by decide) (hts (.fieldLink RX5 12 "TwoBanks" "grid" "LTwoBanks$Grid;") (List.mem_of_getElem? (i := 2) rfl)) (fun _ h9 => h9) rfl dX5_swap_8 ?_
    refine k_calli (wr := [(t0, wTB tg td tp b0 l0 no we tl un), (td, .inr (0, [.ref tr, .int (nI dn), .int (nI kn)])), (tr, .inl (cI, 37, .inl row))]) (w2 := (fun _ : Unit => [(t0, wTB tg td tp b0 l0 no we tl un), (tg, wGr R C), (td, .inr (0, [.ref tr, .int (nI dn), .int (nI kn)])), (tr, .inl (cI, 37, .inl row))])) (va_runV (As := []) (rest := []) ⟨hx, hb, hml, hown, hts⟩ (c_G_rows l D cI cJ cZ tg R C  s.heap.size) (cwV 0 hts gX5_swap_X2_rows rfl rfl rfl (by decide +kernel) ⟨Nat.le_of_ble_eq_true rfl, Nat.le_of_ble_eq_true rfl⟩) (kPV (ci := 2) (q0 := 0) (wc := [(tg, wGr R C)]) hK2 hP hD [1] rfl (by decide) rfl rfl) rfl rfl hl.1 rfl (lv_room (Nat.le_of_ble_eq_true rfl)) dX5_swap_11 ⟨Nat.le_of_ble_eq_true rfl, Nat.le_of_ble_eq_true rfl⟩) hP hD hS hA [1] [0, 2, 3] [0, 3, 1, 2] rfl rfl (by decide) (by decide) (fun _ => rfl) (by decide) (fun r_3 u_3 H locs hw_3 hP hD hS => ?_)
    have hP : va_P D vwCl [(t0, wTB tg td tp b0 l0 no we tl un), (tg, wGr R C), (td, .inr (0, [.ref tr, .int (nI dn), .int (nI kn)])), (tr, .inl (cI, 37, .inl row))] H := hP
    have hD : va_D A [(t0, wTB tg td tp b0 l0 no we tl un), (tg, wGr R C), (td, .inr (0, [.ref tr, .int (nI dn), .int (nI kn)])), (tr, .inl (cI, 37, .inl row))] := hD
    subst hw_3
    refine lv_aload_n hx hb dX5_swap_14 rfl (lv_at hl 0 rfl) ?_
    refine va_get (D := D) (ci := 5) (v := .ref tg) (C := RX5) (T := TX5) (N := 9) hx hb hts kiX5_swap_X5 hown hK hP 0 rfl rfl 0 (by decide) (hts (.fieldLink RX5 12 "TwoBanks" "grid" "LTwoBanks$Grid;") (List.mem_of_getElem? (i := 2) rfl)) (fun _ h9 => h9) rfl dX5_swap_15 ?_
    refine k_calli (wr := [(t0, wTB tg td tp b0 l0 no we tl un), (td, .inr (0, [.ref tr, .int (nI dn), .int (nI kn)])), (tr, .inl (cI, 37, .inl row))]) (w2 := (fun _ : Unit => [(t0, wTB tg td tp b0 l0 no we tl un), (tg, wGr R C), (td, .inr (0, [.ref tr, .int (nI dn), .int (nI kn)])), (tr, .inl (cI, 37, .inl row))])) (va_runV (As := []) (rest := [.int (nI R)]) ⟨hx, hb, hml, hown, hts⟩ (c_G_columns l D cI cJ cZ tg R C  H.size) (cwV 0 hts gX5_swap_X2_columns rfl rfl rfl (by decide +kernel) ⟨Nat.le_of_ble_eq_true rfl, Nat.le_of_ble_eq_true rfl⟩) (kPV (ci := 2) (q0 := 0) (wc := [(tg, wGr R C)]) hK2 hP hD [1] rfl (by decide) rfl rfl) rfl rfl hl.1 rfl (lv_room (Nat.le_of_ble_eq_true rfl)) dX5_swap_18 ⟨Nat.le_of_ble_eq_true rfl, Nat.le_of_ble_eq_true rfl⟩) hP hD hS hA [1] [0, 2, 3] [0, 3, 1, 2] rfl rfl (by decide) (by decide) (fun _ => rfl) (by decide) (fun r_4 u_4 H locs hw_4 hP hD hS => ?_)
    have hP : va_P D vwCl [(t0, wTB tg td tp b0 l0 no we tl un), (tg, wGr R C), (td, .inr (0, [.ref tr, .int (nI dn), .int (nI kn)])), (tr, .inl (cI, 37, .inl row))] H := hP
    have hD : va_D A [(t0, wTB tg td tp b0 l0 no we tl un), (tg, wGr R C), (td, .inr (0, [.ref tr, .int (nI dn), .int (nI kn)])), (tr, .inl (cI, 37, .inl row))] := hD
    subst hw_4
    refine kw_icmp_ne (tgt := 28) hx hb dX5_swap_21 (by decide) (by omega) (by omega) (fun c_21_5 => ?_) (fun c_21_5 => ?_)
    · refine lv_iconst (v := (nI 0)) hx hb dX5_swap_28 (by decide) ?_
      refine lv_istore_n (lv' := [(1, .int (nI 0)), (0, .ref t0)]) hx hb dX5_swap_29 rfl hl (by decide) rfl (fun ls hl => ?_)
      refine lv_iload_n hx hb dX5_swap_30 rfl (lv_at hl 0 rfl) ?_
      refine lv_if_eq (tgt := 64) hx hb dX5_swap_31 (by decide) (fun c_31_6 => ?_) (fun c_31_6 => absurd c_31_6 (by decide))
      refine lv_iconst (v := (nI 0)) hx hb dX5_swap_64 (by decide) ?_
      exact W.zret (v := (nI 0)) hx hb hr (by first | decide +kernel | assumption | exact kz_narr (by first | assumption | omega)) (fun t ht hW => ⟨⟨(nI 0), (R, C, no, we, tl, un, dn, kn, row), rfl, Or.inl ⟨rfl, by omega, rfl⟩, by rw [ht]; exact hP, hD⟩, hS.F ht⟩) hS.2.2 dX5_swap_65
    · refine lv_iconst (v := (nI 1)) hx hb dX5_swap_24 (by decide) ?_
      refine lv_goto (tgt := 29) hx hb dX5_swap_25 (by decide) ?_
      refine lv_istore_n (lv' := [(1, .int (nI 1)), (0, .ref t0)]) hx hb dX5_swap_29 rfl hl (by decide) rfl (fun ls hl => ?_)
      refine lv_iload_n hx hb dX5_swap_30 rfl (lv_at hl 0 rfl) ?_
      refine lv_if_eq (tgt := 64) hx hb dX5_swap_31 (by decide) (fun c_31_7 => absurd c_31_7 (by decide)) (fun c_31_7 => ?_)
      refine lv_aload_n hx hb dX5_swap_34 rfl (lv_at hl 1 rfl) ?_
      refine va_get (D := D) (ci := 5) (v := .ref td) (C := RX5) (T := TX5) (N := 9) hx hb hts kiX5_swap_X5 hown hK hP 0 rfl rfl 1 (by decide) (hts (.fieldLink RX5 19 "TwoBanks" "deeds" "LTwoBanks$Deeds;") (List.mem_of_getElem? (i := 3) rfl)) (fun _ h9 => h9) rfl dX5_swap_35 ?_
      refine k_calli (wr := [(t0, wTB tg td tp b0 l0 no we tl un), (tg, wGr R C)]) (w2 := (fun _ : Unit => [(t0, wTB tg td tp b0 l0 no we tl un), (tg, wGr R C), (td, .inr (0, [.ref tr, .int (nI dn), .int (nI kn)])), (tr, .inl (cI, 37, .inl row))])) (va_runV (As := []) (rest := []) ⟨hx, hb, hml, hown, hts⟩ (c_D_done l D cI cJ cZ td tr row dn kn  H.size) (cwV 0 hts gX5_swap_X0_done rfl rfl rfl (by decide +kernel) ⟨Nat.le_of_ble_eq_true rfl, Nat.le_of_ble_eq_true rfl⟩) (kPV (ci := 0) (q0 := 0) (wc := [(td, .inr (0, [.ref tr, .int (nI dn), .int (nI kn)])), (tr, .inl (cI, 37, .inl row))]) hK2 hP hD [2, 3] rfl (by decide) rfl rfl) rfl rfl hl.1 rfl (lv_room (Nat.le_of_ble_eq_true rfl)) dX5_swap_38 ⟨Nat.le_of_ble_eq_true rfl, Nat.le_of_ble_eq_true rfl⟩) hP hD hS hA [2, 3] [0, 1] [0, 1, 2, 3] rfl rfl (by decide) (by decide) (fun _ => rfl) (by decide) (fun r_8 u_8 H locs hw_8 hP hD hS => ?_)
      have hP : va_P D vwCl [(t0, wTB tg td tp b0 l0 no we tl un), (tg, wGr R C), (td, .inr (0, [.ref tr, .int (nI dn), .int (nI kn)])), (tr, .inl (cI, 37, .inl row))] H := hP
      have hD : va_D A [(t0, wTB tg td tp b0 l0 no we tl un), (tg, wGr R C), (td, .inr (0, [.ref tr, .int (nI dn), .int (nI kn)])), (tr, .inl (cI, 37, .inl row))] := hD
      subst hw_8
      refine lv_iconst (v := (nI 1)) hx hb dX5_swap_41 (by decide) ?_
      refine kw_icmp_ne (tgt := 64) hx hb dX5_swap_42 (by decide) (by omega) (by omega) (fun c_42_9 => ?_) (fun c_42_9 => ?_)
      · refine lv_iconst (v := (nI 0)) hx hb dX5_swap_64 (by decide) ?_
        exact W.zret (v := (nI 0)) hx hb hr (by first | decide +kernel | assumption | exact kz_narr (by first | assumption | omega)) (fun t ht hW => ⟨⟨(nI 0), (R, C, no, we, tl, un, dn, kn, row), rfl, Or.inl ⟨rfl, by omega, rfl⟩, by rw [ht]; exact hP, hD⟩, hS.F ht⟩) hS.2.2 dX5_swap_65
      · refine lv_aload_n hx hb dX5_swap_45 rfl (lv_at hl 1 rfl) ?_
        refine k_calli (wr := [(td, .inr (0, [.ref tr, .int (nI dn), .int (nI kn)])), (tr, .inl (cI, 37, .inl row))]) (w2 := (fun _ : Unit => [(t0, wTB tg td tp b0 l0 no we tl un), (tg, wGr R C), (td, .inr (0, [.ref tr, .int (nI dn), .int (nI kn)])), (tr, .inl (cI, 37, .inl row))])) (va_runV (As := []) (rest := []) ⟨hx, hb, hml, hown, hts⟩ (c_T_who l D cI cJ cZ t0 tg td tp b0 l0 no we tl un R C hR1 hR2 hC1 hC2 hRC  H.size) (cwV 0 hts gX5_swap_X5_whoJoined rfl rfl rfl (by decide +kernel) ⟨Nat.le_of_ble_eq_true rfl, Nat.le_of_ble_eq_true rfl⟩) (kPV (ci := 5) (q0 := 0) (wc := [(t0, wTB tg td tp b0 l0 no we tl un), (tg, wGr R C)]) hK2 hP hD [0, 1] rfl (by decide) rfl rfl) rfl rfl hl.1 rfl (lv_room (Nat.le_of_ble_eq_true rfl)) dX5_swap_46 ⟨Nat.le_of_ble_eq_true rfl, Nat.le_of_ble_eq_true rfl⟩) hP hD hS hA [0, 1] [2, 3] [2, 3, 0, 1] rfl rfl (by decide) (by decide) (fun _ => rfl) (by decide) (fun r_10 u_10 H locs hw_10 hP hD hS => ?_)
        have hP : va_P D vwCl [(t0, wTB tg td tp b0 l0 no we tl un), (tg, wGr R C), (td, .inr (0, [.ref tr, .int (nI dn), .int (nI kn)])), (tr, .inl (cI, 37, .inl row))] H := hP
        have hD : va_D A [(t0, wTB tg td tp b0 l0 no we tl un), (tg, wGr R C), (td, .inr (0, [.ref tr, .int (nI dn), .int (nI kn)])), (tr, .inl (cI, 37, .inl row))] := hD
        subst hw_10
        refine kw_if_ne (tgt := 64) hx hb dX5_swap_49 (by decide) (by omega) (fun c_49_11 => ?_) (fun c_49_11 => ?_)
        · refine lv_iconst (v := (nI 0)) hx hb dX5_swap_64 (by decide) ?_
          exact W.zret (v := (nI 0)) hx hb hr (by first | decide +kernel | assumption | exact kz_narr (by first | assumption | omega)) (fun t ht hW => ⟨⟨(nI 0), (R, C, no, we, tl, un, dn, kn, row), rfl, Or.inl ⟨rfl, by omega, rfl⟩, by rw [ht]; exact hP, hD⟩, hS.F ht⟩) hS.2.2 dX5_swap_65
        · refine lv_aload_n hx hb dX5_swap_52 rfl (lv_at hl 1 rfl) ?_
          refine va_get (D := D) (ci := 5) (v := .ref td) (C := RX5) (T := TX5) (N := 9) hx hb hts kiX5_swap_X5 hown hK hP 0 rfl rfl 1 (by decide) (hts (.fieldLink RX5 19 "TwoBanks" "deeds" "LTwoBanks$Deeds;") (List.mem_of_getElem? (i := 3) rfl)) (fun _ h9 => h9) rfl dX5_swap_53 ?_
          refine lv_bipush (v := (-2)) hx hb dX5_swap_56 (by decide) ?_
          refine k_calli (wr := [(t0, wTB tg td tp b0 l0 no we tl un), (tg, wGr R C)]) (w2 := (fun u : (Nat → Int32) × Nat × Nat => match u with | (ra, da, ka) => [(t0, wTB tg td tp b0 l0 no we tl un), (tg, wGr R C), (td, .inr (0, [.ref tr, .int (nI da), .int (nI ka)])), (tr, .inl (cI, 37, .inl ra))])) (va_runV (As := [.int (-2)]) (rest := []) ⟨hx, hb, hml, hown, hts⟩ (c_D_add l D cI cJ cZ td tr row dn kn (-2) qd1 qd2  H.size) (cwV 1 hts gX5_swap_X0_add rfl rfl rfl (by decide +kernel) ⟨Nat.le_of_ble_eq_true rfl, Nat.le_of_ble_eq_true rfl⟩) (kPV (ci := 0) (q0 := 0) (wc := [(td, .inr (0, [.ref tr, .int (nI dn), .int (nI kn)])), (tr, .inl (cI, 37, .inl row))]) hK2 hP hD [2, 3] rfl (by decide) rfl rfl) rfl rfl hl.1 rfl (lv_room (Nat.le_of_ble_eq_true rfl)) dX5_swap_58 ⟨Nat.le_of_ble_eq_true rfl, Nat.le_of_ble_eq_true rfl⟩) hP hD hS hA [2, 3] [0, 1] [0, 1, 2, 3] rfl rfl (by decide) (by decide) (fun ⟨_, _, _⟩ => rfl) (by decide) (fun r_15 u_15 H locs hw_15 hP hD hS => ?_)
          obtain ⟨ra_12, da_13, ka_14⟩ := u_15
          have hP : va_P D vwCl [(t0, wTB tg td tp b0 l0 no we tl un), (tg, wGr R C), (td, .inr (0, [.ref tr, .int (nI da_13), .int (nI ka_14)])), (tr, .inl (cI, 37, .inl ra_12))] H := hP
          have hD : va_D A [(t0, wTB tg td tp b0 l0 no we tl un), (tg, wGr R C), (td, .inr (0, [.ref tr, .int (nI da_13), .int (nI ka_14)])), (tr, .inl (cI, 37, .inl ra_12))] := hD
          rcases hw_15 with ⟨rfl, hw_15⟩ | ⟨rfl, hw_15⟩
          · have e9 := hw_15.2
            simp only [Prod.mk.injEq] at e9
            obtain ⟨e1, e2, e3⟩ := e9
            have e1 := e1.symm
            have e2 := e2.symm
            have e3 := e3.symm
            subst e1 e2 e3
            have hdn : dn < 37 := hw_15.1
            refine lv_if_ne (tgt := 66) hx hb dX5_swap_61 (by decide) (fun c_61_16 => ?_) (fun c_61_16 => absurd c_61_16 (by decide))
            refine lv_aload_n hx hb dX5_swap_66 rfl (lv_at hl 1 rfl) ?_
            refine k_callv (wr := [(td, .inr (0, [.ref tr, .int (nI (dn + 1)), .int (nI (dn + 1))])), (tr, .inl (cI, 37, .inl (upd row dn (-2))))]) (w2 := (fun _ : Unit => [(t0, wTB tg td tp b0 l0 0 (gTu R C no) 1 un), (tg, wGr R C), (td, .inr (0, [.ref tr, .int (nI (dn + 1)), .int (nI (dn + 1))])), (tr, .inl (cI, 37, .inl (upd row dn (-2))))])) (va_runV (As := []) (rest := []) ⟨hx, hb, hml, hown, hts⟩ (c_T_takeOver l D cI cJ cZ t0 tg td tp b0 l0 no we tl un R C hR1 hR2 hC1 hC2 hRC  H.size) (cwV 0 hts gX5_swap_X5_takeOver rfl rfl rfl (by decide +kernel) ⟨Nat.le_of_ble_eq_true rfl, Nat.le_of_ble_eq_true rfl⟩) (kPV (ci := 5) (q0 := 0) (wc := [(t0, wTB tg td tp b0 l0 no we tl un), (tg, wGr R C)]) hK2 hP hD [0, 1] rfl (by decide) rfl rfl) rfl rfl hl.1 rfl (lv_room (Nat.le_of_ble_eq_true rfl)) dX5_swap_67 ⟨Nat.le_of_ble_eq_true rfl, Nat.le_of_ble_eq_true rfl⟩) hP hD hS hA [0, 1] [2, 3] [2, 3, 0, 1] rfl rfl (by decide) (by decide) (fun _ => rfl) (by decide) (fun u_17 H locs hw_17 hP hD hS => ?_)
            have hP : va_P D vwCl [(t0, wTB tg td tp b0 l0 0 (gTu R C no) 1 un), (tg, wGr R C), (td, .inr (0, [.ref tr, .int (nI (dn + 1)), .int (nI (dn + 1))])), (tr, .inl (cI, 37, .inl (upd row dn (-2))))] H := hP
            have hD : va_D A [(t0, wTB tg td tp b0 l0 0 (gTu R C no) 1 un), (tg, wGr R C), (td, .inr (0, [.ref tr, .int (nI (dn + 1)), .int (nI (dn + 1))])), (tr, .inl (cI, 37, .inl (upd row dn (-2))))] := hD
            refine lv_iconst (v := (nI 1)) hx hb dX5_swap_70 (by decide) ?_
            exact W.zret (v := (nI 1)) hx hb hr (by first | decide +kernel | assumption | exact kz_narr (by first | assumption | omega)) (fun t ht hW => ⟨⟨(nI 1), (R, C, 0, (gTu R C no), 1, un, (dn + 1), (dn + 1), (upd row dn (-2))), rfl, Or.inr ⟨rfl, ⟨by omega, by omega, by omega, by omega⟩, rfl⟩, by rw [ht]; exact hP, hD⟩, hS.F ht⟩) hS.2.2 dX5_swap_71
          · have e9 := hw_15.2
            simp only [Prod.mk.injEq] at e9
            obtain ⟨e1, e2, e3⟩ := e9
            have e1 := e1.symm
            have e2 := e2.symm
            have e3 := e3.symm
            subst e1 e2 e3
            have hdn : 37 ≤ dn := hw_15.1
            refine lv_if_ne (tgt := 66) hx hb dX5_swap_61 (by decide) (fun c_61_18 => absurd c_61_18 (by decide)) (fun c_61_18 => ?_)
            refine lv_iconst (v := (nI 0)) hx hb dX5_swap_64 (by decide) ?_
            exact W.zret (v := (nI 0)) hx hb hr (by first | decide +kernel | assumption | exact kz_narr (by first | assumption | omega)) (fun t ht hW => ⟨⟨(nI 0), (R, C, no, we, tl, un, dn, kn, row), rfl, Or.inl ⟨rfl, by omega, rfl⟩, by rw [ht]; exact hP, hD⟩, hS.F ht⟩) hS.2.2 dX5_swap_65

theorem kiX5_undo_X5 : ∀ w ∈ u_ws RX5 TX5 9, w ∈ wsX5_undo := fun w h => List.mem_cons_of_mem _ (List.mem_append_left _ (List.mem_append_left _ (List.mem_append_right _ h)))
set_option maxHeartbeats 4000000 in
set_option maxRecDepth 100000 in
theorem c_T_undo (l : Launch) (D : va_G) (cI cJ cZ : ClassId) (t0 tg td tp b0 l0 : Nat) (no we : Int64) (tl un : Nat) (R C : Nat) (tr dn kn : Nat) (row : Nat → Int32) (hR1 : 1 ≤ R) (hR2 : R ≤ 6) (hC1 : 1 ≤ C) (hC2 : C ≤ 6) (hRC : R * C ≤ 36) (qd1 : dn ≤ kn) (qd2 : kn ≤ 37) (htl : tl = 1 ∨ tl = 2) (hde : ∀ j, j < kn → row j = -2 ∨ ∃ k, k < R * C ∧ row j = nI k) (sz : Nat) : kMI l yX5_undo wsX5_undo 3 66 D cI cJ cZ [.ref t0] [(t0, wTB tg td tp b0 l0 no we tl un), (tg, wGr R C), (td, .inr (0, [.ref tr, .int (nI dn), .int (nI kn)])), (tr, .inl (cI, 37, .inl row))] sz (fun r (u : TS) => (r = nI 0 ∧ dn = 0 ∧ u = (R, C, no, we, tl, un, dn, kn, row)) ∨ (r = nI 1 ∧ 0 < dn ∧ row (dn - 1) = -2 ∧ u = (R, C, gTu R C we, 0, 2, un, dn - 1, kn, row)) ∨ (∃ k, r = nI 1 ∧ 0 < dn ∧ k < R * C ∧ row (dn - 1) = nI k ∧ u = (R, C, gPut no k (decide (0 = 1)), gPut we k (decide (0 = 2)), 3 - tl, un, dn - 1, kn, row))) (fun u : TS => match u with | (Ra, Ca, noa, wea, tla, una, dna, kna, rowa) => [(t0, wTB tg td tp b0 l0 noa wea tla una), (tg, wGr Ra Ca), (td, .inr (0, [.ref tr, .int (nI dna), .int (nI kna)])), (tr, .inl (cI, 37, .inl rowa))]) := by
  refine Met.ofW (cc := cX5_undo) (maxL := 2) (ret := (some .boolean)) (by decide) rfl ?_
  intro p e s m args below meth c s₁ B hml hv
  obtain ⟨rfl, hsz, hP, ⟨hK, hN⟩, hD0⟩ := hv
  have hx := B.exec
  have hb := B.bytes
  have hr := B.returns
  have hts := atoms_spec (ws := wsX5_undo) B.pre
  have hown : s.vm.findClass RX5 = some m.cls := findClass_of_methodNamed B.named
  have hlocks := B.notSynchronized
  subst hsz
  have hD := hD0.self (sz := s.heap.size)
  generalize hAe : va_A [(t0, wTB tg td tp b0 l0 no we tl un), (tg, wGr R C), (td, .inr (0, [.ref tr, .int (nI dn), .int (nI kn)])), (tr, .inl (cI, 37, .inl row))] s.heap.size = A at hD ⊢
  have hA : ∀ q : Nat, s.heap.size ≤ q → A q := fun q h => by rw [← hAe]; exact Or.inr h
  have hS : va_S A s.heap s.heap [] := va_S.rf
  have hl := lv_entry ([.ref t0]) (n := 2) (Nat.le_of_ble_eq_true rfl)
  rw [lg_entry_eq]
  generalize (lg_sl ([.ref t0]) ++ List.replicate (2 - (lg_sl ([.ref t0])).length) Slot.unset).toArray = ls at hl ⊢
  have hl : lv_has ls 2 [(0, .ref t0)] := hl
  have hK2 : kK D cI cJ cZ s := ⟨hK, hN⟩
  clear hD0
  refine lv_aload_n hx hb dX5_undo_0 rfl (lv_at hl 0 rfl) ?_
  refine va_get (D := D) (ci := 5) (v := .ref td) (C := RX5) (T := TX5) (N := 9) hx hb hts kiX5_undo_X5 hown hK hP 0 rfl rfl 1 (by decide) (hts (.fieldLink RX5 19 "TwoBanks" "deeds" "LTwoBanks$Deeds;") (List.mem_of_getElem? (i := 1) rfl)) (fun _ h9 => h9) rfl dX5_undo_1 ?_
  refine k_calli (wr := [(t0, wTB tg td tp b0 l0 no we tl un), (tg, wGr R C)]) (w2 := (fun da : Nat => [(t0, wTB tg td tp b0 l0 no we tl un), (tg, wGr R C), (td, .inr (0, [.ref tr, .int (nI da), .int (nI kn)])), (tr, .inl (cI, 37, .inl row))])) (va_runV (As := []) (rest := []) ⟨hx, hb, hml, hown, hts⟩ (c_D_back l D cI cJ cZ td tr row dn kn qd1 qd2  s.heap.size) (cwV 0 hts gX5_undo_X0_back rfl rfl rfl (by decide +kernel) ⟨Nat.le_of_ble_eq_true rfl, Nat.le_of_ble_eq_true rfl⟩) (kPV (ci := 0) (q0 := 0) (wc := [(td, .inr (0, [.ref tr, .int (nI dn), .int (nI kn)])), (tr, .inl (cI, 37, .inl row))]) hK2 hP hD [2, 3] rfl (by decide) rfl rfl) rfl rfl hl.1 rfl (lv_room (Nat.le_of_ble_eq_true rfl)) dX5_undo_4 ⟨Nat.le_of_ble_eq_true rfl, Nat.le_of_ble_eq_true rfl⟩) hP hD hS hA [2, 3] [0, 1] [0, 1, 2, 3] rfl rfl (by decide) (by decide) (fun _ => rfl) (by decide) (fun r_2 u_2 H locs hw_2 hP hD hS => ?_)
  obtain ⟨da_1, rfl⟩ : ∃ z, z = u_2 := ⟨_, rfl⟩
  have hP : va_P D vwCl [(t0, wTB tg td tp b0 l0 no we tl un), (tg, wGr R C), (td, .inr (0, [.ref tr, .int (nI da_1), .int (nI kn)])), (tr, .inl (cI, 37, .inl row))] H := hP
  have hD : va_D A [(t0, wTB tg td tp b0 l0 no we tl un), (tg, wGr R C), (td, .inr (0, [.ref tr, .int (nI da_1), .int (nI kn)])), (tr, .inl (cI, 37, .inl row))] := hD
  rcases hw_2 with hw_2 | hw_2
  · obtain ⟨h0, e1, e2⟩ := hw_2
    subst e1
    have e2 := e2.symm
    subst e2
    refine lv_istore_n (lv' := [(1, .int (-1)), (0, .ref t0)]) hx hb dX5_undo_7 rfl hl (by decide) rfl (fun ls hl => ?_)
    refine lv_iload_n hx hb dX5_undo_8 rfl (lv_at hl 0 rfl) ?_
    refine lv_iconst (v := (-1)) hx hb dX5_undo_9 (by decide) ?_
    refine lv_icmp_ne (tgt := 15) hx hb dX5_undo_10 (by decide) (fun c_10_3 => absurd c_10_3 (by decide)) (fun c_10_3 => ?_)
    refine lv_iconst (v := (nI 0)) hx hb dX5_undo_13 (by decide) ?_
    exact W.zret (v := (nI 0)) hx hb hr (by first | decide +kernel | assumption | exact kz_narr (by first | assumption | omega)) (fun t ht hW => ⟨⟨(nI 0), (R, C, no, we, tl, un, dn, kn, row), rfl, Or.inl ⟨rfl, h0, rfl⟩, by rw [ht]; exact hP, hD⟩, hS.F ht⟩) hS.2.2 dX5_undo_14
  · obtain ⟨h0, e1, e2⟩ := hw_2
    have e2 := e2.symm
    subst e2
    have hq9 := hde (dn - 1) (by omega)
    rcases hq9 with hq9 | ⟨k, hk, hq9⟩
    · rw [hq9] at e1
      subst e1
      refine lv_istore_n (lv' := [(1, .int (-2)), (0, .ref t0)]) hx hb dX5_undo_7 rfl hl (by decide) rfl (fun ls hl => ?_)
      refine lv_iload_n hx hb dX5_undo_8 rfl (lv_at hl 0 rfl) ?_
      refine lv_iconst (v := (-1)) hx hb dX5_undo_9 (by decide) ?_
      refine lv_icmp_ne (tgt := 15) hx hb dX5_undo_10 (by decide) (fun c_10_4 => ?_) (fun c_10_4 => absurd c_10_4 (by decide))
      refine lv_iload_n hx hb dX5_undo_15 rfl (lv_at hl 0 rfl) ?_
      refine lv_bipush (v := (-2)) hx hb dX5_undo_16 (by decide) ?_
      refine lv_icmp_ne (tgt := 28) hx hb dX5_undo_18 (by decide) (fun c_18_5 => absurd c_18_5 (by decide)) (fun c_18_5 => ?_)
      refine lv_aload_n hx hb dX5_undo_21 rfl (lv_at hl 1 rfl) ?_
      refine k_callv (wr := [(td, .inr (0, [.ref tr, .int (nI (dn - 1)), .int (nI kn)])), (tr, .inl (cI, 37, .inl row))]) (w2 := (fun _ : Unit => [(t0, wTB tg td tp b0 l0 (gTu R C we) 0 2 un), (tg, wGr R C), (td, .inr (0, [.ref tr, .int (nI (dn - 1)), .int (nI kn)])), (tr, .inl (cI, 37, .inl row))])) (va_runV (As := []) (rest := []) ⟨hx, hb, hml, hown, hts⟩ (c_T_giveBack l D cI cJ cZ t0 tg td tp b0 l0 no we tl un R C hR1 hR2 hC1 hC2 hRC  H.size) (cwV 0 hts gX5_undo_X5_giveBack rfl rfl rfl (by decide +kernel) ⟨Nat.le_of_ble_eq_true rfl, Nat.le_of_ble_eq_true rfl⟩) (kPV (ci := 5) (q0 := 0) (wc := [(t0, wTB tg td tp b0 l0 no we tl un), (tg, wGr R C)]) hK2 hP hD [0, 1] rfl (by decide) rfl rfl) rfl rfl hl.1 rfl (lv_room (Nat.le_of_ble_eq_true rfl)) dX5_undo_22 ⟨Nat.le_of_ble_eq_true rfl, Nat.le_of_ble_eq_true rfl⟩) hP hD hS hA [0, 1] [2, 3] [2, 3, 0, 1] rfl rfl (by decide) (by decide) (fun _ => rfl) (by decide) (fun u_6 H locs hw_6 hP hD hS => ?_)
      have hP : va_P D vwCl [(t0, wTB tg td tp b0 l0 (gTu R C we) 0 2 un), (tg, wGr R C), (td, .inr (0, [.ref tr, .int (nI (dn - 1)), .int (nI kn)])), (tr, .inl (cI, 37, .inl row))] H := hP
      have hD : va_D A [(t0, wTB tg td tp b0 l0 (gTu R C we) 0 2 un), (tg, wGr R C), (td, .inr (0, [.ref tr, .int (nI (dn - 1)), .int (nI kn)])), (tr, .inl (cI, 37, .inl row))] := hD
      refine lv_goto (tgt := 45) hx hb dX5_undo_25 (by decide) ?_
      refine lv_iconst (v := (nI 1)) hx hb dX5_undo_45 (by decide) ?_
      exact W.zret (v := (nI 1)) hx hb hr (by first | decide +kernel | assumption | exact kz_narr (by first | assumption | omega)) (fun t ht hW => ⟨⟨(nI 1), (R, C, (gTu R C we), 0, 2, un, (dn - 1), kn, row), rfl, Or.inr (Or.inl ⟨rfl, h0, hq9, rfl⟩), by rw [ht]; exact hP, hD⟩, hS.F ht⟩) hS.2.2 dX5_undo_46
    · rw [hq9] at e1
      subst e1
      refine lv_istore_n (lv' := [(1, .int (nI k)), (0, .ref t0)]) hx hb dX5_undo_7 rfl hl (by decide) rfl (fun ls hl => ?_)
      refine lv_iload_n hx hb dX5_undo_8 rfl (lv_at hl 0 rfl) ?_
      refine lv_iconst (v := (-1)) hx hb dX5_undo_9 (by decide) ?_
      refine lv_icmp_ne (tgt := 15) hx hb dX5_undo_10 (by decide) (fun c_10_7 => ?_) (fun c_10_7 => absurd c_10_7 (k_ne_m (by omega) (by decide)))
      refine lv_iload_n hx hb dX5_undo_15 rfl (lv_at hl 0 rfl) ?_
      refine lv_bipush (v := (-2)) hx hb dX5_undo_16 (by decide) ?_
      refine lv_icmp_ne (tgt := 28) hx hb dX5_undo_18 (by decide) (fun c_18_8 => ?_) (fun c_18_8 => absurd c_18_8 (k_ne_m (by omega) (by decide)))
      refine lv_aload_n hx hb dX5_undo_28 rfl (lv_at hl 1 rfl) ?_
      refine lv_iload_n hx hb dX5_undo_29 rfl (lv_at hl 0 rfl) ?_
      refine lv_iconst (v := (nI 0)) hx hb dX5_undo_30 (by decide) ?_
      refine k_callv (wr := [(tg, wGr R C), (td, .inr (0, [.ref tr, .int (nI (dn - 1)), .int (nI kn)])), (tr, .inl (cI, 37, .inl row))]) (w2 := (fun _ : Unit => [(t0, wTB tg td tp b0 l0 (gPut no k (decide (0 = 1))) (gPut we k (decide (0 = 2))) tl un), (tg, wGr R C), (td, .inr (0, [.ref tr, .int (nI (dn - 1)), .int (nI kn)])), (tr, .inl (cI, 37, .inl row))])) (va_runV (As := [.int (nI k), .int (nI 0)]) (rest := []) ⟨hx, hb, hml, hown, hts⟩ (c_T_put l D cI cJ cZ t0 tg td tp b0 l0 no we tl un k 0 (by omega) (by omega)  H.size) (cwV 2 hts gX5_undo_X5_put rfl rfl rfl (by decide +kernel) ⟨Nat.le_of_ble_eq_true rfl, Nat.le_of_ble_eq_true rfl⟩) (kPV (ci := 5) (q0 := 0) (wc := [(t0, wTB tg td tp b0 l0 no we tl un)]) hK2 hP hD [0] rfl (by decide) rfl rfl) rfl rfl hl.1 rfl (lv_room (Nat.le_of_ble_eq_true rfl)) dX5_undo_31 ⟨Nat.le_of_ble_eq_true rfl, Nat.le_of_ble_eq_true rfl⟩) hP hD hS hA [0] [1, 2, 3] [3, 0, 1, 2] rfl rfl (by decide) (by decide) (fun _ => rfl) (by decide) (fun u_9 H locs hw_9 hP hD hS => ?_)
      have hP : va_P D vwCl [(t0, wTB tg td tp b0 l0 (gPut no k (decide (0 = 1))) (gPut we k (decide (0 = 2))) tl un), (tg, wGr R C), (td, .inr (0, [.ref tr, .int (nI (dn - 1)), .int (nI kn)])), (tr, .inl (cI, 37, .inl row))] H := hP
      have hD : va_D A [(t0, wTB tg td tp b0 l0 (gPut no k (decide (0 = 1))) (gPut we k (decide (0 = 2))) tl un), (tg, wGr R C), (td, .inr (0, [.ref tr, .int (nI (dn - 1)), .int (nI kn)])), (tr, .inl (cI, 37, .inl row))] := hD
      refine lv_aload_n hx hb dX5_undo_34 rfl (lv_at hl 1 rfl) ?_
      refine lv_aload_n hx hb dX5_undo_35 rfl (lv_at hl 1 rfl) ?_
      refine va_get (D := D) (ci := 5) (v := .int (nI tl)) (C := RX5) (T := TX5) (N := 9) hx hb hts kiX5_undo_X5 hown hK hP 0 rfl rfl 7 (by decide) (hts (.fieldLink RX5 57 "TwoBanks" "toLay" "I") (List.mem_of_getElem? (i := 2) rfl)) (fun _ h9 => h9) rfl dX5_undo_36 ?_
      refine k_calli (wr := [(t0, wTB tg td tp b0 l0 (gPut no k (decide (0 = 1))) (gPut we k (decide (0 = 2))) tl un), (tg, wGr R C), (td, .inr (0, [.ref tr, .int (nI (dn - 1)), .int (nI kn)])), (tr, .inl (cI, 37, .inl row))]) (w2 := (fun _ : Unit => [(t0, wTB tg td tp b0 l0 (gPut no k (decide (0 = 1))) (gPut we k (decide (0 = 2))) tl un), (tg, wGr R C), (td, .inr (0, [.ref tr, .int (nI (dn - 1)), .int (nI kn)])), (tr, .inl (cI, 37, .inl row))])) (va_runS (As := [.int (nI tl)]) (rest := [.ref t0]) ⟨hx, hb, hml, hown, hts⟩ (c_other_n l D cI cJ cZ tl (by omega)  H.size) (va_cwS 1 hts gX5_undo_X5_other rfl rfl rfl (by decide +kernel) ⟨Nat.le_of_ble_eq_true rfl, Nat.le_of_ble_eq_true rfl⟩) (kPS (wc := []) hK2 hP hD [] rfl (by decide)) rfl rfl hl.1 rfl (lv_room (Nat.le_of_ble_eq_true rfl)) dX5_undo_39 ⟨Nat.le_of_ble_eq_true rfl, Nat.le_of_ble_eq_true rfl⟩) hP hD hS hA [] [0, 1, 2, 3] [0, 1, 2, 3] rfl rfl (by decide) (by decide) (fun _ => rfl) (by decide) (fun r_10 u_10 H locs hw_10 hP hD hS => ?_)
      have hP : va_P D vwCl [(t0, wTB tg td tp b0 l0 (gPut no k (decide (0 = 1))) (gPut we k (decide (0 = 2))) tl un), (tg, wGr R C), (td, .inr (0, [.ref tr, .int (nI (dn - 1)), .int (nI kn)])), (tr, .inl (cI, 37, .inl row))] H := hP
      have hD : va_D A [(t0, wTB tg td tp b0 l0 (gPut no k (decide (0 = 1))) (gPut we k (decide (0 = 2))) tl un), (tg, wGr R C), (td, .inr (0, [.ref tr, .int (nI (dn - 1)), .int (nI kn)])), (tr, .inl (cI, 37, .inl row))] := hD
      subst hw_10
      refine va_put (D := D) (ci := 5) (v := .int (nI (3 - tl))) (ty := .int) (C := RX5) (T := TX5) (N := 9) hx hb hts kiX5_undo_X5 tyX5 tyX5_ok nmX5 hown hK hP hD hS 0 rfl rfl 7 (by decide) (hts (.fieldLink RX5 57 "TwoBanks" "toLay" "I") (List.mem_of_getElem? (i := 2) rfl)) (fun _ h9 => h9) rfl  (by decide +kernel) rfl rfl (Nat.le_of_ble_eq_true rfl) dX5_undo_42 (fun H locs hP hD hS => ?_)
      have hP : va_P D vwCl [(t0, .inr (5, [.ref tg, .ref td, .ref tp, .ref b0, .ref l0, .long (gPut no k (decide (0 = 1))), .long (gPut we k (decide (0 = 2))), .int (nI (3 - tl)), .int (nI un)])), (tg, wGr R C), (td, .inr (0, [.ref tr, .int (nI (dn - 1)), .int (nI kn)])), (tr, .inl (cI, 37, .inl row))] H := hP
      have hD : va_D A [(t0, .inr (5, [.ref tg, .ref td, .ref tp, .ref b0, .ref l0, .long (gPut no k (decide (0 = 1))), .long (gPut we k (decide (0 = 2))), .int (nI (3 - tl)), .int (nI un)])), (tg, wGr R C), (td, .inr (0, [.ref tr, .int (nI (dn - 1)), .int (nI kn)])), (tr, .inl (cI, 37, .inl row))] := hD
      refine lv_iconst (v := (nI 1)) hx hb dX5_undo_45 (by decide) ?_
      exact W.zret (v := (nI 1)) hx hb hr (by first | decide +kernel | assumption | exact kz_narr (by first | assumption | omega)) (fun t ht hW => ⟨⟨(nI 1), (R, C, (gPut no k (decide (0 = 1))), (gPut we k (decide (0 = 2))), (3 - tl), un, (dn - 1), kn, row), rfl, Or.inr (Or.inr ⟨k, rfl, h0, hk, hq9, rfl⟩), by rw [ht]; exact hP, hD⟩, hS.F ht⟩) hS.2.2 dX5_undo_46

theorem kiX5_redo_X5 : ∀ w ∈ u_ws RX5 TX5 9, w ∈ wsX5_redo := fun w h => List.mem_cons_of_mem _ (List.mem_append_left _ (List.mem_append_left _ (List.mem_append_right _ h)))
set_option maxHeartbeats 4000000 in
set_option maxRecDepth 100000 in
theorem c_T_redo (l : Launch) (D : va_G) (cI cJ cZ : ClassId) (t0 tg td tp b0 l0 : Nat) (no we : Int64) (tl un : Nat) (R C : Nat) (tr dn kn : Nat) (row : Nat → Int32) (hR1 : 1 ≤ R) (hR2 : R ≤ 6) (hC1 : 1 ≤ C) (hC2 : C ≤ 6) (hRC : R * C ≤ 36) (qd1 : dn ≤ kn) (qd2 : kn ≤ 37) (htl : tl = 1 ∨ tl = 2) (hde : ∀ j, j < kn → row j = -2 ∨ ∃ k, k < R * C ∧ row j = nI k) (sz : Nat) : kMI l yX5_redo wsX5_redo 3 66 D cI cJ cZ [.ref t0] [(t0, wTB tg td tp b0 l0 no we tl un), (tg, wGr R C), (td, .inr (0, [.ref tr, .int (nI dn), .int (nI kn)])), (tr, .inl (cI, 37, .inl row))] sz (fun r (u : TS) => (r = nI 0 ∧ dn = kn ∧ u = (R, C, no, we, tl, un, dn, kn, row)) ∨ (r = nI 1 ∧ dn < kn ∧ row dn = -2 ∧ u = (R, C, 0, gTu R C no, 1, un, dn + 1, kn, row)) ∨ (∃ k, r = nI 1 ∧ dn < kn ∧ k < R * C ∧ row dn = nI k ∧ u = (R, C, gPut no k (decide (tl = 1)), gPut we k (decide (tl = 2)), 3 - tl, un, dn + 1, kn, row))) (fun u : TS => match u with | (Ra, Ca, noa, wea, tla, una, dna, kna, rowa) => [(t0, wTB tg td tp b0 l0 noa wea tla una), (tg, wGr Ra Ca), (td, .inr (0, [.ref tr, .int (nI dna), .int (nI kna)])), (tr, .inl (cI, 37, .inl rowa))]) := by
  refine Met.ofW (cc := cX5_redo) (maxL := 2) (ret := (some .boolean)) (by decide) rfl ?_
  intro p e s m args below meth c s₁ B hml hv
  obtain ⟨rfl, hsz, hP, ⟨hK, hN⟩, hD0⟩ := hv
  have hx := B.exec
  have hb := B.bytes
  have hr := B.returns
  have hts := atoms_spec (ws := wsX5_redo) B.pre
  have hown : s.vm.findClass RX5 = some m.cls := findClass_of_methodNamed B.named
  have hlocks := B.notSynchronized
  subst hsz
  have hD := hD0.self (sz := s.heap.size)
  generalize hAe : va_A [(t0, wTB tg td tp b0 l0 no we tl un), (tg, wGr R C), (td, .inr (0, [.ref tr, .int (nI dn), .int (nI kn)])), (tr, .inl (cI, 37, .inl row))] s.heap.size = A at hD ⊢
  have hA : ∀ q : Nat, s.heap.size ≤ q → A q := fun q h => by rw [← hAe]; exact Or.inr h
  have hS : va_S A s.heap s.heap [] := va_S.rf
  have hl := lv_entry ([.ref t0]) (n := 2) (Nat.le_of_ble_eq_true rfl)
  rw [lg_entry_eq]
  generalize (lg_sl ([.ref t0]) ++ List.replicate (2 - (lg_sl ([.ref t0])).length) Slot.unset).toArray = ls at hl ⊢
  have hl : lv_has ls 2 [(0, .ref t0)] := hl
  have hK2 : kK D cI cJ cZ s := ⟨hK, hN⟩
  clear hD0
  refine lv_aload_n hx hb dX5_redo_0 rfl (lv_at hl 0 rfl) ?_
  refine va_get (D := D) (ci := 5) (v := .ref td) (C := RX5) (T := TX5) (N := 9) hx hb hts kiX5_redo_X5 hown hK hP 0 rfl rfl 1 (by decide) (hts (.fieldLink RX5 19 "TwoBanks" "deeds" "LTwoBanks$Deeds;") (List.mem_of_getElem? (i := 1) rfl)) (fun _ h9 => h9) rfl dX5_redo_1 ?_
  refine k_calli (wr := [(t0, wTB tg td tp b0 l0 no we tl un), (tg, wGr R C)]) (w2 := (fun da : Nat => [(t0, wTB tg td tp b0 l0 no we tl un), (tg, wGr R C), (td, .inr (0, [.ref tr, .int (nI da), .int (nI kn)])), (tr, .inl (cI, 37, .inl row))])) (va_runV (As := []) (rest := []) ⟨hx, hb, hml, hown, hts⟩ (c_D_forth l D cI cJ cZ td tr row dn kn qd1 qd2  s.heap.size) (cwV 0 hts gX5_redo_X0_forth rfl rfl rfl (by decide +kernel) ⟨Nat.le_of_ble_eq_true rfl, Nat.le_of_ble_eq_true rfl⟩) (kPV (ci := 0) (q0 := 0) (wc := [(td, .inr (0, [.ref tr, .int (nI dn), .int (nI kn)])), (tr, .inl (cI, 37, .inl row))]) hK2 hP hD [2, 3] rfl (by decide) rfl rfl) rfl rfl hl.1 rfl (lv_room (Nat.le_of_ble_eq_true rfl)) dX5_redo_4 ⟨Nat.le_of_ble_eq_true rfl, Nat.le_of_ble_eq_true rfl⟩) hP hD hS hA [2, 3] [0, 1] [0, 1, 2, 3] rfl rfl (by decide) (by decide) (fun _ => rfl) (by decide) (fun r_2 u_2 H locs hw_2 hP hD hS => ?_)
  obtain ⟨da_1, rfl⟩ : ∃ z, z = u_2 := ⟨_, rfl⟩
  have hP : va_P D vwCl [(t0, wTB tg td tp b0 l0 no we tl un), (tg, wGr R C), (td, .inr (0, [.ref tr, .int (nI da_1), .int (nI kn)])), (tr, .inl (cI, 37, .inl row))] H := hP
  have hD : va_D A [(t0, wTB tg td tp b0 l0 no we tl un), (tg, wGr R C), (td, .inr (0, [.ref tr, .int (nI da_1), .int (nI kn)])), (tr, .inl (cI, 37, .inl row))] := hD
  rcases hw_2 with hw_2 | hw_2
  · obtain ⟨h0, e1, e2⟩ := hw_2
    subst e1
    have e2 := e2.symm
    subst e2
    refine lv_istore_n (lv' := [(1, .int (-1)), (0, .ref t0)]) hx hb dX5_redo_7 rfl hl (by decide) rfl (fun ls hl => ?_)
    refine lv_iload_n hx hb dX5_redo_8 rfl (lv_at hl 0 rfl) ?_
    refine lv_iconst (v := (-1)) hx hb dX5_redo_9 (by decide) ?_
    refine lv_icmp_ne (tgt := 15) hx hb dX5_redo_10 (by decide) (fun c_10_3 => absurd c_10_3 (by decide)) (fun c_10_3 => ?_)
    refine lv_iconst (v := (nI 0)) hx hb dX5_redo_13 (by decide) ?_
    exact W.zret (v := (nI 0)) hx hb hr (by first | decide +kernel | assumption | exact kz_narr (by first | assumption | omega)) (fun t ht hW => ⟨⟨(nI 0), (R, C, no, we, tl, un, dn, kn, row), rfl, Or.inl ⟨rfl, h0, rfl⟩, by rw [ht]; exact hP, hD⟩, hS.F ht⟩) hS.2.2 dX5_redo_14
  · obtain ⟨h0, e1, e2⟩ := hw_2
    have e2 := e2.symm
    subst e2
    have hq9 := hde (dn) (by omega)
    rcases hq9 with hq9 | ⟨k, hk, hq9⟩
    · rw [hq9] at e1
      subst e1
      refine lv_istore_n (lv' := [(1, .int (-2)), (0, .ref t0)]) hx hb dX5_redo_7 rfl hl (by decide) rfl (fun ls hl => ?_)
      refine lv_iload_n hx hb dX5_redo_8 rfl (lv_at hl 0 rfl) ?_
      refine lv_iconst (v := (-1)) hx hb dX5_redo_9 (by decide) ?_
      refine lv_icmp_ne (tgt := 15) hx hb dX5_redo_10 (by decide) (fun c_10_4 => ?_) (fun c_10_4 => absurd c_10_4 (by decide))
      refine lv_iload_n hx hb dX5_redo_15 rfl (lv_at hl 0 rfl) ?_
      refine lv_bipush (v := (-2)) hx hb dX5_redo_16 (by decide) ?_
      refine lv_icmp_ne (tgt := 28) hx hb dX5_redo_18 (by decide) (fun c_18_5 => absurd c_18_5 (by decide)) (fun c_18_5 => ?_)
      refine lv_aload_n hx hb dX5_redo_21 rfl (lv_at hl 1 rfl) ?_
      refine k_callv (wr := [(td, .inr (0, [.ref tr, .int (nI (dn + 1)), .int (nI kn)])), (tr, .inl (cI, 37, .inl row))]) (w2 := (fun _ : Unit => [(t0, wTB tg td tp b0 l0 0 (gTu R C no) 1 un), (tg, wGr R C), (td, .inr (0, [.ref tr, .int (nI (dn + 1)), .int (nI kn)])), (tr, .inl (cI, 37, .inl row))])) (va_runV (As := []) (rest := []) ⟨hx, hb, hml, hown, hts⟩ (c_T_takeOver l D cI cJ cZ t0 tg td tp b0 l0 no we tl un R C hR1 hR2 hC1 hC2 hRC  H.size) (cwV 0 hts gX5_redo_X5_takeOver rfl rfl rfl (by decide +kernel) ⟨Nat.le_of_ble_eq_true rfl, Nat.le_of_ble_eq_true rfl⟩) (kPV (ci := 5) (q0 := 0) (wc := [(t0, wTB tg td tp b0 l0 no we tl un), (tg, wGr R C)]) hK2 hP hD [0, 1] rfl (by decide) rfl rfl) rfl rfl hl.1 rfl (lv_room (Nat.le_of_ble_eq_true rfl)) dX5_redo_22 ⟨Nat.le_of_ble_eq_true rfl, Nat.le_of_ble_eq_true rfl⟩) hP hD hS hA [0, 1] [2, 3] [2, 3, 0, 1] rfl rfl (by decide) (by decide) (fun _ => rfl) (by decide) (fun u_6 H locs hw_6 hP hD hS => ?_)
      have hP : va_P D vwCl [(t0, wTB tg td tp b0 l0 0 (gTu R C no) 1 un), (tg, wGr R C), (td, .inr (0, [.ref tr, .int (nI (dn + 1)), .int (nI kn)])), (tr, .inl (cI, 37, .inl row))] H := hP
      have hD : va_D A [(t0, wTB tg td tp b0 l0 0 (gTu R C no) 1 un), (tg, wGr R C), (td, .inr (0, [.ref tr, .int (nI (dn + 1)), .int (nI kn)])), (tr, .inl (cI, 37, .inl row))] := hD
      refine lv_goto (tgt := 33) hx hb dX5_redo_25 (by decide) ?_
      refine lv_iconst (v := (nI 1)) hx hb dX5_redo_33 (by decide) ?_
      exact W.zret (v := (nI 1)) hx hb hr (by first | decide +kernel | assumption | exact kz_narr (by first | assumption | omega)) (fun t ht hW => ⟨⟨(nI 1), (R, C, 0, (gTu R C no), 1, un, (dn + 1), kn, row), rfl, Or.inr (Or.inl ⟨rfl, h0, hq9, rfl⟩), by rw [ht]; exact hP, hD⟩, hS.F ht⟩) hS.2.2 dX5_redo_34
    · rw [hq9] at e1
      subst e1
      refine lv_istore_n (lv' := [(1, .int (nI k)), (0, .ref t0)]) hx hb dX5_redo_7 rfl hl (by decide) rfl (fun ls hl => ?_)
      refine lv_iload_n hx hb dX5_redo_8 rfl (lv_at hl 0 rfl) ?_
      refine lv_iconst (v := (-1)) hx hb dX5_redo_9 (by decide) ?_
      refine lv_icmp_ne (tgt := 15) hx hb dX5_redo_10 (by decide) (fun c_10_7 => ?_) (fun c_10_7 => absurd c_10_7 (k_ne_m (by omega) (by decide)))
      refine lv_iload_n hx hb dX5_redo_15 rfl (lv_at hl 0 rfl) ?_
      refine lv_bipush (v := (-2)) hx hb dX5_redo_16 (by decide) ?_
      refine lv_icmp_ne (tgt := 28) hx hb dX5_redo_18 (by decide) (fun c_18_8 => ?_) (fun c_18_8 => absurd c_18_8 (k_ne_m (by omega) (by decide)))
      refine lv_aload_n hx hb dX5_redo_28 rfl (lv_at hl 1 rfl) ?_
      refine lv_iload_n hx hb dX5_redo_29 rfl (lv_at hl 0 rfl) ?_
      refine k_callv (wr := [(tg, wGr R C), (td, .inr (0, [.ref tr, .int (nI (dn + 1)), .int (nI kn)])), (tr, .inl (cI, 37, .inl row))]) (w2 := (fun _ : Unit => [(t0, wTB tg td tp b0 l0 (gPut no k (decide (tl = 1))) (gPut we k (decide (tl = 2))) (3 - tl) un), (tg, wGr R C), (td, .inr (0, [.ref tr, .int (nI (dn + 1)), .int (nI kn)])), (tr, .inl (cI, 37, .inl row))])) (va_runV (As := [.int (nI k)]) (rest := []) ⟨hx, hb, hml, hown, hts⟩ (c_T_layStone l D cI cJ cZ t0 tg td tp b0 l0 no we tl un k (by omega) (by omega)  H.size) (cwV 1 hts gX5_redo_X5_layStone rfl rfl rfl (by decide +kernel) ⟨Nat.le_of_ble_eq_true rfl, Nat.le_of_ble_eq_true rfl⟩) (kPV (ci := 5) (q0 := 0) (wc := [(t0, wTB tg td tp b0 l0 no we tl un)]) hK2 hP hD [0] rfl (by decide) rfl rfl) rfl rfl hl.1 rfl (lv_room (Nat.le_of_ble_eq_true rfl)) dX5_redo_30 ⟨Nat.le_of_ble_eq_true rfl, Nat.le_of_ble_eq_true rfl⟩) hP hD hS hA [0] [1, 2, 3] [3, 0, 1, 2] rfl rfl (by decide) (by decide) (fun _ => rfl) (by decide) (fun u_9 H locs hw_9 hP hD hS => ?_)
      have hP : va_P D vwCl [(t0, wTB tg td tp b0 l0 (gPut no k (decide (tl = 1))) (gPut we k (decide (tl = 2))) (3 - tl) un), (tg, wGr R C), (td, .inr (0, [.ref tr, .int (nI (dn + 1)), .int (nI kn)])), (tr, .inl (cI, 37, .inl row))] H := hP
      have hD : va_D A [(t0, wTB tg td tp b0 l0 (gPut no k (decide (tl = 1))) (gPut we k (decide (tl = 2))) (3 - tl) un), (tg, wGr R C), (td, .inr (0, [.ref tr, .int (nI (dn + 1)), .int (nI kn)])), (tr, .inl (cI, 37, .inl row))] := hD
      refine lv_iconst (v := (nI 1)) hx hb dX5_redo_33 (by decide) ?_
      exact W.zret (v := (nI 1)) hx hb hr (by first | decide +kernel | assumption | exact kz_narr (by first | assumption | omega)) (fun t ht hW => ⟨⟨(nI 1), (R, C, (gPut no k (decide (tl = 1))), (gPut we k (decide (tl = 2))), (3 - tl), un, (dn + 1), kn, row), rfl, Or.inr (Or.inr ⟨k, rfl, h0, hk, hq9, rfl⟩), by rw [ht]; exact hP, hD⟩, hS.F ht⟩) hS.2.2 dX5_redo_34

theorem kiX5_change_X5 : ∀ w ∈ u_ws RX5 TX5 9, w ∈ wsX5_change := fun w h => List.mem_cons_of_mem _ (List.mem_append_left _ (List.mem_append_left _ (List.mem_append_right _ h)))
set_option maxHeartbeats 4000000 in
set_option maxRecDepth 100000 in
theorem c_T_change (l : Launch) (D : va_G) (cI cJ cZ : ClassId) (t0 tg td tp b0 l0 : Nat) (no we : Int64) (tl un : Nat) (R C : Nat) (tr dn kn : Nat) (row : Nat → Int32) (hR1 : 1 ≤ R) (hR2 : R ≤ 6) (hC1 : 1 ≤ C) (hC2 : C ≤ 6) (hRC : R * C ≤ 36) (htl : tl = 1 ∨ tl = 2) (sz : Nat) : kMV l yX5_change wsX5_change 2 46 D cI cJ cZ [.ref t0] [(t0, wTB tg td tp b0 l0 no we tl un), (tg, wGr R C), (td, .inr (0, [.ref tr, .int (nI dn), .int (nI kn)])), (tr, .inl (cI, 37, .inl row))] sz (fun (u : TS) => u = (C, R, gTu R C we, gTu R C no, 3 - tl, 0, 0, 0, row)) (fun u : TS => match u with | (Ra, Ca, noa, wea, tla, una, dna, kna, rowa) => [(t0, wTB tg td tp b0 l0 noa wea tla una), (tg, wGr Ra Ca), (td, .inr (0, [.ref tr, .int (nI dna), .int (nI kna)])), (tr, .inl (cI, 37, .inl rowa))]) := by
  refine Met.ofW (cc := cX5_change) (maxL := 5) (ret := none) (by decide) rfl ?_
  intro p e s m args below meth c s₁ B hml hv
  obtain ⟨rfl, hsz, hP, ⟨hK, hN⟩, hD0⟩ := hv
  have hx := B.exec
  have hb := B.bytes
  have hr := B.returns
  have hts := atoms_spec (ws := wsX5_change) B.pre
  have hown : s.vm.findClass RX5 = some m.cls := findClass_of_methodNamed B.named
  have hlocks := B.notSynchronized
  subst hsz
  have hD := hD0.self (sz := s.heap.size)
  generalize hAe : va_A [(t0, wTB tg td tp b0 l0 no we tl un), (tg, wGr R C), (td, .inr (0, [.ref tr, .int (nI dn), .int (nI kn)])), (tr, .inl (cI, 37, .inl row))] s.heap.size = A at hD ⊢
  have hA : ∀ q : Nat, s.heap.size ≤ q → A q := fun q h => by rw [← hAe]; exact Or.inr h
  have hS : va_S A s.heap s.heap [] := va_S.rf
  have hl := lv_entry ([.ref t0]) (n := 5) (Nat.le_of_ble_eq_true rfl)
  rw [lg_entry_eq]
  generalize (lg_sl ([.ref t0]) ++ List.replicate (5 - (lg_sl ([.ref t0])).length) Slot.unset).toArray = ls at hl ⊢
  have hl : lv_has ls 5 [(0, .ref t0)] := hl
  have hK2 : kK D cI cJ cZ s := ⟨hK, hN⟩
  clear hD0
  refine lv_aload_n hx hb dX5_change_0 rfl (lv_at hl 0 rfl) ?_
  refine va_get (D := D) (ci := 5) (v := .ref tg) (C := RX5) (T := TX5) (N := 9) hx hb hts kiX5_change_X5 hown hK hP 0 rfl rfl 0 (by decide) (hts (.fieldLink RX5 12 "TwoBanks" "grid" "LTwoBanks$Grid;") (List.mem_of_getElem? (i := 1) rfl)) (fun _ h9 => h9) rfl dX5_change_1 ?_
  refine lv_aload_n hx hb dX5_change_4 rfl (lv_at hl 0 rfl) ?_
  refine va_get (D := D) (ci := 5) (v := .long we) (C := RX5) (T := TX5) (N := 9) hx hb hts kiX5_change_X5 hown hK hP 0 rfl rfl 6 (by decide) (hts (.fieldLink RX5 107 "TwoBanks" "west" "J") (List.mem_of_getElem? (i := 2) rfl)) (fun _ h9 => h9) rfl dX5_change_5 ?_
  refine k_calll (wr := [(t0, wTB tg td tp b0 l0 no we tl un), (td, .inr (0, [.ref tr, .int (nI dn), .int (nI kn)])), (tr, .inl (cI, 37, .inl row))]) (w2 := (fun _ : Unit => [(t0, wTB tg td tp b0 l0 no we tl un), (tg, wGr R C), (td, .inr (0, [.ref tr, .int (nI dn), .int (nI kn)])), (tr, .inl (cI, 37, .inl row))])) (va_runV (As := [.long we]) (rest := []) ⟨hx, hb, hml, hown, hts⟩ (c_G_turned l D cI cJ cZ tg R C we hR1 hR2 hC1 hC2 hRC  s.heap.size) (cwV 1 hts gX5_change_X2_turned rfl rfl rfl (by decide +kernel) ⟨Nat.le_of_ble_eq_true rfl, Nat.le_of_ble_eq_true rfl⟩) (kPV (ci := 2) (q0 := 0) (wc := [(tg, wGr R C)]) hK2 hP hD [1] rfl (by decide) rfl rfl) rfl rfl hl.1 rfl (lv_room (Nat.le_of_ble_eq_true rfl)) dX5_change_8 ⟨Nat.le_of_ble_eq_true rfl, Nat.le_of_ble_eq_true rfl⟩) hP hD hS hA [1] [0, 2, 3] [0, 3, 1, 2] rfl rfl (by decide) (by decide) (fun _ => rfl) (by decide) (fun r_1 u_1 H locs hw_1 hP hD hS => ?_)
  have hP : va_P D vwCl [(t0, wTB tg td tp b0 l0 no we tl un), (tg, wGr R C), (td, .inr (0, [.ref tr, .int (nI dn), .int (nI kn)])), (tr, .inl (cI, 37, .inl row))] H := hP
  have hD : va_D A [(t0, wTB tg td tp b0 l0 no we tl un), (tg, wGr R C), (td, .inr (0, [.ref tr, .int (nI dn), .int (nI kn)])), (tr, .inl (cI, 37, .inl row))] := hD
  subst hw_1
  refine lv_lstore_n (lv' := [(1, .long (gTu R C we)), (0, .ref t0)]) hx hb dX5_change_11 rfl hl (by decide) rfl (fun ls hl => ?_)
  refine lv_aload_n hx hb dX5_change_12 rfl (lv_at hl 1 rfl) ?_
  refine va_get (D := D) (ci := 5) (v := .ref tg) (C := RX5) (T := TX5) (N := 9) hx hb hts kiX5_change_X5 hown hK hP 0 rfl rfl 0 (by decide) (hts (.fieldLink RX5 12 "TwoBanks" "grid" "LTwoBanks$Grid;") (List.mem_of_getElem? (i := 1) rfl)) (fun _ h9 => h9) rfl dX5_change_13 ?_
  refine lv_aload_n hx hb dX5_change_16 rfl (lv_at hl 1 rfl) ?_
  refine va_get (D := D) (ci := 5) (v := .long no) (C := RX5) (T := TX5) (N := 9) hx hb hts kiX5_change_X5 hown hK hP 0 rfl rfl 5 (by decide) (hts (.fieldLink RX5 115 "TwoBanks" "north" "J") (List.mem_of_getElem? (i := 3) rfl)) (fun _ h9 => h9) rfl dX5_change_17 ?_
  refine k_calll (wr := [(t0, wTB tg td tp b0 l0 no we tl un), (td, .inr (0, [.ref tr, .int (nI dn), .int (nI kn)])), (tr, .inl (cI, 37, .inl row))]) (w2 := (fun _ : Unit => [(t0, wTB tg td tp b0 l0 no we tl un), (tg, wGr R C), (td, .inr (0, [.ref tr, .int (nI dn), .int (nI kn)])), (tr, .inl (cI, 37, .inl row))])) (va_runV (As := [.long no]) (rest := []) ⟨hx, hb, hml, hown, hts⟩ (c_G_turned l D cI cJ cZ tg R C no hR1 hR2 hC1 hC2 hRC  H.size) (cwV 1 hts gX5_change_X2_turned rfl rfl rfl (by decide +kernel) ⟨Nat.le_of_ble_eq_true rfl, Nat.le_of_ble_eq_true rfl⟩) (kPV (ci := 2) (q0 := 0) (wc := [(tg, wGr R C)]) hK2 hP hD [1] rfl (by decide) rfl rfl) rfl rfl hl.1 rfl (lv_room (Nat.le_of_ble_eq_true rfl)) dX5_change_20 ⟨Nat.le_of_ble_eq_true rfl, Nat.le_of_ble_eq_true rfl⟩) hP hD hS hA [1] [0, 2, 3] [0, 3, 1, 2] rfl rfl (by decide) (by decide) (fun _ => rfl) (by decide) (fun r_2 u_2 H locs hw_2 hP hD hS => ?_)
  have hP : va_P D vwCl [(t0, wTB tg td tp b0 l0 no we tl un), (tg, wGr R C), (td, .inr (0, [.ref tr, .int (nI dn), .int (nI kn)])), (tr, .inl (cI, 37, .inl row))] H := hP
  have hD : va_D A [(t0, wTB tg td tp b0 l0 no we tl un), (tg, wGr R C), (td, .inr (0, [.ref tr, .int (nI dn), .int (nI kn)])), (tr, .inl (cI, 37, .inl row))] := hD
  subst hw_2
  refine lv_lstore_n (lv' := [(3, .long (gTu R C no)), (1, .long (gTu R C we)), (0, .ref t0)]) hx hb dX5_change_23 rfl hl (by decide) rfl (fun ls hl => ?_)
  refine lv_aload_n hx hb dX5_change_24 rfl (lv_at hl 2 rfl) ?_
  refine va_get (D := D) (ci := 5) (v := .ref tg) (C := RX5) (T := TX5) (N := 9) hx hb hts kiX5_change_X5 hown hK hP 0 rfl rfl 0 (by decide) (hts (.fieldLink RX5 12 "TwoBanks" "grid" "LTwoBanks$Grid;") (List.mem_of_getElem? (i := 1) rfl)) (fun _ h9 => h9) rfl dX5_change_25 ?_
  refine lv_aload_n hx hb dX5_change_28 rfl (lv_at hl 2 rfl) ?_
  refine va_get (D := D) (ci := 5) (v := .ref tg) (C := RX5) (T := TX5) (N := 9) hx hb hts kiX5_change_X5 hown hK hP 0 rfl rfl 0 (by decide) (hts (.fieldLink RX5 12 "TwoBanks" "grid" "LTwoBanks$Grid;") (List.mem_of_getElem? (i := 1) rfl)) (fun _ h9 => h9) rfl dX5_change_29 ?_
  refine k_calli (wr := [(t0, wTB tg td tp b0 l0 no we tl un), (td, .inr (0, [.ref tr, .int (nI dn), .int (nI kn)])), (tr, .inl (cI, 37, .inl row))]) (w2 := (fun _ : Unit => [(t0, wTB tg td tp b0 l0 no we tl un), (tg, wGr R C), (td, .inr (0, [.ref tr, .int (nI dn), .int (nI kn)])), (tr, .inl (cI, 37, .inl row))])) (va_runV (As := []) (rest := [.ref tg]) ⟨hx, hb, hml, hown, hts⟩ (c_G_columns l D cI cJ cZ tg R C  H.size) (cwV 0 hts gX5_change_X2_columns rfl rfl rfl (by decide +kernel) ⟨Nat.le_of_ble_eq_true rfl, Nat.le_of_ble_eq_true rfl⟩) (kPV (ci := 2) (q0 := 0) (wc := [(tg, wGr R C)]) hK2 hP hD [1] rfl (by decide) rfl rfl) rfl rfl hl.1 rfl (lv_room (Nat.le_of_ble_eq_true rfl)) dX5_change_32 ⟨Nat.le_of_ble_eq_true rfl, Nat.le_of_ble_eq_true rfl⟩) hP hD hS hA [1] [0, 2, 3] [0, 3, 1, 2] rfl rfl (by decide) (by decide) (fun _ => rfl) (by decide) (fun r_3 u_3 H locs hw_3 hP hD hS => ?_)
  have hP : va_P D vwCl [(t0, wTB tg td tp b0 l0 no we tl un), (tg, wGr R C), (td, .inr (0, [.ref tr, .int (nI dn), .int (nI kn)])), (tr, .inl (cI, 37, .inl row))] H := hP
  have hD : va_D A [(t0, wTB tg td tp b0 l0 no we tl un), (tg, wGr R C), (td, .inr (0, [.ref tr, .int (nI dn), .int (nI kn)])), (tr, .inl (cI, 37, .inl row))] := hD
  subst hw_3
  refine lv_aload_n hx hb dX5_change_35 rfl (lv_at hl 2 rfl) ?_
  refine va_get (D := D) (ci := 5) (v := .ref tg) (C := RX5) (T := TX5) (N := 9) hx hb hts kiX5_change_X5 hown hK hP 0 rfl rfl 0 (by decide) (hts (.fieldLink RX5 12 "TwoBanks" "grid" "LTwoBanks$Grid;") (List.mem_of_getElem? (i := 1) rfl)) (fun _ h9 => h9) rfl dX5_change_36 ?_
  refine k_calli (wr := [(t0, wTB tg td tp b0 l0 no we tl un), (td, .inr (0, [.ref tr, .int (nI dn), .int (nI kn)])), (tr, .inl (cI, 37, .inl row))]) (w2 := (fun _ : Unit => [(t0, wTB tg td tp b0 l0 no we tl un), (tg, wGr R C), (td, .inr (0, [.ref tr, .int (nI dn), .int (nI kn)])), (tr, .inl (cI, 37, .inl row))])) (va_runV (As := []) (rest := [.int (nI C), .ref tg]) ⟨hx, hb, hml, hown, hts⟩ (c_G_rows l D cI cJ cZ tg R C  H.size) (cwV 0 hts gX5_change_X2_rows rfl rfl rfl (by decide +kernel) ⟨Nat.le_of_ble_eq_true rfl, Nat.le_of_ble_eq_true rfl⟩) (kPV (ci := 2) (q0 := 0) (wc := [(tg, wGr R C)]) hK2 hP hD [1] rfl (by decide) rfl rfl) rfl rfl hl.1 rfl (lv_room (Nat.le_of_ble_eq_true rfl)) dX5_change_39 ⟨Nat.le_of_ble_eq_true rfl, Nat.le_of_ble_eq_true rfl⟩) hP hD hS hA [1] [0, 2, 3] [0, 3, 1, 2] rfl rfl (by decide) (by decide) (fun _ => rfl) (by decide) (fun r_4 u_4 H locs hw_4 hP hD hS => ?_)
  have hP : va_P D vwCl [(t0, wTB tg td tp b0 l0 no we tl un), (tg, wGr R C), (td, .inr (0, [.ref tr, .int (nI dn), .int (nI kn)])), (tr, .inl (cI, 37, .inl row))] H := hP
  have hD : va_D A [(t0, wTB tg td tp b0 l0 no we tl un), (tg, wGr R C), (td, .inr (0, [.ref tr, .int (nI dn), .int (nI kn)])), (tr, .inl (cI, 37, .inl row))] := hD
  subst hw_4
  refine k_callv (wr := [(t0, wTB tg td tp b0 l0 no we tl un), (td, .inr (0, [.ref tr, .int (nI dn), .int (nI kn)])), (tr, .inl (cI, 37, .inl row))]) (w2 := (fun _ : Unit => [(t0, wTB tg td tp b0 l0 no we tl un), (tg, wGr C R), (td, .inr (0, [.ref tr, .int (nI dn), .int (nI kn)])), (tr, .inl (cI, 37, .inl row))])) (va_runV (As := [.int (nI C), .int (nI R)]) (rest := []) ⟨hx, hb, hml, hown, hts⟩ (c_G_shape l D cI cJ cZ tg (nI R) (nI C) (gAll R C) (gNo C) (gSo R C) (gWeN C R) (gEa R C) C R hC1 hC2 hR1 hR2 (rc_le hC2 hR2)  H.size) (cwV 2 hts gX5_change_X2_shape rfl rfl rfl (by decide +kernel) ⟨Nat.le_of_ble_eq_true rfl, Nat.le_of_ble_eq_true rfl⟩) (kPV (ci := 2) (q0 := 0) (wc := [(tg, wGr R C)]) hK2 hP hD [1] rfl (by decide) rfl rfl) rfl rfl hl.1 rfl (lv_room (Nat.le_of_ble_eq_true rfl)) dX5_change_42 ⟨Nat.le_of_ble_eq_true rfl, Nat.le_of_ble_eq_true rfl⟩) hP hD hS hA [1] [0, 2, 3] [0, 3, 1, 2] rfl rfl (by decide) (by decide) (fun _ => rfl) (by decide) (fun u_5 H locs hw_5 hP hD hS => ?_)
  have hP : va_P D vwCl [(t0, wTB tg td tp b0 l0 no we tl un), (tg, wGr C R), (td, .inr (0, [.ref tr, .int (nI dn), .int (nI kn)])), (tr, .inl (cI, 37, .inl row))] H := hP
  have hD : va_D A [(t0, wTB tg td tp b0 l0 no we tl un), (tg, wGr C R), (td, .inr (0, [.ref tr, .int (nI dn), .int (nI kn)])), (tr, .inl (cI, 37, .inl row))] := hD
  refine lv_aload_n hx hb dX5_change_45 rfl (lv_at hl 2 rfl) ?_
  refine lv_lload_n hx hb dX5_change_46 rfl (lv_at hl 1 rfl) ?_
  refine va_put (D := D) (ci := 5) (v := .long (gTu R C we)) (ty := .long) (C := RX5) (T := TX5) (N := 9) hx hb hts kiX5_change_X5 tyX5 tyX5_ok nmX5 hown hK hP hD hS 0 rfl rfl 5 (by decide) (hts (.fieldLink RX5 115 "TwoBanks" "north" "J") (List.mem_of_getElem? (i := 3) rfl)) (fun _ h9 => h9) rfl  (by decide +kernel) rfl rfl (Nat.le_of_ble_eq_true rfl) dX5_change_47 (fun H locs hP hD hS => ?_)
  have hP : va_P D vwCl [(t0, .inr (5, [.ref tg, .ref td, .ref tp, .ref b0, .ref l0, .long (gTu R C we), .long we, .int (nI tl), .int (nI un)])), (tg, wGr C R), (td, .inr (0, [.ref tr, .int (nI dn), .int (nI kn)])), (tr, .inl (cI, 37, .inl row))] H := hP
  have hD : va_D A [(t0, .inr (5, [.ref tg, .ref td, .ref tp, .ref b0, .ref l0, .long (gTu R C we), .long we, .int (nI tl), .int (nI un)])), (tg, wGr C R), (td, .inr (0, [.ref tr, .int (nI dn), .int (nI kn)])), (tr, .inl (cI, 37, .inl row))] := hD
  refine lv_aload_n hx hb dX5_change_50 rfl (lv_at hl 2 rfl) ?_
  refine lv_lload_n hx hb dX5_change_51 rfl (lv_at hl 0 rfl) ?_
  refine va_put (D := D) (ci := 5) (v := .long (gTu R C no)) (ty := .long) (C := RX5) (T := TX5) (N := 9) hx hb hts kiX5_change_X5 tyX5 tyX5_ok nmX5 hown hK hP hD hS 0 rfl rfl 6 (by decide) (hts (.fieldLink RX5 107 "TwoBanks" "west" "J") (List.mem_of_getElem? (i := 2) rfl)) (fun _ h9 => h9) rfl  (by decide +kernel) rfl rfl (Nat.le_of_ble_eq_true rfl) dX5_change_52 (fun H locs hP hD hS => ?_)
  have hP : va_P D vwCl [(t0, .inr (5, [.ref tg, .ref td, .ref tp, .ref b0, .ref l0, .long (gTu R C we), .long (gTu R C no), .int (nI tl), .int (nI un)])), (tg, wGr C R), (td, .inr (0, [.ref tr, .int (nI dn), .int (nI kn)])), (tr, .inl (cI, 37, .inl row))] H := hP
  have hD : va_D A [(t0, .inr (5, [.ref tg, .ref td, .ref tp, .ref b0, .ref l0, .long (gTu R C we), .long (gTu R C no), .int (nI tl), .int (nI un)])), (tg, wGr C R), (td, .inr (0, [.ref tr, .int (nI dn), .int (nI kn)])), (tr, .inl (cI, 37, .inl row))] := hD
  refine lv_aload_n hx hb dX5_change_55 rfl (lv_at hl 2 rfl) ?_
  refine lv_aload_n hx hb dX5_change_56 rfl (lv_at hl 2 rfl) ?_
  refine va_get (D := D) (ci := 5) (v := .int (nI tl)) (C := RX5) (T := TX5) (N := 9) hx hb hts kiX5_change_X5 hown hK hP 0 rfl rfl 7 (by decide) (hts (.fieldLink RX5 57 "TwoBanks" "toLay" "I") (List.mem_of_getElem? (i := 4) rfl)) (fun _ h9 => h9) rfl dX5_change_57 ?_
  refine k_calli (wr := [(t0, .inr (5, [.ref tg, .ref td, .ref tp, .ref b0, .ref l0, .long (gTu R C we), .long (gTu R C no), .int (nI tl), .int (nI un)])), (tg, wGr C R), (td, .inr (0, [.ref tr, .int (nI dn), .int (nI kn)])), (tr, .inl (cI, 37, .inl row))]) (w2 := (fun _ : Unit => [(t0, .inr (5, [.ref tg, .ref td, .ref tp, .ref b0, .ref l0, .long (gTu R C we), .long (gTu R C no), .int (nI tl), .int (nI un)])), (tg, wGr C R), (td, .inr (0, [.ref tr, .int (nI dn), .int (nI kn)])), (tr, .inl (cI, 37, .inl row))])) (va_runS (As := [.int (nI tl)]) (rest := [.ref t0]) ⟨hx, hb, hml, hown, hts⟩ (c_other_n l D cI cJ cZ tl (by omega)  H.size) (va_cwS 1 hts gX5_change_X5_other rfl rfl rfl (by decide +kernel) ⟨Nat.le_of_ble_eq_true rfl, Nat.le_of_ble_eq_true rfl⟩) (kPS (wc := []) hK2 hP hD [] rfl (by decide)) rfl rfl hl.1 rfl (lv_room (Nat.le_of_ble_eq_true rfl)) dX5_change_60 ⟨Nat.le_of_ble_eq_true rfl, Nat.le_of_ble_eq_true rfl⟩) hP hD hS hA [] [0, 1, 2, 3] [0, 1, 2, 3] rfl rfl (by decide) (by decide) (fun _ => rfl) (by decide) (fun r_6 u_6 H locs hw_6 hP hD hS => ?_)
  have hP : va_P D vwCl [(t0, .inr (5, [.ref tg, .ref td, .ref tp, .ref b0, .ref l0, .long (gTu R C we), .long (gTu R C no), .int (nI tl), .int (nI un)])), (tg, wGr C R), (td, .inr (0, [.ref tr, .int (nI dn), .int (nI kn)])), (tr, .inl (cI, 37, .inl row))] H := hP
  have hD : va_D A [(t0, .inr (5, [.ref tg, .ref td, .ref tp, .ref b0, .ref l0, .long (gTu R C we), .long (gTu R C no), .int (nI tl), .int (nI un)])), (tg, wGr C R), (td, .inr (0, [.ref tr, .int (nI dn), .int (nI kn)])), (tr, .inl (cI, 37, .inl row))] := hD
  subst hw_6
  refine va_put (D := D) (ci := 5) (v := .int (nI (3 - tl))) (ty := .int) (C := RX5) (T := TX5) (N := 9) hx hb hts kiX5_change_X5 tyX5 tyX5_ok nmX5 hown hK hP hD hS 0 rfl rfl 7 (by decide) (hts (.fieldLink RX5 57 "TwoBanks" "toLay" "I") (List.mem_of_getElem? (i := 4) rfl)) (fun _ h9 => h9) rfl  (by decide +kernel) rfl rfl (Nat.le_of_ble_eq_true rfl) dX5_change_63 (fun H locs hP hD hS => ?_)
  have hP : va_P D vwCl [(t0, .inr (5, [.ref tg, .ref td, .ref tp, .ref b0, .ref l0, .long (gTu R C we), .long (gTu R C no), .int (nI (3 - tl)), .int (nI un)])), (tg, wGr C R), (td, .inr (0, [.ref tr, .int (nI dn), .int (nI kn)])), (tr, .inl (cI, 37, .inl row))] H := hP
  have hD : va_D A [(t0, .inr (5, [.ref tg, .ref td, .ref tp, .ref b0, .ref l0, .long (gTu R C we), .long (gTu R C no), .int (nI (3 - tl)), .int (nI un)])), (tg, wGr C R), (td, .inr (0, [.ref tr, .int (nI dn), .int (nI kn)])), (tr, .inl (cI, 37, .inl row))] := hD
  refine lv_aload_n hx hb dX5_change_66 rfl (lv_at hl 2 rfl) ?_
  refine lv_iconst (v := (nI 0)) hx hb dX5_change_67 (by decide) ?_
  refine va_put (D := D) (ci := 5) (v := .int (nI 0)) (ty := .boolean) (C := RX5) (T := TX5) (N := 9) hx hb hts kiX5_change_X5 tyX5 tyX5_ok nmX5 hown hK hP hD hS 0 rfl rfl 8 (by decide) (hts (.fieldLink RX5 61 "TwoBanks" "untouched" "Z") (List.mem_of_getElem? (i := 5) rfl)) (fun _ h9 => h9) rfl  (by decide +kernel) (by decide +kernel) (by decide +kernel) (Nat.le_of_ble_eq_true rfl) dX5_change_68 (fun H locs hP hD hS => ?_)
  have hP : va_P D vwCl [(t0, .inr (5, [.ref tg, .ref td, .ref tp, .ref b0, .ref l0, .long (gTu R C we), .long (gTu R C no), .int (nI (3 - tl)), .int (nI 0)])), (tg, wGr C R), (td, .inr (0, [.ref tr, .int (nI dn), .int (nI kn)])), (tr, .inl (cI, 37, .inl row))] H := hP
  have hD : va_D A [(t0, .inr (5, [.ref tg, .ref td, .ref tp, .ref b0, .ref l0, .long (gTu R C we), .long (gTu R C no), .int (nI (3 - tl)), .int (nI 0)])), (tg, wGr C R), (td, .inr (0, [.ref tr, .int (nI dn), .int (nI kn)])), (tr, .inl (cI, 37, .inl row))] := hD
  refine lv_aload_n hx hb dX5_change_71 rfl (lv_at hl 2 rfl) ?_
  refine va_get (D := D) (ci := 5) (v := .ref td) (C := RX5) (T := TX5) (N := 9) hx hb hts kiX5_change_X5 hown hK hP 0 rfl rfl 1 (by decide) (hts (.fieldLink RX5 19 "TwoBanks" "deeds" "LTwoBanks$Deeds;") (List.mem_of_getElem? (i := 6) rfl)) (fun _ h9 => h9) rfl dX5_change_72 ?_
  refine k_callv (wr := [(t0, .inr (5, [.ref tg, .ref td, .ref tp, .ref b0, .ref l0, .long (gTu R C we), .long (gTu R C no), .int (nI (3 - tl)), .int (nI 0)])), (tg, wGr C R)]) (w2 := (fun _ : Unit => [(t0, .inr (5, [.ref tg, .ref td, .ref tp, .ref b0, .ref l0, .long (gTu R C we), .long (gTu R C no), .int (nI (3 - tl)), .int (nI 0)])), (tg, wGr C R), (td, .inr (0, [.ref tr, .int (nI 0), .int (nI 0)])), (tr, .inl (cI, 37, .inl row))])) (va_runV (As := []) (rest := []) ⟨hx, hb, hml, hown, hts⟩ (c_D_forget l D cI cJ cZ td tr row dn kn  H.size) (cwV 0 hts gX5_change_X0_forget rfl rfl rfl (by decide +kernel) ⟨Nat.le_of_ble_eq_true rfl, Nat.le_of_ble_eq_true rfl⟩) (kPV (ci := 0) (q0 := 0) (wc := [(td, .inr (0, [.ref tr, .int (nI dn), .int (nI kn)])), (tr, .inl (cI, 37, .inl row))]) hK2 hP hD [2, 3] rfl (by decide) rfl rfl) rfl rfl hl.1 rfl (lv_room (Nat.le_of_ble_eq_true rfl)) dX5_change_75 ⟨Nat.le_of_ble_eq_true rfl, Nat.le_of_ble_eq_true rfl⟩) hP hD hS hA [2, 3] [0, 1] [0, 1, 2, 3] rfl rfl (by decide) (by decide) (fun _ => rfl) (by decide) (fun u_7 H locs hw_7 hP hD hS => ?_)
  have hP : va_P D vwCl [(t0, .inr (5, [.ref tg, .ref td, .ref tp, .ref b0, .ref l0, .long (gTu R C we), .long (gTu R C no), .int (nI (3 - tl)), .int (nI 0)])), (tg, wGr C R), (td, .inr (0, [.ref tr, .int (nI 0), .int (nI 0)])), (tr, .inl (cI, 37, .inl row))] H := hP
  have hD : va_D A [(t0, .inr (5, [.ref tg, .ref td, .ref tp, .ref b0, .ref l0, .long (gTu R C we), .long (gTu R C no), .int (nI (3 - tl)), .int (nI 0)])), (tg, wGr C R), (td, .inr (0, [.ref tr, .int (nI 0), .int (nI 0)])), (tr, .inl (cI, 37, .inl row))] := hD
  exact W.vret hx hb hr (fun t ht hW => ⟨⟨(C, R, (gTu R C we), (gTu R C no), (3 - tl), 0, 0, 0, row), rfl, rfl, by rw [ht]; exact hP, hD⟩, hS.F ht⟩) hS.2.2 dX5_change_78
