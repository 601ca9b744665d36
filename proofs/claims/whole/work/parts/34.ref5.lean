abbrev MS : Type := Nat × Nat × Nat × Nat × Nat × Nat × (Nat → Nat) × (Nat → Nat) × (Nat → Bool)
theorem hbv_up {n k v : Nat} {b : Nat → Nat} (h : ∀ f, f < n → b f ≤ 2) (hv : v ≤ 2) : ∀ f, f < n → uN b k v f ≤ 2 := by
  intro f hf
  by_cases e : f = k
  · rw [e, uN_s]; exact hv
  · rw [uN_n e]; exact h f hf
/-- the field over the way -/
def tF (C F : Nat) : Nat := C * (F % C) + F / C
theorem tF_lt {R C F : Nat} (hC1 : 1 ≤ C) (e : R = C) (h : F < R * C) : tF C F < R * C := by
  have h1 := fd_lt h
  have h2 := Nat.mod_lt F (show 0 < C by omega)
  unfold tF
  have : C * (F % C + 1) ≤ C * C := Nat.mul_le_mul_left C h2
  rw [Nat.mul_succ] at this
  rw [e] at h1 ⊢
  omega
theorem mWho_le (R C : Nat) (b : Nat → Nat) : mWho R C b ≤ 2 := by
  by_cases h1 : mJ R C b 1
  · rw [mWho_1 h1]; omega
  · by_cases h2 : mJ R C b 2
    · rw [mWho_2 h1 h2]; omega
    · rw [mWho_0 h1 h2]; omega
theorem kiX6_does_X6 : ∀ w ∈ u_ws RX6 TX6 17, w ∈ wsX6_does := fun w h => List.mem_cons_of_mem _ (List.mem_append_right _ h)
set_option maxHeartbeats 4000000 in
set_option maxRecDepth 100000 in
theorem c_R_do_lay (l : Launch) (D : va_G) (cI cJ cZ : ClassId) (h0 : Nat) (q : Nat → Nat) (R C tn dn ag md em : Nat) (b : Nat → Nat) (F : Nat) (qF : F < 36) (htn : tn = 1 ∨ tn = 2) (sz : Nat) : kMV l yX6_does wsX6_does 0 0 D cI cJ cZ [.ref h0, .int (nI F)] [(h0, wMo q R C tn dn ag md em), ((q 0), .inl (cI, 36, .inl (nA b)))] sz (fun (_ : Unit) => True) (fun _ : Unit => [(h0, wMo q R C (3 - tn) dn ag md em), ((q 0), .inl (cI, 36, .inl (nA (uN b F tn))))]) := by
  refine Met.ofW (cc := cX6_does) (maxL := 3) (ret := none) (by decide) rfl ?_
  intro p e s m args below meth c s₁ B hml hv
  obtain ⟨rfl, hsz, hP, ⟨hK, hN⟩, hD0⟩ := hv
  have hx := B.exec
  have hb := B.bytes
  have hr := B.returns
  have hts := atoms_spec (ws := wsX6_does) B.pre
  have hown : s.vm.findClass RX6 = some m.cls := findClass_of_methodNamed B.named
  have hlocks := B.notSynchronized
  subst hsz
  have hD := hD0.self (sz := s.heap.size)
  generalize hAe : va_A [(h0, wMo q R C tn dn ag md em), ((q 0), .inl (cI, 36, .inl (nA b)))] s.heap.size = A at hD ⊢
  have hA : ∀ q : Nat, s.heap.size ≤ q → A q := fun q h => by rw [← hAe]; exact Or.inr h
  have hS : va_S A s.heap s.heap [] := va_S.rf
  have hl := lv_entry ([.ref h0, .int (nI F)]) (n := 3) (Nat.le_of_ble_eq_true rfl)
  rw [lg_entry_eq]
  generalize (lg_sl ([.ref h0, .int (nI F)]) ++ List.replicate (3 - (lg_sl ([.ref h0, .int (nI F)])).length) Slot.unset).toArray = ls at hl ⊢
  have hl : lv_has ls 3 [(0, .ref h0), (1, .int (nI F))] := hl
  have hK2 : kK D cI cJ cZ s := ⟨hK, hN⟩
  clear hD0
  refine lv_iload_n hx hb dX6_does_0 rfl (lv_at hl 1 rfl) ?_
  refine lv_bipush (v := (nI 100)) hx hb dX6_does_1 (by decide) ?_
  refine lv_irem hx hb dX6_does_3 (nI_ne0 (by omega) (by omega)) ?_
  refine k_toi (y := nI (F % 100)) (pk_rem (by omega) (by omega) (by omega)) ?_
  refine k_toi (y := nI F) (congrArg nI (by omega)) ?_
  refine lv_istore_n (lv' := [(2, .int (nI F)), (0, .ref h0), (1, .int (nI F))]) hx hb dX6_does_4 rfl hl (by decide) rfl (fun ls hl => ?_)
  refine lv_iload_n hx hb dX6_does_5 rfl (lv_at hl 2 rfl) ?_
  refine lv_bipush (v := (nI 100)) hx hb dX6_does_6 (by decide) ?_
  refine kw_icmp_ge (tgt := 32) hx hb dX6_does_8 (by decide) (by omega) (by omega) (fun c_8_1 => absurd c_8_1 (by omega)) (fun c_8_1 => ?_)
  refine lv_aload_n hx hb dX6_does_11 rfl (lv_at hl 1 rfl) ?_
  refine va_get (D := D) (ci := 6) (v := .ref (q 0)) (C := RX6) (T := TX6) (N := 17) hx hb hts kiX6_does_X6 hown hK hP 0 rfl rfl 3 (by decide) (hts (.fieldLink RX6 19 "TwoBanksModel" "at" "[I") (List.mem_of_getElem? (i := 1) rfl)) (fun _ h9 => h9) rfl dX6_does_12 ?_
  refine lv_iload_n hx hb dX6_does_15 rfl (lv_at hl 0 rfl) ?_
  refine lv_aload_n hx hb dX6_does_16 rfl (lv_at hl 1 rfl) ?_
  refine va_get (D := D) (ci := 6) (v := .int (nI tn)) (C := RX6) (T := TX6) (N := 17) hx hb hts kiX6_does_X6 hown hK hP 0 rfl rfl 2 (by decide) (hts (.fieldLink RX6 16 "TwoBanksModel" "turn" "I") (List.mem_of_getElem? (i := 2) rfl)) (fun _ h9 => h9) rfl dX6_does_17 ?_
  refine va_iast hx hb hK hP hD hS 1 0 rfl rfl (vp_in_nI (by omega) (by omega)) dX6_does_20 (fun H locs hP hD hS => ?_)
  rw [nI_clamp (by omega)] at hP hD
  rw [nA_upd] at hP hD
  have hP : va_P D vwCl [(h0, wMo q R C tn dn ag md em), ((q 0), .inl (cI, 36, .inl (nA (uN b F tn))))] H := hP
  have hD : va_D A [(h0, wMo q R C tn dn ag md em), ((q 0), .inl (cI, 36, .inl (nA (uN b F tn))))] := hD
  refine lv_aload_n hx hb dX6_does_21 rfl (lv_at hl 1 rfl) ?_
  refine lv_iconst (v := (nI 3)) hx hb dX6_does_22 (by decide) ?_
  refine lv_aload_n hx hb dX6_does_23 rfl (lv_at hl 1 rfl) ?_
  refine va_get (D := D) (ci := 6) (v := .int (nI tn)) (C := RX6) (T := TX6) (N := 17) hx hb hts kiX6_does_X6 hown hK hP 0 rfl rfl 2 (by decide) (hts (.fieldLink RX6 16 "TwoBanksModel" "turn" "I") (List.mem_of_getElem? (i := 2) rfl)) (fun _ h9 => h9) rfl dX6_does_24 ?_
  refine lv_isub hx hb dX6_does_27 ?_
  refine k_toi (y := nI (3 - tn)) (pk_sub (by omega)) ?_
  refine va_put (D := D) (ci := 6) (v := .int (nI (3 - tn))) (ty := .int) (C := RX6) (T := TX6) (N := 17) hx hb hts kiX6_does_X6 tyX6 tyX6_ok nmX6 hown hK hP hD hS 0 rfl rfl 2 (by decide) (hts (.fieldLink RX6 16 "TwoBanksModel" "turn" "I") (List.mem_of_getElem? (i := 2) rfl)) (fun _ h9 => h9) rfl  (by decide +kernel) rfl rfl (Nat.le_of_ble_eq_true rfl) dX6_does_28 (fun H locs hP hD hS => ?_)
  have hP : va_P D vwCl [(h0, .inr (6, [.int (nI R), .int (nI C), .int (nI (3 - tn)), .ref (q 0), .int (nI dn), .int (nI ag), .ref (q 1), .int (nI md), .ref (q 2), .ref (q 3), .ref (q 4), .int (nI em), .ref (q 5), .ref (q 6), .ref (q 7), .ref (q 8), .ref (q 9)])), ((q 0), .inl (cI, 36, .inl (nA (uN b F tn))))] H := hP
  have hD : va_D A [(h0, .inr (6, [.int (nI R), .int (nI C), .int (nI (3 - tn)), .ref (q 0), .int (nI dn), .int (nI ag), .ref (q 1), .int (nI md), .ref (q 2), .ref (q 3), .ref (q 4), .int (nI em), .ref (q 5), .ref (q 6), .ref (q 7), .ref (q 8), .ref (q 9)])), ((q 0), .inl (cI, 36, .inl (nA (uN b F tn))))] := hD
  exact W.vret hx hb hr (fun t ht hW => ⟨⟨(), rfl, trivial, by rw [ht]; exact hP, hD⟩, hS.F ht⟩) hS.2.2 dX6_does_31

set_option maxHeartbeats 4000000 in
set_option maxRecDepth 100000 in
theorem c_R_do_swap (l : Launch) (D : va_G) (cI cJ cZ : ClassId) (h0 : Nat) (q : Nat → Nat) (R C tn dn ag md em : Nat) (b : Nat → Nat) (F : Nat) (hR1 : 1 ≤ R) (hR2 : R ≤ 6) (hC1 : 1 ≤ C) (hC2 : C ≤ 6) (hRC : R * C ≤ 36) (qFR : F < R * C) (qRC : R = C) (sz : Nat) : kMV l yX6_does wsX6_does 0 0 D cI cJ cZ [.ref h0, .int (nI (100 + F))] [(h0, wMo q R C tn dn ag md em), ((q 0), .inl (cI, 36, .inl (nA b)))] sz (fun (_ : Unit) => True) (fun _ : Unit => [(h0, wMo q R C 1 dn ag md em), ((q 0), .inl (cI, 36, .inl (nA (uN (uN b F 0) (tF C F) 2))))]) := by
  refine Met.ofW (cc := cX6_does) (maxL := 3) (ret := none) (by decide) rfl ?_
  intro p e s m args below meth c s₁ B hml hv
  obtain ⟨rfl, hsz, hP, ⟨hK, hN⟩, hD0⟩ := hv
  have hx := B.exec
  have hb := B.bytes
  have hr := B.returns
  have hts := atoms_spec (ws := wsX6_does) B.pre
  have hown : s.vm.findClass RX6 = some m.cls := findClass_of_methodNamed B.named
  have hlocks := B.notSynchronized
  subst hsz
  have hD := hD0.self (sz := s.heap.size)
  generalize hAe : va_A [(h0, wMo q R C tn dn ag md em), ((q 0), .inl (cI, 36, .inl (nA b)))] s.heap.size = A at hD ⊢
  have hA : ∀ q : Nat, s.heap.size ≤ q → A q := fun q h => by rw [← hAe]; exact Or.inr h
  have hS : va_S A s.heap s.heap [] := va_S.rf
  have hl := lv_entry ([.ref h0, .int (nI (100 + F))]) (n := 3) (Nat.le_of_ble_eq_true rfl)
  rw [lg_entry_eq]
  generalize (lg_sl ([.ref h0, .int (nI (100 + F))]) ++ List.replicate (3 - (lg_sl ([.ref h0, .int (nI (100 + F))])).length) Slot.unset).toArray = ls at hl ⊢
  have hl : lv_has ls 3 [(0, .ref h0), (1, .int (nI (100 + F)))] := hl
  have hK2 : kK D cI cJ cZ s := ⟨hK, hN⟩
  clear hD0
  have hfn := Nat.zero_le (F / C)
  have htf := tF_lt hC1 qRC qFR
  refine lv_iload_n hx hb dX6_does_0 rfl (lv_at hl 1 rfl) ?_
  refine lv_bipush (v := (nI 100)) hx hb dX6_does_1 (by decide) ?_
  refine lv_irem hx hb dX6_does_3 (nI_ne0 (by omega) (by omega)) ?_
  refine k_toi (y := nI ((100 + F) % 100)) (pk_rem (by omega) (by omega) (by omega)) ?_
  refine k_toi (y := nI F) (congrArg nI (by omega)) ?_
  refine lv_istore_n (lv' := [(2, .int (nI F)), (0, .ref h0), (1, .int (nI (100 + F)))]) hx hb dX6_does_4 rfl hl (by decide) rfl (fun ls hl => ?_)
  refine lv_iload_n hx hb dX6_does_5 rfl (lv_at hl 2 rfl) ?_
  refine lv_bipush (v := (nI 100)) hx hb dX6_does_6 (by decide) ?_
  refine kw_icmp_ge (tgt := 32) hx hb dX6_does_8 (by decide) (by omega) (by omega) (fun c_8_1 => ?_) (fun c_8_1 => absurd c_8_1 (by omega))
  refine lv_aload_n hx hb dX6_does_32 rfl (lv_at hl 1 rfl) ?_
  refine va_get (D := D) (ci := 6) (v := .ref (q 0)) (C := RX6) (T := TX6) (N := 17) hx hb hts kiX6_does_X6 hown hK hP 0 rfl rfl 3 (by decide) (hts (.fieldLink RX6 19 "TwoBanksModel" "at" "[I") (List.mem_of_getElem? (i := 1) rfl)) (fun _ h9 => h9) rfl dX6_does_33 ?_
  refine lv_iload_n hx hb dX6_does_36 rfl (lv_at hl 0 rfl) ?_
  refine lv_iconst (v := (nI 0)) hx hb dX6_does_37 (by decide) ?_
  refine va_iast hx hb hK hP hD hS 1 0 rfl rfl (vp_in_nI (by omega) (by omega)) dX6_does_38 (fun H locs hP hD hS => ?_)
  rw [nI_clamp (by omega)] at hP hD
  rw [nA_upd] at hP hD
  have hP : va_P D vwCl [(h0, wMo q R C tn dn ag md em), ((q 0), .inl (cI, 36, .inl (nA (uN b F 0))))] H := hP
  have hD : va_D A [(h0, wMo q R C tn dn ag md em), ((q 0), .inl (cI, 36, .inl (nA (uN b F 0))))] := hD
  refine lv_aload_n hx hb dX6_does_39 rfl (lv_at hl 1 rfl) ?_
  refine va_get (D := D) (ci := 6) (v := .ref (q 0)) (C := RX6) (T := TX6) (N := 17) hx hb hts kiX6_does_X6 hown hK hP 0 rfl rfl 3 (by decide) (hts (.fieldLink RX6 19 "TwoBanksModel" "at" "[I") (List.mem_of_getElem? (i := 1) rfl)) (fun _ h9 => h9) rfl dX6_does_40 ?_
  refine lv_aload_n hx hb dX6_does_43 rfl (lv_at hl 1 rfl) ?_
  refine va_get (D := D) (ci := 6) (v := .int (nI C)) (C := RX6) (T := TX6) (N := 17) hx hb hts kiX6_does_X6 hown hK hP 0 rfl rfl 1 (by decide) (hts (.fieldLink RX6 13 "TwoBanksModel" "columns" "I") (List.mem_of_getElem? (i := 3) rfl)) (fun _ h9 => h9) rfl dX6_does_44 ?_
  refine lv_iload_n hx hb dX6_does_47 rfl (lv_at hl 0 rfl) ?_
  refine lv_aload_n hx hb dX6_does_48 rfl (lv_at hl 1 rfl) ?_
  refine va_get (D := D) (ci := 6) (v := .int (nI C)) (C := RX6) (T := TX6) (N := 17) hx hb hts kiX6_does_X6 hown hK hP 0 rfl rfl 1 (by decide) (hts (.fieldLink RX6 13 "TwoBanksModel" "columns" "I") (List.mem_of_getElem? (i := 3) rfl)) (fun _ h9 => h9) rfl dX6_does_49 ?_
  refine lv_irem hx hb dX6_does_52 (nI_ne0 (by omega) (by omega)) ?_
  refine k_toi (y := nI (F % C)) (pk_rem (by omega) (by omega) (by omega)) ?_
  refine lv_imul hx hb dX6_does_53 ?_
  refine k_toi (y := nI (C * (F % C))) (pk_mul _ _) ?_
  refine lv_iload_n hx hb dX6_does_54 rfl (lv_at hl 0 rfl) ?_
  refine lv_aload_n hx hb dX6_does_55 rfl (lv_at hl 1 rfl) ?_
  refine va_get (D := D) (ci := 6) (v := .int (nI C)) (C := RX6) (T := TX6) (N := 17) hx hb hts kiX6_does_X6 hown hK hP 0 rfl rfl 1 (by decide) (hts (.fieldLink RX6 13 "TwoBanksModel" "columns" "I") (List.mem_of_getElem? (i := 3) rfl)) (fun _ h9 => h9) rfl dX6_does_56 ?_
  refine lv_idiv hx hb dX6_does_59 (nI_ne0 (by omega) (by omega)) ?_
  refine k_toi (y := nI (F / C)) (pk_div (by omega) (by omega) (by omega)) ?_
  refine lv_iadd hx hb dX6_does_60 ?_
  refine k_toi (y := nI (tF C F)) (nI_add _ _) ?_
  refine lv_iconst (v := (nI 2)) hx hb dX6_does_61 (by decide) ?_
  refine va_iast hx hb hK hP hD hS 1 0 rfl rfl (vp_in_nI (by omega) (by omega)) dX6_does_62 (fun H locs hP hD hS => ?_)
  rw [nI_clamp (by omega)] at hP hD
  rw [nA_upd] at hP hD
  have hP : va_P D vwCl [(h0, wMo q R C tn dn ag md em), ((q 0), .inl (cI, 36, .inl (nA (uN (uN b F 0) (tF C F) 2))))] H := hP
  have hD : va_D A [(h0, wMo q R C tn dn ag md em), ((q 0), .inl (cI, 36, .inl (nA (uN (uN b F 0) (tF C F) 2))))] := hD
  refine lv_aload_n hx hb dX6_does_63 rfl (lv_at hl 1 rfl) ?_
  refine lv_iconst (v := (nI 1)) hx hb dX6_does_64 (by decide) ?_
  refine va_put (D := D) (ci := 6) (v := .int (nI 1)) (ty := .int) (C := RX6) (T := TX6) (N := 17) hx hb hts kiX6_does_X6 tyX6 tyX6_ok nmX6 hown hK hP hD hS 0 rfl rfl 2 (by decide) (hts (.fieldLink RX6 16 "TwoBanksModel" "turn" "I") (List.mem_of_getElem? (i := 2) rfl)) (fun _ h9 => h9) rfl  (by decide +kernel) rfl rfl (Nat.le_of_ble_eq_true rfl) dX6_does_65 (fun H locs hP hD hS => ?_)
  have hP : va_P D vwCl [(h0, .inr (6, [.int (nI R), .int (nI C), .int (nI 1), .ref (q 0), .int (nI dn), .int (nI ag), .ref (q 1), .int (nI md), .ref (q 2), .ref (q 3), .ref (q 4), .int (nI em), .ref (q 5), .ref (q 6), .ref (q 7), .ref (q 8), .ref (q 9)])), ((q 0), .inl (cI, 36, .inl (nA (uN (uN b F 0) (tF C F) 2))))] H := hP
  have hD : va_D A [(h0, .inr (6, [.int (nI R), .int (nI C), .int (nI 1), .ref (q 0), .int (nI dn), .int (nI ag), .ref (q 1), .int (nI md), .ref (q 2), .ref (q 3), .ref (q 4), .int (nI em), .ref (q 5), .ref (q 6), .ref (q 7), .ref (q 8), .ref (q 9)])), ((q 0), .inl (cI, 36, .inl (nA (uN (uN b F 0) (tF C F) 2))))] := hD
  exact W.vret hx hb hr (fun t ht hW => ⟨⟨(), rfl, trivial, by rw [ht]; exact hP, hD⟩, hS.F ht⟩) hS.2.2 dX6_does_68

theorem kiX6_undoes_X6 : ∀ w ∈ u_ws RX6 TX6 17, w ∈ wsX6_undoes := fun w h => List.mem_cons_of_mem _ (List.mem_append_right _ h)
set_option maxHeartbeats 4000000 in
set_option maxRecDepth 100000 in
theorem c_R_un_lay (l : Launch) (D : va_G) (cI cJ cZ : ClassId) (h0 : Nat) (q : Nat → Nat) (R C tn dn ag md em : Nat) (b : Nat → Nat) (F : Nat) (qF : F < 36) (htn : tn = 1 ∨ tn = 2) (sz : Nat) : kMV l yX6_undoes wsX6_undoes 0 0 D cI cJ cZ [.ref h0, .int (nI F)] [(h0, wMo q R C tn dn ag md em), ((q 0), .inl (cI, 36, .inl (nA b)))] sz (fun (_ : Unit) => True) (fun _ : Unit => [(h0, wMo q R C (3 - tn) dn ag md em), ((q 0), .inl (cI, 36, .inl (nA (uN b F 0))))]) := by
  refine Met.ofW (cc := cX6_undoes) (maxL := 3) (ret := none) (by decide) rfl ?_
  intro p e s m args below meth c s₁ B hml hv
  obtain ⟨rfl, hsz, hP, ⟨hK, hN⟩, hD0⟩ := hv
  have hx := B.exec
  have hb := B.bytes
  have hr := B.returns
  have hts := atoms_spec (ws := wsX6_undoes) B.pre
  have hown : s.vm.findClass RX6 = some m.cls := findClass_of_methodNamed B.named
  have hlocks := B.notSynchronized
  subst hsz
  have hD := hD0.self (sz := s.heap.size)
  generalize hAe : va_A [(h0, wMo q R C tn dn ag md em), ((q 0), .inl (cI, 36, .inl (nA b)))] s.heap.size = A at hD ⊢
  have hA : ∀ q : Nat, s.heap.size ≤ q → A q := fun q h => by rw [← hAe]; exact Or.inr h
  have hS : va_S A s.heap s.heap [] := va_S.rf
  have hl := lv_entry ([.ref h0, .int (nI F)]) (n := 3) (Nat.le_of_ble_eq_true rfl)
  rw [lg_entry_eq]
  generalize (lg_sl ([.ref h0, .int (nI F)]) ++ List.replicate (3 - (lg_sl ([.ref h0, .int (nI F)])).length) Slot.unset).toArray = ls at hl ⊢
  have hl : lv_has ls 3 [(0, .ref h0), (1, .int (nI F))] := hl
  have hK2 : kK D cI cJ cZ s := ⟨hK, hN⟩
  clear hD0
  refine lv_iload_n hx hb dX6_undoes_0 rfl (lv_at hl 1 rfl) ?_
  refine lv_bipush (v := (nI 100)) hx hb dX6_undoes_1 (by decide) ?_
  refine lv_irem hx hb dX6_undoes_3 (nI_ne0 (by omega) (by omega)) ?_
  refine k_toi (y := nI (F % 100)) (pk_rem (by omega) (by omega) (by omega)) ?_
  refine k_toi (y := nI F) (congrArg nI (by omega)) ?_
  refine lv_istore_n (lv' := [(2, .int (nI F)), (0, .ref h0), (1, .int (nI F))]) hx hb dX6_undoes_4 rfl hl (by decide) rfl (fun ls hl => ?_)
  refine lv_iload_n hx hb dX6_undoes_5 rfl (lv_at hl 2 rfl) ?_
  refine lv_bipush (v := (nI 100)) hx hb dX6_undoes_6 (by decide) ?_
  refine kw_icmp_ge (tgt := 29) hx hb dX6_undoes_8 (by decide) (by omega) (by omega) (fun c_8_1 => absurd c_8_1 (by omega)) (fun c_8_1 => ?_)
  refine lv_aload_n hx hb dX6_undoes_11 rfl (lv_at hl 1 rfl) ?_
  refine va_get (D := D) (ci := 6) (v := .ref (q 0)) (C := RX6) (T := TX6) (N := 17) hx hb hts kiX6_undoes_X6 hown hK hP 0 rfl rfl 3 (by decide) (hts (.fieldLink RX6 19 "TwoBanksModel" "at" "[I") (List.mem_of_getElem? (i := 1) rfl)) (fun _ h9 => h9) rfl dX6_undoes_12 ?_
  refine lv_iload_n hx hb dX6_undoes_15 rfl (lv_at hl 0 rfl) ?_
  refine lv_iconst (v := (nI 0)) hx hb dX6_undoes_16 (by decide) ?_
  refine va_iast hx hb hK hP hD hS 1 0 rfl rfl (vp_in_nI (by omega) (by omega)) dX6_undoes_17 (fun H locs hP hD hS => ?_)
  rw [nI_clamp (by omega)] at hP hD
  rw [nA_upd] at hP hD
  have hP : va_P D vwCl [(h0, wMo q R C tn dn ag md em), ((q 0), .inl (cI, 36, .inl (nA (uN b F 0))))] H := hP
  have hD : va_D A [(h0, wMo q R C tn dn ag md em), ((q 0), .inl (cI, 36, .inl (nA (uN b F 0))))] := hD
  refine lv_aload_n hx hb dX6_undoes_18 rfl (lv_at hl 1 rfl) ?_
  refine lv_iconst (v := (nI 3)) hx hb dX6_undoes_19 (by decide) ?_
  refine lv_aload_n hx hb dX6_undoes_20 rfl (lv_at hl 1 rfl) ?_
  refine va_get (D := D) (ci := 6) (v := .int (nI tn)) (C := RX6) (T := TX6) (N := 17) hx hb hts kiX6_undoes_X6 hown hK hP 0 rfl rfl 2 (by decide) (hts (.fieldLink RX6 16 "TwoBanksModel" "turn" "I") (List.mem_of_getElem? (i := 2) rfl)) (fun _ h9 => h9) rfl dX6_undoes_21 ?_
  refine lv_isub hx hb dX6_undoes_24 ?_
  refine k_toi (y := nI (3 - tn)) (pk_sub (by omega)) ?_
  refine va_put (D := D) (ci := 6) (v := .int (nI (3 - tn))) (ty := .int) (C := RX6) (T := TX6) (N := 17) hx hb hts kiX6_undoes_X6 tyX6 tyX6_ok nmX6 hown hK hP hD hS 0 rfl rfl 2 (by decide) (hts (.fieldLink RX6 16 "TwoBanksModel" "turn" "I") (List.mem_of_getElem? (i := 2) rfl)) (fun _ h9 => h9) rfl  (by decide +kernel) rfl rfl (Nat.le_of_ble_eq_true rfl) dX6_undoes_25 (fun H locs hP hD hS => ?_)
  have hP : va_P D vwCl [(h0, .inr (6, [.int (nI R), .int (nI C), .int (nI (3 - tn)), .ref (q 0), .int (nI dn), .int (nI ag), .ref (q 1), .int (nI md), .ref (q 2), .ref (q 3), .ref (q 4), .int (nI em), .ref (q 5), .ref (q 6), .ref (q 7), .ref (q 8), .ref (q 9)])), ((q 0), .inl (cI, 36, .inl (nA (uN b F 0))))] H := hP
  have hD : va_D A [(h0, .inr (6, [.int (nI R), .int (nI C), .int (nI (3 - tn)), .ref (q 0), .int (nI dn), .int (nI ag), .ref (q 1), .int (nI md), .ref (q 2), .ref (q 3), .ref (q 4), .int (nI em), .ref (q 5), .ref (q 6), .ref (q 7), .ref (q 8), .ref (q 9)])), ((q 0), .inl (cI, 36, .inl (nA (uN b F 0))))] := hD
  exact W.vret hx hb hr (fun t ht hW => ⟨⟨(), rfl, trivial, by rw [ht]; exact hP, hD⟩, hS.F ht⟩) hS.2.2 dX6_undoes_28

set_option maxHeartbeats 4000000 in
set_option maxRecDepth 100000 in
theorem c_R_un_swap (l : Launch) (D : va_G) (cI cJ cZ : ClassId) (h0 : Nat) (q : Nat → Nat) (R C tn dn ag md em : Nat) (b : Nat → Nat) (F : Nat) (hR1 : 1 ≤ R) (hR2 : R ≤ 6) (hC1 : 1 ≤ C) (hC2 : C ≤ 6) (hRC : R * C ≤ 36) (qFR : F < R * C) (qRC : R = C) (sz : Nat) : kMV l yX6_undoes wsX6_undoes 0 0 D cI cJ cZ [.ref h0, .int (nI (100 + F))] [(h0, wMo q R C tn dn ag md em), ((q 0), .inl (cI, 36, .inl (nA b)))] sz (fun (_ : Unit) => True) (fun _ : Unit => [(h0, wMo q R C 2 dn ag md em), ((q 0), .inl (cI, 36, .inl (nA (uN (uN b (tF C F) 0) F 1))))]) := by
  refine Met.ofW (cc := cX6_undoes) (maxL := 3) (ret := none) (by decide) rfl ?_
  intro p e s m args below meth c s₁ B hml hv
  obtain ⟨rfl, hsz, hP, ⟨hK, hN⟩, hD0⟩ := hv
  have hx := B.exec
  have hb := B.bytes
  have hr := B.returns
  have hts := atoms_spec (ws := wsX6_undoes) B.pre
  have hown : s.vm.findClass RX6 = some m.cls := findClass_of_methodNamed B.named
  have hlocks := B.notSynchronized
  subst hsz
  have hD := hD0.self (sz := s.heap.size)
  generalize hAe : va_A [(h0, wMo q R C tn dn ag md em), ((q 0), .inl (cI, 36, .inl (nA b)))] s.heap.size = A at hD ⊢
  have hA : ∀ q : Nat, s.heap.size ≤ q → A q := fun q h => by rw [← hAe]; exact Or.inr h
  have hS : va_S A s.heap s.heap [] := va_S.rf
  have hl := lv_entry ([.ref h0, .int (nI (100 + F))]) (n := 3) (Nat.le_of_ble_eq_true rfl)
  rw [lg_entry_eq]
  generalize (lg_sl ([.ref h0, .int (nI (100 + F))]) ++ List.replicate (3 - (lg_sl ([.ref h0, .int (nI (100 + F))])).length) Slot.unset).toArray = ls at hl ⊢
  have hl : lv_has ls 3 [(0, .ref h0), (1, .int (nI (100 + F)))] := hl
  have hK2 : kK D cI cJ cZ s := ⟨hK, hN⟩
  clear hD0
  have hfn := Nat.zero_le (F / C)
  have htf := tF_lt hC1 qRC qFR
  refine lv_iload_n hx hb dX6_undoes_0 rfl (lv_at hl 1 rfl) ?_
  refine lv_bipush (v := (nI 100)) hx hb dX6_undoes_1 (by decide) ?_
  refine lv_irem hx hb dX6_undoes_3 (nI_ne0 (by omega) (by omega)) ?_
  refine k_toi (y := nI ((100 + F) % 100)) (pk_rem (by omega) (by omega) (by omega)) ?_
  refine k_toi (y := nI F) (congrArg nI (by omega)) ?_
  refine lv_istore_n (lv' := [(2, .int (nI F)), (0, .ref h0), (1, .int (nI (100 + F)))]) hx hb dX6_undoes_4 rfl hl (by decide) rfl (fun ls hl => ?_)
  refine lv_iload_n hx hb dX6_undoes_5 rfl (lv_at hl 2 rfl) ?_
  refine lv_bipush (v := (nI 100)) hx hb dX6_undoes_6 (by decide) ?_
  refine kw_icmp_ge (tgt := 29) hx hb dX6_undoes_8 (by decide) (by omega) (by omega) (fun c_8_1 => ?_) (fun c_8_1 => absurd c_8_1 (by omega))
  refine lv_aload_n hx hb dX6_undoes_29 rfl (lv_at hl 1 rfl) ?_
  refine va_get (D := D) (ci := 6) (v := .ref (q 0)) (C := RX6) (T := TX6) (N := 17) hx hb hts kiX6_undoes_X6 hown hK hP 0 rfl rfl 3 (by decide) (hts (.fieldLink RX6 19 "TwoBanksModel" "at" "[I") (List.mem_of_getElem? (i := 1) rfl)) (fun _ h9 => h9) rfl dX6_undoes_30 ?_
  refine lv_aload_n hx hb dX6_undoes_33 rfl (lv_at hl 1 rfl) ?_
  refine va_get (D := D) (ci := 6) (v := .int (nI C)) (C := RX6) (T := TX6) (N := 17) hx hb hts kiX6_undoes_X6 hown hK hP 0 rfl rfl 1 (by decide) (hts (.fieldLink RX6 13 "TwoBanksModel" "columns" "I") (List.mem_of_getElem? (i := 3) rfl)) (fun _ h9 => h9) rfl dX6_undoes_34 ?_
  refine lv_iload_n hx hb dX6_undoes_37 rfl (lv_at hl 0 rfl) ?_
  refine lv_aload_n hx hb dX6_undoes_38 rfl (lv_at hl 1 rfl) ?_
  refine va_get (D := D) (ci := 6) (v := .int (nI C)) (C := RX6) (T := TX6) (N := 17) hx hb hts kiX6_undoes_X6 hown hK hP 0 rfl rfl 1 (by decide) (hts (.fieldLink RX6 13 "TwoBanksModel" "columns" "I") (List.mem_of_getElem? (i := 3) rfl)) (fun _ h9 => h9) rfl dX6_undoes_39 ?_
  refine lv_irem hx hb dX6_undoes_42 (nI_ne0 (by omega) (by omega)) ?_
  refine k_toi (y := nI (F % C)) (pk_rem (by omega) (by omega) (by omega)) ?_
  refine lv_imul hx hb dX6_undoes_43 ?_
  refine k_toi (y := nI (C * (F % C))) (pk_mul _ _) ?_
  refine lv_iload_n hx hb dX6_undoes_44 rfl (lv_at hl 0 rfl) ?_
  refine lv_aload_n hx hb dX6_undoes_45 rfl (lv_at hl 1 rfl) ?_
  refine va_get (D := D) (ci := 6) (v := .int (nI C)) (C := RX6) (T := TX6) (N := 17) hx hb hts kiX6_undoes_X6 hown hK hP 0 rfl rfl 1 (by decide) (hts (.fieldLink RX6 13 "TwoBanksModel" "columns" "I") (List.mem_of_getElem? (i := 3) rfl)) (fun _ h9 => h9) rfl dX6_undoes_46 ?_
  refine lv_idiv hx hb dX6_undoes_49 (nI_ne0 (by omega) (by omega)) ?_
  refine k_toi (y := nI (F / C)) (pk_div (by omega) (by omega) (by omega)) ?_
  refine lv_iadd hx hb dX6_undoes_50 ?_
  refine k_toi (y := nI (tF C F)) (nI_add _ _) ?_
  refine lv_iconst (v := (nI 0)) hx hb dX6_undoes_51 (by decide) ?_
  refine va_iast hx hb hK hP hD hS 1 0 rfl rfl (vp_in_nI (by omega) (by omega)) dX6_undoes_52 (fun H locs hP hD hS => ?_)
  rw [nI_clamp (by omega)] at hP hD
  rw [nA_upd] at hP hD
  have hP : va_P D vwCl [(h0, wMo q R C tn dn ag md em), ((q 0), .inl (cI, 36, .inl (nA (uN b (tF C F) 0))))] H := hP
  have hD : va_D A [(h0, wMo q R C tn dn ag md em), ((q 0), .inl (cI, 36, .inl (nA (uN b (tF C F) 0))))] := hD
  refine lv_aload_n hx hb dX6_undoes_53 rfl (lv_at hl 1 rfl) ?_
  refine va_get (D := D) (ci := 6) (v := .ref (q 0)) (C := RX6) (T := TX6) (N := 17) hx hb hts kiX6_undoes_X6 hown hK hP 0 rfl rfl 3 (by decide) (hts (.fieldLink RX6 19 "TwoBanksModel" "at" "[I") (List.mem_of_getElem? (i := 1) rfl)) (fun _ h9 => h9) rfl dX6_undoes_54 ?_
  refine lv_iload_n hx hb dX6_undoes_57 rfl (lv_at hl 0 rfl) ?_
  refine lv_iconst (v := (nI 1)) hx hb dX6_undoes_58 (by decide) ?_
  refine va_iast hx hb hK hP hD hS 1 0 rfl rfl (vp_in_nI (by omega) (by omega)) dX6_undoes_59 (fun H locs hP hD hS => ?_)
  rw [nI_clamp (by omega)] at hP hD
  rw [nA_upd] at hP hD
  have hP : va_P D vwCl [(h0, wMo q R C tn dn ag md em), ((q 0), .inl (cI, 36, .inl (nA (uN (uN b (tF C F) 0) F 1))))] H := hP
  have hD : va_D A [(h0, wMo q R C tn dn ag md em), ((q 0), .inl (cI, 36, .inl (nA (uN (uN b (tF C F) 0) F 1))))] := hD
  refine lv_aload_n hx hb dX6_undoes_60 rfl (lv_at hl 1 rfl) ?_
  refine lv_iconst (v := (nI 2)) hx hb dX6_undoes_61 (by decide) ?_
  refine va_put (D := D) (ci := 6) (v := .int (nI 2)) (ty := .int) (C := RX6) (T := TX6) (N := 17) hx hb hts kiX6_undoes_X6 tyX6 tyX6_ok nmX6 hown hK hP hD hS 0 rfl rfl 2 (by decide) (hts (.fieldLink RX6 16 "TwoBanksModel" "turn" "I") (List.mem_of_getElem? (i := 2) rfl)) (fun _ h9 => h9) rfl  (by decide +kernel) rfl rfl (Nat.le_of_ble_eq_true rfl) dX6_undoes_62 (fun H locs hP hD hS => ?_)
  have hP : va_P D vwCl [(h0, .inr (6, [.int (nI R), .int (nI C), .int (nI 2), .ref (q 0), .int (nI dn), .int (nI ag), .ref (q 1), .int (nI md), .ref (q 2), .ref (q 3), .ref (q 4), .int (nI em), .ref (q 5), .ref (q 6), .ref (q 7), .ref (q 8), .ref (q 9)])), ((q 0), .inl (cI, 36, .inl (nA (uN (uN b (tF C F) 0) F 1))))] H := hP
  have hD : va_D A [(h0, .inr (6, [.int (nI R), .int (nI C), .int (nI 2), .ref (q 0), .int (nI dn), .int (nI ag), .ref (q 1), .int (nI md), .ref (q 2), .ref (q 3), .ref (q 4), .int (nI em), .ref (q 5), .ref (q 6), .ref (q 7), .ref (q 8), .ref (q 9)])), ((q 0), .inl (cI, 36, .inl (nA (uN (uN b (tF C F) 0) F 1))))] := hD
  exact W.vret hx hb hr (fun t ht hW => ⟨⟨(), rfl, trivial, by rw [ht]; exact hP, hD⟩, hS.F ht⟩) hS.2.2 dX6_undoes_65

theorem kiX6_acts_X6 : ∀ w ∈ u_ws RX6 TX6 17, w ∈ wsX6_acts := fun w h => List.mem_cons_of_mem _ (List.mem_append_right _ h)
set_option maxHeartbeats 4000000 in
set_option maxRecDepth 100000 in
theorem c_R_acts_lay (l : Launch) (D : va_G) (cI cJ cZ : ClassId) (h0 : Nat) (q : Nat → Nat) (R C tn dn ag md em : Nat) (b : Nat → Nat) (ac : Nat → Nat) (F : Nat) (qF : F < 36) (htn : tn = 1 ∨ tn = 2) (qdn : dn < 80) (sz : Nat) : kMV l yX6_acts wsX6_acts 1 22 D cI cJ cZ [.ref h0, .int (nI F)] [(h0, wMo q R C tn dn ag md em), ((q 0), .inl (cI, 36, .inl (nA b))), ((q 1), .inl (cI, 80, .inl (nA ac)))] sz (fun (_ : Unit) => True) (fun _ : Unit => [(h0, wMo q R C (3 - tn) (dn + 1) 0 md em), ((q 0), .inl (cI, 36, .inl (nA (uN b F tn)))), ((q 1), .inl (cI, 80, .inl (nA (uN ac dn F))))]) := by
  refine Met.ofW (cc := cX6_acts) (maxL := 2) (ret := none) (by decide) rfl ?_
  intro p e s m args below meth c s₁ B hml hv
  obtain ⟨rfl, hsz, hP, ⟨hK, hN⟩, hD0⟩ := hv
  have hx := B.exec
  have hb := B.bytes
  have hr := B.returns
  have hts := atoms_spec (ws := wsX6_acts) B.pre
  have hown : s.vm.findClass RX6 = some m.cls := findClass_of_methodNamed B.named
  have hlocks := B.notSynchronized
  subst hsz
  have hD := hD0.self (sz := s.heap.size)
  generalize hAe : va_A [(h0, wMo q R C tn dn ag md em), ((q 0), .inl (cI, 36, .inl (nA b))), ((q 1), .inl (cI, 80, .inl (nA ac)))] s.heap.size = A at hD ⊢
  have hA : ∀ q : Nat, s.heap.size ≤ q → A q := fun q h => by rw [← hAe]; exact Or.inr h
  have hS : va_S A s.heap s.heap [] := va_S.rf
  have hl := lv_entry ([.ref h0, .int (nI F)]) (n := 2) (Nat.le_of_ble_eq_true rfl)
  rw [lg_entry_eq]
  generalize (lg_sl ([.ref h0, .int (nI F)]) ++ List.replicate (2 - (lg_sl ([.ref h0, .int (nI F)])).length) Slot.unset).toArray = ls at hl ⊢
  have hl : lv_has ls 2 [(0, .ref h0), (1, .int (nI F))] := hl
  have hK2 : kK D cI cJ cZ s := ⟨hK, hN⟩
  clear hD0
  refine lv_aload_n hx hb dX6_acts_0 rfl (lv_at hl 0 rfl) ?_
  refine va_get (D := D) (ci := 6) (v := .ref (q 1)) (C := RX6) (T := TX6) (N := 17) hx hb hts kiX6_acts_X6 hown hK hP 0 rfl rfl 6 (by decide) (hts (.fieldLink RX6 23 "TwoBanksModel" "acts" "[I") (List.mem_of_getElem? (i := 1) rfl)) (fun _ h9 => h9) rfl dX6_acts_1 ?_
  refine lv_aload_n hx hb dX6_acts_4 rfl (lv_at hl 0 rfl) ?_
  refine va_get (D := D) (ci := 6) (v := .int (nI dn)) (C := RX6) (T := TX6) (N := 17) hx hb hts kiX6_acts_X6 hown hK hP 0 rfl rfl 4 (by decide) (hts (.fieldLink RX6 64 "TwoBanksModel" "done" "I") (List.mem_of_getElem? (i := 2) rfl)) (fun _ h9 => h9) rfl dX6_acts_5 ?_
  refine lv_iload_n hx hb dX6_acts_8 rfl (lv_at hl 1 rfl) ?_
  refine va_iast hx hb hK hP hD hS 2 0 rfl rfl (vp_in_nI (by omega) (by omega)) dX6_acts_9 (fun H locs hP hD hS => ?_)
  rw [nI_clamp (by omega)] at hP hD
  rw [nA_upd] at hP hD
  have hP : va_P D vwCl [(h0, wMo q R C tn dn ag md em), ((q 0), .inl (cI, 36, .inl (nA b))), ((q 1), .inl (cI, 80, .inl (nA (uN ac dn F))))] H := hP
  have hD : va_D A [(h0, wMo q R C tn dn ag md em), ((q 0), .inl (cI, 36, .inl (nA b))), ((q 1), .inl (cI, 80, .inl (nA (uN ac dn F))))] := hD
  refine lv_aload_n hx hb dX6_acts_10 rfl (lv_at hl 0 rfl) ?_
  refine lv_dup hx hb dX6_acts_11 rfl ?_
  refine va_get (D := D) (ci := 6) (v := .int (nI dn)) (C := RX6) (T := TX6) (N := 17) hx hb hts kiX6_acts_X6 hown hK hP 0 rfl rfl 4 (by decide) (hts (.fieldLink RX6 64 "TwoBanksModel" "done" "I") (List.mem_of_getElem? (i := 2) rfl)) (fun _ h9 => h9) rfl dX6_acts_12 ?_
  refine lv_iconst (v := (nI 1)) hx hb dX6_acts_15 (by decide) ?_
  refine lv_iadd hx hb dX6_acts_16 ?_
  refine k_toi (y := nI (dn + 1)) (nI_add _ _) ?_
  refine va_put (D := D) (ci := 6) (v := .int (nI (dn + 1))) (ty := .int) (C := RX6) (T := TX6) (N := 17) hx hb hts kiX6_acts_X6 tyX6 tyX6_ok nmX6 hown hK hP hD hS 0 rfl rfl 4 (by decide) (hts (.fieldLink RX6 64 "TwoBanksModel" "done" "I") (List.mem_of_getElem? (i := 2) rfl)) (fun _ h9 => h9) rfl  (by decide +kernel) rfl rfl (Nat.le_of_ble_eq_true rfl) dX6_acts_17 (fun H locs hP hD hS => ?_)
  have hP : va_P D vwCl [(h0, .inr (6, [.int (nI R), .int (nI C), .int (nI tn), .ref (q 0), .int (nI (dn + 1)), .int (nI ag), .ref (q 1), .int (nI md), .ref (q 2), .ref (q 3), .ref (q 4), .int (nI em), .ref (q 5), .ref (q 6), .ref (q 7), .ref (q 8), .ref (q 9)])), ((q 0), .inl (cI, 36, .inl (nA b))), ((q 1), .inl (cI, 80, .inl (nA (uN ac dn F))))] H := hP
  have hD : va_D A [(h0, .inr (6, [.int (nI R), .int (nI C), .int (nI tn), .ref (q 0), .int (nI (dn + 1)), .int (nI ag), .ref (q 1), .int (nI md), .ref (q 2), .ref (q 3), .ref (q 4), .int (nI em), .ref (q 5), .ref (q 6), .ref (q 7), .ref (q 8), .ref (q 9)])), ((q 0), .inl (cI, 36, .inl (nA b))), ((q 1), .inl (cI, 80, .inl (nA (uN ac dn F))))] := hD
  refine lv_aload_n hx hb dX6_acts_20 rfl (lv_at hl 0 rfl) ?_
  refine lv_iconst (v := (nI 0)) hx hb dX6_acts_21 (by decide) ?_
  refine va_put (D := D) (ci := 6) (v := .int (nI 0)) (ty := .int) (C := RX6) (T := TX6) (N := 17) hx hb hts kiX6_acts_X6 tyX6 tyX6_ok nmX6 hown hK hP hD hS 0 rfl rfl 5 (by decide) (hts (.fieldLink RX6 67 "TwoBanksModel" "again" "I") (List.mem_of_getElem? (i := 3) rfl)) (fun _ h9 => h9) rfl  (by decide +kernel) rfl rfl (Nat.le_of_ble_eq_true rfl) dX6_acts_22 (fun H locs hP hD hS => ?_)
  have hP : va_P D vwCl [(h0, .inr (6, [.int (nI R), .int (nI C), .int (nI tn), .ref (q 0), .int (nI (dn + 1)), .int (nI 0), .ref (q 1), .int (nI md), .ref (q 2), .ref (q 3), .ref (q 4), .int (nI em), .ref (q 5), .ref (q 6), .ref (q 7), .ref (q 8), .ref (q 9)])), ((q 0), .inl (cI, 36, .inl (nA b))), ((q 1), .inl (cI, 80, .inl (nA (uN ac dn F))))] H := hP
  have hD : va_D A [(h0, .inr (6, [.int (nI R), .int (nI C), .int (nI tn), .ref (q 0), .int (nI (dn + 1)), .int (nI 0), .ref (q 1), .int (nI md), .ref (q 2), .ref (q 3), .ref (q 4), .int (nI em), .ref (q 5), .ref (q 6), .ref (q 7), .ref (q 8), .ref (q 9)])), ((q 0), .inl (cI, 36, .inl (nA b))), ((q 1), .inl (cI, 80, .inl (nA (uN ac dn F))))] := hD
  refine lv_aload_n hx hb dX6_acts_25 rfl (lv_at hl 0 rfl) ?_
  refine lv_iload_n hx hb dX6_acts_26 rfl (lv_at hl 1 rfl) ?_
  refine k_callv (wr := [((q 1), .inl (cI, 80, .inl (nA (uN ac dn F))))]) (w2 := (fun _ : Unit => [(h0, wMo q R C (3 - tn) (dn + 1) 0 md em), ((q 0), .inl (cI, 36, .inl (nA (uN b F tn)))), ((q 1), .inl (cI, 80, .inl (nA (uN ac dn F))))])) (va_runV (As := [.int (nI F)]) (rest := []) ⟨hx, hb, hml, hown, hts⟩ (c_R_do_lay l D cI cJ cZ h0 q R C tn (dn + 1) 0 md em b F qF htn  H.size) (cwV 1 hts gX6_acts_X6_does rfl rfl rfl (by decide +kernel) ⟨Nat.le_of_ble_eq_true rfl, Nat.le_of_ble_eq_true rfl⟩) (kPV (ci := 6) (q0 := 0) (wc := [(h0, .inr (6, [.int (nI R), .int (nI C), .int (nI tn), .ref (q 0), .int (nI (dn + 1)), .int (nI 0), .ref (q 1), .int (nI md), .ref (q 2), .ref (q 3), .ref (q 4), .int (nI em), .ref (q 5), .ref (q 6), .ref (q 7), .ref (q 8), .ref (q 9)])), ((q 0), .inl (cI, 36, .inl (nA b)))]) hK2 hP hD [0, 1] rfl (by decide) rfl rfl) rfl rfl hl.1 rfl (lv_room (Nat.le_of_ble_eq_true rfl)) dX6_acts_27 ⟨Nat.le_of_ble_eq_true rfl, Nat.le_of_ble_eq_true rfl⟩) hP hD hS hA [0, 1] [2] [1, 2, 0] rfl rfl (by decide) (by decide) (fun _ => rfl) (by decide) (fun u_1 H locs hw_1 hP hD hS => ?_)
  have hP : va_P D vwCl [(h0, wMo q R C (3 - tn) (dn + 1) 0 md em), ((q 0), .inl (cI, 36, .inl (nA (uN b F tn)))), ((q 1), .inl (cI, 80, .inl (nA (uN ac dn F))))] H := hP
  have hD : va_D A [(h0, wMo q R C (3 - tn) (dn + 1) 0 md em), ((q 0), .inl (cI, 36, .inl (nA (uN b F tn)))), ((q 1), .inl (cI, 80, .inl (nA (uN ac dn F))))] := hD
  exact W.vret hx hb hr (fun t ht hW => ⟨⟨(), rfl, trivial, by rw [ht]; exact hP, hD⟩, hS.F ht⟩) hS.2.2 dX6_acts_30

set_option maxHeartbeats 4000000 in
set_option maxRecDepth 100000 in
theorem c_R_acts_swap (l : Launch) (D : va_G) (cI cJ cZ : ClassId) (h0 : Nat) (q : Nat → Nat) (R C tn dn ag md em : Nat) (b : Nat → Nat) (ac : Nat → Nat) (F : Nat) (hR1 : 1 ≤ R) (hR2 : R ≤ 6) (hC1 : 1 ≤ C) (hC2 : C ≤ 6) (hRC : R * C ≤ 36) (qFR : F < R * C) (qRC : R = C) (qdn : dn < 80) (sz : Nat) : kMV l yX6_acts wsX6_acts 1 22 D cI cJ cZ [.ref h0, .int (nI (100 + F))] [(h0, wMo q R C tn dn ag md em), ((q 0), .inl (cI, 36, .inl (nA b))), ((q 1), .inl (cI, 80, .inl (nA ac)))] sz (fun (_ : Unit) => True) (fun _ : Unit => [(h0, wMo q R C 1 (dn + 1) 0 md em), ((q 0), .inl (cI, 36, .inl (nA (uN (uN b F 0) (tF C F) 2)))), ((q 1), .inl (cI, 80, .inl (nA (uN ac dn (100 + F)))))]) := by
  refine Met.ofW (cc := cX6_acts) (maxL := 2) (ret := none) (by decide) rfl ?_
  intro p e s m args below meth c s₁ B hml hv
  obtain ⟨rfl, hsz, hP, ⟨hK, hN⟩, hD0⟩ := hv
  have hx := B.exec
  have hb := B.bytes
  have hr := B.returns
  have hts := atoms_spec (ws := wsX6_acts) B.pre
  have hown : s.vm.findClass RX6 = some m.cls := findClass_of_methodNamed B.named
  have hlocks := B.notSynchronized
  subst hsz
  have hD := hD0.self (sz := s.heap.size)
  generalize hAe : va_A [(h0, wMo q R C tn dn ag md em), ((q 0), .inl (cI, 36, .inl (nA b))), ((q 1), .inl (cI, 80, .inl (nA ac)))] s.heap.size = A at hD ⊢
  have hA : ∀ q : Nat, s.heap.size ≤ q → A q := fun q h => by rw [← hAe]; exact Or.inr h
  have hS : va_S A s.heap s.heap [] := va_S.rf
  have hl := lv_entry ([.ref h0, .int (nI (100 + F))]) (n := 2) (Nat.le_of_ble_eq_true rfl)
  rw [lg_entry_eq]
  generalize (lg_sl ([.ref h0, .int (nI (100 + F))]) ++ List.replicate (2 - (lg_sl ([.ref h0, .int (nI (100 + F))])).length) Slot.unset).toArray = ls at hl ⊢
  have hl : lv_has ls 2 [(0, .ref h0), (1, .int (nI (100 + F)))] := hl
  have hK2 : kK D cI cJ cZ s := ⟨hK, hN⟩
  clear hD0
  refine lv_aload_n hx hb dX6_acts_0 rfl (lv_at hl 0 rfl) ?_
  refine va_get (D := D) (ci := 6) (v := .ref (q 1)) (C := RX6) (T := TX6) (N := 17) hx hb hts kiX6_acts_X6 hown hK hP 0 rfl rfl 6 (by decide) (hts (.fieldLink RX6 23 "TwoBanksModel" "acts" "[I") (List.mem_of_getElem? (i := 1) rfl)) (fun _ h9 => h9) rfl dX6_acts_1 ?_
  refine lv_aload_n hx hb dX6_acts_4 rfl (lv_at hl 0 rfl) ?_
  refine va_get (D := D) (ci := 6) (v := .int (nI dn)) (C := RX6) (T := TX6) (N := 17) hx hb hts kiX6_acts_X6 hown hK hP 0 rfl rfl 4 (by decide) (hts (.fieldLink RX6 64 "TwoBanksModel" "done" "I") (List.mem_of_getElem? (i := 2) rfl)) (fun _ h9 => h9) rfl dX6_acts_5 ?_
  refine lv_iload_n hx hb dX6_acts_8 rfl (lv_at hl 1 rfl) ?_
  refine va_iast hx hb hK hP hD hS 2 0 rfl rfl (vp_in_nI (by omega) (by omega)) dX6_acts_9 (fun H locs hP hD hS => ?_)
  rw [nI_clamp (by omega)] at hP hD
  rw [nA_upd] at hP hD
  have hP : va_P D vwCl [(h0, wMo q R C tn dn ag md em), ((q 0), .inl (cI, 36, .inl (nA b))), ((q 1), .inl (cI, 80, .inl (nA (uN ac dn (100 + F)))))] H := hP
  have hD : va_D A [(h0, wMo q R C tn dn ag md em), ((q 0), .inl (cI, 36, .inl (nA b))), ((q 1), .inl (cI, 80, .inl (nA (uN ac dn (100 + F)))))] := hD
  refine lv_aload_n hx hb dX6_acts_10 rfl (lv_at hl 0 rfl) ?_
  refine lv_dup hx hb dX6_acts_11 rfl ?_
  refine va_get (D := D) (ci := 6) (v := .int (nI dn)) (C := RX6) (T := TX6) (N := 17) hx hb hts kiX6_acts_X6 hown hK hP 0 rfl rfl 4 (by decide) (hts (.fieldLink RX6 64 "TwoBanksModel" "done" "I") (List.mem_of_getElem? (i := 2) rfl)) (fun _ h9 => h9) rfl dX6_acts_12 ?_
  refine lv_iconst (v := (nI 1)) hx hb dX6_acts_15 (by decide) ?_
  refine lv_iadd hx hb dX6_acts_16 ?_
  refine k_toi (y := nI (dn + 1)) (nI_add _ _) ?_
  refine va_put (D := D) (ci := 6) (v := .int (nI (dn + 1))) (ty := .int) (C := RX6) (T := TX6) (N := 17) hx hb hts kiX6_acts_X6 tyX6 tyX6_ok nmX6 hown hK hP hD hS 0 rfl rfl 4 (by decide) (hts (.fieldLink RX6 64 "TwoBanksModel" "done" "I") (List.mem_of_getElem? (i := 2) rfl)) (fun _ h9 => h9) rfl  (by decide +kernel) rfl rfl (Nat.le_of_ble_eq_true rfl) dX6_acts_17 (fun H locs hP hD hS => ?_)
  have hP : va_P D vwCl [(h0, .inr (6, [.int (nI R), .int (nI C), .int (nI tn), .ref (q 0), .int (nI (dn + 1)), .int (nI ag), .ref (q 1), .int (nI md), .ref (q 2), .ref (q 3), .ref (q 4), .int (nI em), .ref (q 5), .ref (q 6), .ref (q 7), .ref (q 8), .ref (q 9)])), ((q 0), .inl (cI, 36, .inl (nA b))), ((q 1), .inl (cI, 80, .inl (nA (uN ac dn (100 + F)))))] H := hP
  have hD : va_D A [(h0, .inr (6, [.int (nI R), .int (nI C), .int (nI tn), .ref (q 0), .int (nI (dn + 1)), .int (nI ag), .ref (q 1), .int (nI md), .ref (q 2), .ref (q 3), .ref (q 4), .int (nI em), .ref (q 5), .ref (q 6), .ref (q 7), .ref (q 8), .ref (q 9)])), ((q 0), .inl (cI, 36, .inl (nA b))), ((q 1), .inl (cI, 80, .inl (nA (uN ac dn (100 + F)))))] := hD
  refine lv_aload_n hx hb dX6_acts_20 rfl (lv_at hl 0 rfl) ?_
  refine lv_iconst (v := (nI 0)) hx hb dX6_acts_21 (by decide) ?_
  refine va_put (D := D) (ci := 6) (v := .int (nI 0)) (ty := .int) (C := RX6) (T := TX6) (N := 17) hx hb hts kiX6_acts_X6 tyX6 tyX6_ok nmX6 hown hK hP hD hS 0 rfl rfl 5 (by decide) (hts (.fieldLink RX6 67 "TwoBanksModel" "again" "I") (List.mem_of_getElem? (i := 3) rfl)) (fun _ h9 => h9) rfl  (by decide +kernel) rfl rfl (Nat.le_of_ble_eq_true rfl) dX6_acts_22 (fun H locs hP hD hS => ?_)
  have hP : va_P D vwCl [(h0, .inr (6, [.int (nI R), .int (nI C), .int (nI tn), .ref (q 0), .int (nI (dn + 1)), .int (nI 0), .ref (q 1), .int (nI md), .ref (q 2), .ref (q 3), .ref (q 4), .int (nI em), .ref (q 5), .ref (q 6), .ref (q 7), .ref (q 8), .ref (q 9)])), ((q 0), .inl (cI, 36, .inl (nA b))), ((q 1), .inl (cI, 80, .inl (nA (uN ac dn (100 + F)))))] H := hP
  have hD : va_D A [(h0, .inr (6, [.int (nI R), .int (nI C), .int (nI tn), .ref (q 0), .int (nI (dn + 1)), .int (nI 0), .ref (q 1), .int (nI md), .ref (q 2), .ref (q 3), .ref (q 4), .int (nI em), .ref (q 5), .ref (q 6), .ref (q 7), .ref (q 8), .ref (q 9)])), ((q 0), .inl (cI, 36, .inl (nA b))), ((q 1), .inl (cI, 80, .inl (nA (uN ac dn (100 + F)))))] := hD
  refine lv_aload_n hx hb dX6_acts_25 rfl (lv_at hl 0 rfl) ?_
  refine lv_iload_n hx hb dX6_acts_26 rfl (lv_at hl 1 rfl) ?_
  refine k_callv (wr := [((q 1), .inl (cI, 80, .inl (nA (uN ac dn (100 + F)))))]) (w2 := (fun _ : Unit => [(h0, wMo q R C 1 (dn + 1) 0 md em), ((q 0), .inl (cI, 36, .inl (nA (uN (uN b F 0) (tF C F) 2)))), ((q 1), .inl (cI, 80, .inl (nA (uN ac dn (100 + F)))))])) (va_runV (As := [.int (nI (100 + F))]) (rest := []) ⟨hx, hb, hml, hown, hts⟩ (c_R_do_swap l D cI cJ cZ h0 q R C tn (dn + 1) 0 md em b F hR1 hR2 hC1 hC2 hRC qFR qRC  H.size) (cwV 1 hts gX6_acts_X6_does rfl rfl rfl (by decide +kernel) ⟨Nat.le_of_ble_eq_true rfl, Nat.le_of_ble_eq_true rfl⟩) (kPV (ci := 6) (q0 := 0) (wc := [(h0, .inr (6, [.int (nI R), .int (nI C), .int (nI tn), .ref (q 0), .int (nI (dn + 1)), .int (nI 0), .ref (q 1), .int (nI md), .ref (q 2), .ref (q 3), .ref (q 4), .int (nI em), .ref (q 5), .ref (q 6), .ref (q 7), .ref (q 8), .ref (q 9)])), ((q 0), .inl (cI, 36, .inl (nA b)))]) hK2 hP hD [0, 1] rfl (by decide) rfl rfl) rfl rfl hl.1 rfl (lv_room (Nat.le_of_ble_eq_true rfl)) dX6_acts_27 ⟨Nat.le_of_ble_eq_true rfl, Nat.le_of_ble_eq_true rfl⟩) hP hD hS hA [0, 1] [2] [1, 2, 0] rfl rfl (by decide) (by decide) (fun _ => rfl) (by decide) (fun u_1 H locs hw_1 hP hD hS => ?_)
  have hP : va_P D vwCl [(h0, wMo q R C 1 (dn + 1) 0 md em), ((q 0), .inl (cI, 36, .inl (nA (uN (uN b F 0) (tF C F) 2)))), ((q 1), .inl (cI, 80, .inl (nA (uN ac dn (100 + F)))))] H := hP
  have hD : va_D A [(h0, wMo q R C 1 (dn + 1) 0 md em), ((q 0), .inl (cI, 36, .inl (nA (uN (uN b F 0) (tF C F) 2)))), ((q 1), .inl (cI, 80, .inl (nA (uN ac dn (100 + F)))))] := hD
  exact W.vret hx hb hr (fun t ht hW => ⟨⟨(), rfl, trivial, by rw [ht]; exact hP, hD⟩, hS.F ht⟩) hS.2.2 dX6_acts_30

theorem kiX6_lay_X6 : ∀ w ∈ u_ws RX6 TX6 17, w ∈ wsX6_lay := fun w h => List.mem_cons_of_mem _ (List.mem_append_right _ h)
set_option maxHeartbeats 4000000 in
set_option maxRecDepth 100000 in
theorem c_R_lay (l : Launch) (D : va_G) (cI cJ cZ : ClassId) (h0 : Nat) (q : Nat → Nat) (R C tn dn ag md em : Nat) (b ac : Nat → Nat) (z : Nat → Bool) (f : Int32) (hR1 : 1 ≤ R) (hR2 : R ≤ 6) (hC1 : 1 ≤ C) (hC2 : C ≤ 6) (hRC : R * C ≤ 36) (hbv : ∀ f, f < R * C → b f ≤ 2) (htn : tn = 1 ∨ tn = 2) (qdn : dn < 80) (sz : Nat) : kMI l yX6_lay wsX6_lay 5 113 D cI cJ cZ [.ref h0, .int f] [(h0, wMo q R C tn dn ag md em), ((q 0), .inl (cI, 36, .inl (nA b))), ((q 1), .inl (cI, 80, .inl (nA ac))), ((q 2), .inl (cZ, 36, .inl (bA z)))] sz (fun r (u : MS) => ∃ zz, (r = -1 ∧ ¬ (∃ k, k < R * C ∧ f = nI k ∧ b k = 0 ∧ mWho R C b = 0) ∧ u = (R, C, tn, dn, ag, md, b, ac, zz)) ∨ (∃ k, k < R * C ∧ f = nI k ∧ b k = 0 ∧ mWho R C b = 0 ∧ u = (R, C, 3 - tn, dn + 1, 0, md, uN b k tn, uN ac dn k, zz) ∧ r = nI (if mWho R C (uN b k tn) = 0 then 1 else 2))) (fun u : MS => match u with | (Rm, Cm, tnm, dnm, agm, mdm, bm, acm, zm) => [(h0, wMo q Rm Cm tnm dnm agm mdm em), ((q 0), .inl (cI, 36, .inl (nA bm))), ((q 1), .inl (cI, 80, .inl (nA acm))), ((q 2), .inl (cZ, 36, .inl (bA zm)))]) := by
  refine Met.ofW (cc := cX6_lay) (maxL := 2) (ret := (some .int)) (by decide) rfl ?_
  intro p e s m args below meth c s₁ B hml hv
  obtain ⟨rfl, hsz, hP, ⟨hK, hN⟩, hD0⟩ := hv
  have hx := B.exec
  have hb := B.bytes
  have hr := B.returns
  have hts := atoms_spec (ws := wsX6_lay) B.pre
  have hown : s.vm.findClass RX6 = some m.cls := findClass_of_methodNamed B.named
  have hlocks := B.notSynchronized
  subst hsz
  have hD := hD0.self (sz := s.heap.size)
  generalize hAe : va_A [(h0, wMo q R C tn dn ag md em), ((q 0), .inl (cI, 36, .inl (nA b))), ((q 1), .inl (cI, 80, .inl (nA ac))), ((q 2), .inl (cZ, 36, .inl (bA z)))] s.heap.size = A at hD ⊢
  have hA : ∀ q : Nat, s.heap.size ≤ q → A q := fun q h => by rw [← hAe]; exact Or.inr h
  have hS : va_S A s.heap s.heap [] := va_S.rf
  have hl := lv_entry ([.ref h0, .int f]) (n := 2) (Nat.le_of_ble_eq_true rfl)
  rw [lg_entry_eq]
  generalize (lg_sl ([.ref h0, .int f]) ++ List.replicate (2 - (lg_sl ([.ref h0, .int f])).length) Slot.unset).toArray = ls at hl ⊢
  have hl : lv_has ls 2 [(0, .ref h0), (1, .int f)] := hl
  have hK2 : kK D cI cJ cZ s := ⟨hK, hN⟩
  clear hD0
  have hwl := mWho_le R C b
  refine lv_aload_n hx hb dX6_lay_0 rfl (lv_at hl 0 rfl) ?_
  refine lv_iload_n hx hb dX6_lay_1 rfl (lv_at hl 1 rfl) ?_
  refine k_calli (wr := [((q 0), .inl (cI, 36, .inl (nA b))), ((q 1), .inl (cI, 80, .inl (nA ac))), ((q 2), .inl (cZ, 36, .inl (bA z)))]) (w2 := (fun _ : Unit => [(h0, wMo q R C tn dn ag md em), ((q 0), .inl (cI, 36, .inl (nA b))), ((q 1), .inl (cI, 80, .inl (nA ac))), ((q 2), .inl (cZ, 36, .inl (bA z)))])) (va_runV (As := [.int f]) (rest := []) ⟨hx, hb, hml, hown, hts⟩ (c_R_isField l D cI cJ cZ h0 q R C tn dn ag md em f hR1 hR2 hC1 hC2 hRC  s.heap.size) (cwV 1 hts gX6_lay_X6_isField rfl rfl rfl (by decide +kernel) ⟨Nat.le_of_ble_eq_true rfl, Nat.le_of_ble_eq_true rfl⟩) (kPV (ci := 6) (q0 := 0) (wc := [(h0, wMo q R C tn dn ag md em)]) hK2 hP hD [0] rfl (by decide) rfl rfl) rfl rfl hl.1 rfl (lv_room (Nat.le_of_ble_eq_true rfl)) dX6_lay_2 ⟨Nat.le_of_ble_eq_true rfl, Nat.le_of_ble_eq_true rfl⟩) hP hD hS hA [0] [1, 2, 3] [3, 0, 1, 2] rfl rfl (by decide) (by decide) (fun _ => rfl) (by decide) (fun r_1 u_1 H locs hw_1 hP hD hS => ?_)
  have hP : va_P D vwCl [(h0, wMo q R C tn dn ag md em), ((q 0), .inl (cI, 36, .inl (nA b))), ((q 1), .inl (cI, 80, .inl (nA ac))), ((q 2), .inl (cZ, 36, .inl (bA z)))] H := hP
  have hD : va_D A [(h0, wMo q R C tn dn ag md em), ((q 0), .inl (cI, 36, .inl (nA b))), ((q 1), .inl (cI, 80, .inl (nA ac))), ((q 2), .inl (cZ, 36, .inl (bA z)))] := hD
  rcases hw_1 with ⟨rfl, hw_1⟩ | ⟨rfl, hw_1⟩
  · obtain ⟨k, hk, rfl⟩ := hw_1
    refine lv_if_eq (tgt := 24) hx hb dX6_lay_5 (by decide) (fun c_5_2 => absurd c_5_2 (by decide)) (fun c_5_2 => ?_)
    refine lv_aload_n hx hb dX6_lay_8 rfl (lv_at hl 0 rfl) ?_
    refine va_get (D := D) (ci := 6) (v := .ref (q 0)) (C := RX6) (T := TX6) (N := 17) hx hb hts kiX6_lay_X6 hown hK hP 0 rfl rfl 3 (by decide) (hts (.fieldLink RX6 19 "TwoBanksModel" "at" "[I") (List.mem_of_getElem? (i := 1) rfl)) (fun _ h9 => h9) rfl dX6_lay_9 ?_
    refine lv_iload_n hx hb dX6_lay_12 rfl (lv_at hl 1 rfl) ?_
    have hbk := hbv k hk
    refine va_iald hx hb hK hP 1 0 rfl rfl (vp_in_nI (by omega) (by omega)) dX6_lay_13 ?_
    refine k_toi (y := nI (b k)) (congrArg (nA b) (nI_clamp (by omega))) ?_
    refine kw_if_ne (tgt := 24) hx hb dX6_lay_14 (by decide) (by omega) (fun c_14_3 => ?_) (fun c_14_3 => ?_)
    · refine lv_iconst (v := (-1)) hx hb dX6_lay_24 (by decide) ?_
      exact W.iret (v := (-1)) hx hb hr (fun t ht hW => ⟨⟨(-1), (R, C, tn, dn, ag, md, b, ac, z), rfl, ⟨z, Or.inl ⟨rfl, fun ⟨k9, h1, h2, h3, h4⟩ => by have e9 := (nI_eq (by omega) (by omega)).mp h2; subst e9; omega, rfl⟩⟩, by rw [ht]; exact hP, hD⟩, hS.F ht⟩) hS.2.2 dX6_lay_25
    · refine lv_aload_n hx hb dX6_lay_17 rfl (lv_at hl 0 rfl) ?_
      refine k_calli (wr := [((q 1), .inl (cI, 80, .inl (nA ac)))]) (w2 := (fun za : Nat → Bool => [(h0, wMo q R C tn dn ag md em), ((q 0), .inl (cI, 36, .inl (nA b))), ((q 1), .inl (cI, 80, .inl (nA ac))), ((q 2), .inl (cZ, 36, .inl (bA za)))])) (va_runV (As := []) (rest := []) ⟨hx, hb, hml, hown, hts⟩ (c_R_joined l D cI cJ cZ h0 q R C tn dn ag md em b z hR1 hR2 hC1 hC2 hRC hbv  H.size) (cwV 0 hts gX6_lay_X6_joined rfl rfl rfl (by decide +kernel) ⟨Nat.le_of_ble_eq_true rfl, Nat.le_of_ble_eq_true rfl⟩) (kPV (ci := 6) (q0 := 0) (wc := [(h0, wMo q R C tn dn ag md em), ((q 0), .inl (cI, 36, .inl (nA b))), ((q 2), .inl (cZ, 36, .inl (bA z)))]) hK2 hP hD [0, 1, 3] rfl (by decide) rfl rfl) rfl rfl hl.1 rfl (lv_room (Nat.le_of_ble_eq_true rfl)) dX6_lay_18 ⟨Nat.le_of_ble_eq_true rfl, Nat.le_of_ble_eq_true rfl⟩) hP hD hS hA [0, 1, 3] [2] [1, 2, 0, 3] rfl rfl (by decide) (by decide) (fun _ => rfl) (by decide) (fun r_5 u_5 H locs hw_5 hP hD hS => ?_)
      obtain ⟨za_4, rfl⟩ : ∃ z, z = u_5 := ⟨_, rfl⟩
      have hP : va_P D vwCl [(h0, wMo q R C tn dn ag md em), ((q 0), .inl (cI, 36, .inl (nA b))), ((q 1), .inl (cI, 80, .inl (nA ac))), ((q 2), .inl (cZ, 36, .inl (bA za_4)))] H := hP
      have hD : va_D A [(h0, wMo q R C tn dn ag md em), ((q 0), .inl (cI, 36, .inl (nA b))), ((q 1), .inl (cI, 80, .inl (nA ac))), ((q 2), .inl (cZ, 36, .inl (bA za_4)))] := hD
      subst hw_5
      refine kw_if_eq (tgt := 26) hx hb dX6_lay_21 (by decide) (by omega) (fun c_21_6 => ?_) (fun c_21_6 => ?_)
      · refine lv_aload_n hx hb dX6_lay_26 rfl (lv_at hl 0 rfl) ?_
        refine lv_iload_n hx hb dX6_lay_27 rfl (lv_at hl 1 rfl) ?_
        refine k_callv (wr := [((q 2), .inl (cZ, 36, .inl (bA za_4)))]) (w2 := (fun _ : Unit => [(h0, wMo q R C (3 - tn) (dn + 1) 0 md em), ((q 0), .inl (cI, 36, .inl (nA (uN b k tn)))), ((q 1), .inl (cI, 80, .inl (nA (uN ac dn k)))), ((q 2), .inl (cZ, 36, .inl (bA za_4)))])) (va_runV (As := [.int (nI k)]) (rest := []) ⟨hx, hb, hml, hown, hts⟩ (c_R_acts_lay l D cI cJ cZ h0 q R C tn dn ag md em b ac k (by omega) htn qdn  H.size) (cwV 1 hts gX6_lay_X6_acts rfl rfl rfl (by decide +kernel) ⟨Nat.le_of_ble_eq_true rfl, Nat.le_of_ble_eq_true rfl⟩) (kPV (ci := 6) (q0 := 0) (wc := [(h0, wMo q R C tn dn ag md em), ((q 0), .inl (cI, 36, .inl (nA b))), ((q 1), .inl (cI, 80, .inl (nA ac)))]) hK2 hP hD [0, 1, 2] rfl (by decide) rfl rfl) rfl rfl hl.1 rfl (lv_room (Nat.le_of_ble_eq_true rfl)) dX6_lay_28 ⟨Nat.le_of_ble_eq_true rfl, Nat.le_of_ble_eq_true rfl⟩) hP hD hS hA [0, 1, 2] [3] [1, 2, 3, 0] rfl rfl (by decide) (by decide) (fun _ => rfl) (by decide) (fun u_7 H locs hw_7 hP hD hS => ?_)
        have hP : va_P D vwCl [(h0, wMo q R C (3 - tn) (dn + 1) 0 md em), ((q 0), .inl (cI, 36, .inl (nA (uN b k tn)))), ((q 1), .inl (cI, 80, .inl (nA (uN ac dn k)))), ((q 2), .inl (cZ, 36, .inl (bA za_4)))] H := hP
        have hD : va_D A [(h0, wMo q R C (3 - tn) (dn + 1) 0 md em), ((q 0), .inl (cI, 36, .inl (nA (uN b k tn)))), ((q 1), .inl (cI, 80, .inl (nA (uN ac dn k)))), ((q 2), .inl (cZ, 36, .inl (bA za_4)))] := hD
        refine lv_aload_n hx hb dX6_lay_31 rfl (lv_at hl 0 rfl) ?_
        refine k_calli (wr := [((q 1), .inl (cI, 80, .inl (nA (uN ac dn k))))]) (w2 := (fun za : Nat → Bool => [(h0, wMo q R C (3 - tn) (dn + 1) 0 md em), ((q 0), .inl (cI, 36, .inl (nA (uN b k tn)))), ((q 1), .inl (cI, 80, .inl (nA (uN ac dn k)))), ((q 2), .inl (cZ, 36, .inl (bA za)))])) (va_runV (As := []) (rest := []) ⟨hx, hb, hml, hown, hts⟩ (c_R_joined l D cI cJ cZ h0 q R C (3 - tn) (dn + 1) 0 md em (uN b k tn) za_4 hR1 hR2 hC1 hC2 hRC (hbv_up hbv (by omega))  H.size) (cwV 0 hts gX6_lay_X6_joined rfl rfl rfl (by decide +kernel) ⟨Nat.le_of_ble_eq_true rfl, Nat.le_of_ble_eq_true rfl⟩) (kPV (ci := 6) (q0 := 0) (wc := [(h0, wMo q R C (3 - tn) (dn + 1) 0 md em), ((q 0), .inl (cI, 36, .inl (nA (uN b k tn)))), ((q 2), .inl (cZ, 36, .inl (bA za_4)))]) hK2 hP hD [0, 1, 3] rfl (by decide) rfl rfl) rfl rfl hl.1 rfl (lv_room (Nat.le_of_ble_eq_true rfl)) dX6_lay_32 ⟨Nat.le_of_ble_eq_true rfl, Nat.le_of_ble_eq_true rfl⟩) hP hD hS hA [0, 1, 3] [2] [1, 2, 0, 3] rfl rfl (by decide) (by decide) (fun _ => rfl) (by decide) (fun r_9 u_9 H locs hw_9 hP hD hS => ?_)
        obtain ⟨za_8, rfl⟩ : ∃ z, z = u_9 := ⟨_, rfl⟩
        have hP : va_P D vwCl [(h0, wMo q R C (3 - tn) (dn + 1) 0 md em), ((q 0), .inl (cI, 36, .inl (nA (uN b k tn)))), ((q 1), .inl (cI, 80, .inl (nA (uN ac dn k)))), ((q 2), .inl (cZ, 36, .inl (bA za_8)))] H := hP
        have hD : va_D A [(h0, wMo q R C (3 - tn) (dn + 1) 0 md em), ((q 0), .inl (cI, 36, .inl (nA (uN b k tn)))), ((q 1), .inl (cI, 80, .inl (nA (uN ac dn k)))), ((q 2), .inl (cZ, 36, .inl (bA za_8)))] := hD
        subst hw_9
        have hwl2 := mWho_le R C (uN b k tn)
        refine kw_if_ne (tgt := 42) hx hb dX6_lay_35 (by decide) (by omega) (fun c_35_10 => ?_) (fun c_35_10 => ?_)
        · refine lv_iconst (v := (nI 2)) hx hb dX6_lay_42 (by decide) ?_
          exact W.iret (v := (nI 2)) hx hb hr (fun t ht hW => ⟨⟨(nI 2), (R, C, (3 - tn), (dn + 1), 0, md, (uN b k tn), (uN ac dn k), za_8), rfl, ⟨za_8, Or.inr ⟨k, hk, rfl, by omega, by omega, rfl, by rw [if_neg (by omega)]⟩⟩, by rw [ht]; exact hP, hD⟩, hS.F ht⟩) hS.2.2 dX6_lay_43
        · refine lv_iconst (v := (nI 1)) hx hb dX6_lay_38 (by decide) ?_
          refine lv_goto (tgt := 43) hx hb dX6_lay_39 (by decide) ?_
          exact W.iret (v := (nI 1)) hx hb hr (fun t ht hW => ⟨⟨(nI 1), (R, C, (3 - tn), (dn + 1), 0, md, (uN b k tn), (uN ac dn k), za_8), rfl, ⟨za_8, Or.inr ⟨k, hk, rfl, by omega, by omega, rfl, by rw [if_pos (by omega)]⟩⟩, by rw [ht]; exact hP, hD⟩, hS.F ht⟩) hS.2.2 dX6_lay_43
      · refine lv_iconst (v := (-1)) hx hb dX6_lay_24 (by decide) ?_
        exact W.iret (v := (-1)) hx hb hr (fun t ht hW => ⟨⟨(-1), (R, C, tn, dn, ag, md, b, ac, za_4), rfl, ⟨za_4, Or.inl ⟨rfl, fun ⟨k9, h1, h2, h3, h4⟩ => by have e9 := (nI_eq (by omega) (by omega)).mp h2; subst e9; omega, rfl⟩⟩, by rw [ht]; exact hP, hD⟩, hS.F ht⟩) hS.2.2 dX6_lay_25
  · skip
    refine lv_if_eq (tgt := 24) hx hb dX6_lay_5 (by decide) (fun c_5_11 => ?_) (fun c_5_11 => absurd c_5_11 (by decide))
    refine lv_iconst (v := (-1)) hx hb dX6_lay_24 (by decide) ?_
    exact W.iret (v := (-1)) hx hb hr (fun t ht hW => ⟨⟨(-1), (R, C, tn, dn, ag, md, b, ac, z), rfl, ⟨z, Or.inl ⟨rfl, fun ⟨k9, h1, h2, _⟩ => hw_1 ⟨k9, h1, h2⟩, rfl⟩⟩, by rw [ht]; exact hP, hD⟩, hS.F ht⟩) hS.2.2 dX6_lay_25

theorem kiX6_swap_X6 : ∀ w ∈ u_ws RX6 TX6 17, w ∈ wsX6_swap := fun w h => List.mem_cons_of_mem _ (List.mem_append_right _ h)
set_option maxHeartbeats 4000000 in
set_option maxRecDepth 100000 in
theorem c_R_swap (l : Launch) (D : va_G) (cI cJ cZ : ClassId) (h0 : Nat) (q : Nat → Nat) (R C tn dn ag md em : Nat) (b ac : Nat → Nat) (z : Nat → Bool) (hR1 : 1 ≤ R) (hR2 : R ≤ 6) (hC1 : 1 ≤ C) (hC2 : C ≤ 6) (hRC : R * C ≤ 36) (hbv : ∀ f, f < R * C → b f ≤ 2) (qdn : dn < 80) (hac : ∀ j, j < dn → ac j < 100 → ac j < R * C) (hmd : md ≤ 1) (hacb : ∀ j, ac j < 200) (sz : Nat) : kMI l yX6_swap wsX6_swap 5 113 D cI cJ cZ [.ref h0] [(h0, wMo q R C tn dn ag md em), ((q 0), .inl (cI, 36, .inl (nA b))), ((q 1), .inl (cI, 80, .inl (nA ac))), ((q 2), .inl (cZ, 36, .inl (bA z)))] sz (fun r (u : MS) => ∃ zz, (r = nI 0 ∧ ¬ (R = C ∧ md = 1 ∧ dn = 1 ∧ ac 0 < 100 ∧ mWho R C b = 0) ∧ u = (R, C, tn, dn, ag, md, b, ac, zz)) ∨ (r = nI 1 ∧ (R = C ∧ md = 1 ∧ dn = 1 ∧ ac 0 < 100 ∧ mWho R C b = 0) ∧ u = (R, C, 1, dn + 1, 0, md, uN (uN b (ac 0) 0) (tF C (ac 0)) 2, uN ac dn (100 + ac 0), zz))) (fun u : MS => match u with | (Rm, Cm, tnm, dnm, agm, mdm, bm, acm, zm) => [(h0, wMo q Rm Cm tnm dnm agm mdm em), ((q 0), .inl (cI, 36, .inl (nA bm))), ((q 1), .inl (cI, 80, .inl (nA acm))), ((q 2), .inl (cZ, 36, .inl (bA zm)))]) := by
  refine Met.ofW (cc := cX6_swap) (maxL := 1) (ret := (some .boolean)) (by decide) rfl ?_
  intro p e s m args below meth c s₁ B hml hv
  obtain ⟨rfl, hsz, hP, ⟨hK, hN⟩, hD0⟩ := hv
  have hx := B.exec
  have hb := B.bytes
  have hr := B.returns
  have hts := atoms_spec (ws := wsX6_swap) B.pre
  have hown : s.vm.findClass RX6 = some m.cls := findClass_of_methodNamed B.named
  have hlocks := B.notSynchronized
  subst hsz
  have hD := hD0.self (sz := s.heap.size)
  generalize hAe : va_A [(h0, wMo q R C tn dn ag md em), ((q 0), .inl (cI, 36, .inl (nA b))), ((q 1), .inl (cI, 80, .inl (nA ac))), ((q 2), .inl (cZ, 36, .inl (bA z)))] s.heap.size = A at hD ⊢
  have hA : ∀ q : Nat, s.heap.size ≤ q → A q := fun q h => by rw [← hAe]; exact Or.inr h
  have hS : va_S A s.heap s.heap [] := va_S.rf
  have hl := lv_entry ([.ref h0]) (n := 1) (Nat.le_of_ble_eq_true rfl)
  rw [lg_entry_eq]
  generalize (lg_sl ([.ref h0]) ++ List.replicate (1 - (lg_sl ([.ref h0])).length) Slot.unset).toArray = ls at hl ⊢
  have hl : lv_has ls 1 [(0, .ref h0)] := hl
  have hK2 : kK D cI cJ cZ s := ⟨hK, hN⟩
  clear hD0
  have hwl := mWho_le R C b
  have hac9 := hacb 0
  refine lv_aload_n hx hb dX6_swap_0 rfl (lv_at hl 0 rfl) ?_
  refine va_get (D := D) (ci := 6) (v := .int (nI R)) (C := RX6) (T := TX6) (N := 17) hx hb hts kiX6_swap_X6 hown hK hP 0 rfl rfl 0 (by decide) (hts (.fieldLink RX6 7 "TwoBanksModel" "rows" "I") (List.mem_of_getElem? (i := 1) rfl)) (fun _ h9 => h9) rfl dX6_swap_1 ?_
  refine lv_aload_n hx hb dX6_swap_4 rfl (lv_at hl 0 rfl) ?_
  refine va_get (D := D) (ci := 6) (v := .int (nI C)) (C := RX6) (T := TX6) (N := 17) hx hb hts kiX6_swap_X6 hown hK hP 0 rfl rfl 1 (by decide) (hts (.fieldLink RX6 13 "TwoBanksModel" "columns" "I") (List.mem_of_getElem? (i := 2) rfl)) (fun _ h9 => h9) rfl dX6_swap_5 ?_
  refine kw_icmp_ne (tgt := 44) hx hb dX6_swap_8 (by decide) (by omega) (by omega) (fun c_8_1 => ?_) (fun c_8_1 => ?_)
  · refine lv_iconst (v := (nI 0)) hx hb dX6_swap_44 (by decide) ?_
    exact W.zret (v := (nI 0)) hx hb hr (by first | decide +kernel | assumption | exact kz_narr (by first | assumption | omega)) (fun t ht hW => ⟨⟨(nI 0), (R, C, tn, dn, ag, md, b, ac, z), rfl, ⟨z, Or.inl ⟨rfl, by omega, rfl⟩⟩, by rw [ht]; exact hP, hD⟩, hS.F ht⟩) hS.2.2 dX6_swap_45
  · refine lv_aload_n hx hb dX6_swap_11 rfl (lv_at hl 0 rfl) ?_
    refine va_get (D := D) (ci := 6) (v := .int (nI md)) (C := RX6) (T := TX6) (N := 17) hx hb hts kiX6_swap_X6 hown hK hP 0 rfl rfl 7 (by decide) (hts (.fieldLink RX6 26 "TwoBanksModel" "isMade" "Z") (List.mem_of_getElem? (i := 3) rfl)) (fun _ h9 => h9) rfl dX6_swap_12 ?_
    refine kw_if_eq (tgt := 44) hx hb dX6_swap_15 (by decide) (by omega) (fun c_15_2 => ?_) (fun c_15_2 => ?_)
    · refine lv_iconst (v := (nI 0)) hx hb dX6_swap_44 (by decide) ?_
      exact W.zret (v := (nI 0)) hx hb hr (by first | decide +kernel | assumption | exact kz_narr (by first | assumption | omega)) (fun t ht hW => ⟨⟨(nI 0), (R, C, tn, dn, ag, md, b, ac, z), rfl, ⟨z, Or.inl ⟨rfl, by omega, rfl⟩⟩, by rw [ht]; exact hP, hD⟩, hS.F ht⟩) hS.2.2 dX6_swap_45
    · refine lv_aload_n hx hb dX6_swap_18 rfl (lv_at hl 0 rfl) ?_
      refine va_get (D := D) (ci := 6) (v := .int (nI dn)) (C := RX6) (T := TX6) (N := 17) hx hb hts kiX6_swap_X6 hown hK hP 0 rfl rfl 4 (by decide) (hts (.fieldLink RX6 64 "TwoBanksModel" "done" "I") (List.mem_of_getElem? (i := 4) rfl)) (fun _ h9 => h9) rfl dX6_swap_19 ?_
      refine lv_iconst (v := (nI 1)) hx hb dX6_swap_22 (by decide) ?_
      refine kw_icmp_ne (tgt := 44) hx hb dX6_swap_23 (by decide) (by omega) (by omega) (fun c_23_3 => ?_) (fun c_23_3 => ?_)
      · refine lv_iconst (v := (nI 0)) hx hb dX6_swap_44 (by decide) ?_
        exact W.zret (v := (nI 0)) hx hb hr (by first | decide +kernel | assumption | exact kz_narr (by first | assumption | omega)) (fun t ht hW => ⟨⟨(nI 0), (R, C, tn, dn, ag, md, b, ac, z), rfl, ⟨z, Or.inl ⟨rfl, by omega, rfl⟩⟩, by rw [ht]; exact hP, hD⟩, hS.F ht⟩) hS.2.2 dX6_swap_45
      · refine lv_aload_n hx hb dX6_swap_26 rfl (lv_at hl 0 rfl) ?_
        refine va_get (D := D) (ci := 6) (v := .ref (q 1)) (C := RX6) (T := TX6) (N := 17) hx hb hts kiX6_swap_X6 hown hK hP 0 rfl rfl 6 (by decide) (hts (.fieldLink RX6 23 "TwoBanksModel" "acts" "[I") (List.mem_of_getElem? (i := 5) rfl)) (fun _ h9 => h9) rfl dX6_swap_27 ?_
        refine lv_iconst (v := (nI 0)) hx hb dX6_swap_30 (by decide) ?_
        refine va_iald hx hb hK hP 2 0 rfl rfl (vp_in_nI (by omega) (by omega)) dX6_swap_31 ?_
        refine k_toi (y := nI (ac 0)) (congrArg (nA ac) (nI_clamp (by omega))) ?_
        refine lv_bipush (v := (nI 100)) hx hb dX6_swap_32 (by decide) ?_
        refine kw_icmp_ge (tgt := 44) hx hb dX6_swap_34 (by decide) (by omega) (by omega) (fun c_34_4 => ?_) (fun c_34_4 => ?_)
        · refine lv_iconst (v := (nI 0)) hx hb dX6_swap_44 (by decide) ?_
          exact W.zret (v := (nI 0)) hx hb hr (by first | decide +kernel | assumption | exact kz_narr (by first | assumption | omega)) (fun t ht hW => ⟨⟨(nI 0), (R, C, tn, dn, ag, md, b, ac, z), rfl, ⟨z, Or.inl ⟨rfl, by omega, rfl⟩⟩, by rw [ht]; exact hP, hD⟩, hS.F ht⟩) hS.2.2 dX6_swap_45
        · refine lv_aload_n hx hb dX6_swap_37 rfl (lv_at hl 0 rfl) ?_
          refine k_calli (wr := [((q 1), .inl (cI, 80, .inl (nA ac)))]) (w2 := (fun za : Nat → Bool => [(h0, wMo q R C tn dn ag md em), ((q 0), .inl (cI, 36, .inl (nA b))), ((q 1), .inl (cI, 80, .inl (nA ac))), ((q 2), .inl (cZ, 36, .inl (bA za)))])) (va_runV (As := []) (rest := []) ⟨hx, hb, hml, hown, hts⟩ (c_R_joined l D cI cJ cZ h0 q R C tn dn ag md em b z hR1 hR2 hC1 hC2 hRC hbv  s.heap.size) (cwV 0 hts gX6_swap_X6_joined rfl rfl rfl (by decide +kernel) ⟨Nat.le_of_ble_eq_true rfl, Nat.le_of_ble_eq_true rfl⟩) (kPV (ci := 6) (q0 := 0) (wc := [(h0, wMo q R C tn dn ag md em), ((q 0), .inl (cI, 36, .inl (nA b))), ((q 2), .inl (cZ, 36, .inl (bA z)))]) hK2 hP hD [0, 1, 3] rfl (by decide) rfl rfl) rfl rfl hl.1 rfl (lv_room (Nat.le_of_ble_eq_true rfl)) dX6_swap_38 ⟨Nat.le_of_ble_eq_true rfl, Nat.le_of_ble_eq_true rfl⟩) hP hD hS hA [0, 1, 3] [2] [1, 2, 0, 3] rfl rfl (by decide) (by decide) (fun _ => rfl) (by decide) (fun r_6 u_6 H locs hw_6 hP hD hS => ?_)
          obtain ⟨za_5, rfl⟩ : ∃ z, z = u_6 := ⟨_, rfl⟩
          have hP : va_P D vwCl [(h0, wMo q R C tn dn ag md em), ((q 0), .inl (cI, 36, .inl (nA b))), ((q 1), .inl (cI, 80, .inl (nA ac))), ((q 2), .inl (cZ, 36, .inl (bA za_5)))] H := hP
          have hD : va_D A [(h0, wMo q R C tn dn ag md em), ((q 0), .inl (cI, 36, .inl (nA b))), ((q 1), .inl (cI, 80, .inl (nA ac))), ((q 2), .inl (cZ, 36, .inl (bA za_5)))] := hD
          subst hw_6
          refine kw_if_eq (tgt := 46) hx hb dX6_swap_41 (by decide) (by omega) (fun c_41_7 => ?_) (fun c_41_7 => ?_)
          · have hF9 := hac 0 (by omega) (by omega)
            refine lv_aload_n hx hb dX6_swap_46 rfl (lv_at hl 0 rfl) ?_
            refine lv_bipush (v := (nI 100)) hx hb dX6_swap_47 (by decide) ?_
            refine lv_aload_n hx hb dX6_swap_49 rfl (lv_at hl 0 rfl) ?_
            refine va_get (D := D) (ci := 6) (v := .ref (q 1)) (C := RX6) (T := TX6) (N := 17) hx hb hts kiX6_swap_X6 hown hK hP 0 rfl rfl 6 (by decide) (hts (.fieldLink RX6 23 "TwoBanksModel" "acts" "[I") (List.mem_of_getElem? (i := 5) rfl)) (fun _ h9 => h9) rfl dX6_swap_50 ?_
            refine lv_iconst (v := (nI 0)) hx hb dX6_swap_53 (by decide) ?_
            refine va_iald hx hb hK hP 2 0 rfl rfl (vp_in_nI (by omega) (by omega)) dX6_swap_54 ?_
            refine k_toi (y := nI (ac 0)) (congrArg (nA ac) (nI_clamp (by omega))) ?_
            refine lv_iadd hx hb dX6_swap_55 ?_
            refine k_toi (y := nI (100 + (ac 0))) (nI_add _ _) ?_
            refine k_callv (wr := [((q 2), .inl (cZ, 36, .inl (bA za_5)))]) (w2 := (fun _ : Unit => [(h0, wMo q R C 1 (dn + 1) 0 md em), ((q 0), .inl (cI, 36, .inl (nA (uN (uN b (ac 0) 0) (tF C (ac 0)) 2)))), ((q 1), .inl (cI, 80, .inl (nA (uN ac dn (100 + (ac 0)))))), ((q 2), .inl (cZ, 36, .inl (bA za_5)))])) (va_runV (As := [.int (nI (100 + (ac 0)))]) (rest := []) ⟨hx, hb, hml, hown, hts⟩ (c_R_acts_swap l D cI cJ cZ h0 q R C tn dn ag md em b ac (ac 0) hR1 hR2 hC1 hC2 hRC (by omega) (by omega) qdn  H.size) (cwV 1 hts gX6_swap_X6_acts rfl rfl rfl (by decide +kernel) ⟨Nat.le_of_ble_eq_true rfl, Nat.le_of_ble_eq_true rfl⟩) (kPV (ci := 6) (q0 := 0) (wc := [(h0, wMo q R C tn dn ag md em), ((q 0), .inl (cI, 36, .inl (nA b))), ((q 1), .inl (cI, 80, .inl (nA ac)))]) hK2 hP hD [0, 1, 2] rfl (by decide) rfl rfl) rfl rfl hl.1 rfl (lv_room (Nat.le_of_ble_eq_true rfl)) dX6_swap_56 ⟨Nat.le_of_ble_eq_true rfl, Nat.le_of_ble_eq_true rfl⟩) hP hD hS hA [0, 1, 2] [3] [1, 2, 3, 0] rfl rfl (by decide) (by decide) (fun _ => rfl) (by decide) (fun u_8 H locs hw_8 hP hD hS => ?_)
            have hP : va_P D vwCl [(h0, wMo q R C 1 (dn + 1) 0 md em), ((q 0), .inl (cI, 36, .inl (nA (uN (uN b (ac 0) 0) (tF C (ac 0)) 2)))), ((q 1), .inl (cI, 80, .inl (nA (uN ac dn (100 + (ac 0)))))), ((q 2), .inl (cZ, 36, .inl (bA za_5)))] H := hP
            have hD : va_D A [(h0, wMo q R C 1 (dn + 1) 0 md em), ((q 0), .inl (cI, 36, .inl (nA (uN (uN b (ac 0) 0) (tF C (ac 0)) 2)))), ((q 1), .inl (cI, 80, .inl (nA (uN ac dn (100 + (ac 0)))))), ((q 2), .inl (cZ, 36, .inl (bA za_5)))] := hD
            refine lv_iconst (v := (nI 1)) hx hb dX6_swap_59 (by decide) ?_
            exact W.zret (v := (nI 1)) hx hb hr (by first | decide +kernel | assumption | exact kz_narr (by first | assumption | omega)) (fun t ht hW => ⟨⟨(nI 1), (R, C, 1, (dn + 1), 0, md, (uN (uN b (ac 0) 0) (tF C (ac 0)) 2), (uN ac dn (100 + (ac 0))), za_5), rfl, ⟨za_5, Or.inr ⟨rfl, ⟨by omega, by omega, by omega, by omega, by omega⟩, rfl⟩⟩, by rw [ht]; exact hP, hD⟩, hS.F ht⟩) hS.2.2 dX6_swap_60
          · refine lv_iconst (v := (nI 0)) hx hb dX6_swap_44 (by decide) ?_
            exact W.zret (v := (nI 0)) hx hb hr (by first | decide +kernel | assumption | exact kz_narr (by first | assumption | omega)) (fun t ht hW => ⟨⟨(nI 0), (R, C, tn, dn, ag, md, b, ac, za_5), rfl, ⟨za_5, Or.inl ⟨rfl, by omega, rfl⟩⟩, by rw [ht]; exact hP, hD⟩, hS.F ht⟩) hS.2.2 dX6_swap_45

theorem kiX6_undo_X6 : ∀ w ∈ u_ws RX6 TX6 17, w ∈ wsX6_undo := fun w h => List.mem_cons_of_mem _ (List.mem_append_right _ h)
set_option maxHeartbeats 4000000 in
set_option maxRecDepth 100000 in
theorem c_R_undo (l : Launch) (D : va_G) (cI cJ cZ : ClassId) (h0 : Nat) (q : Nat → Nat) (R C tn dn ag md em : Nat) (b ac : Nat → Nat) (z : Nat → Bool) (hR1 : 1 ≤ R) (hR2 : R ≤ 6) (hC1 : 1 ≤ C) (hC2 : C ≤ 6) (hRC : R * C ≤ 36) (qdn : dn + ag < 80) (htn : tn = 1 ∨ tn = 2) (hae : ∀ j, j < dn + ag → ac j < R * C ∨ (R = C ∧ ∃ F, F < R * C ∧ ac j = 100 + F)) (hacb : ∀ j, ac j < 200) (sz : Nat) : kMI l yX6_undo wsX6_undo 1 22 D cI cJ cZ [.ref h0] [(h0, wMo q R C tn dn ag md em), ((q 0), .inl (cI, 36, .inl (nA b))), ((q 1), .inl (cI, 80, .inl (nA ac))), ((q 2), .inl (cZ, 36, .inl (bA z)))] sz (fun r (u : MS) => (r = nI 0 ∧ dn = 0 ∧ u = (R, C, tn, dn, ag, md, b, ac, z)) ∨ (r = nI 1 ∧ 0 < dn ∧ ac (dn - 1) < R * C ∧ u = (R, C, 3 - tn, dn - 1, ag + 1, md, uN b (ac (dn - 1)) 0, ac, z)) ∨ (∃ F, r = nI 1 ∧ 0 < dn ∧ R = C ∧ F < R * C ∧ ac (dn - 1) = 100 + F ∧ u = (R, C, 2, dn - 1, ag + 1, md, uN (uN b (tF C F) 0) F 1, ac, z))) (fun u : MS => match u with | (Rm, Cm, tnm, dnm, agm, mdm, bm, acm, zm) => [(h0, wMo q Rm Cm tnm dnm agm mdm em), ((q 0), .inl (cI, 36, .inl (nA bm))), ((q 1), .inl (cI, 80, .inl (nA acm))), ((q 2), .inl (cZ, 36, .inl (bA zm)))]) := by
  refine Met.ofW (cc := cX6_undo) (maxL := 1) (ret := (some .boolean)) (by decide) rfl ?_
  intro p e s m args below meth c s₁ B hml hv
  obtain ⟨rfl, hsz, hP, ⟨hK, hN⟩, hD0⟩ := hv
  have hx := B.exec
  have hb := B.bytes
  have hr := B.returns
  have hts := atoms_spec (ws := wsX6_undo) B.pre
  have hown : s.vm.findClass RX6 = some m.cls := findClass_of_methodNamed B.named
  have hlocks := B.notSynchronized
  subst hsz
  have hD := hD0.self (sz := s.heap.size)
  generalize hAe : va_A [(h0, wMo q R C tn dn ag md em), ((q 0), .inl (cI, 36, .inl (nA b))), ((q 1), .inl (cI, 80, .inl (nA ac))), ((q 2), .inl (cZ, 36, .inl (bA z)))] s.heap.size = A at hD ⊢
  have hA : ∀ q : Nat, s.heap.size ≤ q → A q := fun q h => by rw [← hAe]; exact Or.inr h
  have hS : va_S A s.heap s.heap [] := va_S.rf
  have hl := lv_entry ([.ref h0]) (n := 1) (Nat.le_of_ble_eq_true rfl)
  rw [lg_entry_eq]
  generalize (lg_sl ([.ref h0]) ++ List.replicate (1 - (lg_sl ([.ref h0])).length) Slot.unset).toArray = ls at hl ⊢
  have hl : lv_has ls 1 [(0, .ref h0)] := hl
  have hK2 : kK D cI cJ cZ s := ⟨hK, hN⟩
  clear hD0
  refine lv_aload_n hx hb dX6_undo_0 rfl (lv_at hl 0 rfl) ?_
  refine va_get (D := D) (ci := 6) (v := .int (nI dn)) (C := RX6) (T := TX6) (N := 17) hx hb hts kiX6_undo_X6 hown hK hP 0 rfl rfl 4 (by decide) (hts (.fieldLink RX6 64 "TwoBanksModel" "done" "I") (List.mem_of_getElem? (i := 1) rfl)) (fun _ h9 => h9) rfl dX6_undo_1 ?_
  refine kw_if_ne (tgt := 9) hx hb dX6_undo_4 (by decide) (by omega) (fun c_4_1 => ?_) (fun c_4_1 => ?_)
  · refine lv_aload_n hx hb dX6_undo_9 rfl (lv_at hl 0 rfl) ?_
    refine lv_dup hx hb dX6_undo_10 rfl ?_
    refine va_get (D := D) (ci := 6) (v := .int (nI dn)) (C := RX6) (T := TX6) (N := 17) hx hb hts kiX6_undo_X6 hown hK hP 0 rfl rfl 4 (by decide) (hts (.fieldLink RX6 64 "TwoBanksModel" "done" "I") (List.mem_of_getElem? (i := 1) rfl)) (fun _ h9 => h9) rfl dX6_undo_11 ?_
    refine lv_iconst (v := (nI 1)) hx hb dX6_undo_14 (by decide) ?_
    refine lv_isub hx hb dX6_undo_15 ?_
    refine k_toi (y := nI (dn - 1)) (pk_sub (by omega)) ?_
    refine va_put (D := D) (ci := 6) (v := .int (nI (dn - 1))) (ty := .int) (C := RX6) (T := TX6) (N := 17) hx hb hts kiX6_undo_X6 tyX6 tyX6_ok nmX6 hown hK hP hD hS 0 rfl rfl 4 (by decide) (hts (.fieldLink RX6 64 "TwoBanksModel" "done" "I") (List.mem_of_getElem? (i := 1) rfl)) (fun _ h9 => h9) rfl  (by decide +kernel) rfl rfl (Nat.le_of_ble_eq_true rfl) dX6_undo_16 (fun H locs hP hD hS => ?_)
    have hP : va_P D vwCl [(h0, .inr (6, [.int (nI R), .int (nI C), .int (nI tn), .ref (q 0), .int (nI (dn - 1)), .int (nI ag), .ref (q 1), .int (nI md), .ref (q 2), .ref (q 3), .ref (q 4), .int (nI em), .ref (q 5), .ref (q 6), .ref (q 7), .ref (q 8), .ref (q 9)])), ((q 0), .inl (cI, 36, .inl (nA b))), ((q 1), .inl (cI, 80, .inl (nA ac))), ((q 2), .inl (cZ, 36, .inl (bA z)))] H := hP
    have hD : va_D A [(h0, .inr (6, [.int (nI R), .int (nI C), .int (nI tn), .ref (q 0), .int (nI (dn - 1)), .int (nI ag), .ref (q 1), .int (nI md), .ref (q 2), .ref (q 3), .ref (q 4), .int (nI em), .ref (q 5), .ref (q 6), .ref (q 7), .ref (q 8), .ref (q 9)])), ((q 0), .inl (cI, 36, .inl (nA b))), ((q 1), .inl (cI, 80, .inl (nA ac))), ((q 2), .inl (cZ, 36, .inl (bA z)))] := hD
    refine lv_aload_n hx hb dX6_undo_19 rfl (lv_at hl 0 rfl) ?_
    refine lv_dup hx hb dX6_undo_20 rfl ?_
    refine va_get (D := D) (ci := 6) (v := .int (nI ag)) (C := RX6) (T := TX6) (N := 17) hx hb hts kiX6_undo_X6 hown hK hP 0 rfl rfl 5 (by decide) (hts (.fieldLink RX6 67 "TwoBanksModel" "again" "I") (List.mem_of_getElem? (i := 2) rfl)) (fun _ h9 => h9) rfl dX6_undo_21 ?_
    refine lv_iconst (v := (nI 1)) hx hb dX6_undo_24 (by decide) ?_
    refine lv_iadd hx hb dX6_undo_25 ?_
    refine k_toi (y := nI (ag + 1)) (nI_add _ _) ?_
    refine va_put (D := D) (ci := 6) (v := .int (nI (ag + 1))) (ty := .int) (C := RX6) (T := TX6) (N := 17) hx hb hts kiX6_undo_X6 tyX6 tyX6_ok nmX6 hown hK hP hD hS 0 rfl rfl 5 (by decide) (hts (.fieldLink RX6 67 "TwoBanksModel" "again" "I") (List.mem_of_getElem? (i := 2) rfl)) (fun _ h9 => h9) rfl  (by decide +kernel) rfl rfl (Nat.le_of_ble_eq_true rfl) dX6_undo_26 (fun H locs hP hD hS => ?_)
    have hP : va_P D vwCl [(h0, .inr (6, [.int (nI R), .int (nI C), .int (nI tn), .ref (q 0), .int (nI (dn - 1)), .int (nI (ag + 1)), .ref (q 1), .int (nI md), .ref (q 2), .ref (q 3), .ref (q 4), .int (nI em), .ref (q 5), .ref (q 6), .ref (q 7), .ref (q 8), .ref (q 9)])), ((q 0), .inl (cI, 36, .inl (nA b))), ((q 1), .inl (cI, 80, .inl (nA ac))), ((q 2), .inl (cZ, 36, .inl (bA z)))] H := hP
    have hD : va_D A [(h0, .inr (6, [.int (nI R), .int (nI C), .int (nI tn), .ref (q 0), .int (nI (dn - 1)), .int (nI (ag + 1)), .ref (q 1), .int (nI md), .ref (q 2), .ref (q 3), .ref (q 4), .int (nI em), .ref (q 5), .ref (q 6), .ref (q 7), .ref (q 8), .ref (q 9)])), ((q 0), .inl (cI, 36, .inl (nA b))), ((q 1), .inl (cI, 80, .inl (nA ac))), ((q 2), .inl (cZ, 36, .inl (bA z)))] := hD
    refine lv_aload_n hx hb dX6_undo_29 rfl (lv_at hl 0 rfl) ?_
    refine lv_aload_n hx hb dX6_undo_30 rfl (lv_at hl 0 rfl) ?_
    refine va_get (D := D) (ci := 6) (v := .ref (q 1)) (C := RX6) (T := TX6) (N := 17) hx hb hts kiX6_undo_X6 hown hK hP 0 rfl rfl 6 (by decide) (hts (.fieldLink RX6 23 "TwoBanksModel" "acts" "[I") (List.mem_of_getElem? (i := 3) rfl)) (fun _ h9 => h9) rfl dX6_undo_31 ?_
    refine lv_aload_n hx hb dX6_undo_34 rfl (lv_at hl 0 rfl) ?_
    refine va_get (D := D) (ci := 6) (v := .int (nI (dn - 1))) (C := RX6) (T := TX6) (N := 17) hx hb hts kiX6_undo_X6 hown hK hP 0 rfl rfl 4 (by decide) (hts (.fieldLink RX6 64 "TwoBanksModel" "done" "I") (List.mem_of_getElem? (i := 1) rfl)) (fun _ h9 => h9) rfl dX6_undo_35 ?_
    refine va_iald hx hb hK hP 2 0 rfl rfl (vp_in_nI (by omega) (by omega)) dX6_undo_38 ?_
    refine k_toi (y := nI (ac (dn - 1))) (congrArg (nA ac) (nI_clamp (by omega))) ?_
    have hb9 := hacb (dn - 1)
    rcases hae (dn - 1) (by omega) with ha9 | ⟨hRC9, F9, hF9, ha9⟩
    · skip
      refine k_callv (wr := [((q 1), .inl (cI, 80, .inl (nA ac))), ((q 2), .inl (cZ, 36, .inl (bA z)))]) (w2 := (fun _ : Unit => [(h0, wMo q R C (3 - tn) (dn - 1) (ag + 1) md em), ((q 0), .inl (cI, 36, .inl (nA (uN b (ac (dn - 1)) 0)))), ((q 1), .inl (cI, 80, .inl (nA ac))), ((q 2), .inl (cZ, 36, .inl (bA z)))])) (va_runV (As := [.int (nI (ac (dn - 1)))]) (rest := []) ⟨hx, hb, hml, hown, hts⟩ (c_R_un_lay l D cI cJ cZ h0 q R C tn (dn - 1) (ag + 1) md em b (ac (dn - 1)) (by omega) htn  H.size) (cwV 1 hts gX6_undo_X6_undoes rfl rfl rfl (by decide +kernel) ⟨Nat.le_of_ble_eq_true rfl, Nat.le_of_ble_eq_true rfl⟩) (kPV (ci := 6) (q0 := 0) (wc := [(h0, .inr (6, [.int (nI R), .int (nI C), .int (nI tn), .ref (q 0), .int (nI (dn - 1)), .int (nI (ag + 1)), .ref (q 1), .int (nI md), .ref (q 2), .ref (q 3), .ref (q 4), .int (nI em), .ref (q 5), .ref (q 6), .ref (q 7), .ref (q 8), .ref (q 9)])), ((q 0), .inl (cI, 36, .inl (nA b)))]) hK2 hP hD [0, 1] rfl (by decide) rfl rfl) rfl rfl hl.1 rfl (lv_room (Nat.le_of_ble_eq_true rfl)) dX6_undo_39 ⟨Nat.le_of_ble_eq_true rfl, Nat.le_of_ble_eq_true rfl⟩) hP hD hS hA [0, 1] [2, 3] [2, 3, 0, 1] rfl rfl (by decide) (by decide) (fun _ => rfl) (by decide) (fun u_2 H locs hw_2 hP hD hS => ?_)
      have hP : va_P D vwCl [(h0, wMo q R C (3 - tn) (dn - 1) (ag + 1) md em), ((q 0), .inl (cI, 36, .inl (nA (uN b (ac (dn - 1)) 0)))), ((q 1), .inl (cI, 80, .inl (nA ac))), ((q 2), .inl (cZ, 36, .inl (bA z)))] H := hP
      have hD : va_D A [(h0, wMo q R C (3 - tn) (dn - 1) (ag + 1) md em), ((q 0), .inl (cI, 36, .inl (nA (uN b (ac (dn - 1)) 0)))), ((q 1), .inl (cI, 80, .inl (nA ac))), ((q 2), .inl (cZ, 36, .inl (bA z)))] := hD
      refine lv_iconst (v := (nI 1)) hx hb dX6_undo_42 (by decide) ?_
      exact W.zret (v := (nI 1)) hx hb hr (by first | decide +kernel | assumption | exact kz_narr (by first | assumption | omega)) (fun t ht hW => ⟨⟨(nI 1), (R, C, (3 - tn), (dn - 1), (ag + 1), md, (uN b (ac (dn - 1)) 0), ac, z), rfl, Or.inr (Or.inl ⟨rfl, by omega, ha9, rfl⟩), by rw [ht]; exact hP, hD⟩, hS.F ht⟩) hS.2.2 dX6_undo_43
    · refine k_toi (y := nI (100 + F9)) (by rw [ha9]) ?_
      refine k_callv (wr := [((q 1), .inl (cI, 80, .inl (nA ac))), ((q 2), .inl (cZ, 36, .inl (bA z)))]) (w2 := (fun _ : Unit => [(h0, wMo q R C 2 (dn - 1) (ag + 1) md em), ((q 0), .inl (cI, 36, .inl (nA (uN (uN b (tF C F9) 0) F9 1)))), ((q 1), .inl (cI, 80, .inl (nA ac))), ((q 2), .inl (cZ, 36, .inl (bA z)))])) (va_runV (As := [.int (nI (100 + F9))]) (rest := []) ⟨hx, hb, hml, hown, hts⟩ (c_R_un_swap l D cI cJ cZ h0 q R C tn (dn - 1) (ag + 1) md em b F9 hR1 hR2 hC1 hC2 hRC (by omega) (by omega)  H.size) (cwV 1 hts gX6_undo_X6_undoes rfl rfl rfl (by decide +kernel) ⟨Nat.le_of_ble_eq_true rfl, Nat.le_of_ble_eq_true rfl⟩) (kPV (ci := 6) (q0 := 0) (wc := [(h0, .inr (6, [.int (nI R), .int (nI C), .int (nI tn), .ref (q 0), .int (nI (dn - 1)), .int (nI (ag + 1)), .ref (q 1), .int (nI md), .ref (q 2), .ref (q 3), .ref (q 4), .int (nI em), .ref (q 5), .ref (q 6), .ref (q 7), .ref (q 8), .ref (q 9)])), ((q 0), .inl (cI, 36, .inl (nA b)))]) hK2 hP hD [0, 1] rfl (by decide) rfl rfl) rfl rfl hl.1 rfl (lv_room (Nat.le_of_ble_eq_true rfl)) dX6_undo_39 ⟨Nat.le_of_ble_eq_true rfl, Nat.le_of_ble_eq_true rfl⟩) hP hD hS hA [0, 1] [2, 3] [2, 3, 0, 1] rfl rfl (by decide) (by decide) (fun _ => rfl) (by decide) (fun u_3 H locs hw_3 hP hD hS => ?_)
      have hP : va_P D vwCl [(h0, wMo q R C 2 (dn - 1) (ag + 1) md em), ((q 0), .inl (cI, 36, .inl (nA (uN (uN b (tF C F9) 0) F9 1)))), ((q 1), .inl (cI, 80, .inl (nA ac))), ((q 2), .inl (cZ, 36, .inl (bA z)))] H := hP
      have hD : va_D A [(h0, wMo q R C 2 (dn - 1) (ag + 1) md em), ((q 0), .inl (cI, 36, .inl (nA (uN (uN b (tF C F9) 0) F9 1)))), ((q 1), .inl (cI, 80, .inl (nA ac))), ((q 2), .inl (cZ, 36, .inl (bA z)))] := hD
      refine lv_iconst (v := (nI 1)) hx hb dX6_undo_42 (by decide) ?_
      exact W.zret (v := (nI 1)) hx hb hr (by first | decide +kernel | assumption | exact kz_narr (by first | assumption | omega)) (fun t ht hW => ⟨⟨(nI 1), (R, C, 2, (dn - 1), (ag + 1), md, (uN (uN b (tF C F9) 0) F9 1), ac, z), rfl, Or.inr (Or.inr ⟨F9, rfl, by omega, hRC9, hF9, ha9, rfl⟩), by rw [ht]; exact hP, hD⟩, hS.F ht⟩) hS.2.2 dX6_undo_43
  · refine lv_iconst (v := (nI 0)) hx hb dX6_undo_7 (by decide) ?_
    exact W.zret (v := (nI 0)) hx hb hr (by first | decide +kernel | assumption | exact kz_narr (by first | assumption | omega)) (fun t ht hW => ⟨⟨(nI 0), (R, C, tn, dn, ag, md, b, ac, z), rfl, Or.inl ⟨rfl, by omega, rfl⟩, by rw [ht]; exact hP, hD⟩, hS.F ht⟩) hS.2.2 dX6_undo_8

theorem kiX6_redo_X6 : ∀ w ∈ u_ws RX6 TX6 17, w ∈ wsX6_redo := fun w h => List.mem_cons_of_mem _ (List.mem_append_right _ h)
set_option maxHeartbeats 4000000 in
set_option maxRecDepth 100000 in
theorem c_R_redo (l : Launch) (D : va_G) (cI cJ cZ : ClassId) (h0 : Nat) (q : Nat → Nat) (R C tn dn ag md em : Nat) (b ac : Nat → Nat) (z : Nat → Bool) (hR1 : 1 ≤ R) (hR2 : R ≤ 6) (hC1 : 1 ≤ C) (hC2 : C ≤ 6) (hRC : R * C ≤ 36) (qdn : dn + ag < 80) (htn : tn = 1 ∨ tn = 2) (hae : ∀ j, j < dn + ag → ac j < R * C ∨ (R = C ∧ ∃ F, F < R * C ∧ ac j = 100 + F)) (hacb : ∀ j, ac j < 200) (sz : Nat) : kMI l yX6_redo wsX6_redo 1 22 D cI cJ cZ [.ref h0] [(h0, wMo q R C tn dn ag md em), ((q 0), .inl (cI, 36, .inl (nA b))), ((q 1), .inl (cI, 80, .inl (nA ac))), ((q 2), .inl (cZ, 36, .inl (bA z)))] sz (fun r (u : MS) => (r = nI 0 ∧ ag = 0 ∧ u = (R, C, tn, dn, ag, md, b, ac, z)) ∨ (r = nI 1 ∧ 0 < ag ∧ ac dn < R * C ∧ u = (R, C, 3 - tn, dn + 1, ag - 1, md, uN b (ac dn) tn, ac, z)) ∨ (∃ F, r = nI 1 ∧ 0 < ag ∧ R = C ∧ F < R * C ∧ ac dn = 100 + F ∧ u = (R, C, 1, dn + 1, ag - 1, md, uN (uN b F 0) (tF C F) 2, ac, z))) (fun u : MS => match u with | (Rm, Cm, tnm, dnm, agm, mdm, bm, acm, zm) => [(h0, wMo q Rm Cm tnm dnm agm mdm em), ((q 0), .inl (cI, 36, .inl (nA bm))), ((q 1), .inl (cI, 80, .inl (nA acm))), ((q 2), .inl (cZ, 36, .inl (bA zm)))]) := by
  refine Met.ofW (cc := cX6_redo) (maxL := 1) (ret := (some .boolean)) (by decide) rfl ?_
  intro p e s m args below meth c s₁ B hml hv
  obtain ⟨rfl, hsz, hP, ⟨hK, hN⟩, hD0⟩ := hv
  have hx := B.exec
  have hb := B.bytes
  have hr := B.returns
  have hts := atoms_spec (ws := wsX6_redo) B.pre
  have hown : s.vm.findClass RX6 = some m.cls := findClass_of_methodNamed B.named
  have hlocks := B.notSynchronized
  subst hsz
  have hD := hD0.self (sz := s.heap.size)
  generalize hAe : va_A [(h0, wMo q R C tn dn ag md em), ((q 0), .inl (cI, 36, .inl (nA b))), ((q 1), .inl (cI, 80, .inl (nA ac))), ((q 2), .inl (cZ, 36, .inl (bA z)))] s.heap.size = A at hD ⊢
  have hA : ∀ q : Nat, s.heap.size ≤ q → A q := fun q h => by rw [← hAe]; exact Or.inr h
  have hS : va_S A s.heap s.heap [] := va_S.rf
  have hl := lv_entry ([.ref h0]) (n := 1) (Nat.le_of_ble_eq_true rfl)
  rw [lg_entry_eq]
  generalize (lg_sl ([.ref h0]) ++ List.replicate (1 - (lg_sl ([.ref h0])).length) Slot.unset).toArray = ls at hl ⊢
  have hl : lv_has ls 1 [(0, .ref h0)] := hl
  have hK2 : kK D cI cJ cZ s := ⟨hK, hN⟩
  clear hD0
  refine lv_aload_n hx hb dX6_redo_0 rfl (lv_at hl 0 rfl) ?_
  refine va_get (D := D) (ci := 6) (v := .int (nI ag)) (C := RX6) (T := TX6) (N := 17) hx hb hts kiX6_redo_X6 hown hK hP 0 rfl rfl 5 (by decide) (hts (.fieldLink RX6 67 "TwoBanksModel" "again" "I") (List.mem_of_getElem? (i := 1) rfl)) (fun _ h9 => h9) rfl dX6_redo_1 ?_
  refine kw_if_ne (tgt := 9) hx hb dX6_redo_4 (by decide) (by omega) (fun c_4_1 => ?_) (fun c_4_1 => ?_)
  · refine lv_aload_n hx hb dX6_redo_9 rfl (lv_at hl 0 rfl) ?_
    refine lv_dup hx hb dX6_redo_10 rfl ?_
    refine va_get (D := D) (ci := 6) (v := .int (nI ag)) (C := RX6) (T := TX6) (N := 17) hx hb hts kiX6_redo_X6 hown hK hP 0 rfl rfl 5 (by decide) (hts (.fieldLink RX6 67 "TwoBanksModel" "again" "I") (List.mem_of_getElem? (i := 1) rfl)) (fun _ h9 => h9) rfl dX6_redo_11 ?_
    refine lv_iconst (v := (nI 1)) hx hb dX6_redo_14 (by decide) ?_
    refine lv_isub hx hb dX6_redo_15 ?_
    refine k_toi (y := nI (ag - 1)) (pk_sub (by omega)) ?_
    refine va_put (D := D) (ci := 6) (v := .int (nI (ag - 1))) (ty := .int) (C := RX6) (T := TX6) (N := 17) hx hb hts kiX6_redo_X6 tyX6 tyX6_ok nmX6 hown hK hP hD hS 0 rfl rfl 5 (by decide) (hts (.fieldLink RX6 67 "TwoBanksModel" "again" "I") (List.mem_of_getElem? (i := 1) rfl)) (fun _ h9 => h9) rfl  (by decide +kernel) rfl rfl (Nat.le_of_ble_eq_true rfl) dX6_redo_16 (fun H locs hP hD hS => ?_)
    have hP : va_P D vwCl [(h0, .inr (6, [.int (nI R), .int (nI C), .int (nI tn), .ref (q 0), .int (nI dn), .int (nI (ag - 1)), .ref (q 1), .int (nI md), .ref (q 2), .ref (q 3), .ref (q 4), .int (nI em), .ref (q 5), .ref (q 6), .ref (q 7), .ref (q 8), .ref (q 9)])), ((q 0), .inl (cI, 36, .inl (nA b))), ((q 1), .inl (cI, 80, .inl (nA ac))), ((q 2), .inl (cZ, 36, .inl (bA z)))] H := hP
    have hD : va_D A [(h0, .inr (6, [.int (nI R), .int (nI C), .int (nI tn), .ref (q 0), .int (nI dn), .int (nI (ag - 1)), .ref (q 1), .int (nI md), .ref (q 2), .ref (q 3), .ref (q 4), .int (nI em), .ref (q 5), .ref (q 6), .ref (q 7), .ref (q 8), .ref (q 9)])), ((q 0), .inl (cI, 36, .inl (nA b))), ((q 1), .inl (cI, 80, .inl (nA ac))), ((q 2), .inl (cZ, 36, .inl (bA z)))] := hD
    refine lv_aload_n hx hb dX6_redo_19 rfl (lv_at hl 0 rfl) ?_
    refine lv_aload_n hx hb dX6_redo_20 rfl (lv_at hl 0 rfl) ?_
    refine va_get (D := D) (ci := 6) (v := .ref (q 1)) (C := RX6) (T := TX6) (N := 17) hx hb hts kiX6_redo_X6 hown hK hP 0 rfl rfl 6 (by decide) (hts (.fieldLink RX6 23 "TwoBanksModel" "acts" "[I") (List.mem_of_getElem? (i := 2) rfl)) (fun _ h9 => h9) rfl dX6_redo_21 ?_
    refine lv_aload_n hx hb dX6_redo_24 rfl (lv_at hl 0 rfl) ?_
    refine va_get (D := D) (ci := 6) (v := .int (nI dn)) (C := RX6) (T := TX6) (N := 17) hx hb hts kiX6_redo_X6 hown hK hP 0 rfl rfl 4 (by decide) (hts (.fieldLink RX6 64 "TwoBanksModel" "done" "I") (List.mem_of_getElem? (i := 3) rfl)) (fun _ h9 => h9) rfl dX6_redo_25 ?_
    refine va_iald hx hb hK hP 2 0 rfl rfl (vp_in_nI (by omega) (by omega)) dX6_redo_28 ?_
    refine k_toi (y := nI (ac dn)) (congrArg (nA ac) (nI_clamp (by omega))) ?_
    have hb9 := hacb (dn)
    rcases hae (dn) (by omega) with ha9 | ⟨hRC9, F9, hF9, ha9⟩
    · skip
      refine k_callv (wr := [((q 1), .inl (cI, 80, .inl (nA ac))), ((q 2), .inl (cZ, 36, .inl (bA z)))]) (w2 := (fun _ : Unit => [(h0, wMo q R C (3 - tn) dn (ag - 1) md em), ((q 0), .inl (cI, 36, .inl (nA (uN b (ac dn) tn)))), ((q 1), .inl (cI, 80, .inl (nA ac))), ((q 2), .inl (cZ, 36, .inl (bA z)))])) (va_runV (As := [.int (nI (ac dn))]) (rest := []) ⟨hx, hb, hml, hown, hts⟩ (c_R_do_lay l D cI cJ cZ h0 q R C tn dn (ag - 1) md em b (ac dn) (by omega) htn  H.size) (cwV 1 hts gX6_redo_X6_does rfl rfl rfl (by decide +kernel) ⟨Nat.le_of_ble_eq_true rfl, Nat.le_of_ble_eq_true rfl⟩) (kPV (ci := 6) (q0 := 0) (wc := [(h0, .inr (6, [.int (nI R), .int (nI C), .int (nI tn), .ref (q 0), .int (nI dn), .int (nI (ag - 1)), .ref (q 1), .int (nI md), .ref (q 2), .ref (q 3), .ref (q 4), .int (nI em), .ref (q 5), .ref (q 6), .ref (q 7), .ref (q 8), .ref (q 9)])), ((q 0), .inl (cI, 36, .inl (nA b)))]) hK2 hP hD [0, 1] rfl (by decide) rfl rfl) rfl rfl hl.1 rfl (lv_room (Nat.le_of_ble_eq_true rfl)) dX6_redo_29 ⟨Nat.le_of_ble_eq_true rfl, Nat.le_of_ble_eq_true rfl⟩) hP hD hS hA [0, 1] [2, 3] [2, 3, 0, 1] rfl rfl (by decide) (by decide) (fun _ => rfl) (by decide) (fun u_2 H locs hw_2 hP hD hS => ?_)
      have hP : va_P D vwCl [(h0, wMo q R C (3 - tn) dn (ag - 1) md em), ((q 0), .inl (cI, 36, .inl (nA (uN b (ac dn) tn)))), ((q 1), .inl (cI, 80, .inl (nA ac))), ((q 2), .inl (cZ, 36, .inl (bA z)))] H := hP
      have hD : va_D A [(h0, wMo q R C (3 - tn) dn (ag - 1) md em), ((q 0), .inl (cI, 36, .inl (nA (uN b (ac dn) tn)))), ((q 1), .inl (cI, 80, .inl (nA ac))), ((q 2), .inl (cZ, 36, .inl (bA z)))] := hD
      refine lv_aload_n hx hb dX6_redo_32 rfl (lv_at hl 0 rfl) ?_
      refine lv_dup hx hb dX6_redo_33 rfl ?_
      refine va_get (D := D) (ci := 6) (v := .int (nI dn)) (C := RX6) (T := TX6) (N := 17) hx hb hts kiX6_redo_X6 hown hK hP 0 rfl rfl 4 (by decide) (hts (.fieldLink RX6 64 "TwoBanksModel" "done" "I") (List.mem_of_getElem? (i := 3) rfl)) (fun _ h9 => h9) rfl dX6_redo_34 ?_
      refine lv_iconst (v := (nI 1)) hx hb dX6_redo_37 (by decide) ?_
      refine lv_iadd hx hb dX6_redo_38 ?_
      refine k_toi (y := nI (dn + 1)) (nI_add _ _) ?_
      refine va_put (D := D) (ci := 6) (v := .int (nI (dn + 1))) (ty := .int) (C := RX6) (T := TX6) (N := 17) hx hb hts kiX6_redo_X6 tyX6 tyX6_ok nmX6 hown hK hP hD hS 0 rfl rfl 4 (by decide) (hts (.fieldLink RX6 64 "TwoBanksModel" "done" "I") (List.mem_of_getElem? (i := 3) rfl)) (fun _ h9 => h9) rfl  (by decide +kernel) rfl rfl (Nat.le_of_ble_eq_true rfl) dX6_redo_39 (fun H locs hP hD hS => ?_)
      have hP : va_P D vwCl [(h0, .inr (6, [.int (nI R), .int (nI C), .int (nI (3 - tn)), .ref (q 0), .int (nI (dn + 1)), .int (nI (ag - 1)), .ref (q 1), .int (nI md), .ref (q 2), .ref (q 3), .ref (q 4), .int (nI em), .ref (q 5), .ref (q 6), .ref (q 7), .ref (q 8), .ref (q 9)])), ((q 0), .inl (cI, 36, .inl (nA (uN b (ac dn) tn)))), ((q 1), .inl (cI, 80, .inl (nA ac))), ((q 2), .inl (cZ, 36, .inl (bA z)))] H := hP
      have hD : va_D A [(h0, .inr (6, [.int (nI R), .int (nI C), .int (nI (3 - tn)), .ref (q 0), .int (nI (dn + 1)), .int (nI (ag - 1)), .ref (q 1), .int (nI md), .ref (q 2), .ref (q 3), .ref (q 4), .int (nI em), .ref (q 5), .ref (q 6), .ref (q 7), .ref (q 8), .ref (q 9)])), ((q 0), .inl (cI, 36, .inl (nA (uN b (ac dn) tn)))), ((q 1), .inl (cI, 80, .inl (nA ac))), ((q 2), .inl (cZ, 36, .inl (bA z)))] := hD
      refine lv_iconst (v := (nI 1)) hx hb dX6_redo_42 (by decide) ?_
      exact W.zret (v := (nI 1)) hx hb hr (by first | decide +kernel | assumption | exact kz_narr (by first | assumption | omega)) (fun t ht hW => ⟨⟨(nI 1), (R, C, (3 - tn), (dn + 1), (ag - 1), md, (uN b (ac dn) tn), ac, z), rfl, Or.inr (Or.inl ⟨rfl, by omega, ha9, rfl⟩), by rw [ht]; exact hP, hD⟩, hS.F ht⟩) hS.2.2 dX6_redo_43
    · refine k_toi (y := nI (100 + F9)) (by rw [ha9]) ?_
      refine k_callv (wr := [((q 1), .inl (cI, 80, .inl (nA ac))), ((q 2), .inl (cZ, 36, .inl (bA z)))]) (w2 := (fun _ : Unit => [(h0, wMo q R C 1 dn (ag - 1) md em), ((q 0), .inl (cI, 36, .inl (nA (uN (uN b F9 0) (tF C F9) 2)))), ((q 1), .inl (cI, 80, .inl (nA ac))), ((q 2), .inl (cZ, 36, .inl (bA z)))])) (va_runV (As := [.int (nI (100 + F9))]) (rest := []) ⟨hx, hb, hml, hown, hts⟩ (c_R_do_swap l D cI cJ cZ h0 q R C tn dn (ag - 1) md em b F9 hR1 hR2 hC1 hC2 hRC (by omega) (by omega)  H.size) (cwV 1 hts gX6_redo_X6_does rfl rfl rfl (by decide +kernel) ⟨Nat.le_of_ble_eq_true rfl, Nat.le_of_ble_eq_true rfl⟩) (kPV (ci := 6) (q0 := 0) (wc := [(h0, .inr (6, [.int (nI R), .int (nI C), .int (nI tn), .ref (q 0), .int (nI dn), .int (nI (ag - 1)), .ref (q 1), .int (nI md), .ref (q 2), .ref (q 3), .ref (q 4), .int (nI em), .ref (q 5), .ref (q 6), .ref (q 7), .ref (q 8), .ref (q 9)])), ((q 0), .inl (cI, 36, .inl (nA b)))]) hK2 hP hD [0, 1] rfl (by decide) rfl rfl) rfl rfl hl.1 rfl (lv_room (Nat.le_of_ble_eq_true rfl)) dX6_redo_29 ⟨Nat.le_of_ble_eq_true rfl, Nat.le_of_ble_eq_true rfl⟩) hP hD hS hA [0, 1] [2, 3] [2, 3, 0, 1] rfl rfl (by decide) (by decide) (fun _ => rfl) (by decide) (fun u_3 H locs hw_3 hP hD hS => ?_)
      have hP : va_P D vwCl [(h0, wMo q R C 1 dn (ag - 1) md em), ((q 0), .inl (cI, 36, .inl (nA (uN (uN b F9 0) (tF C F9) 2)))), ((q 1), .inl (cI, 80, .inl (nA ac))), ((q 2), .inl (cZ, 36, .inl (bA z)))] H := hP
      have hD : va_D A [(h0, wMo q R C 1 dn (ag - 1) md em), ((q 0), .inl (cI, 36, .inl (nA (uN (uN b F9 0) (tF C F9) 2)))), ((q 1), .inl (cI, 80, .inl (nA ac))), ((q 2), .inl (cZ, 36, .inl (bA z)))] := hD
      refine lv_aload_n hx hb dX6_redo_32 rfl (lv_at hl 0 rfl) ?_
      refine lv_dup hx hb dX6_redo_33 rfl ?_
      refine va_get (D := D) (ci := 6) (v := .int (nI dn)) (C := RX6) (T := TX6) (N := 17) hx hb hts kiX6_redo_X6 hown hK hP 0 rfl rfl 4 (by decide) (hts (.fieldLink RX6 64 "TwoBanksModel" "done" "I") (List.mem_of_getElem? (i := 3) rfl)) (fun _ h9 => h9) rfl dX6_redo_34 ?_
      refine lv_iconst (v := (nI 1)) hx hb dX6_redo_37 (by decide) ?_
      refine lv_iadd hx hb dX6_redo_38 ?_
      refine k_toi (y := nI (dn + 1)) (nI_add _ _) ?_
      refine va_put (D := D) (ci := 6) (v := .int (nI (dn + 1))) (ty := .int) (C := RX6) (T := TX6) (N := 17) hx hb hts kiX6_redo_X6 tyX6 tyX6_ok nmX6 hown hK hP hD hS 0 rfl rfl 4 (by decide) (hts (.fieldLink RX6 64 "TwoBanksModel" "done" "I") (List.mem_of_getElem? (i := 3) rfl)) (fun _ h9 => h9) rfl  (by decide +kernel) rfl rfl (Nat.le_of_ble_eq_true rfl) dX6_redo_39 (fun H locs hP hD hS => ?_)
      have hP : va_P D vwCl [(h0, .inr (6, [.int (nI R), .int (nI C), .int (nI 1), .ref (q 0), .int (nI (dn + 1)), .int (nI (ag - 1)), .ref (q 1), .int (nI md), .ref (q 2), .ref (q 3), .ref (q 4), .int (nI em), .ref (q 5), .ref (q 6), .ref (q 7), .ref (q 8), .ref (q 9)])), ((q 0), .inl (cI, 36, .inl (nA (uN (uN b F9 0) (tF C F9) 2)))), ((q 1), .inl (cI, 80, .inl (nA ac))), ((q 2), .inl (cZ, 36, .inl (bA z)))] H := hP
      have hD : va_D A [(h0, .inr (6, [.int (nI R), .int (nI C), .int (nI 1), .ref (q 0), .int (nI (dn + 1)), .int (nI (ag - 1)), .ref (q 1), .int (nI md), .ref (q 2), .ref (q 3), .ref (q 4), .int (nI em), .ref (q 5), .ref (q 6), .ref (q 7), .ref (q 8), .ref (q 9)])), ((q 0), .inl (cI, 36, .inl (nA (uN (uN b F9 0) (tF C F9) 2)))), ((q 1), .inl (cI, 80, .inl (nA ac))), ((q 2), .inl (cZ, 36, .inl (bA z)))] := hD
      refine lv_iconst (v := (nI 1)) hx hb dX6_redo_42 (by decide) ?_
      exact W.zret (v := (nI 1)) hx hb hr (by first | decide +kernel | assumption | exact kz_narr (by first | assumption | omega)) (fun t ht hW => ⟨⟨(nI 1), (R, C, 1, (dn + 1), (ag - 1), md, (uN (uN b F9 0) (tF C F9) 2), ac, z), rfl, Or.inr (Or.inr ⟨F9, rfl, by omega, hRC9, hF9, ha9, rfl⟩), by rw [ht]; exact hP, hD⟩, hS.F ht⟩) hS.2.2 dX6_redo_43
  · refine lv_iconst (v := (nI 0)) hx hb dX6_redo_7 (by decide) ?_
    exact W.zret (v := (nI 0)) hx hb hr (by first | decide +kernel | assumption | exact kz_narr (by first | assumption | omega)) (fun t ht hW => ⟨⟨(nI 0), (R, C, tn, dn, ag, md, b, ac, z), rfl, Or.inl ⟨rfl, by omega, rfl⟩, by rw [ht]; exact hP, hD⟩, hS.F ht⟩) hS.2.2 dX6_redo_8
