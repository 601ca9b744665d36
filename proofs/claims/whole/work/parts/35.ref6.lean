theorem rng_nat {n : Int32} {lo hi : Nat} (h1 : (lo : Int) ≤ n.toInt) (h2 : n.toInt ≤ (hi : Int)) : ∃ k, lo ≤ k ∧ k ≤ hi ∧ n = nI k := by
  obtain ⟨j, hj, rfl⟩ := nI_of (x := n) (fun h => by
    have := Int32.lt_iff_toInt_lt.mp h
    have e0 : (0 : Int32).toInt = 0 := by decide
    omega)
  rw [nI_toInt hj] at h1 h2
  exact ⟨j, by omega, by omega, rfl⟩
theorem rng_of {k lo hi : Nat} {n : Int32} (e : n = nI k) (hk : k < 2 ^ 31) (h1 : lo ≤ k) (h2 : k ≤ hi) : (lo : Int) ≤ n.toInt ∧ n.toInt ≤ (hi : Int) := by
  rw [e, nI_toInt hk]
  omega
theorem uN_put {k v : Nat} {g : Nat → Nat} (h : ∀ i, i < k → g i = v) : ∀ i, i < k + 1 → uN g k v i = v := by
  intro i hi
  by_cases e : i = k
  · rw [e]; exact uN_s
  · rw [uN_n e]; exact h i (by omega)
/-- a group's fields -/
def mG (R C : Nat) (b : Nat → Nat) (F : Nat) : Nat → Prop := ME R C b (b F) (fun x => x = F)
theorem mG_of {R C : Nat} {b : Nat → Nat} {F : Nat} {z zz : Nat → Bool} (hF : F < R * C) (hRC : R * C ≤ 36) (h0 : ∀ i, i < 36 → z i = false) (hz : ∀ f, f < R * C → (zz f = true ↔ ME R C b (b F) (fun x => x < R * C ∧ uB z F true x = true) f)) : ∀ f, f < R * C → (zz f = true ↔ mG R C b F f) := by
  intro f hf
  rw [hz f hf]
  refine RE_cong (fun _ => Iff.rfl) (fun x => ⟨fun hx => ?_, fun hx => ?_⟩)
  · by_cases e : x = F
    · exact e
    · have := hx.2
      rw [uB_n e, h0 x (by omega)] at this
      cases this
  · rw [hx]; exact ⟨hF, uB_s⟩
theorem kiX6_at_X6 : ∀ w ∈ u_ws RX6 TX6 17, w ∈ wsX6_at := fun w h => List.mem_cons_of_mem _ (List.mem_append_right _ h)
set_option maxHeartbeats 4000000 in
set_option maxRecDepth 100000 in
theorem c_R_at (l : Launch) (D : va_G) (cI cJ cZ : ClassId) (h0 : Nat) (q : Nat → Nat) (R C tn dn ag md em : Nat) (b : Nat → Nat) (f : Int32) (hR1 : 1 ≤ R) (hR2 : R ≤ 6) (hC1 : 1 ≤ C) (hC2 : C ≤ 6) (hRC : R * C ≤ 36) (hbv : ∀ f, f < R * C → b f ≤ 2) (sz : Nat) : kMI l yX6_at wsX6_at 2 43 D cI cJ cZ [.ref h0, .int f] [(h0, wMo q R C tn dn ag md em), ((q 0), .inl (cI, 36, .inl (nA b)))] sz (fun r (_ : Unit) => (¬ fIn (R * C) f ∧ r = -1) ∨ (∃ k, k < R * C ∧ f = nI k ∧ r = nI (b k))) (fun _ : Unit => [(h0, wMo q R C tn dn ag md em), ((q 0), .inl (cI, 36, .inl (nA b)))]) := by
  refine Met.ofW (cc := cX6_at) (maxL := 2) (ret := (some .int)) (by decide) rfl ?_
  intro p e s m args below meth c s₁ B hml hv
  obtain ⟨rfl, hsz, hP, ⟨hK, hN⟩, hD0⟩ := hv
  have hx := B.exec
  have hb := B.bytes
  have hr := B.returns
  have hts := atoms_spec (ws := wsX6_at) B.pre
  have hown : s.vm.findClass RX6 = some m.cls := findClass_of_methodNamed B.named
  have hlocks := B.notSynchronized
  subst hsz
  have hD := hD0.self (sz := s.heap.size)
  generalize hAe : va_A [(h0, wMo q R C tn dn ag md em), ((q 0), .inl (cI, 36, .inl (nA b)))] s.heap.size = A at hD ⊢
  have hA : ∀ q : Nat, s.heap.size ≤ q → A q := fun q h => by rw [← hAe]; exact Or.inr h
  have hS : va_S A s.heap s.heap [] := va_S.rf
  have hl := lv_entry ([.ref h0, .int f]) (n := 2) (Nat.le_of_ble_eq_true rfl)
  rw [lg_entry_eq]
  generalize (lg_sl ([.ref h0, .int f]) ++ List.replicate (2 - (lg_sl ([.ref h0, .int f])).length) Slot.unset).toArray = ls at hl ⊢
  have hl : lv_has ls 2 [(0, .ref h0), (1, .int f)] := hl
  have hK2 : kK D cI cJ cZ s := ⟨hK, hN⟩
  clear hD0
  refine lv_aload_n hx hb dX6_at_0 rfl (lv_at hl 0 rfl) ?_
  refine lv_iload_n hx hb dX6_at_1 rfl (lv_at hl 1 rfl) ?_
  refine k_calli (wr := [((q 0), .inl (cI, 36, .inl (nA b)))]) (w2 := (fun _ : Unit => [(h0, wMo q R C tn dn ag md em), ((q 0), .inl (cI, 36, .inl (nA b)))])) (va_runV (As := [.int f]) (rest := []) ⟨hx, hb, hml, hown, hts⟩ (c_R_isField l D cI cJ cZ h0 q R C tn dn ag md em f hR1 hR2 hC1 hC2 hRC  s.heap.size) (cwV 1 hts gX6_at_X6_isField rfl rfl rfl (by decide +kernel) ⟨Nat.le_of_ble_eq_true rfl, Nat.le_of_ble_eq_true rfl⟩) (kPV (ci := 6) (q0 := 0) (wc := [(h0, wMo q R C tn dn ag md em)]) hK2 hP hD [0] rfl (by decide) rfl rfl) rfl rfl hl.1 rfl (lv_room (Nat.le_of_ble_eq_true rfl)) dX6_at_2 ⟨Nat.le_of_ble_eq_true rfl, Nat.le_of_ble_eq_true rfl⟩) hP hD hS hA [0] [1] [1, 0] rfl rfl (by decide) (by decide) (fun _ => rfl) (by decide) (fun r_1 u_1 H locs hw_1 hP hD hS => ?_)
  have hP : va_P D vwCl [(h0, wMo q R C tn dn ag md em), ((q 0), .inl (cI, 36, .inl (nA b)))] H := hP
  have hD : va_D A [(h0, wMo q R C tn dn ag md em), ((q 0), .inl (cI, 36, .inl (nA b)))] := hD
  rcases hw_1 with ⟨rfl, hw_1⟩ | ⟨rfl, hw_1⟩
  · obtain ⟨k, hk, rfl⟩ := hw_1
    refine lv_if_eq (tgt := 17) hx hb dX6_at_5 (by decide) (fun c_5_2 => absurd c_5_2 (by decide)) (fun c_5_2 => ?_)
    refine lv_aload_n hx hb dX6_at_8 rfl (lv_at hl 0 rfl) ?_
    refine va_get (D := D) (ci := 6) (v := .ref (q 0)) (C := RX6) (T := TX6) (N := 17) hx hb hts kiX6_at_X6 hown hK hP 0 rfl rfl 3 (by decide) (hts (.fieldLink RX6 19 "TwoBanksModel" "at" "[I") (List.mem_of_getElem? (i := 1) rfl)) (fun _ h9 => h9) rfl dX6_at_9 ?_
    refine lv_iload_n hx hb dX6_at_12 rfl (lv_at hl 1 rfl) ?_
    refine va_iald hx hb hK hP 1 0 rfl rfl (vp_in_nI (by omega) (by omega)) dX6_at_13 ?_
    refine k_toi (y := nI (b k)) (congrArg (nA b) (nI_clamp (by omega))) ?_
    refine lv_goto (tgt := 18) hx hb dX6_at_14 (by decide) ?_
    exact W.iret (v := (nI (b k))) hx hb hr (fun t ht hW => ⟨⟨(nI (b k)), (), rfl, Or.inr ⟨k, hk, rfl, rfl⟩, by rw [ht]; exact hP, hD⟩, hS.F ht⟩) hS.2.2 dX6_at_18
  · skip
    refine lv_if_eq (tgt := 17) hx hb dX6_at_5 (by decide) (fun c_5_3 => ?_) (fun c_5_3 => absurd c_5_3 (by decide))
    refine lv_iconst (v := (-1)) hx hb dX6_at_17 (by decide) ?_
    exact W.iret (v := (-1)) hx hb hr (fun t ht hW => ⟨⟨(-1), (), rfl, Or.inl ⟨hw_1, rfl⟩, by rw [ht]; exact hP, hD⟩, hS.F ht⟩) hS.2.2 dX6_at_18

theorem kiX6_isStone_X6 : ∀ w ∈ u_ws RX6 TX6 17, w ∈ wsX6_isStone := fun w h => List.mem_cons_of_mem _ (List.mem_append_right _ h)
set_option maxHeartbeats 4000000 in
set_option maxRecDepth 100000 in
theorem c_R_isStone (l : Launch) (D : va_G) (cI cJ cZ : ClassId) (h0 : Nat) (q : Nat → Nat) (R C tn dn ag md em : Nat) (b : Nat → Nat) (f : Int32) (hR1 : 1 ≤ R) (hR2 : R ≤ 6) (hC1 : 1 ≤ C) (hC2 : C ≤ 6) (hRC : R * C ≤ 36) (hbv : ∀ f, f < R * C → b f ≤ 2) (sz : Nat) : kMI l yX6_isStone wsX6_isStone 2 43 D cI cJ cZ [.ref h0, .int f] [(h0, wMo q R C tn dn ag md em), ((q 0), .inl (cI, 36, .inl (nA b)))] sz (fun r (_ : Unit) => (r = nI 1 ∧ ∃ k, k < R * C ∧ f = nI k ∧ 0 < b k) ∨ (r = nI 0 ∧ ¬ ∃ k, k < R * C ∧ f = nI k ∧ 0 < b k)) (fun _ : Unit => [(h0, wMo q R C tn dn ag md em), ((q 0), .inl (cI, 36, .inl (nA b)))]) := by
  refine Met.ofW (cc := cX6_isStone) (maxL := 2) (ret := (some .boolean)) (by decide) rfl ?_
  intro p e s m args below meth c s₁ B hml hv
  obtain ⟨rfl, hsz, hP, ⟨hK, hN⟩, hD0⟩ := hv
  have hx := B.exec
  have hb := B.bytes
  have hr := B.returns
  have hts := atoms_spec (ws := wsX6_isStone) B.pre
  have hown : s.vm.findClass RX6 = some m.cls := findClass_of_methodNamed B.named
  have hlocks := B.notSynchronized
  subst hsz
  have hD := hD0.self (sz := s.heap.size)
  generalize hAe : va_A [(h0, wMo q R C tn dn ag md em), ((q 0), .inl (cI, 36, .inl (nA b)))] s.heap.size = A at hD ⊢
  have hA : ∀ q : Nat, s.heap.size ≤ q → A q := fun q h => by rw [← hAe]; exact Or.inr h
  have hS : va_S A s.heap s.heap [] := va_S.rf
  have hl := lv_entry ([.ref h0, .int f]) (n := 2) (Nat.le_of_ble_eq_true rfl)
  rw [lg_entry_eq]
  generalize (lg_sl ([.ref h0, .int f]) ++ List.replicate (2 - (lg_sl ([.ref h0, .int f])).length) Slot.unset).toArray = ls at hl ⊢
  have hl : lv_has ls 2 [(0, .ref h0), (1, .int f)] := hl
  have hK2 : kK D cI cJ cZ s := ⟨hK, hN⟩
  clear hD0
  refine lv_aload_n hx hb dX6_isStone_0 rfl (lv_at hl 0 rfl) ?_
  refine lv_iload_n hx hb dX6_isStone_1 rfl (lv_at hl 1 rfl) ?_
  refine k_calli (wr := [((q 0), .inl (cI, 36, .inl (nA b)))]) (w2 := (fun _ : Unit => [(h0, wMo q R C tn dn ag md em), ((q 0), .inl (cI, 36, .inl (nA b)))])) (va_runV (As := [.int f]) (rest := []) ⟨hx, hb, hml, hown, hts⟩ (c_R_isField l D cI cJ cZ h0 q R C tn dn ag md em f hR1 hR2 hC1 hC2 hRC  s.heap.size) (cwV 1 hts gX6_isStone_X6_isField rfl rfl rfl (by decide +kernel) ⟨Nat.le_of_ble_eq_true rfl, Nat.le_of_ble_eq_true rfl⟩) (kPV (ci := 6) (q0 := 0) (wc := [(h0, wMo q R C tn dn ag md em)]) hK2 hP hD [0] rfl (by decide) rfl rfl) rfl rfl hl.1 rfl (lv_room (Nat.le_of_ble_eq_true rfl)) dX6_isStone_2 ⟨Nat.le_of_ble_eq_true rfl, Nat.le_of_ble_eq_true rfl⟩) hP hD hS hA [0] [1] [1, 0] rfl rfl (by decide) (by decide) (fun _ => rfl) (by decide) (fun r_1 u_1 H locs hw_1 hP hD hS => ?_)
  have hP : va_P D vwCl [(h0, wMo q R C tn dn ag md em), ((q 0), .inl (cI, 36, .inl (nA b)))] H := hP
  have hD : va_D A [(h0, wMo q R C tn dn ag md em), ((q 0), .inl (cI, 36, .inl (nA b)))] := hD
  rcases hw_1 with ⟨rfl, hw_1⟩ | ⟨rfl, hw_1⟩
  · obtain ⟨k, hk, rfl⟩ := hw_1
    refine lv_if_eq (tgt := 21) hx hb dX6_isStone_5 (by decide) (fun c_5_2 => absurd c_5_2 (by decide)) (fun c_5_2 => ?_)
    have hbk := hbv k hk
    refine lv_aload_n hx hb dX6_isStone_8 rfl (lv_at hl 0 rfl) ?_
    refine va_get (D := D) (ci := 6) (v := .ref (q 0)) (C := RX6) (T := TX6) (N := 17) hx hb hts kiX6_isStone_X6 hown hK hP 0 rfl rfl 3 (by decide) (hts (.fieldLink RX6 19 "TwoBanksModel" "at" "[I") (List.mem_of_getElem? (i := 1) rfl)) (fun _ h9 => h9) rfl dX6_isStone_9 ?_
    refine lv_iload_n hx hb dX6_isStone_12 rfl (lv_at hl 1 rfl) ?_
    refine va_iald hx hb hK hP 1 0 rfl rfl (vp_in_nI (by omega) (by omega)) dX6_isStone_13 ?_
    refine k_toi (y := nI (b k)) (congrArg (nA b) (nI_clamp (by omega))) ?_
    refine kw_if_eq (tgt := 21) hx hb dX6_isStone_14 (by decide) (by omega) (fun c_14_3 => ?_) (fun c_14_3 => ?_)
    · refine lv_iconst (v := (nI 0)) hx hb dX6_isStone_21 (by decide) ?_
      exact W.zret (v := (nI 0)) hx hb hr (by first | decide +kernel | assumption | exact kz_narr (by first | assumption | omega)) (fun t ht hW => ⟨⟨(nI 0), (), rfl, Or.inr ⟨rfl, fun ⟨k9, h1, h2, h3⟩ => by have e9 := (nI_eq (by omega) (by omega)).mp h2; subst e9; omega⟩, by rw [ht]; exact hP, hD⟩, hS.F ht⟩) hS.2.2 dX6_isStone_22
    · refine lv_iconst (v := (nI 1)) hx hb dX6_isStone_17 (by decide) ?_
      refine lv_goto (tgt := 22) hx hb dX6_isStone_18 (by decide) ?_
      exact W.zret (v := (nI 1)) hx hb hr (by first | decide +kernel | assumption | exact kz_narr (by first | assumption | omega)) (fun t ht hW => ⟨⟨(nI 1), (), rfl, Or.inl ⟨rfl, k, hk, rfl, by omega⟩, by rw [ht]; exact hP, hD⟩, hS.F ht⟩) hS.2.2 dX6_isStone_22
  · skip
    refine lv_if_eq (tgt := 21) hx hb dX6_isStone_5 (by decide) (fun c_5_4 => ?_) (fun c_5_4 => absurd c_5_4 (by decide))
    refine lv_iconst (v := (nI 0)) hx hb dX6_isStone_21 (by decide) ?_
    exact W.zret (v := (nI 0)) hx hb hr (by first | decide +kernel | assumption | exact kz_narr (by first | assumption | omega)) (fun t ht hW => ⟨⟨(nI 0), (), rfl, Or.inr ⟨rfl, fun ⟨k9, h1, h2, _⟩ => hw_1 ⟨k9, h1, h2⟩⟩, by rw [ht]; exact hP, hD⟩, hS.F ht⟩) hS.2.2 dX6_isStone_22

theorem kiX6_groupOf_X6 : ∀ w ∈ u_ws RX6 TX6 17, w ∈ wsX6_groupOf := fun w h => List.mem_cons_of_mem _ (List.mem_append_right _ h)
set_option maxHeartbeats 4000000 in
set_option maxRecDepth 100000 in
theorem c_R_groupOf (l : Launch) (D : va_G) (cI cJ cZ : ClassId) (h0 : Nat) (q : Nat → Nat) (R C tn dn ag md em : Nat) (b : Nat → Nat) (z : Nat → Bool) (F : Nat) (hR1 : 1 ≤ R) (hR2 : R ≤ 6) (hC1 : 1 ≤ C) (hC2 : C ≤ 6) (hRC : R * C ≤ 36) (hbv : ∀ f, f < R * C → b f ≤ 2) (qF : F < R * C) (sz : Nat) : kMV l yX6_groupOf wsX6_groupOf 3 71 D cI cJ cZ [.ref h0, .int (nI F)] [(h0, wMo q R C tn dn ag md em), ((q 0), .inl (cI, 36, .inl (nA b))), ((q 2), .inl (cZ, 36, .inl (bA z)))] sz (fun (zz : Nat → Bool) => ∀ f, f < R * C → (zz f = true ↔ mG R C b F f)) (fun za : Nat → Bool => [(h0, wMo q R C tn dn ag md em), ((q 0), .inl (cI, 36, .inl (nA b))), ((q 2), .inl (cZ, 36, .inl (bA za)))]) := by
  refine Met.ofW (cc := cX6_groupOf) (maxL := 2) (ret := none) (by decide) rfl ?_
  intro p e s m args below meth c s₁ B hml hv
  obtain ⟨rfl, hsz, hP, ⟨hK, hN⟩, hD0⟩ := hv
  have hx := B.exec
  have hb := B.bytes
  have hr := B.returns
  have hts := atoms_spec (ws := wsX6_groupOf) B.pre
  have hown : s.vm.findClass RX6 = some m.cls := findClass_of_methodNamed B.named
  have hlocks := B.notSynchronized
  subst hsz
  have hD := hD0.self (sz := s.heap.size)
  generalize hAe : va_A [(h0, wMo q R C tn dn ag md em), ((q 0), .inl (cI, 36, .inl (nA b))), ((q 2), .inl (cZ, 36, .inl (bA z)))] s.heap.size = A at hD ⊢
  have hA : ∀ q : Nat, s.heap.size ≤ q → A q := fun q h => by rw [← hAe]; exact Or.inr h
  have hS : va_S A s.heap s.heap [] := va_S.rf
  have hl := lv_entry ([.ref h0, .int (nI F)]) (n := 2) (Nat.le_of_ble_eq_true rfl)
  rw [lg_entry_eq]
  generalize (lg_sl ([.ref h0, .int (nI F)]) ++ List.replicate (2 - (lg_sl ([.ref h0, .int (nI F)])).length) Slot.unset).toArray = ls at hl ⊢
  have hl : lv_has ls 2 [(0, .ref h0), (1, .int (nI F))] := hl
  have hK2 : kK D cI cJ cZ s := ⟨hK, hN⟩
  clear hD0
  have hbF := hbv F qF
  refine lv_aload_n hx hb dX6_groupOf_0 rfl (lv_at hl 0 rfl) ?_
  refine k_callv (wr := [((q 0), .inl (cI, 36, .inl (nA b)))]) (w2 := (fun za : Nat → Bool => [(h0, wMo q R C tn dn ag md em), ((q 0), .inl (cI, 36, .inl (nA b))), ((q 2), .inl (cZ, 36, .inl (bA za)))])) (va_runV (As := []) (rest := []) ⟨hx, hb, hml, hown, hts⟩ (c_R_none l D cI cJ cZ h0 q R C tn dn ag md em z  s.heap.size) (cwV 0 hts gX6_groupOf_X6_reachesNone rfl rfl rfl (by decide +kernel) ⟨Nat.le_of_ble_eq_true rfl, Nat.le_of_ble_eq_true rfl⟩) (kPV (ci := 6) (q0 := 0) (wc := [(h0, wMo q R C tn dn ag md em), ((q 2), .inl (cZ, 36, .inl (bA z)))]) hK2 hP hD [0, 2] rfl (by decide) rfl rfl) rfl rfl hl.1 rfl (lv_room (Nat.le_of_ble_eq_true rfl)) dX6_groupOf_1 ⟨Nat.le_of_ble_eq_true rfl, Nat.le_of_ble_eq_true rfl⟩) hP hD hS hA [0, 2] [1] [1, 0, 2] rfl rfl (by decide) (by decide) (fun _ => rfl) (by decide) (fun u_2 H locs hw_2 hP hD hS => ?_)
  obtain ⟨za_1, rfl⟩ : ∃ z, z = u_2 := ⟨_, rfl⟩
  have hP : va_P D vwCl [(h0, wMo q R C tn dn ag md em), ((q 0), .inl (cI, 36, .inl (nA b))), ((q 2), .inl (cZ, 36, .inl (bA za_1)))] H := hP
  have hD : va_D A [(h0, wMo q R C tn dn ag md em), ((q 0), .inl (cI, 36, .inl (nA b))), ((q 2), .inl (cZ, 36, .inl (bA za_1)))] := hD
  refine lv_aload_n hx hb dX6_groupOf_4 rfl (lv_at hl 0 rfl) ?_
  refine va_get (D := D) (ci := 6) (v := .ref (q 2)) (C := RX6) (T := TX6) (N := 17) hx hb hts kiX6_groupOf_X6 hown hK hP 0 rfl rfl 8 (by decide) (hts (.fieldLink RX6 30 "TwoBanksModel" "isReached" "[Z") (List.mem_of_getElem? (i := 1) rfl)) (fun _ h9 => h9) rfl dX6_groupOf_5 ?_
  refine lv_iload_n hx hb dX6_groupOf_8 rfl (lv_at hl 1 rfl) ?_
  refine lv_iconst (v := (nI 1)) hx hb dX6_groupOf_9 (by decide) ?_
  refine va_zast hx hb hK hP hD hS 2 2 rfl rfl (vp_in_nI (by omega) (by omega)) dX6_groupOf_10 (fun H locs hP hD hS => ?_)
  rw [nI_clamp (by omega)] at hP hD
  rw [kz_nar (by first | decide | assumption | omega)] at hP hD
  rw [bA_upd1] at hP hD
  have hP : va_P D vwCl [(h0, wMo q R C tn dn ag md em), ((q 0), .inl (cI, 36, .inl (nA b))), ((q 2), .inl (cZ, 36, .inl (bA (uB za_1 F true))))] H := hP
  have hD : va_D A [(h0, wMo q R C tn dn ag md em), ((q 0), .inl (cI, 36, .inl (nA b))), ((q 2), .inl (cZ, 36, .inl (bA (uB za_1 F true))))] := hD
  refine lv_aload_n hx hb dX6_groupOf_11 rfl (lv_at hl 0 rfl) ?_
  refine lv_aload_n hx hb dX6_groupOf_12 rfl (lv_at hl 0 rfl) ?_
  refine va_get (D := D) (ci := 6) (v := .ref (q 0)) (C := RX6) (T := TX6) (N := 17) hx hb hts kiX6_groupOf_X6 hown hK hP 0 rfl rfl 3 (by decide) (hts (.fieldLink RX6 19 "TwoBanksModel" "at" "[I") (List.mem_of_getElem? (i := 2) rfl)) (fun _ h9 => h9) rfl dX6_groupOf_13 ?_
  refine lv_iload_n hx hb dX6_groupOf_16 rfl (lv_at hl 1 rfl) ?_
  refine va_iald hx hb hK hP 1 0 rfl rfl (vp_in_nI (by omega) (by omega)) dX6_groupOf_17 ?_
  refine k_toi (y := nI (b F)) (congrArg (nA b) (nI_clamp (by omega))) ?_
  refine k_callv (wr := []) (w2 := (fun za : Nat → Bool => [(h0, wMo q R C tn dn ag md em), ((q 0), .inl (cI, 36, .inl (nA b))), ((q 2), .inl (cZ, 36, .inl (bA za)))])) (va_runV (As := [.int (nI (b F))]) (rest := []) ⟨hx, hb, hml, hown, hts⟩ (c_R_reaches l D cI cJ cZ h0 q R C tn dn ag md em b (uB za_1 F true) (b F) hR1 hR2 hC1 hC2 hRC hbv (by omega)  H.size) (cwV 1 hts gX6_groupOf_X6_reaches rfl rfl rfl (by decide +kernel) ⟨Nat.le_of_ble_eq_true rfl, Nat.le_of_ble_eq_true rfl⟩) (kPV (ci := 6) (q0 := 0) (wc := [(h0, wMo q R C tn dn ag md em), ((q 0), .inl (cI, 36, .inl (nA b))), ((q 2), .inl (cZ, 36, .inl (bA (uB za_1 F true))))]) hK2 hP hD [0, 1, 2] rfl (by decide) rfl rfl) rfl rfl hl.1 rfl (lv_room (Nat.le_of_ble_eq_true rfl)) dX6_groupOf_18 ⟨Nat.le_of_ble_eq_true rfl, Nat.le_of_ble_eq_true rfl⟩) hP hD hS hA [0, 1, 2] [] [0, 1, 2] rfl rfl (by decide) (by decide) (fun _ => rfl) (by decide) (fun u_4 H locs hw_4 hP hD hS => ?_)
  obtain ⟨za_3, rfl⟩ : ∃ z, z = u_4 := ⟨_, rfl⟩
  have hP : va_P D vwCl [(h0, wMo q R C tn dn ag md em), ((q 0), .inl (cI, 36, .inl (nA b))), ((q 2), .inl (cZ, 36, .inl (bA za_3)))] H := hP
  have hD : va_D A [(h0, wMo q R C tn dn ag md em), ((q 0), .inl (cI, 36, .inl (nA b))), ((q 2), .inl (cZ, 36, .inl (bA za_3)))] := hD
  exact W.vret hx hb hr (fun t ht hW => ⟨⟨za_3, rfl, mG_of qF hRC hw_2 hw_4, by rw [ht]; exact hP, hD⟩, hS.F ht⟩) hS.2.2 dX6_groupOf_21

theorem kiX6_group_X6 : ∀ w ∈ u_ws RX6 TX6 17, w ∈ wsX6_group := fun w h => List.mem_cons_of_mem _ (List.mem_append_right _ h)
set_option maxHeartbeats 4000000 in
set_option maxRecDepth 100000 in
theorem c_R_group (l : Launch) (D : va_G) (cI cJ cZ : ClassId) (h0 : Nat) (q : Nat → Nat) (R C tn dn ag md em : Nat) (b : Nat → Nat) (z : Nat → Bool) (f : Int32) (hR1 : 1 ≤ R) (hR2 : R ≤ 6) (hC1 : 1 ≤ C) (hC2 : C ≤ 6) (hRC : R * C ≤ 36) (hbv : ∀ f, f < R * C → b f ≤ 2) (sz : Nat) : kMI l yX6_group wsX6_group 4 92 D cI cJ cZ [.ref h0, .int f] [(h0, wMo q R C tn dn ag md em), ((q 0), .inl (cI, 36, .inl (nA b))), ((q 2), .inl (cZ, 36, .inl (bA z)))] sz (fun r (_ : Nat → Bool) => (¬ (∃ k, k < R * C ∧ f = nI k ∧ 0 < b k) ∧ r = -1) ∨ (∃ k g, k < R * C ∧ f = nI k ∧ 0 < b k ∧ g ≤ k ∧ mG R C b k g ∧ (∀ x, x < g → ¬ mG R C b k x) ∧ r = nI g)) (fun za : Nat → Bool => [(h0, wMo q R C tn dn ag md em), ((q 0), .inl (cI, 36, .inl (nA b))), ((q 2), .inl (cZ, 36, .inl (bA za)))]) := by
  refine Met.ofW (cc := cX6_group) (maxL := 3) (ret := (some .int)) (by decide) rfl ?_
  intro p e s m args below meth c s₁ B hml hv
  obtain ⟨rfl, hsz, hP, ⟨hK, hN⟩, hD0⟩ := hv
  have hx := B.exec
  have hb := B.bytes
  have hr := B.returns
  have hts := atoms_spec (ws := wsX6_group) B.pre
  have hown : s.vm.findClass RX6 = some m.cls := findClass_of_methodNamed B.named
  have hlocks := B.notSynchronized
  subst hsz
  have hD := hD0.self (sz := s.heap.size)
  generalize hAe : va_A [(h0, wMo q R C tn dn ag md em), ((q 0), .inl (cI, 36, .inl (nA b))), ((q 2), .inl (cZ, 36, .inl (bA z)))] s.heap.size = A at hD ⊢
  have hA : ∀ q : Nat, s.heap.size ≤ q → A q := fun q h => by rw [← hAe]; exact Or.inr h
  have hS : va_S A s.heap s.heap [] := va_S.rf
  have hl := lv_entry ([.ref h0, .int f]) (n := 3) (Nat.le_of_ble_eq_true rfl)
  rw [lg_entry_eq]
  generalize (lg_sl ([.ref h0, .int f]) ++ List.replicate (3 - (lg_sl ([.ref h0, .int f])).length) Slot.unset).toArray = ls at hl ⊢
  have hl : lv_has ls 3 [(0, .ref h0), (1, .int f)] := hl
  have hK2 : kK D cI cJ cZ s := ⟨hK, hN⟩
  clear hD0
  refine lv_aload_n hx hb dX6_group_0 rfl (lv_at hl 0 rfl) ?_
  refine lv_iload_n hx hb dX6_group_1 rfl (lv_at hl 1 rfl) ?_
  refine k_calli (wr := [((q 2), .inl (cZ, 36, .inl (bA z)))]) (w2 := (fun _ : Unit => [(h0, wMo q R C tn dn ag md em), ((q 0), .inl (cI, 36, .inl (nA b))), ((q 2), .inl (cZ, 36, .inl (bA z)))])) (va_runV (As := [.int f]) (rest := []) ⟨hx, hb, hml, hown, hts⟩ (c_R_isStone l D cI cJ cZ h0 q R C tn dn ag md em b f hR1 hR2 hC1 hC2 hRC hbv  s.heap.size) (cwV 1 hts gX6_group_X6_isStone rfl rfl rfl (by decide +kernel) ⟨Nat.le_of_ble_eq_true rfl, Nat.le_of_ble_eq_true rfl⟩) (kPV (ci := 6) (q0 := 0) (wc := [(h0, wMo q R C tn dn ag md em), ((q 0), .inl (cI, 36, .inl (nA b)))]) hK2 hP hD [0, 1] rfl (by decide) rfl rfl) rfl rfl hl.1 rfl (lv_room (Nat.le_of_ble_eq_true rfl)) dX6_group_2 ⟨Nat.le_of_ble_eq_true rfl, Nat.le_of_ble_eq_true rfl⟩) hP hD hS hA [0, 1] [2] [1, 2, 0] rfl rfl (by decide) (by decide) (fun _ => rfl) (by decide) (fun r_1 u_1 H locs hw_1 hP hD hS => ?_)
  have hP : va_P D vwCl [(h0, wMo q R C tn dn ag md em), ((q 0), .inl (cI, 36, .inl (nA b))), ((q 2), .inl (cZ, 36, .inl (bA z)))] H := hP
  have hD : va_D A [(h0, wMo q R C tn dn ag md em), ((q 0), .inl (cI, 36, .inl (nA b))), ((q 2), .inl (cZ, 36, .inl (bA z)))] := hD
  rcases hw_1 with ⟨rfl, hw_1⟩ | ⟨rfl, hw_1⟩
  · obtain ⟨k, hk, rfl, hb0⟩ := hw_1
    refine lv_if_ne (tgt := 10) hx hb dX6_group_5 (by decide) (fun c_5_2 => ?_) (fun c_5_2 => absurd c_5_2 (by decide))
    refine lv_aload_n hx hb dX6_group_10 rfl (lv_at hl 0 rfl) ?_
    refine lv_iload_n hx hb dX6_group_11 rfl (lv_at hl 1 rfl) ?_
    refine k_callv (wr := []) (w2 := (fun za : Nat → Bool => [(h0, wMo q R C tn dn ag md em), ((q 0), .inl (cI, 36, .inl (nA b))), ((q 2), .inl (cZ, 36, .inl (bA za)))])) (va_runV (As := [.int (nI k)]) (rest := []) ⟨hx, hb, hml, hown, hts⟩ (c_R_groupOf l D cI cJ cZ h0 q R C tn dn ag md em b z k hR1 hR2 hC1 hC2 hRC hbv (by omega)  H.size) (cwV 1 hts gX6_group_X6_groupOf rfl rfl rfl (by decide +kernel) ⟨Nat.le_of_ble_eq_true rfl, Nat.le_of_ble_eq_true rfl⟩) (kPV (ci := 6) (q0 := 0) (wc := [(h0, wMo q R C tn dn ag md em), ((q 0), .inl (cI, 36, .inl (nA b))), ((q 2), .inl (cZ, 36, .inl (bA z)))]) hK2 hP hD [0, 1, 2] rfl (by decide) rfl rfl) rfl rfl hl.1 rfl (lv_room (Nat.le_of_ble_eq_true rfl)) dX6_group_12 ⟨Nat.le_of_ble_eq_true rfl, Nat.le_of_ble_eq_true rfl⟩) hP hD hS hA [0, 1, 2] [] [0, 1, 2] rfl rfl (by decide) (by decide) (fun _ => rfl) (by decide) (fun u_4 H locs hw_4 hP hD hS => ?_)
    obtain ⟨za_3, rfl⟩ : ∃ z, z = u_4 := ⟨_, rfl⟩
    have hP : va_P D vwCl [(h0, wMo q R C tn dn ag md em), ((q 0), .inl (cI, 36, .inl (nA b))), ((q 2), .inl (cZ, 36, .inl (bA za_3)))] H := hP
    have hD : va_D A [(h0, wMo q R C tn dn ag md em), ((q 0), .inl (cI, 36, .inl (nA b))), ((q 2), .inl (cZ, 36, .inl (bA za_3)))] := hD
    have hz9 := hw_4
    have hzk : za_3 k = true := (hz9 k hk).mpr (RE_base rfl)
    refine lv_iconst (v := (nI 0)) hx hb dX6_group_15 (by decide) ?_
    refine lv_istore_n (lv' := [(2, .int (nI 0)), (0, .ref h0), (1, .int (nI k))]) hx hb dX6_group_16 rfl hl (by decide) rfl (fun ls hl => ?_)
    refine kw_loop (σ := Nat) (fun (g : Nat) H locs ls => va_P D vwCl [(h0, wMo q R C tn dn ag md em), ((q 0), .inl (cI, 36, .inl (nA b))), ((q 2), .inl (cZ, 36, .inl (bA za_3)))] H ∧ va_D A [(h0, wMo q R C tn dn ag md em), ((q 0), .inl (cI, 36, .inl (nA b))), ((q 2), .inl (cZ, 36, .inl (bA za_3)))] ∧ va_S A s.heap H locs ∧ lv_has ls 3 [(0, .ref h0), (2, .int (nI g))] ∧ (g ≤ k) ∧ (∀ x, x < g → ¬ mG R C b k x)) (fun (g : Nat) => k - g) 0 ⟨hP, hD, hS, lv_sub hl [1, 0] rfl, Nat.zero_le _, fun x hx => absurd hx (Nat.not_lt_zero _)⟩ ?_
    clear hP hD hS hl
    rintro g H locs ls ⟨hP, hD, hS, hl, hg8, hn8⟩ ih_17
    have hP : va_P D vwCl [(h0, wMo q R C tn dn ag md em), ((q 0), .inl (cI, 36, .inl (nA b))), ((q 2), .inl (cZ, 36, .inl (bA za_3)))] H := hP
    have hD : va_D A [(h0, wMo q R C tn dn ag md em), ((q 0), .inl (cI, 36, .inl (nA b))), ((q 2), .inl (cZ, 36, .inl (bA za_3)))] := hD
    have hl : lv_has ls 3 [(0, .ref h0), (2, .int (nI g))] := hl
    have hzb : (za_3 g).toNat ≤ 1 := Bool.toNat_le _
    have hg8 : g ≤ k := hg8
    have hn8 : ∀ x, x < g → ¬ mG R C b k x := hn8
    refine lv_aload_n hx hb dX6_group_17 rfl (lv_at hl 0 rfl) ?_
    refine va_get (D := D) (ci := 6) (v := .ref (q 2)) (C := RX6) (T := TX6) (N := 17) hx hb hts kiX6_group_X6 hown hK hP 0 rfl rfl 8 (by decide) (hts (.fieldLink RX6 30 "TwoBanksModel" "isReached" "[Z") (List.mem_of_getElem? (i := 1) rfl)) (fun _ h9 => h9) rfl dX6_group_18 ?_
    refine lv_iload_n hx hb dX6_group_21 rfl (lv_at hl 1 rfl) ?_
    refine va_zald hx hb hK hP 2 2 rfl rfl (vp_in_nI (by omega) (by omega)) dX6_group_22 ?_
    refine k_toi (y := nI ((za_3 g).toNat)) (congrArg (bA za_3) (nI_clamp (by omega))) ?_
    refine kw_if_ne (tgt := 32) hx hb dX6_group_23 (by decide) (by omega) (fun c_23_5 => ?_) (fun c_23_5 => ?_)
    · have hzo : za_3 g = true := bz_t c_23_5
      refine lv_iload_n hx hb dX6_group_32 rfl (lv_at hl 1 rfl) ?_
      exact W.iret (v := (nI g)) hx hb hr (fun t ht hW => ⟨⟨(nI g), za_3, rfl, Or.inr ⟨k, g, hk, rfl, hb0, hg8, (hz9 g (by omega)).mp hzo, hn8, rfl⟩, by rw [ht]; exact hP, hD⟩, hS.F ht⟩) hS.2.2 dX6_group_33
    · have hzo : za_3 g = false := bz_f c_23_5
      have hgk : g < k := by rcases Nat.eq_or_lt_of_le hg8 with q9 | q9; rw [q9, hzk] at hzo; cases hzo; exact q9
      refine lv_iinc (v := (nI (g + 1))) (lv' := [(2, .int (nI (g + 1))), (0, .ref h0)]) hx hb dX6_group_26 hl (k := 1) rfl (k_inc _ 1) (by decide) rfl (fun ls hl => ?_)
      refine lv_goto (tgt := 17) hx hb dX6_group_29 (by decide) ?_
      exact ih_17 (g + 1) _ _ _ (by show k - (g + 1) < k - g; omega) ⟨hP, hD, hS, lv_sub hl [1, 0] rfl, by omega, lt_sp hn8 (fun h => by have := (hz9 g (by omega)).mpr h; rw [hzo] at this; cases this)⟩
  · skip
    refine lv_if_ne (tgt := 10) hx hb dX6_group_5 (by decide) (fun c_5_6 => absurd c_5_6 (by decide)) (fun c_5_6 => ?_)
    refine lv_iconst (v := (-1)) hx hb dX6_group_8 (by decide) ?_
    exact W.iret (v := (-1)) hx hb hr (fun t ht hW => ⟨⟨(-1), z, rfl, Or.inl ⟨hw_1, rfl⟩, by rw [ht]; exact hP, hD⟩, hS.F ht⟩) hS.2.2 dX6_group_9

theorem kiX6_board_X6 : ∀ w ∈ u_ws RX6 TX6 17, w ∈ wsX6_board := fun w h => List.mem_cons_of_mem _ (List.mem_append_right _ h)
set_option maxHeartbeats 4000000 in
set_option maxRecDepth 100000 in
theorem c_R_board (l : Launch) (D : va_G) (cI cJ cZ : ClassId) (h0 : Nat) (q : Nat → Nat) (R C tn dn ag md em : Nat) (b ac : Nat → Nat) (z : Nat → Bool) (a c0 : Int32) (sz : Nat) : kMI l yX6_board wsX6_board 1 22 D cI cJ cZ [.ref h0, .int a, .int c0] [(h0, wMo q R C tn dn ag md em), ((q 0), .inl (cI, 36, .inl (nA b))), ((q 1), .inl (cI, 80, .inl (nA ac))), ((q 2), .inl (cZ, 36, .inl (bA z)))] sz (fun r (u : MS) => (r = nI 0 ∧ ¬ ((1 ≤ a.toInt ∧ a.toInt ≤ 6) ∧ 1 ≤ c0.toInt ∧ c0.toInt ≤ 6) ∧ u = (R, C, tn, dn, ag, md, b, ac, z)) ∨ (∃ R2 C2 bb, (1 ≤ R2 ∧ R2 ≤ 6) ∧ (1 ≤ C2 ∧ C2 ≤ 6) ∧ a = nI R2 ∧ c0 = nI C2 ∧ (∀ i, i < 36 → bb i = 0) ∧ r = nI 1 ∧ u = (R2, C2, 1, 0, 0, 1, bb, ac, z))) (fun u : MS => match u with | (Rm, Cm, tnm, dnm, agm, mdm, bm, acm, zm) => [(h0, wMo q Rm Cm tnm dnm agm mdm em), ((q 0), .inl (cI, 36, .inl (nA bm))), ((q 1), .inl (cI, 80, .inl (nA acm))), ((q 2), .inl (cZ, 36, .inl (bA zm)))]) := by
  refine Met.ofW (cc := cX6_board) (maxL := 4) (ret := (some .boolean)) (by decide) rfl ?_
  intro p e s m args below meth c s₁ B hml hv
  obtain ⟨rfl, hsz, hP, ⟨hK, hN⟩, hD0⟩ := hv
  have hx := B.exec
  have hb := B.bytes
  have hr := B.returns
  have hts := atoms_spec (ws := wsX6_board) B.pre
  have hown : s.vm.findClass RX6 = some m.cls := findClass_of_methodNamed B.named
  have hlocks := B.notSynchronized
  subst hsz
  have hD := hD0.self (sz := s.heap.size)
  generalize hAe : va_A [(h0, wMo q R C tn dn ag md em), ((q 0), .inl (cI, 36, .inl (nA b))), ((q 1), .inl (cI, 80, .inl (nA ac))), ((q 2), .inl (cZ, 36, .inl (bA z)))] s.heap.size = A at hD ⊢
  have hA : ∀ q : Nat, s.heap.size ≤ q → A q := fun q h => by rw [← hAe]; exact Or.inr h
  have hS : va_S A s.heap s.heap [] := va_S.rf
  have hl := lv_entry ([.ref h0, .int a, .int c0]) (n := 4) (Nat.le_of_ble_eq_true rfl)
  rw [lg_entry_eq]
  generalize (lg_sl ([.ref h0, .int a, .int c0]) ++ List.replicate (4 - (lg_sl ([.ref h0, .int a, .int c0])).length) Slot.unset).toArray = ls at hl ⊢
  have hl : lv_has ls 4 [(0, .ref h0), (1, .int a), (2, .int c0)] := hl
  have hK2 : kK D cI cJ cZ s := ⟨hK, hN⟩
  clear hD0
  refine lv_iload_n hx hb dX6_board_0 rfl (lv_at hl 1 rfl) ?_
  refine lv_iconst (v := (nI 1)) hx hb dX6_board_1 (by decide) ?_
  refine lv_bipush (v := (nI 6)) hx hb dX6_board_2 (by decide) ?_
  refine k_calli (wr := [(h0, wMo q R C tn dn ag md em), ((q 0), .inl (cI, 36, .inl (nA b))), ((q 1), .inl (cI, 80, .inl (nA ac))), ((q 2), .inl (cZ, 36, .inl (bA z)))]) (w2 := (fun _ : Unit => [(h0, wMo q R C tn dn ag md em), ((q 0), .inl (cI, 36, .inl (nA b))), ((q 1), .inl (cI, 80, .inl (nA ac))), ((q 2), .inl (cZ, 36, .inl (bA z)))])) (va_runS (As := [.int a, .int (nI 1), .int (nI 6)]) (rest := []) ⟨hx, hb, hml, hown, hts⟩ (c_R_lies l D cI cJ cZ a (nI 1) (nI 6) (a.toInt) ((1 : Nat) : Int) ((6 : Nat) : Int) rfl (nI_toInt (by omega)) (nI_toInt (by omega)) s.heap.size) (va_cwS 3 hts gX6_board_X6_lies rfl rfl rfl (by decide +kernel) ⟨Nat.le_of_ble_eq_true rfl, Nat.le_of_ble_eq_true rfl⟩) (kPS (wc := []) hK2 hP hD [] rfl (by decide)) rfl rfl hl.1 rfl (lv_room (Nat.le_of_ble_eq_true rfl)) dX6_board_4 ⟨Nat.le_of_ble_eq_true rfl, Nat.le_of_ble_eq_true rfl⟩) hP hD hS hA [] [0, 1, 2, 3] [0, 1, 2, 3] rfl rfl (by decide) (by decide) (fun _ => rfl) (by decide) (fun r_1 u_1 H locs hw_1 hP hD hS => ?_)
  have hP : va_P D vwCl [(h0, wMo q R C tn dn ag md em), ((q 0), .inl (cI, 36, .inl (nA b))), ((q 1), .inl (cI, 80, .inl (nA ac))), ((q 2), .inl (cZ, 36, .inl (bA z)))] H := hP
  have hD : va_D A [(h0, wMo q R C tn dn ag md em), ((q 0), .inl (cI, 36, .inl (nA b))), ((q 1), .inl (cI, 80, .inl (nA ac))), ((q 2), .inl (cZ, 36, .inl (bA z)))] := hD
  rcases hw_1 with ⟨rfl, hw_1⟩ | ⟨rfl, hw_1⟩
  · skip
    refine lv_if_eq (tgt := 20) hx hb dX6_board_7 (by decide) (fun c_7_2 => absurd c_7_2 (by decide)) (fun c_7_2 => ?_)
    refine lv_iload_n hx hb dX6_board_10 rfl (lv_at hl 2 rfl) ?_
    refine lv_iconst (v := (nI 1)) hx hb dX6_board_11 (by decide) ?_
    refine lv_bipush (v := (nI 6)) hx hb dX6_board_12 (by decide) ?_
    refine k_calli (wr := [(h0, wMo q R C tn dn ag md em), ((q 0), .inl (cI, 36, .inl (nA b))), ((q 1), .inl (cI, 80, .inl (nA ac))), ((q 2), .inl (cZ, 36, .inl (bA z)))]) (w2 := (fun _ : Unit => [(h0, wMo q R C tn dn ag md em), ((q 0), .inl (cI, 36, .inl (nA b))), ((q 1), .inl (cI, 80, .inl (nA ac))), ((q 2), .inl (cZ, 36, .inl (bA z)))])) (va_runS (As := [.int c0, .int (nI 1), .int (nI 6)]) (rest := []) ⟨hx, hb, hml, hown, hts⟩ (c_R_lies l D cI cJ cZ c0 (nI 1) (nI 6) (c0.toInt) ((1 : Nat) : Int) ((6 : Nat) : Int) rfl (nI_toInt (by omega)) (nI_toInt (by omega)) H.size) (va_cwS 3 hts gX6_board_X6_lies rfl rfl rfl (by decide +kernel) ⟨Nat.le_of_ble_eq_true rfl, Nat.le_of_ble_eq_true rfl⟩) (kPS (wc := []) hK2 hP hD [] rfl (by decide)) rfl rfl hl.1 rfl (lv_room (Nat.le_of_ble_eq_true rfl)) dX6_board_14 ⟨Nat.le_of_ble_eq_true rfl, Nat.le_of_ble_eq_true rfl⟩) hP hD hS hA [] [0, 1, 2, 3] [0, 1, 2, 3] rfl rfl (by decide) (by decide) (fun _ => rfl) (by decide) (fun r_3 u_3 H locs hw_3 hP hD hS => ?_)
    have hP : va_P D vwCl [(h0, wMo q R C tn dn ag md em), ((q 0), .inl (cI, 36, .inl (nA b))), ((q 1), .inl (cI, 80, .inl (nA ac))), ((q 2), .inl (cZ, 36, .inl (bA z)))] H := hP
    have hD : va_D A [(h0, wMo q R C tn dn ag md em), ((q 0), .inl (cI, 36, .inl (nA b))), ((q 1), .inl (cI, 80, .inl (nA ac))), ((q 2), .inl (cZ, 36, .inl (bA z)))] := hD
    rcases hw_3 with ⟨rfl, hw_3⟩ | ⟨rfl, hw_3⟩
    · skip
      refine lv_if_ne (tgt := 22) hx hb dX6_board_17 (by decide) (fun c_17_4 => ?_) (fun c_17_4 => absurd c_17_4 (by decide))
      obtain ⟨R2, hr1, hr2, rfl⟩ := rng_nat hw_1.1 hw_1.2
      obtain ⟨C2, hc1, hc2, rfl⟩ := rng_nat hw_3.1 hw_3.2
      refine lv_aload_n hx hb dX6_board_22 rfl (lv_at hl 0 rfl) ?_
      refine lv_iload_n hx hb dX6_board_23 rfl (lv_at hl 1 rfl) ?_
      refine va_put (D := D) (ci := 6) (v := .int (nI R2)) (ty := .int) (C := RX6) (T := TX6) (N := 17) hx hb hts kiX6_board_X6 tyX6 tyX6_ok nmX6 hown hK hP hD hS 0 rfl rfl 0 (by decide) (hts (.fieldLink RX6 7 "TwoBanksModel" "rows" "I") (List.mem_of_getElem? (i := 1) rfl)) (fun _ h9 => h9) rfl  (by decide +kernel) rfl rfl (Nat.le_of_ble_eq_true rfl) dX6_board_24 (fun H locs hP hD hS => ?_)
      have hP : va_P D vwCl [(h0, .inr (6, [.int (nI R2), .int (nI C), .int (nI tn), .ref (q 0), .int (nI dn), .int (nI ag), .ref (q 1), .int (nI md), .ref (q 2), .ref (q 3), .ref (q 4), .int (nI em), .ref (q 5), .ref (q 6), .ref (q 7), .ref (q 8), .ref (q 9)])), ((q 0), .inl (cI, 36, .inl (nA b))), ((q 1), .inl (cI, 80, .inl (nA ac))), ((q 2), .inl (cZ, 36, .inl (bA z)))] H := hP
      have hD : va_D A [(h0, .inr (6, [.int (nI R2), .int (nI C), .int (nI tn), .ref (q 0), .int (nI dn), .int (nI ag), .ref (q 1), .int (nI md), .ref (q 2), .ref (q 3), .ref (q 4), .int (nI em), .ref (q 5), .ref (q 6), .ref (q 7), .ref (q 8), .ref (q 9)])), ((q 0), .inl (cI, 36, .inl (nA b))), ((q 1), .inl (cI, 80, .inl (nA ac))), ((q 2), .inl (cZ, 36, .inl (bA z)))] := hD
      refine lv_aload_n hx hb dX6_board_27 rfl (lv_at hl 0 rfl) ?_
      refine lv_iload_n hx hb dX6_board_28 rfl (lv_at hl 2 rfl) ?_
      refine va_put (D := D) (ci := 6) (v := .int (nI C2)) (ty := .int) (C := RX6) (T := TX6) (N := 17) hx hb hts kiX6_board_X6 tyX6 tyX6_ok nmX6 hown hK hP hD hS 0 rfl rfl 1 (by decide) (hts (.fieldLink RX6 13 "TwoBanksModel" "columns" "I") (List.mem_of_getElem? (i := 2) rfl)) (fun _ h9 => h9) rfl  (by decide +kernel) rfl rfl (Nat.le_of_ble_eq_true rfl) dX6_board_29 (fun H locs hP hD hS => ?_)
      have hP : va_P D vwCl [(h0, .inr (6, [.int (nI R2), .int (nI C2), .int (nI tn), .ref (q 0), .int (nI dn), .int (nI ag), .ref (q 1), .int (nI md), .ref (q 2), .ref (q 3), .ref (q 4), .int (nI em), .ref (q 5), .ref (q 6), .ref (q 7), .ref (q 8), .ref (q 9)])), ((q 0), .inl (cI, 36, .inl (nA b))), ((q 1), .inl (cI, 80, .inl (nA ac))), ((q 2), .inl (cZ, 36, .inl (bA z)))] H := hP
      have hD : va_D A [(h0, .inr (6, [.int (nI R2), .int (nI C2), .int (nI tn), .ref (q 0), .int (nI dn), .int (nI ag), .ref (q 1), .int (nI md), .ref (q 2), .ref (q 3), .ref (q 4), .int (nI em), .ref (q 5), .ref (q 6), .ref (q 7), .ref (q 8), .ref (q 9)])), ((q 0), .inl (cI, 36, .inl (nA b))), ((q 1), .inl (cI, 80, .inl (nA ac))), ((q 2), .inl (cZ, 36, .inl (bA z)))] := hD
      refine lv_iconst (v := (nI 0)) hx hb dX6_board_32 (by decide) ?_
      refine lv_istore_n (lv' := [(3, .int (nI 0)), (0, .ref h0), (1, .int (nI R2)), (2, .int (nI C2))]) hx hb dX6_board_33 rfl hl (by decide) rfl (fun ls hl => ?_)
      refine kw_loop (σ := Nat × (Nat → Nat)) (fun zz H locs ls => match zz with | (f, bb) => va_P D vwCl [(h0, .inr (6, [.int (nI R2), .int (nI C2), .int (nI tn), .ref (q 0), .int (nI dn), .int (nI ag), .ref (q 1), .int (nI md), .ref (q 2), .ref (q 3), .ref (q 4), .int (nI em), .ref (q 5), .ref (q 6), .ref (q 7), .ref (q 8), .ref (q 9)])), ((q 0), .inl (cI, 36, .inl (nA bb))), ((q 1), .inl (cI, 80, .inl (nA ac))), ((q 2), .inl (cZ, 36, .inl (bA z)))] H ∧ va_D A [(h0, .inr (6, [.int (nI R2), .int (nI C2), .int (nI tn), .ref (q 0), .int (nI dn), .int (nI ag), .ref (q 1), .int (nI md), .ref (q 2), .ref (q 3), .ref (q 4), .int (nI em), .ref (q 5), .ref (q 6), .ref (q 7), .ref (q 8), .ref (q 9)])), ((q 0), .inl (cI, 36, .inl (nA bb))), ((q 1), .inl (cI, 80, .inl (nA ac))), ((q 2), .inl (cZ, 36, .inl (bA z)))] ∧ va_S A s.heap H locs ∧ lv_has ls 4 [(0, .ref h0), (3, .int (nI f))] ∧ (f ≤ 36) ∧ (∀ i, i < f → bb i = 0)) (fun zz => match zz with | (f, bb) => 36 - f) (0, b) ⟨hP, hD, hS, lv_sub hl [1, 0] rfl, Nat.zero_le _, fun i hi => absurd hi (Nat.not_lt_zero i)⟩ ?_
      clear hP hD hS hl
      rintro ⟨f, bb⟩ H locs ls ⟨hP, hD, hS, hl, hf9, hb9⟩ ih_34
      have hP : va_P D vwCl [(h0, .inr (6, [.int (nI R2), .int (nI C2), .int (nI tn), .ref (q 0), .int (nI dn), .int (nI ag), .ref (q 1), .int (nI md), .ref (q 2), .ref (q 3), .ref (q 4), .int (nI em), .ref (q 5), .ref (q 6), .ref (q 7), .ref (q 8), .ref (q 9)])), ((q 0), .inl (cI, 36, .inl (nA bb))), ((q 1), .inl (cI, 80, .inl (nA ac))), ((q 2), .inl (cZ, 36, .inl (bA z)))] H := hP
      have hD : va_D A [(h0, .inr (6, [.int (nI R2), .int (nI C2), .int (nI tn), .ref (q 0), .int (nI dn), .int (nI ag), .ref (q 1), .int (nI md), .ref (q 2), .ref (q 3), .ref (q 4), .int (nI em), .ref (q 5), .ref (q 6), .ref (q 7), .ref (q 8), .ref (q 9)])), ((q 0), .inl (cI, 36, .inl (nA bb))), ((q 1), .inl (cI, 80, .inl (nA ac))), ((q 2), .inl (cZ, 36, .inl (bA z)))] := hD
      have hl : lv_has ls 4 [(0, .ref h0), (3, .int (nI f))] := hl
      have hf9 : f ≤ 36 := hf9
      have hb9 : ∀ i, i < f → bb i = 0 := hb9
      refine lv_iload_n hx hb dX6_board_34 rfl (lv_at hl 1 rfl) ?_
      refine lv_bipush (v := (nI 36)) hx hb dX6_board_35 (by decide) ?_
      refine kw_icmp_ge (tgt := 53) hx hb dX6_board_37 (by decide) (by omega) (by omega) (fun c_37_5 => ?_) (fun c_37_5 => ?_)
      · refine lv_aload_n hx hb dX6_board_53 rfl (lv_at hl 0 rfl) ?_
        refine lv_iconst (v := (nI 1)) hx hb dX6_board_54 (by decide) ?_
        refine va_put (D := D) (ci := 6) (v := .int (nI 1)) (ty := .int) (C := RX6) (T := TX6) (N := 17) hx hb hts kiX6_board_X6 tyX6 tyX6_ok nmX6 hown hK hP hD hS 0 rfl rfl 2 (by decide) (hts (.fieldLink RX6 16 "TwoBanksModel" "turn" "I") (List.mem_of_getElem? (i := 4) rfl)) (fun _ h9 => h9) rfl  (by decide +kernel) rfl rfl (Nat.le_of_ble_eq_true rfl) dX6_board_55 (fun H locs hP hD hS => ?_)
        have hP : va_P D vwCl [(h0, .inr (6, [.int (nI R2), .int (nI C2), .int (nI 1), .ref (q 0), .int (nI dn), .int (nI ag), .ref (q 1), .int (nI md), .ref (q 2), .ref (q 3), .ref (q 4), .int (nI em), .ref (q 5), .ref (q 6), .ref (q 7), .ref (q 8), .ref (q 9)])), ((q 0), .inl (cI, 36, .inl (nA bb))), ((q 1), .inl (cI, 80, .inl (nA ac))), ((q 2), .inl (cZ, 36, .inl (bA z)))] H := hP
        have hD : va_D A [(h0, .inr (6, [.int (nI R2), .int (nI C2), .int (nI 1), .ref (q 0), .int (nI dn), .int (nI ag), .ref (q 1), .int (nI md), .ref (q 2), .ref (q 3), .ref (q 4), .int (nI em), .ref (q 5), .ref (q 6), .ref (q 7), .ref (q 8), .ref (q 9)])), ((q 0), .inl (cI, 36, .inl (nA bb))), ((q 1), .inl (cI, 80, .inl (nA ac))), ((q 2), .inl (cZ, 36, .inl (bA z)))] := hD
        refine lv_aload_n hx hb dX6_board_58 rfl (lv_at hl 0 rfl) ?_
        refine lv_iconst (v := (nI 1)) hx hb dX6_board_59 (by decide) ?_
        refine va_put (D := D) (ci := 6) (v := .int (nI 1)) (ty := .boolean) (C := RX6) (T := TX6) (N := 17) hx hb hts kiX6_board_X6 tyX6 tyX6_ok nmX6 hown hK hP hD hS 0 rfl rfl 7 (by decide) (hts (.fieldLink RX6 26 "TwoBanksModel" "isMade" "Z") (List.mem_of_getElem? (i := 5) rfl)) (fun _ h9 => h9) rfl  (by decide +kernel) (by decide +kernel) (by decide +kernel) (Nat.le_of_ble_eq_true rfl) dX6_board_60 (fun H locs hP hD hS => ?_)
        have hP : va_P D vwCl [(h0, .inr (6, [.int (nI R2), .int (nI C2), .int (nI 1), .ref (q 0), .int (nI dn), .int (nI ag), .ref (q 1), .int (nI 1), .ref (q 2), .ref (q 3), .ref (q 4), .int (nI em), .ref (q 5), .ref (q 6), .ref (q 7), .ref (q 8), .ref (q 9)])), ((q 0), .inl (cI, 36, .inl (nA bb))), ((q 1), .inl (cI, 80, .inl (nA ac))), ((q 2), .inl (cZ, 36, .inl (bA z)))] H := hP
        have hD : va_D A [(h0, .inr (6, [.int (nI R2), .int (nI C2), .int (nI 1), .ref (q 0), .int (nI dn), .int (nI ag), .ref (q 1), .int (nI 1), .ref (q 2), .ref (q 3), .ref (q 4), .int (nI em), .ref (q 5), .ref (q 6), .ref (q 7), .ref (q 8), .ref (q 9)])), ((q 0), .inl (cI, 36, .inl (nA bb))), ((q 1), .inl (cI, 80, .inl (nA ac))), ((q 2), .inl (cZ, 36, .inl (bA z)))] := hD
        refine lv_aload_n hx hb dX6_board_63 rfl (lv_at hl 0 rfl) ?_
        refine k_callv (wr := [((q 0), .inl (cI, 36, .inl (nA bb))), ((q 1), .inl (cI, 80, .inl (nA ac))), ((q 2), .inl (cZ, 36, .inl (bA z)))]) (w2 := (fun _ : Unit => [(h0, wMo q R2 C2 1 0 0 1 em), ((q 0), .inl (cI, 36, .inl (nA bb))), ((q 1), .inl (cI, 80, .inl (nA ac))), ((q 2), .inl (cZ, 36, .inl (bA z)))])) (va_runV (As := []) (rest := []) ⟨hx, hb, hml, hown, hts⟩ (c_R_forgets l D cI cJ cZ h0 q R2 C2 1 dn ag 1 em  H.size) (cwV 0 hts gX6_board_X6_forgets rfl rfl rfl (by decide +kernel) ⟨Nat.le_of_ble_eq_true rfl, Nat.le_of_ble_eq_true rfl⟩) (kPV (ci := 6) (q0 := 0) (wc := [(h0, .inr (6, [.int (nI R2), .int (nI C2), .int (nI 1), .ref (q 0), .int (nI dn), .int (nI ag), .ref (q 1), .int (nI 1), .ref (q 2), .ref (q 3), .ref (q 4), .int (nI em), .ref (q 5), .ref (q 6), .ref (q 7), .ref (q 8), .ref (q 9)]))]) hK2 hP hD [0] rfl (by decide) rfl rfl) rfl rfl hl.1 rfl (lv_room (Nat.le_of_ble_eq_true rfl)) dX6_board_64 ⟨Nat.le_of_ble_eq_true rfl, Nat.le_of_ble_eq_true rfl⟩) hP hD hS hA [0] [1, 2, 3] [3, 0, 1, 2] rfl rfl (by decide) (by decide) (fun _ => rfl) (by decide) (fun u_6 H locs hw_6 hP hD hS => ?_)
        have hP : va_P D vwCl [(h0, wMo q R2 C2 1 0 0 1 em), ((q 0), .inl (cI, 36, .inl (nA bb))), ((q 1), .inl (cI, 80, .inl (nA ac))), ((q 2), .inl (cZ, 36, .inl (bA z)))] H := hP
        have hD : va_D A [(h0, wMo q R2 C2 1 0 0 1 em), ((q 0), .inl (cI, 36, .inl (nA bb))), ((q 1), .inl (cI, 80, .inl (nA ac))), ((q 2), .inl (cZ, 36, .inl (bA z)))] := hD
        refine lv_iconst (v := (nI 1)) hx hb dX6_board_67 (by decide) ?_
        exact W.zret (v := (nI 1)) hx hb hr (by first | decide +kernel | assumption | exact kz_narr (by first | assumption | omega)) (fun t ht hW => ⟨⟨(nI 1), (R2, C2, 1, 0, 0, 1, bb, ac, z), rfl, Or.inr ⟨R2, C2, bb, ⟨hr1, hr2⟩, ⟨hc1, hc2⟩, rfl, rfl, fun i hi => hb9 i (by omega), rfl, rfl⟩, by rw [ht]; exact hP, hD⟩, hS.F ht⟩) hS.2.2 dX6_board_68
      · refine lv_aload_n hx hb dX6_board_40 rfl (lv_at hl 0 rfl) ?_
        refine va_get (D := D) (ci := 6) (v := .ref (q 0)) (C := RX6) (T := TX6) (N := 17) hx hb hts kiX6_board_X6 hown hK hP 0 rfl rfl 3 (by decide) (hts (.fieldLink RX6 19 "TwoBanksModel" "at" "[I") (List.mem_of_getElem? (i := 3) rfl)) (fun _ h9 => h9) rfl dX6_board_41 ?_
        refine lv_iload_n hx hb dX6_board_44 rfl (lv_at hl 1 rfl) ?_
        refine lv_iconst (v := (nI 0)) hx hb dX6_board_45 (by decide) ?_
        refine va_iast hx hb hK hP hD hS 1 0 rfl rfl (vp_in_nI (by omega) (by omega)) dX6_board_46 (fun H locs hP hD hS => ?_)
        rw [nI_clamp (by omega)] at hP hD
        rw [nA_upd] at hP hD
        have hP : va_P D vwCl [(h0, .inr (6, [.int (nI R2), .int (nI C2), .int (nI tn), .ref (q 0), .int (nI dn), .int (nI ag), .ref (q 1), .int (nI md), .ref (q 2), .ref (q 3), .ref (q 4), .int (nI em), .ref (q 5), .ref (q 6), .ref (q 7), .ref (q 8), .ref (q 9)])), ((q 0), .inl (cI, 36, .inl (nA (uN bb f 0)))), ((q 1), .inl (cI, 80, .inl (nA ac))), ((q 2), .inl (cZ, 36, .inl (bA z)))] H := hP
        have hD : va_D A [(h0, .inr (6, [.int (nI R2), .int (nI C2), .int (nI tn), .ref (q 0), .int (nI dn), .int (nI ag), .ref (q 1), .int (nI md), .ref (q 2), .ref (q 3), .ref (q 4), .int (nI em), .ref (q 5), .ref (q 6), .ref (q 7), .ref (q 8), .ref (q 9)])), ((q 0), .inl (cI, 36, .inl (nA (uN bb f 0)))), ((q 1), .inl (cI, 80, .inl (nA ac))), ((q 2), .inl (cZ, 36, .inl (bA z)))] := hD
        refine lv_iinc (v := (nI (f + 1))) (lv' := [(3, .int (nI (f + 1))), (0, .ref h0)]) hx hb dX6_board_47 hl (k := 1) rfl (k_inc _ 1) (by decide) rfl (fun ls hl => ?_)
        refine lv_goto (tgt := 34) hx hb dX6_board_50 (by decide) ?_
        exact ih_34 ((f + 1), (uN bb f 0)) _ _ _ (by show 36 - (f + 1) < 36 - f; omega) ⟨hP, hD, hS, lv_sub hl [1, 0] rfl, by omega, uN_put hb9⟩
    · skip
      refine lv_if_ne (tgt := 22) hx hb dX6_board_17 (by decide) (fun c_17_7 => absurd c_17_7 (by decide)) (fun c_17_7 => ?_)
      refine lv_iconst (v := (nI 0)) hx hb dX6_board_20 (by decide) ?_
      exact W.zret (v := (nI 0)) hx hb hr (by first | decide +kernel | assumption | exact kz_narr (by first | assumption | omega)) (fun t ht hW => ⟨⟨(nI 0), (R, C, tn, dn, ag, md, b, ac, z), rfl, Or.inl ⟨rfl, fun h9 => hw_3 h9.2, rfl⟩, by rw [ht]; exact hP, hD⟩, hS.F ht⟩) hS.2.2 dX6_board_21
  · skip
    refine lv_if_eq (tgt := 20) hx hb dX6_board_7 (by decide) (fun c_7_8 => ?_) (fun c_7_8 => absurd c_7_8 (by decide))
    refine lv_iconst (v := (nI 0)) hx hb dX6_board_20 (by decide) ?_
    exact W.zret (v := (nI 0)) hx hb hr (by first | decide +kernel | assumption | exact kz_narr (by first | assumption | omega)) (fun t ht hW => ⟨⟨(nI 0), (R, C, tn, dn, ag, md, b, ac, z), rfl, Or.inl ⟨rfl, fun h9 => hw_1 h9.1, rfl⟩, by rw [ht]; exact hP, hD⟩, hS.F ht⟩) hS.2.2 dX6_board_21

theorem kiX6_set_X6 : ∀ w ∈ u_ws RX6 TX6 17, w ∈ wsX6_set := fun w h => List.mem_cons_of_mem _ (List.mem_append_right _ h)
set_option maxHeartbeats 4000000 in
set_option maxRecDepth 100000 in
theorem c_R_set (l : Launch) (D : va_G) (cI cJ cZ : ClassId) (h0 : Nat) (q : Nat → Nat) (R C tn dn ag md em : Nat) (b ac : Nat → Nat) (z : Nat → Bool) (f cl wh : Int32) (hR1 : 1 ≤ R) (hR2 : R ≤ 6) (hC1 : 1 ≤ C) (hC2 : C ≤ 6) (hRC : R * C ≤ 36) (sz : Nat) : kMI l yX6_set wsX6_set 2 43 D cI cJ cZ [.ref h0, .int f, .int cl, .int wh] [(h0, wMo q R C tn dn ag md em), ((q 0), .inl (cI, 36, .inl (nA b))), ((q 1), .inl (cI, 80, .inl (nA ac))), ((q 2), .inl (cZ, 36, .inl (bA z)))] sz (fun r (u : MS) => (r = nI 0 ∧ ¬ (fIn (R * C) f ∧ (0 ≤ cl.toInt ∧ cl.toInt ≤ 2) ∧ (1 ≤ wh.toInt ∧ wh.toInt ≤ 2)) ∧ u = (R, C, tn, dn, ag, md, b, ac, z)) ∨ (∃ k cv wn, k < R * C ∧ cv ≤ 2 ∧ (1 ≤ wn ∧ wn ≤ 2) ∧ f = nI k ∧ cl = nI cv ∧ wh = nI wn ∧ r = nI 1 ∧ u = (R, C, wn, 0, 0, 0, uN b k cv, ac, z))) (fun u : MS => match u with | (Rm, Cm, tnm, dnm, agm, mdm, bm, acm, zm) => [(h0, wMo q Rm Cm tnm dnm agm mdm em), ((q 0), .inl (cI, 36, .inl (nA bm))), ((q 1), .inl (cI, 80, .inl (nA acm))), ((q 2), .inl (cZ, 36, .inl (bA zm)))]) := by
  refine Met.ofW (cc := cX6_set) (maxL := 4) (ret := (some .boolean)) (by decide) rfl ?_
  intro p e s m args below meth c s₁ B hml hv
  obtain ⟨rfl, hsz, hP, ⟨hK, hN⟩, hD0⟩ := hv
  have hx := B.exec
  have hb := B.bytes
  have hr := B.returns
  have hts := atoms_spec (ws := wsX6_set) B.pre
  have hown : s.vm.findClass RX6 = some m.cls := findClass_of_methodNamed B.named
  have hlocks := B.notSynchronized
  subst hsz
  have hD := hD0.self (sz := s.heap.size)
  generalize hAe : va_A [(h0, wMo q R C tn dn ag md em), ((q 0), .inl (cI, 36, .inl (nA b))), ((q 1), .inl (cI, 80, .inl (nA ac))), ((q 2), .inl (cZ, 36, .inl (bA z)))] s.heap.size = A at hD ⊢
  have hA : ∀ q : Nat, s.heap.size ≤ q → A q := fun q h => by rw [← hAe]; exact Or.inr h
  have hS : va_S A s.heap s.heap [] := va_S.rf
  have hl := lv_entry ([.ref h0, .int f, .int cl, .int wh]) (n := 4) (Nat.le_of_ble_eq_true rfl)
  rw [lg_entry_eq]
  generalize (lg_sl ([.ref h0, .int f, .int cl, .int wh]) ++ List.replicate (4 - (lg_sl ([.ref h0, .int f, .int cl, .int wh])).length) Slot.unset).toArray = ls at hl ⊢
  have hl : lv_has ls 4 [(0, .ref h0), (1, .int f), (2, .int cl), (3, .int wh)] := hl
  have hK2 : kK D cI cJ cZ s := ⟨hK, hN⟩
  clear hD0
  refine lv_aload_n hx hb dX6_set_0 rfl (lv_at hl 0 rfl) ?_
  refine lv_iload_n hx hb dX6_set_1 rfl (lv_at hl 1 rfl) ?_
  refine k_calli (wr := [((q 0), .inl (cI, 36, .inl (nA b))), ((q 1), .inl (cI, 80, .inl (nA ac))), ((q 2), .inl (cZ, 36, .inl (bA z)))]) (w2 := (fun _ : Unit => [(h0, wMo q R C tn dn ag md em), ((q 0), .inl (cI, 36, .inl (nA b))), ((q 1), .inl (cI, 80, .inl (nA ac))), ((q 2), .inl (cZ, 36, .inl (bA z)))])) (va_runV (As := [.int f]) (rest := []) ⟨hx, hb, hml, hown, hts⟩ (c_R_isField l D cI cJ cZ h0 q R C tn dn ag md em f hR1 hR2 hC1 hC2 hRC  s.heap.size) (cwV 1 hts gX6_set_X6_isField rfl rfl rfl (by decide +kernel) ⟨Nat.le_of_ble_eq_true rfl, Nat.le_of_ble_eq_true rfl⟩) (kPV (ci := 6) (q0 := 0) (wc := [(h0, wMo q R C tn dn ag md em)]) hK2 hP hD [0] rfl (by decide) rfl rfl) rfl rfl hl.1 rfl (lv_room (Nat.le_of_ble_eq_true rfl)) dX6_set_2 ⟨Nat.le_of_ble_eq_true rfl, Nat.le_of_ble_eq_true rfl⟩) hP hD hS hA [0] [1, 2, 3] [3, 0, 1, 2] rfl rfl (by decide) (by decide) (fun _ => rfl) (by decide) (fun r_1 u_1 H locs hw_1 hP hD hS => ?_)
  have hP : va_P D vwCl [(h0, wMo q R C tn dn ag md em), ((q 0), .inl (cI, 36, .inl (nA b))), ((q 1), .inl (cI, 80, .inl (nA ac))), ((q 2), .inl (cZ, 36, .inl (bA z)))] H := hP
  have hD : va_D A [(h0, wMo q R C tn dn ag md em), ((q 0), .inl (cI, 36, .inl (nA b))), ((q 1), .inl (cI, 80, .inl (nA ac))), ((q 2), .inl (cZ, 36, .inl (bA z)))] := hD
  rcases hw_1 with ⟨rfl, hw_1⟩ | ⟨rfl, hw_1⟩
  · obtain ⟨k, hk, rfl⟩ := hw_1
    refine lv_if_eq (tgt := 26) hx hb dX6_set_5 (by decide) (fun c_5_2 => absurd c_5_2 (by decide)) (fun c_5_2 => ?_)
    refine lv_iload_n hx hb dX6_set_8 rfl (lv_at hl 2 rfl) ?_
    refine lv_iconst (v := (nI 0)) hx hb dX6_set_9 (by decide) ?_
    refine lv_iconst (v := (nI 2)) hx hb dX6_set_10 (by decide) ?_
    refine k_calli (wr := [(h0, wMo q R C tn dn ag md em), ((q 0), .inl (cI, 36, .inl (nA b))), ((q 1), .inl (cI, 80, .inl (nA ac))), ((q 2), .inl (cZ, 36, .inl (bA z)))]) (w2 := (fun _ : Unit => [(h0, wMo q R C tn dn ag md em), ((q 0), .inl (cI, 36, .inl (nA b))), ((q 1), .inl (cI, 80, .inl (nA ac))), ((q 2), .inl (cZ, 36, .inl (bA z)))])) (va_runS (As := [.int cl, .int (nI 0), .int (nI 2)]) (rest := []) ⟨hx, hb, hml, hown, hts⟩ (c_R_lies l D cI cJ cZ cl (nI 0) (nI 2) (cl.toInt) ((0 : Nat) : Int) ((2 : Nat) : Int) rfl (nI_toInt (by omega)) (nI_toInt (by omega)) H.size) (va_cwS 3 hts gX6_set_X6_lies rfl rfl rfl (by decide +kernel) ⟨Nat.le_of_ble_eq_true rfl, Nat.le_of_ble_eq_true rfl⟩) (kPS (wc := []) hK2 hP hD [] rfl (by decide)) rfl rfl hl.1 rfl (lv_room (Nat.le_of_ble_eq_true rfl)) dX6_set_11 ⟨Nat.le_of_ble_eq_true rfl, Nat.le_of_ble_eq_true rfl⟩) hP hD hS hA [] [0, 1, 2, 3] [0, 1, 2, 3] rfl rfl (by decide) (by decide) (fun _ => rfl) (by decide) (fun r_3 u_3 H locs hw_3 hP hD hS => ?_)
    have hP : va_P D vwCl [(h0, wMo q R C tn dn ag md em), ((q 0), .inl (cI, 36, .inl (nA b))), ((q 1), .inl (cI, 80, .inl (nA ac))), ((q 2), .inl (cZ, 36, .inl (bA z)))] H := hP
    have hD : va_D A [(h0, wMo q R C tn dn ag md em), ((q 0), .inl (cI, 36, .inl (nA b))), ((q 1), .inl (cI, 80, .inl (nA ac))), ((q 2), .inl (cZ, 36, .inl (bA z)))] := hD
    rcases hw_3 with ⟨rfl, hw_3⟩ | ⟨rfl, hw_3⟩
    · skip
      refine lv_if_eq (tgt := 26) hx hb dX6_set_14 (by decide) (fun c_14_4 => absurd c_14_4 (by decide)) (fun c_14_4 => ?_)
      refine lv_iload_n hx hb dX6_set_17 rfl (lv_at hl 3 rfl) ?_
      refine lv_iconst (v := (nI 1)) hx hb dX6_set_18 (by decide) ?_
      refine lv_iconst (v := (nI 2)) hx hb dX6_set_19 (by decide) ?_
      refine k_calli (wr := [(h0, wMo q R C tn dn ag md em), ((q 0), .inl (cI, 36, .inl (nA b))), ((q 1), .inl (cI, 80, .inl (nA ac))), ((q 2), .inl (cZ, 36, .inl (bA z)))]) (w2 := (fun _ : Unit => [(h0, wMo q R C tn dn ag md em), ((q 0), .inl (cI, 36, .inl (nA b))), ((q 1), .inl (cI, 80, .inl (nA ac))), ((q 2), .inl (cZ, 36, .inl (bA z)))])) (va_runS (As := [.int wh, .int (nI 1), .int (nI 2)]) (rest := []) ⟨hx, hb, hml, hown, hts⟩ (c_R_lies l D cI cJ cZ wh (nI 1) (nI 2) (wh.toInt) ((1 : Nat) : Int) ((2 : Nat) : Int) rfl (nI_toInt (by omega)) (nI_toInt (by omega)) H.size) (va_cwS 3 hts gX6_set_X6_lies rfl rfl rfl (by decide +kernel) ⟨Nat.le_of_ble_eq_true rfl, Nat.le_of_ble_eq_true rfl⟩) (kPS (wc := []) hK2 hP hD [] rfl (by decide)) rfl rfl hl.1 rfl (lv_room (Nat.le_of_ble_eq_true rfl)) dX6_set_20 ⟨Nat.le_of_ble_eq_true rfl, Nat.le_of_ble_eq_true rfl⟩) hP hD hS hA [] [0, 1, 2, 3] [0, 1, 2, 3] rfl rfl (by decide) (by decide) (fun _ => rfl) (by decide) (fun r_5 u_5 H locs hw_5 hP hD hS => ?_)
      have hP : va_P D vwCl [(h0, wMo q R C tn dn ag md em), ((q 0), .inl (cI, 36, .inl (nA b))), ((q 1), .inl (cI, 80, .inl (nA ac))), ((q 2), .inl (cZ, 36, .inl (bA z)))] H := hP
      have hD : va_D A [(h0, wMo q R C tn dn ag md em), ((q 0), .inl (cI, 36, .inl (nA b))), ((q 1), .inl (cI, 80, .inl (nA ac))), ((q 2), .inl (cZ, 36, .inl (bA z)))] := hD
      rcases hw_5 with ⟨rfl, hw_5⟩ | ⟨rfl, hw_5⟩
      · skip
        refine lv_if_ne (tgt := 28) hx hb dX6_set_23 (by decide) (fun c_23_6 => ?_) (fun c_23_6 => absurd c_23_6 (by decide))
        obtain ⟨cv, -, hcv, rfl⟩ := rng_nat hw_3.1 hw_3.2
        obtain ⟨wn, hw1, hw2, rfl⟩ := rng_nat hw_5.1 hw_5.2
        refine lv_aload_n hx hb dX6_set_28 rfl (lv_at hl 0 rfl) ?_
        refine va_get (D := D) (ci := 6) (v := .ref (q 0)) (C := RX6) (T := TX6) (N := 17) hx hb hts kiX6_set_X6 hown hK hP 0 rfl rfl 3 (by decide) (hts (.fieldLink RX6 19 "TwoBanksModel" "at" "[I") (List.mem_of_getElem? (i := 1) rfl)) (fun _ h9 => h9) rfl dX6_set_29 ?_
        refine lv_iload_n hx hb dX6_set_32 rfl (lv_at hl 1 rfl) ?_
        refine lv_iload_n hx hb dX6_set_33 rfl (lv_at hl 2 rfl) ?_
        refine va_iast hx hb hK hP hD hS 1 0 rfl rfl (vp_in_nI (by omega) (by omega)) dX6_set_34 (fun H locs hP hD hS => ?_)
        rw [nI_clamp (by omega)] at hP hD
        rw [nA_upd] at hP hD
        have hP : va_P D vwCl [(h0, wMo q R C tn dn ag md em), ((q 0), .inl (cI, 36, .inl (nA (uN b k cv)))), ((q 1), .inl (cI, 80, .inl (nA ac))), ((q 2), .inl (cZ, 36, .inl (bA z)))] H := hP
        have hD : va_D A [(h0, wMo q R C tn dn ag md em), ((q 0), .inl (cI, 36, .inl (nA (uN b k cv)))), ((q 1), .inl (cI, 80, .inl (nA ac))), ((q 2), .inl (cZ, 36, .inl (bA z)))] := hD
        refine lv_aload_n hx hb dX6_set_35 rfl (lv_at hl 0 rfl) ?_
        refine lv_iload_n hx hb dX6_set_36 rfl (lv_at hl 3 rfl) ?_
        refine va_put (D := D) (ci := 6) (v := .int (nI wn)) (ty := .int) (C := RX6) (T := TX6) (N := 17) hx hb hts kiX6_set_X6 tyX6 tyX6_ok nmX6 hown hK hP hD hS 0 rfl rfl 2 (by decide) (hts (.fieldLink RX6 16 "TwoBanksModel" "turn" "I") (List.mem_of_getElem? (i := 2) rfl)) (fun _ h9 => h9) rfl  (by decide +kernel) rfl rfl (Nat.le_of_ble_eq_true rfl) dX6_set_37 (fun H locs hP hD hS => ?_)
        have hP : va_P D vwCl [(h0, .inr (6, [.int (nI R), .int (nI C), .int (nI wn), .ref (q 0), .int (nI dn), .int (nI ag), .ref (q 1), .int (nI md), .ref (q 2), .ref (q 3), .ref (q 4), .int (nI em), .ref (q 5), .ref (q 6), .ref (q 7), .ref (q 8), .ref (q 9)])), ((q 0), .inl (cI, 36, .inl (nA (uN b k cv)))), ((q 1), .inl (cI, 80, .inl (nA ac))), ((q 2), .inl (cZ, 36, .inl (bA z)))] H := hP
        have hD : va_D A [(h0, .inr (6, [.int (nI R), .int (nI C), .int (nI wn), .ref (q 0), .int (nI dn), .int (nI ag), .ref (q 1), .int (nI md), .ref (q 2), .ref (q 3), .ref (q 4), .int (nI em), .ref (q 5), .ref (q 6), .ref (q 7), .ref (q 8), .ref (q 9)])), ((q 0), .inl (cI, 36, .inl (nA (uN b k cv)))), ((q 1), .inl (cI, 80, .inl (nA ac))), ((q 2), .inl (cZ, 36, .inl (bA z)))] := hD
        refine lv_aload_n hx hb dX6_set_40 rfl (lv_at hl 0 rfl) ?_
        refine lv_iconst (v := (nI 0)) hx hb dX6_set_41 (by decide) ?_
        refine va_put (D := D) (ci := 6) (v := .int (nI 0)) (ty := .boolean) (C := RX6) (T := TX6) (N := 17) hx hb hts kiX6_set_X6 tyX6 tyX6_ok nmX6 hown hK hP hD hS 0 rfl rfl 7 (by decide) (hts (.fieldLink RX6 26 "TwoBanksModel" "isMade" "Z") (List.mem_of_getElem? (i := 3) rfl)) (fun _ h9 => h9) rfl  (by decide +kernel) (by decide +kernel) (by decide +kernel) (Nat.le_of_ble_eq_true rfl) dX6_set_42 (fun H locs hP hD hS => ?_)
        have hP : va_P D vwCl [(h0, .inr (6, [.int (nI R), .int (nI C), .int (nI wn), .ref (q 0), .int (nI dn), .int (nI ag), .ref (q 1), .int (nI 0), .ref (q 2), .ref (q 3), .ref (q 4), .int (nI em), .ref (q 5), .ref (q 6), .ref (q 7), .ref (q 8), .ref (q 9)])), ((q 0), .inl (cI, 36, .inl (nA (uN b k cv)))), ((q 1), .inl (cI, 80, .inl (nA ac))), ((q 2), .inl (cZ, 36, .inl (bA z)))] H := hP
        have hD : va_D A [(h0, .inr (6, [.int (nI R), .int (nI C), .int (nI wn), .ref (q 0), .int (nI dn), .int (nI ag), .ref (q 1), .int (nI 0), .ref (q 2), .ref (q 3), .ref (q 4), .int (nI em), .ref (q 5), .ref (q 6), .ref (q 7), .ref (q 8), .ref (q 9)])), ((q 0), .inl (cI, 36, .inl (nA (uN b k cv)))), ((q 1), .inl (cI, 80, .inl (nA ac))), ((q 2), .inl (cZ, 36, .inl (bA z)))] := hD
        refine lv_aload_n hx hb dX6_set_45 rfl (lv_at hl 0 rfl) ?_
        refine k_callv (wr := [((q 0), .inl (cI, 36, .inl (nA (uN b k cv)))), ((q 1), .inl (cI, 80, .inl (nA ac))), ((q 2), .inl (cZ, 36, .inl (bA z)))]) (w2 := (fun _ : Unit => [(h0, wMo q R C wn 0 0 0 em), ((q 0), .inl (cI, 36, .inl (nA (uN b k cv)))), ((q 1), .inl (cI, 80, .inl (nA ac))), ((q 2), .inl (cZ, 36, .inl (bA z)))])) (va_runV (As := []) (rest := []) ⟨hx, hb, hml, hown, hts⟩ (c_R_forgets l D cI cJ cZ h0 q R C wn dn ag 0 em  H.size) (cwV 0 hts gX6_set_X6_forgets rfl rfl rfl (by decide +kernel) ⟨Nat.le_of_ble_eq_true rfl, Nat.le_of_ble_eq_true rfl⟩) (kPV (ci := 6) (q0 := 0) (wc := [(h0, .inr (6, [.int (nI R), .int (nI C), .int (nI wn), .ref (q 0), .int (nI dn), .int (nI ag), .ref (q 1), .int (nI 0), .ref (q 2), .ref (q 3), .ref (q 4), .int (nI em), .ref (q 5), .ref (q 6), .ref (q 7), .ref (q 8), .ref (q 9)]))]) hK2 hP hD [0] rfl (by decide) rfl rfl) rfl rfl hl.1 rfl (lv_room (Nat.le_of_ble_eq_true rfl)) dX6_set_46 ⟨Nat.le_of_ble_eq_true rfl, Nat.le_of_ble_eq_true rfl⟩) hP hD hS hA [0] [1, 2, 3] [3, 0, 1, 2] rfl rfl (by decide) (by decide) (fun _ => rfl) (by decide) (fun u_7 H locs hw_7 hP hD hS => ?_)
        have hP : va_P D vwCl [(h0, wMo q R C wn 0 0 0 em), ((q 0), .inl (cI, 36, .inl (nA (uN b k cv)))), ((q 1), .inl (cI, 80, .inl (nA ac))), ((q 2), .inl (cZ, 36, .inl (bA z)))] H := hP
        have hD : va_D A [(h0, wMo q R C wn 0 0 0 em), ((q 0), .inl (cI, 36, .inl (nA (uN b k cv)))), ((q 1), .inl (cI, 80, .inl (nA ac))), ((q 2), .inl (cZ, 36, .inl (bA z)))] := hD
        refine lv_iconst (v := (nI 1)) hx hb dX6_set_49 (by decide) ?_
        exact W.zret (v := (nI 1)) hx hb hr (by first | decide +kernel | assumption | exact kz_narr (by first | assumption | omega)) (fun t ht hW => ⟨⟨(nI 1), (R, C, wn, 0, 0, 0, (uN b k cv), ac, z), rfl, Or.inr ⟨k, cv, wn, hk, hcv, ⟨hw1, hw2⟩, rfl, rfl, rfl, rfl, rfl⟩, by rw [ht]; exact hP, hD⟩, hS.F ht⟩) hS.2.2 dX6_set_50
      · skip
        refine lv_if_ne (tgt := 28) hx hb dX6_set_23 (by decide) (fun c_23_8 => absurd c_23_8 (by decide)) (fun c_23_8 => ?_)
        refine lv_iconst (v := (nI 0)) hx hb dX6_set_26 (by decide) ?_
        exact W.zret (v := (nI 0)) hx hb hr (by first | decide +kernel | assumption | exact kz_narr (by first | assumption | omega)) (fun t ht hW => ⟨⟨(nI 0), (R, C, tn, dn, ag, md, b, ac, z), rfl, Or.inl ⟨rfl, fun h9 => hw_5 h9.2.2, rfl⟩, by rw [ht]; exact hP, hD⟩, hS.F ht⟩) hS.2.2 dX6_set_27
    · skip
      refine lv_if_eq (tgt := 26) hx hb dX6_set_14 (by decide) (fun c_14_9 => ?_) (fun c_14_9 => absurd c_14_9 (by decide))
      refine lv_iconst (v := (nI 0)) hx hb dX6_set_26 (by decide) ?_
      exact W.zret (v := (nI 0)) hx hb hr (by first | decide +kernel | assumption | exact kz_narr (by first | assumption | omega)) (fun t ht hW => ⟨⟨(nI 0), (R, C, tn, dn, ag, md, b, ac, z), rfl, Or.inl ⟨rfl, fun h9 => hw_3 h9.2.1, rfl⟩, by rw [ht]; exact hP, hD⟩, hS.F ht⟩) hS.2.2 dX6_set_27
  · skip
    refine lv_if_eq (tgt := 26) hx hb dX6_set_5 (by decide) (fun c_5_10 => ?_) (fun c_5_10 => absurd c_5_10 (by decide))
    refine lv_iconst (v := (nI 0)) hx hb dX6_set_26 (by decide) ?_
    exact W.zret (v := (nI 0)) hx hb hr (by first | decide +kernel | assumption | exact kz_narr (by first | assumption | omega)) (fun t ht hW => ⟨⟨(nI 0), (R, C, tn, dn, ag, md, b, ac, z), rfl, Or.inl ⟨rfl, fun h9 => hw_1 h9.1, rfl⟩, by rw [ht]; exact hP, hD⟩, hS.F ht⟩) hS.2.2 dX6_set_27
