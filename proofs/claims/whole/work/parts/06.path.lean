
def mHas (n : Nat) (w : Nat → Int64) (i : Nat) : Prop := i / 64 < n ∧ w (i / 64) &&& gBit (nI (i % 64)) ≠ 0
def mSet (w : Nat → Int64) (i : Nat) : Nat → Int64 := vp_updL w (i / 64) (w (i / 64) ||| gBit (nI (i % 64)))
/-- the layers of a shortest way, from the far bank; with them, all that is seen -/
def pL (R C : Nat) (x t : Int64) : Nat → Int64 × Int64 | 0 => (x &&& t, x &&& t) | k + 1 => ((gBes R C (pL R C x t k).1 &&& x) &&& ((pL R C x t k).2 ^^^ (-1)), (pL R C x t k).2 ||| ((gBes R C (pL R C x t k).1 &&& x) &&& ((pL R C x t k).2 ^^^ (-1))))
def pO (R C : Nat) (x t st : Int64) (K : Nat) : Nat → Int64 | 0 => st | j + 1 => gBes R C (gBit (gLow ((pL R C x t (K - j)).1 &&& pO R C x t st K j)))
def pF (R C : Nat) (x t st : Int64) (K j : Nat) : Int32 := gLow ((pL R C x t (K - j)).1 &&& pO R C x t st K j)

theorem kb_sh {n : Nat} (h : n < 2 ^ 31) : nI n >>> (nI 6 &&& 31) = nI (n / 64) := by
  have := pk_shrN h (nI 6 &&& 31) 6 (by decide)
  exact this
theorem kb_an {n : Nat} (h : n < 2 ^ 31) : nI n &&& nI 63 = nI (n % 64) := pk_andN (by omega) 6 (by decide)

theorem kf_putI {k : Nat} {g F : Nat → Int32} {v : Int32} (h : ∀ i, i < k → g i = F i) (hv : v = F k) : ∀ i, i < k + 1 → upd g k v i = F i := by
  intro i hi
  by_cases e : i = k
  · rw [e, ← hv]; exact pk_us
  · rw [pk_un e]; exact h i (by omega)
theorem kf_putL {k : Nat} {g F : Nat → Int64} (h : ∀ i, i < k → g i = F i) : ∀ i, i ≤ k → vp_updL g k (F k) i = F i := by
  intro i hi
  by_cases e : i = k
  · rw [e]; exact pk_uLs
  · rw [pk_uLn e]; exact h i (by omega)
theorem kf_putL2 {k : Nat} {g F : Nat → Int64} (h : ∀ i, i < k → g i = F i) : ∀ i, i < k + 1 → vp_updL g k (F k) i = F i := fun i hi => kf_putL h i (by omega)
theorem kf_put {k : Nat} {g : Nat → Int64} {v : Int64} (h : ∀ i, i < k → g i = v) : ∀ i, i < k + 1 → vp_updL g k v i = v := by
  intro i hi
  by_cases e : i = k
  · rw [e]; exact pk_uLs
  · rw [pk_uLn e]; exact h i (by omega)
theorem kiX0_forget_X0 : ∀ w ∈ u_ws RX0 TX0 3, w ∈ wsX0_forget := fun w h => List.mem_cons_of_mem _ (List.mem_append_right _ h)
set_option maxHeartbeats 4000000 in
set_option maxRecDepth 100000 in
theorem c_D_forget (l : Launch) (D : va_G) (cI cJ cZ : ClassId) (h0 h1 : Nat) (row : Nat → Int32) (dn kn : Nat) (sz : Nat) : kMV l yX0_forget wsX0_forget 0 0 D cI cJ cZ [.ref h0] [(h0, .inr (0, [.ref h1, .int (nI dn), .int (nI kn)])), (h1, .inl (cI, 37, .inl row))] sz (fun (_ : Unit) => True) (fun _ : Unit => [(h0, .inr (0, [.ref h1, .int (nI 0), .int (nI 0)])), (h1, .inl (cI, 37, .inl row))]) := by
  refine Met.ofW (cc := cX0_forget) (maxL := 1) (ret := none) (by decide) rfl ?_
  intro p e s m args below meth c s₁ B hml hv
  obtain ⟨rfl, hsz, hP, ⟨hK, hN⟩, hD0⟩ := hv
  have hx := B.exec
  have hb := B.bytes
  have hr := B.returns
  have hts := atoms_spec (ws := wsX0_forget) B.pre
  have hown : s.vm.findClass RX0 = some m.cls := findClass_of_methodNamed B.named
  have hlocks := B.notSynchronized
  subst hsz
  have hD := hD0.self (sz := s.heap.size)
  generalize hAe : va_A [(h0, .inr (0, [.ref h1, .int (nI dn), .int (nI kn)])), (h1, .inl (cI, 37, .inl row))] s.heap.size = A at hD ⊢
  have hA : ∀ q : Nat, s.heap.size ≤ q → A q := fun q h => by rw [← hAe]; exact Or.inr h
  have hS : va_S A s.heap s.heap [] := va_S.rf
  have hl := lv_entry ([.ref h0]) (n := 1) (Nat.le_of_ble_eq_true rfl)
  rw [lg_entry_eq]
  generalize (lg_sl ([.ref h0]) ++ List.replicate (1 - (lg_sl ([.ref h0])).length) Slot.unset).toArray = ls at hl ⊢
  have hl : lv_has ls 1 [(0, .ref h0)] := hl
  have hK2 : kK D cI cJ cZ s := ⟨hK, hN⟩
  clear hD0
  refine lv_aload_n hx hb dX0_forget_0 rfl (lv_at hl 0 rfl) ?_
  refine lv_iconst (v := (nI 0)) hx hb dX0_forget_1 (by decide) ?_
  refine va_put (D := D) (ci := 0) (v := .int (nI 0)) (ty := .int) (C := RX0) (T := TX0) (N := 3) hx hb hts kiX0_forget_X0 tyX0 tyX0_ok nmX0 hown hK hP hD hS 0 rfl rfl 1 (by decide) (hts (.fieldLink RX0 15 "TwoBanks$Deeds" "done" "I") (List.mem_of_getElem? (i := 1) rfl)) (fun _ h9 => h9) rfl  (by decide +kernel) rfl rfl (Nat.le_of_ble_eq_true rfl) dX0_forget_2 (fun H locs hP hD hS => ?_)
  have hP : va_P D vwCl [(h0, .inr (0, [.ref h1, .int (nI 0), .int (nI kn)])), (h1, .inl (cI, 37, .inl row))] H := hP
  have hD : va_D A [(h0, .inr (0, [.ref h1, .int (nI 0), .int (nI kn)])), (h1, .inl (cI, 37, .inl row))] := hD
  refine lv_aload_n hx hb dX0_forget_5 rfl (lv_at hl 0 rfl) ?_
  refine lv_iconst (v := (nI 0)) hx hb dX0_forget_6 (by decide) ?_
  refine va_put (D := D) (ci := 0) (v := .int (nI 0)) (ty := .int) (C := RX0) (T := TX0) (N := 3) hx hb hts kiX0_forget_X0 tyX0 tyX0_ok nmX0 hown hK hP hD hS 0 rfl rfl 2 (by decide) (hts (.fieldLink RX0 19 "TwoBanks$Deeds" "known" "I") (List.mem_of_getElem? (i := 2) rfl)) (fun _ h9 => h9) rfl  (by decide +kernel) rfl rfl (Nat.le_of_ble_eq_true rfl) dX0_forget_7 (fun H locs hP hD hS => ?_)
  have hP : va_P D vwCl [(h0, .inr (0, [.ref h1, .int (nI 0), .int (nI 0)])), (h1, .inl (cI, 37, .inl row))] H := hP
  have hD : va_D A [(h0, .inr (0, [.ref h1, .int (nI 0), .int (nI 0)])), (h1, .inl (cI, 37, .inl row))] := hD
  exact W.vret hx hb hr (fun t ht hW => ⟨⟨(), rfl, trivial, by rw [ht]; exact hP, hD⟩, hS.F ht⟩) hS.2.2 dX0_forget_10

theorem kiX0_done_X0 : ∀ w ∈ u_ws RX0 TX0 3, w ∈ wsX0_done := fun w h => List.mem_cons_of_mem _ (List.mem_append_right _ h)
set_option maxHeartbeats 4000000 in
set_option maxRecDepth 100000 in
theorem c_D_done (l : Launch) (D : va_G) (cI cJ cZ : ClassId) (h0 h1 : Nat) (row : Nat → Int32) (dn kn : Nat) (sz : Nat) : kMI l yX0_done wsX0_done 0 0 D cI cJ cZ [.ref h0] [(h0, .inr (0, [.ref h1, .int (nI dn), .int (nI kn)])), (h1, .inl (cI, 37, .inl row))] sz (fun r (_ : Unit) => r = nI dn) (fun _ : Unit => [(h0, .inr (0, [.ref h1, .int (nI dn), .int (nI kn)])), (h1, .inl (cI, 37, .inl row))]) := by
  refine Met.ofW (cc := cX0_done) (maxL := 1) (ret := (some .int)) (by decide) rfl ?_
  intro p e s m args below meth c s₁ B hml hv
  obtain ⟨rfl, hsz, hP, ⟨hK, hN⟩, hD0⟩ := hv
  have hx := B.exec
  have hb := B.bytes
  have hr := B.returns
  have hts := atoms_spec (ws := wsX0_done) B.pre
  have hown : s.vm.findClass RX0 = some m.cls := findClass_of_methodNamed B.named
  have hlocks := B.notSynchronized
  subst hsz
  have hD := hD0.self (sz := s.heap.size)
  generalize hAe : va_A [(h0, .inr (0, [.ref h1, .int (nI dn), .int (nI kn)])), (h1, .inl (cI, 37, .inl row))] s.heap.size = A at hD ⊢
  have hA : ∀ q : Nat, s.heap.size ≤ q → A q := fun q h => by rw [← hAe]; exact Or.inr h
  have hS : va_S A s.heap s.heap [] := va_S.rf
  have hl := lv_entry ([.ref h0]) (n := 1) (Nat.le_of_ble_eq_true rfl)
  rw [lg_entry_eq]
  generalize (lg_sl ([.ref h0]) ++ List.replicate (1 - (lg_sl ([.ref h0])).length) Slot.unset).toArray = ls at hl ⊢
  have hl : lv_has ls 1 [(0, .ref h0)] := hl
  have hK2 : kK D cI cJ cZ s := ⟨hK, hN⟩
  clear hD0
  refine lv_aload_n hx hb dX0_done_0 rfl (lv_at hl 0 rfl) ?_
  refine va_get (D := D) (ci := 0) (v := .int (nI dn)) (C := RX0) (T := TX0) (N := 3) hx hb hts kiX0_done_X0 hown hK hP 0 rfl rfl 1 (by decide) (hts (.fieldLink RX0 15 "TwoBanks$Deeds" "done" "I") (List.mem_of_getElem? (i := 1) rfl)) (fun _ h9 => h9) rfl dX0_done_1 ?_
  exact W.iret (v := (nI dn)) hx hb hr (fun t ht hW => ⟨⟨(nI dn), (), rfl, rfl, by rw [ht]; exact hP, hD⟩, hS.F ht⟩) hS.2.2 dX0_done_4

theorem kiX0_undone_X0 : ∀ w ∈ u_ws RX0 TX0 3, w ∈ wsX0_undone := fun w h => List.mem_cons_of_mem _ (List.mem_append_right _ h)
set_option maxHeartbeats 4000000 in
set_option maxRecDepth 100000 in
theorem c_D_undone (l : Launch) (D : va_G) (cI cJ cZ : ClassId) (h0 h1 : Nat) (row : Nat → Int32) (dn kn : Nat) (qd1 : dn ≤ kn) (qd2 : kn ≤ 37) (sz : Nat) : kMI l yX0_undone wsX0_undone 0 0 D cI cJ cZ [.ref h0] [(h0, .inr (0, [.ref h1, .int (nI dn), .int (nI kn)])), (h1, .inl (cI, 37, .inl row))] sz (fun r (_ : Unit) => r = nI (kn - dn)) (fun _ : Unit => [(h0, .inr (0, [.ref h1, .int (nI dn), .int (nI kn)])), (h1, .inl (cI, 37, .inl row))]) := by
  refine Met.ofW (cc := cX0_undone) (maxL := 1) (ret := (some .int)) (by decide) rfl ?_
  intro p e s m args below meth c s₁ B hml hv
  obtain ⟨rfl, hsz, hP, ⟨hK, hN⟩, hD0⟩ := hv
  have hx := B.exec
  have hb := B.bytes
  have hr := B.returns
  have hts := atoms_spec (ws := wsX0_undone) B.pre
  have hown : s.vm.findClass RX0 = some m.cls := findClass_of_methodNamed B.named
  have hlocks := B.notSynchronized
  subst hsz
  have hD := hD0.self (sz := s.heap.size)
  generalize hAe : va_A [(h0, .inr (0, [.ref h1, .int (nI dn), .int (nI kn)])), (h1, .inl (cI, 37, .inl row))] s.heap.size = A at hD ⊢
  have hA : ∀ q : Nat, s.heap.size ≤ q → A q := fun q h => by rw [← hAe]; exact Or.inr h
  have hS : va_S A s.heap s.heap [] := va_S.rf
  have hl := lv_entry ([.ref h0]) (n := 1) (Nat.le_of_ble_eq_true rfl)
  rw [lg_entry_eq]
  generalize (lg_sl ([.ref h0]) ++ List.replicate (1 - (lg_sl ([.ref h0])).length) Slot.unset).toArray = ls at hl ⊢
  have hl : lv_has ls 1 [(0, .ref h0)] := hl
  have hK2 : kK D cI cJ cZ s := ⟨hK, hN⟩
  clear hD0
  refine lv_aload_n hx hb dX0_undone_0 rfl (lv_at hl 0 rfl) ?_
  refine va_get (D := D) (ci := 0) (v := .int (nI kn)) (C := RX0) (T := TX0) (N := 3) hx hb hts kiX0_undone_X0 hown hK hP 0 rfl rfl 2 (by decide) (hts (.fieldLink RX0 19 "TwoBanks$Deeds" "known" "I") (List.mem_of_getElem? (i := 1) rfl)) (fun _ h9 => h9) rfl dX0_undone_1 ?_
  refine lv_aload_n hx hb dX0_undone_4 rfl (lv_at hl 0 rfl) ?_
  refine va_get (D := D) (ci := 0) (v := .int (nI dn)) (C := RX0) (T := TX0) (N := 3) hx hb hts kiX0_undone_X0 hown hK hP 0 rfl rfl 1 (by decide) (hts (.fieldLink RX0 15 "TwoBanks$Deeds" "done" "I") (List.mem_of_getElem? (i := 2) rfl)) (fun _ h9 => h9) rfl dX0_undone_5 ?_
  refine lv_isub hx hb dX0_undone_8 ?_
  refine k_toi (y := nI (kn - dn)) (pk_sub (by omega)) ?_
  exact W.iret (v := (nI (kn - dn))) hx hb hr (fun t ht hW => ⟨⟨(nI (kn - dn)), (), rfl, rfl, by rw [ht]; exact hP, hD⟩, hS.F ht⟩) hS.2.2 dX0_undone_9

theorem kiX0_add_X0 : ∀ w ∈ u_ws RX0 TX0 3, w ∈ wsX0_add := fun w h => List.mem_cons_of_mem _ (List.mem_append_right _ h)
set_option maxHeartbeats 4000000 in
set_option maxRecDepth 100000 in
theorem c_D_add (l : Launch) (D : va_G) (cI cJ cZ : ClassId) (h0 h1 : Nat) (row : Nat → Int32) (dn kn : Nat) (d : Int32) (qd1 : dn ≤ kn) (qd2 : kn ≤ 37) (sz : Nat) : kMI l yX0_add wsX0_add 0 0 D cI cJ cZ [.ref h0, .int d] [(h0, .inr (0, [.ref h1, .int (nI dn), .int (nI kn)])), (h1, .inl (cI, 37, .inl row))] sz (fun r (u : (Nat → Int32) × Nat × Nat) => (r = nI 1 ∧ dn < 37 ∧ u = (upd row dn d, dn + 1, dn + 1)) ∨ (r = nI 0 ∧ 37 ≤ dn ∧ u = (row, dn, kn))) (fun u : (Nat → Int32) × Nat × Nat => match u with | (ra, da, ka) => [(h0, .inr (0, [.ref h1, .int (nI da), .int (nI ka)])), (h1, .inl (cI, 37, .inl ra))]) := by
  refine Met.ofW (cc := cX0_add) (maxL := 2) (ret := (some .boolean)) (by decide) rfl ?_
  intro p e s m args below meth c s₁ B hml hv
  obtain ⟨rfl, hsz, hP, ⟨hK, hN⟩, hD0⟩ := hv
  have hx := B.exec
  have hb := B.bytes
  have hr := B.returns
  have hts := atoms_spec (ws := wsX0_add) B.pre
  have hown : s.vm.findClass RX0 = some m.cls := findClass_of_methodNamed B.named
  have hlocks := B.notSynchronized
  subst hsz
  have hD := hD0.self (sz := s.heap.size)
  generalize hAe : va_A [(h0, .inr (0, [.ref h1, .int (nI dn), .int (nI kn)])), (h1, .inl (cI, 37, .inl row))] s.heap.size = A at hD ⊢
  have hA : ∀ q : Nat, s.heap.size ≤ q → A q := fun q h => by rw [← hAe]; exact Or.inr h
  have hS : va_S A s.heap s.heap [] := va_S.rf
  have hl := lv_entry ([.ref h0, .int d]) (n := 2) (Nat.le_of_ble_eq_true rfl)
  rw [lg_entry_eq]
  generalize (lg_sl ([.ref h0, .int d]) ++ List.replicate (2 - (lg_sl ([.ref h0, .int d])).length) Slot.unset).toArray = ls at hl ⊢
  have hl : lv_has ls 2 [(0, .ref h0), (1, .int d)] := hl
  have hK2 : kK D cI cJ cZ s := ⟨hK, hN⟩
  clear hD0
  refine lv_aload_n hx hb dX0_add_0 rfl (lv_at hl 0 rfl) ?_
  refine va_get (D := D) (ci := 0) (v := .int (nI dn)) (C := RX0) (T := TX0) (N := 3) hx hb hts kiX0_add_X0 hown hK hP 0 rfl rfl 1 (by decide) (hts (.fieldLink RX0 15 "TwoBanks$Deeds" "done" "I") (List.mem_of_getElem? (i := 1) rfl)) (fun _ h9 => h9) rfl dX0_add_1 ?_
  refine kw_if_lt (tgt := 19) hx hb dX0_add_4 (by decide) (by omega) (fun c_4_1 => False.elim c_4_1) (fun c_4_1 => ?_)
  refine lv_aload_n hx hb dX0_add_7 rfl (lv_at hl 0 rfl) ?_
  refine va_get (D := D) (ci := 0) (v := .int (nI dn)) (C := RX0) (T := TX0) (N := 3) hx hb hts kiX0_add_X0 hown hK hP 0 rfl rfl 1 (by decide) (hts (.fieldLink RX0 15 "TwoBanks$Deeds" "done" "I") (List.mem_of_getElem? (i := 1) rfl)) (fun _ h9 => h9) rfl dX0_add_8 ?_
  refine lv_aload_n hx hb dX0_add_11 rfl (lv_at hl 0 rfl) ?_
  refine va_get (D := D) (ci := 0) (v := .ref h1) (C := RX0) (T := TX0) (N := 3) hx hb hts kiX0_add_X0 hown hK hP 0 rfl rfl 0 (by decide) (hts (.fieldLink RX0 9 "TwoBanks$Deeds" "row" "[I") (List.mem_of_getElem? (i := 2) rfl)) (fun _ h9 => h9) rfl dX0_add_12 ?_
  refine va_alen hx hb hK hP 1 0 rfl rfl (v := nI 37) rfl dX0_add_15 ?_
  refine kw_icmp_lt (tgt := 21) hx hb dX0_add_16 (by decide) (by omega) (by omega) (fun c_16_2 => ?_) (fun c_16_2 => ?_)
  · refine lv_aload_n hx hb dX0_add_21 rfl (lv_at hl 0 rfl) ?_
    refine va_get (D := D) (ci := 0) (v := .ref h1) (C := RX0) (T := TX0) (N := 3) hx hb hts kiX0_add_X0 hown hK hP 0 rfl rfl 0 (by decide) (hts (.fieldLink RX0 9 "TwoBanks$Deeds" "row" "[I") (List.mem_of_getElem? (i := 2) rfl)) (fun _ h9 => h9) rfl dX0_add_22 ?_
    refine lv_aload_n hx hb dX0_add_25 rfl (lv_at hl 0 rfl) ?_
    refine va_get (D := D) (ci := 0) (v := .int (nI dn)) (C := RX0) (T := TX0) (N := 3) hx hb hts kiX0_add_X0 hown hK hP 0 rfl rfl 1 (by decide) (hts (.fieldLink RX0 15 "TwoBanks$Deeds" "done" "I") (List.mem_of_getElem? (i := 1) rfl)) (fun _ h9 => h9) rfl dX0_add_26 ?_
    refine lv_iload_n hx hb dX0_add_29 rfl (lv_at hl 1 rfl) ?_
    refine va_iast hx hb hK hP hD hS 1 0 rfl rfl (vp_in_nI (by omega) (by omega)) dX0_add_30 (fun H locs hP hD hS => ?_)
    rw [nI_clamp (by omega)] at hP hD
    have hP : va_P D vwCl [(h0, .inr (0, [.ref h1, .int (nI dn), .int (nI kn)])), (h1, .inl (cI, 37, .inl (upd row dn d)))] H := hP
    have hD : va_D A [(h0, .inr (0, [.ref h1, .int (nI dn), .int (nI kn)])), (h1, .inl (cI, 37, .inl (upd row dn d)))] := hD
    refine lv_aload_n hx hb dX0_add_31 rfl (lv_at hl 0 rfl) ?_
    refine lv_dup hx hb dX0_add_32 rfl ?_
    refine va_get (D := D) (ci := 0) (v := .int (nI dn)) (C := RX0) (T := TX0) (N := 3) hx hb hts kiX0_add_X0 hown hK hP 0 rfl rfl 1 (by decide) (hts (.fieldLink RX0 15 "TwoBanks$Deeds" "done" "I") (List.mem_of_getElem? (i := 1) rfl)) (fun _ h9 => h9) rfl dX0_add_33 ?_
    refine lv_iconst (v := (nI 1)) hx hb dX0_add_36 (by decide) ?_
    refine lv_iadd hx hb dX0_add_37 ?_
    refine k_toi (y := nI (dn + 1)) (nI_add _ _) ?_
    refine va_put (D := D) (ci := 0) (v := .int (nI (dn + 1))) (ty := .int) (C := RX0) (T := TX0) (N := 3) hx hb hts kiX0_add_X0 tyX0 tyX0_ok nmX0 hown hK hP hD hS 0 rfl rfl 1 (by decide) (hts (.fieldLink RX0 15 "TwoBanks$Deeds" "done" "I") (List.mem_of_getElem? (i := 1) rfl)) (fun _ h9 => h9) rfl  (by decide +kernel) rfl rfl (Nat.le_of_ble_eq_true rfl) dX0_add_38 (fun H locs hP hD hS => ?_)
    have hP : va_P D vwCl [(h0, .inr (0, [.ref h1, .int (nI (dn + 1)), .int (nI kn)])), (h1, .inl (cI, 37, .inl (upd row dn d)))] H := hP
    have hD : va_D A [(h0, .inr (0, [.ref h1, .int (nI (dn + 1)), .int (nI kn)])), (h1, .inl (cI, 37, .inl (upd row dn d)))] := hD
    refine lv_aload_n hx hb dX0_add_41 rfl (lv_at hl 0 rfl) ?_
    refine lv_aload_n hx hb dX0_add_42 rfl (lv_at hl 0 rfl) ?_
    refine va_get (D := D) (ci := 0) (v := .int (nI (dn + 1))) (C := RX0) (T := TX0) (N := 3) hx hb hts kiX0_add_X0 hown hK hP 0 rfl rfl 1 (by decide) (hts (.fieldLink RX0 15 "TwoBanks$Deeds" "done" "I") (List.mem_of_getElem? (i := 1) rfl)) (fun _ h9 => h9) rfl dX0_add_43 ?_
    refine va_put (D := D) (ci := 0) (v := .int (nI (dn + 1))) (ty := .int) (C := RX0) (T := TX0) (N := 3) hx hb hts kiX0_add_X0 tyX0 tyX0_ok nmX0 hown hK hP hD hS 0 rfl rfl 2 (by decide) (hts (.fieldLink RX0 19 "TwoBanks$Deeds" "known" "I") (List.mem_of_getElem? (i := 3) rfl)) (fun _ h9 => h9) rfl  (by decide +kernel) rfl rfl (Nat.le_of_ble_eq_true rfl) dX0_add_46 (fun H locs hP hD hS => ?_)
    have hP : va_P D vwCl [(h0, .inr (0, [.ref h1, .int (nI (dn + 1)), .int (nI (dn + 1))])), (h1, .inl (cI, 37, .inl (upd row dn d)))] H := hP
    have hD : va_D A [(h0, .inr (0, [.ref h1, .int (nI (dn + 1)), .int (nI (dn + 1))])), (h1, .inl (cI, 37, .inl (upd row dn d)))] := hD
    refine lv_iconst (v := (nI 1)) hx hb dX0_add_49 (by decide) ?_
    exact W.zret (v := (nI 1)) hx hb hr (by first | decide +kernel | assumption | exact kz_narr (by first | assumption | omega)) (fun t ht hW => ⟨⟨(nI 1), (upd row dn d, dn + 1, dn + 1), rfl, Or.inl ⟨rfl, by omega, rfl⟩, by rw [ht]; exact hP, hD⟩, hS.F ht⟩) hS.2.2 dX0_add_50
  · refine lv_iconst (v := (nI 0)) hx hb dX0_add_19 (by decide) ?_
    exact W.zret (v := (nI 0)) hx hb hr (by first | decide +kernel | assumption | exact kz_narr (by first | assumption | omega)) (fun t ht hW => ⟨⟨(nI 0), (row, dn, kn), rfl, Or.inr ⟨rfl, by omega, rfl⟩, by rw [ht]; exact hP, hD⟩, hS.F ht⟩) hS.2.2 dX0_add_20

theorem kiX0_back_X0 : ∀ w ∈ u_ws RX0 TX0 3, w ∈ wsX0_back := fun w h => List.mem_cons_of_mem _ (List.mem_append_right _ h)
set_option maxHeartbeats 4000000 in
set_option maxRecDepth 100000 in
theorem c_D_back (l : Launch) (D : va_G) (cI cJ cZ : ClassId) (h0 h1 : Nat) (row : Nat → Int32) (dn kn : Nat) (qd1 : dn ≤ kn) (qd2 : kn ≤ 37) (sz : Nat) : kMI l yX0_back wsX0_back 0 0 D cI cJ cZ [.ref h0] [(h0, .inr (0, [.ref h1, .int (nI dn), .int (nI kn)])), (h1, .inl (cI, 37, .inl row))] sz (fun r (u : Nat) => (dn = 0 ∧ r = -1 ∧ u = dn) ∨ (0 < dn ∧ r = row (dn - 1) ∧ u = dn - 1)) (fun da : Nat => [(h0, .inr (0, [.ref h1, .int (nI da), .int (nI kn)])), (h1, .inl (cI, 37, .inl row))]) := by
  refine Met.ofW (cc := cX0_back) (maxL := 2) (ret := (some .int)) (by decide) rfl ?_
  intro p e s m args below meth c s₁ B hml hv
  obtain ⟨rfl, hsz, hP, ⟨hK, hN⟩, hD0⟩ := hv
  have hx := B.exec
  have hb := B.bytes
  have hr := B.returns
  have hts := atoms_spec (ws := wsX0_back) B.pre
  have hown : s.vm.findClass RX0 = some m.cls := findClass_of_methodNamed B.named
  have hlocks := B.notSynchronized
  subst hsz
  have hD := hD0.self (sz := s.heap.size)
  generalize hAe : va_A [(h0, .inr (0, [.ref h1, .int (nI dn), .int (nI kn)])), (h1, .inl (cI, 37, .inl row))] s.heap.size = A at hD ⊢
  have hA : ∀ q : Nat, s.heap.size ≤ q → A q := fun q h => by rw [← hAe]; exact Or.inr h
  have hS : va_S A s.heap s.heap [] := va_S.rf
  have hl := lv_entry ([.ref h0]) (n := 2) (Nat.le_of_ble_eq_true rfl)
  rw [lg_entry_eq]
  generalize (lg_sl ([.ref h0]) ++ List.replicate (2 - (lg_sl ([.ref h0])).length) Slot.unset).toArray = ls at hl ⊢
  have hl : lv_has ls 2 [(0, .ref h0)] := hl
  have hK2 : kK D cI cJ cZ s := ⟨hK, hN⟩
  clear hD0
  rcases Nat.eq_zero_or_pos dn with hd0 | hd0
  · subst hd0
    skip
    refine lv_aload_n hx hb dX0_back_0 rfl (lv_at hl 0 rfl) ?_
    refine va_get (D := D) (ci := 0) (v := .int (nI 0)) (C := RX0) (T := TX0) (N := 3) hx hb hts kiX0_back_X0 hown hK hP 0 rfl rfl 1 (by decide) (hts (.fieldLink RX0 15 "TwoBanks$Deeds" "done" "I") (List.mem_of_getElem? (i := 1) rfl)) (fun _ h9 => h9) rfl dX0_back_1 ?_
    refine lv_iconst (v := (nI 1)) hx hb dX0_back_4 (by decide) ?_
    refine lv_isub hx hb dX0_back_5 ?_
    refine k_toi (y := (-1)) (by decide) ?_
    refine lv_istore_n (lv' := [(1, .int (-1)), (0, .ref h0)]) hx hb dX0_back_6 rfl hl (by decide) rfl (fun ls hl => ?_)
    refine lv_iload_n hx hb dX0_back_7 rfl (lv_at hl 0 rfl) ?_
    refine lv_if_lt (tgt := 20) hx hb dX0_back_8 (by decide) (fun c_8_1 => ?_) (fun c_8_1 => absurd c_8_1 (by decide))
    refine lv_iconst (v := (-1)) hx hb dX0_back_20 (by decide) ?_
    exact W.iret (v := (-1)) hx hb hr (fun t ht hW => ⟨⟨(-1), 0, rfl, Or.inl ⟨rfl, rfl, rfl⟩, by rw [ht]; exact hP, hD⟩, hS.F ht⟩) hS.2.2 dX0_back_21
  · skip
    refine lv_aload_n hx hb dX0_back_0 rfl (lv_at hl 0 rfl) ?_
    refine va_get (D := D) (ci := 0) (v := .int (nI dn)) (C := RX0) (T := TX0) (N := 3) hx hb hts kiX0_back_X0 hown hK hP 0 rfl rfl 1 (by decide) (hts (.fieldLink RX0 15 "TwoBanks$Deeds" "done" "I") (List.mem_of_getElem? (i := 1) rfl)) (fun _ h9 => h9) rfl dX0_back_1 ?_
    refine lv_iconst (v := (nI 1)) hx hb dX0_back_4 (by decide) ?_
    refine lv_isub hx hb dX0_back_5 ?_
    refine k_toi (y := nI (dn - 1)) (pk_sub (by omega)) ?_
    refine lv_istore_n (lv' := [(1, .int (nI (dn - 1))), (0, .ref h0)]) hx hb dX0_back_6 rfl hl (by decide) rfl (fun ls hl => ?_)
    refine lv_iload_n hx hb dX0_back_7 rfl (lv_at hl 0 rfl) ?_
    refine kw_if_lt (tgt := 20) hx hb dX0_back_8 (by decide) (by omega) (fun c_8_2 => False.elim c_8_2) (fun c_8_2 => ?_)
    refine lv_iload_n hx hb dX0_back_11 rfl (lv_at hl 0 rfl) ?_
    refine lv_aload_n hx hb dX0_back_12 rfl (lv_at hl 1 rfl) ?_
    refine va_get (D := D) (ci := 0) (v := .ref h1) (C := RX0) (T := TX0) (N := 3) hx hb hts kiX0_back_X0 hown hK hP 0 rfl rfl 0 (by decide) (hts (.fieldLink RX0 9 "TwoBanks$Deeds" "row" "[I") (List.mem_of_getElem? (i := 2) rfl)) (fun _ h9 => h9) rfl dX0_back_13 ?_
    refine va_alen hx hb hK hP 1 0 rfl rfl (v := nI 37) rfl dX0_back_16 ?_
    refine kw_icmp_lt (tgt := 22) hx hb dX0_back_17 (by decide) (by omega) (by omega) (fun c_17_3 => ?_) (fun c_17_3 => absurd c_17_3 (by omega))
    refine lv_aload_n hx hb dX0_back_22 rfl (lv_at hl 1 rfl) ?_
    refine lv_iload_n hx hb dX0_back_23 rfl (lv_at hl 0 rfl) ?_
    refine va_put (D := D) (ci := 0) (v := .int (nI (dn - 1))) (ty := .int) (C := RX0) (T := TX0) (N := 3) hx hb hts kiX0_back_X0 tyX0 tyX0_ok nmX0 hown hK hP hD hS 0 rfl rfl 1 (by decide) (hts (.fieldLink RX0 15 "TwoBanks$Deeds" "done" "I") (List.mem_of_getElem? (i := 1) rfl)) (fun _ h9 => h9) rfl  (by decide +kernel) rfl rfl (Nat.le_of_ble_eq_true rfl) dX0_back_24 (fun H locs hP hD hS => ?_)
    have hP : va_P D vwCl [(h0, .inr (0, [.ref h1, .int (nI (dn - 1)), .int (nI kn)])), (h1, .inl (cI, 37, .inl row))] H := hP
    have hD : va_D A [(h0, .inr (0, [.ref h1, .int (nI (dn - 1)), .int (nI kn)])), (h1, .inl (cI, 37, .inl row))] := hD
    refine lv_aload_n hx hb dX0_back_27 rfl (lv_at hl 1 rfl) ?_
    refine va_get (D := D) (ci := 0) (v := .ref h1) (C := RX0) (T := TX0) (N := 3) hx hb hts kiX0_back_X0 hown hK hP 0 rfl rfl 0 (by decide) (hts (.fieldLink RX0 9 "TwoBanks$Deeds" "row" "[I") (List.mem_of_getElem? (i := 2) rfl)) (fun _ h9 => h9) rfl dX0_back_28 ?_
    refine lv_iload_n hx hb dX0_back_31 rfl (lv_at hl 0 rfl) ?_
    refine va_iald hx hb hK hP 1 0 rfl rfl (vp_in_nI (by omega) (by omega)) dX0_back_32 ?_
    refine k_toi (y := row (dn - 1)) (congrArg row (nI_clamp (by omega))) ?_
    exact W.iret (v := (row (dn - 1))) hx hb hr (fun t ht hW => ⟨⟨(row (dn - 1)), (dn - 1), rfl, Or.inr ⟨hd0, rfl, rfl⟩, by rw [ht]; exact hP, hD⟩, hS.F ht⟩) hS.2.2 dX0_back_33

theorem kiX0_forth_X0 : ∀ w ∈ u_ws RX0 TX0 3, w ∈ wsX0_forth := fun w h => List.mem_cons_of_mem _ (List.mem_append_right _ h)
set_option maxHeartbeats 4000000 in
set_option maxRecDepth 100000 in
theorem c_D_forth (l : Launch) (D : va_G) (cI cJ cZ : ClassId) (h0 h1 : Nat) (row : Nat → Int32) (dn kn : Nat) (qd1 : dn ≤ kn) (qd2 : kn ≤ 37) (sz : Nat) : kMI l yX0_forth wsX0_forth 0 0 D cI cJ cZ [.ref h0] [(h0, .inr (0, [.ref h1, .int (nI dn), .int (nI kn)])), (h1, .inl (cI, 37, .inl row))] sz (fun r (u : Nat) => (dn = kn ∧ r = -1 ∧ u = dn) ∨ (dn < kn ∧ r = row dn ∧ u = dn + 1)) (fun da : Nat => [(h0, .inr (0, [.ref h1, .int (nI da), .int (nI kn)])), (h1, .inl (cI, 37, .inl row))]) := by
  refine Met.ofW (cc := cX0_forth) (maxL := 2) (ret := (some .int)) (by decide) rfl ?_
  intro p e s m args below meth c s₁ B hml hv
  obtain ⟨rfl, hsz, hP, ⟨hK, hN⟩, hD0⟩ := hv
  have hx := B.exec
  have hb := B.bytes
  have hr := B.returns
  have hts := atoms_spec (ws := wsX0_forth) B.pre
  have hown : s.vm.findClass RX0 = some m.cls := findClass_of_methodNamed B.named
  have hlocks := B.notSynchronized
  subst hsz
  have hD := hD0.self (sz := s.heap.size)
  generalize hAe : va_A [(h0, .inr (0, [.ref h1, .int (nI dn), .int (nI kn)])), (h1, .inl (cI, 37, .inl row))] s.heap.size = A at hD ⊢
  have hA : ∀ q : Nat, s.heap.size ≤ q → A q := fun q h => by rw [← hAe]; exact Or.inr h
  have hS : va_S A s.heap s.heap [] := va_S.rf
  have hl := lv_entry ([.ref h0]) (n := 2) (Nat.le_of_ble_eq_true rfl)
  rw [lg_entry_eq]
  generalize (lg_sl ([.ref h0]) ++ List.replicate (2 - (lg_sl ([.ref h0])).length) Slot.unset).toArray = ls at hl ⊢
  have hl : lv_has ls 2 [(0, .ref h0)] := hl
  have hK2 : kK D cI cJ cZ s := ⟨hK, hN⟩
  clear hD0
  refine lv_aload_n hx hb dX0_forth_0 rfl (lv_at hl 0 rfl) ?_
  refine va_get (D := D) (ci := 0) (v := .int (nI dn)) (C := RX0) (T := TX0) (N := 3) hx hb hts kiX0_forth_X0 hown hK hP 0 rfl rfl 1 (by decide) (hts (.fieldLink RX0 15 "TwoBanks$Deeds" "done" "I") (List.mem_of_getElem? (i := 1) rfl)) (fun _ h9 => h9) rfl dX0_forth_1 ?_
  refine lv_istore_n (lv' := [(1, .int (nI dn)), (0, .ref h0)]) hx hb dX0_forth_4 rfl hl (by decide) rfl (fun ls hl => ?_)
  refine lv_iload_n hx hb dX0_forth_5 rfl (lv_at hl 0 rfl) ?_
  refine kw_if_lt (tgt := 26) hx hb dX0_forth_6 (by decide) (by omega) (fun c_6_1 => False.elim c_6_1) (fun c_6_1 => ?_)
  refine lv_iload_n hx hb dX0_forth_9 rfl (lv_at hl 0 rfl) ?_
  refine lv_aload_n hx hb dX0_forth_10 rfl (lv_at hl 1 rfl) ?_
  refine va_get (D := D) (ci := 0) (v := .int (nI kn)) (C := RX0) (T := TX0) (N := 3) hx hb hts kiX0_forth_X0 hown hK hP 0 rfl rfl 2 (by decide) (hts (.fieldLink RX0 19 "TwoBanks$Deeds" "known" "I") (List.mem_of_getElem? (i := 2) rfl)) (fun _ h9 => h9) rfl dX0_forth_11 ?_
  refine kw_icmp_ge (tgt := 26) hx hb dX0_forth_14 (by decide) (by omega) (by omega) (fun c_14_2 => ?_) (fun c_14_2 => ?_)
  · refine lv_iconst (v := (-1)) hx hb dX0_forth_26 (by decide) ?_
    exact W.iret (v := (-1)) hx hb hr (fun t ht hW => ⟨⟨(-1), dn, rfl, Or.inl ⟨by omega, rfl, rfl⟩, by rw [ht]; exact hP, hD⟩, hS.F ht⟩) hS.2.2 dX0_forth_27
  · refine lv_iload_n hx hb dX0_forth_17 rfl (lv_at hl 0 rfl) ?_
    refine lv_aload_n hx hb dX0_forth_18 rfl (lv_at hl 1 rfl) ?_
    refine va_get (D := D) (ci := 0) (v := .ref h1) (C := RX0) (T := TX0) (N := 3) hx hb hts kiX0_forth_X0 hown hK hP 0 rfl rfl 0 (by decide) (hts (.fieldLink RX0 9 "TwoBanks$Deeds" "row" "[I") (List.mem_of_getElem? (i := 3) rfl)) (fun _ h9 => h9) rfl dX0_forth_19 ?_
    refine va_alen hx hb hK hP 1 0 rfl rfl (v := nI 37) rfl dX0_forth_22 ?_
    refine kw_icmp_lt (tgt := 28) hx hb dX0_forth_23 (by decide) (by omega) (by omega) (fun c_23_3 => ?_) (fun c_23_3 => absurd c_23_3 (by omega))
    refine lv_aload_n hx hb dX0_forth_28 rfl (lv_at hl 1 rfl) ?_
    refine lv_iload_n hx hb dX0_forth_29 rfl (lv_at hl 0 rfl) ?_
    refine lv_iconst (v := (nI 1)) hx hb dX0_forth_30 (by decide) ?_
    refine lv_iadd hx hb dX0_forth_31 ?_
    refine k_toi (y := nI (dn + 1)) (nI_add _ _) ?_
    refine va_put (D := D) (ci := 0) (v := .int (nI (dn + 1))) (ty := .int) (C := RX0) (T := TX0) (N := 3) hx hb hts kiX0_forth_X0 tyX0 tyX0_ok nmX0 hown hK hP hD hS 0 rfl rfl 1 (by decide) (hts (.fieldLink RX0 15 "TwoBanks$Deeds" "done" "I") (List.mem_of_getElem? (i := 1) rfl)) (fun _ h9 => h9) rfl  (by decide +kernel) rfl rfl (Nat.le_of_ble_eq_true rfl) dX0_forth_32 (fun H locs hP hD hS => ?_)
    have hP : va_P D vwCl [(h0, .inr (0, [.ref h1, .int (nI (dn + 1)), .int (nI kn)])), (h1, .inl (cI, 37, .inl row))] H := hP
    have hD : va_D A [(h0, .inr (0, [.ref h1, .int (nI (dn + 1)), .int (nI kn)])), (h1, .inl (cI, 37, .inl row))] := hD
    refine lv_aload_n hx hb dX0_forth_35 rfl (lv_at hl 1 rfl) ?_
    refine va_get (D := D) (ci := 0) (v := .ref h1) (C := RX0) (T := TX0) (N := 3) hx hb hts kiX0_forth_X0 hown hK hP 0 rfl rfl 0 (by decide) (hts (.fieldLink RX0 9 "TwoBanks$Deeds" "row" "[I") (List.mem_of_getElem? (i := 3) rfl)) (fun _ h9 => h9) rfl dX0_forth_36 ?_
    refine lv_iload_n hx hb dX0_forth_39 rfl (lv_at hl 0 rfl) ?_
    refine va_iald hx hb hK hP 1 0 rfl rfl (vp_in_nI (by omega) (by omega)) dX0_forth_40 ?_
    refine k_toi (y := row dn) (congrArg row (nI_clamp (by omega))) ?_
    exact W.iret (v := (row dn)) hx hb hr (fun t ht hW => ⟨⟨(row dn), (dn + 1), rfl, Or.inr ⟨by omega, rfl, rfl⟩, by rw [ht]; exact hP, hD⟩, hS.F ht⟩) hS.2.2 dX0_forth_41

set_option maxHeartbeats 4000000 in
set_option maxRecDepth 100000 in
theorem c_fill (l : Launch) (D : va_G) (cI cJ cZ : ClassId) (h1 : Nat) (n : Nat) (w : Nat → Int64) (v : Int64) (qn : n < 2 ^ 31) (sz : Nat) : kMV l yJ7_fill_d0a16 wsJ7_fill_d0a16 0 0 D cI cJ cZ [.ref h1, .long v] [(h1, .inl (cJ, n, .inr (.inl w)))] sz (fun (g : Nat → Int64) => ∀ i, i < n → g i = v) (fun g : Nat → Int64 => [(h1, .inl (cJ, n, .inr (.inl g)))]) := by
  refine Met.ofW (cc := cJ7_fill_d0a16) (maxL := 5) (ret := none) (by decide) rfl ?_
  intro p e s m args below meth c s₁ B hml hv
  obtain ⟨rfl, hsz, hP, ⟨hK, hN⟩, hD0⟩ := hv
  have hx := B.exec
  have hb := B.bytes
  have hr := B.returns
  have hts := atoms_spec (ws := wsJ7_fill_d0a16) B.pre
  have hown : s.vm.findClass RJ7 = some m.cls := findClass_of_methodNamed B.named
  have hlocks := B.notSynchronized
  subst hsz
  have hD := hD0.self (sz := s.heap.size)
  generalize hAe : va_A [(h1, .inl (cJ, n, .inr (.inl w)))] s.heap.size = A at hD ⊢
  have hA : ∀ q : Nat, s.heap.size ≤ q → A q := fun q h => by rw [← hAe]; exact Or.inr h
  have hS : va_S A s.heap s.heap [] := va_S.rf
  have hl := lv_entry ([.ref h1, .long v]) (n := 5) (Nat.le_of_ble_eq_true rfl)
  rw [lg_entry_eq]
  generalize (lg_sl ([.ref h1, .long v]) ++ List.replicate (5 - (lg_sl ([.ref h1, .long v])).length) Slot.unset).toArray = ls at hl ⊢
  have hl : lv_has ls 5 [(0, .ref h1), (1, .long v)] := hl
  have hK2 : kK D cI cJ cZ s := ⟨hK, hN⟩
  clear hD0
  refine lv_iconst (v := (nI 0)) hx hb dJ7_fill_d0a16_0 (by decide) ?_
  refine lv_istore_n (lv' := [(3, .int (nI 0)), (0, .ref h1), (1, .long v)]) hx hb dJ7_fill_d0a16_1 rfl hl (by decide) rfl (fun ls hl => ?_)
  refine lv_aload_n hx hb dJ7_fill_d0a16_2 rfl (lv_at hl 1 rfl) ?_
  refine va_alen hx hb hK hP 0 1 rfl rfl (v := nI n) rfl dJ7_fill_d0a16_3 ?_
  refine lv_istore (lv' := [(4, .int (nI n)), (3, .int (nI 0)), (0, .ref h1), (1, .long v)]) hx hb dJ7_fill_d0a16_4 hl (by decide) rfl (fun ls hl => ?_)
  refine kw_loop (σ := Nat × (Nat → Int64)) (fun zz H locs ls => match zz with | (k, g) => va_P D vwCl [(h1, .inl (cJ, n, .inr (.inl g)))] H ∧ va_D A [(h1, .inl (cJ, n, .inr (.inl g)))] ∧ va_S A s.heap H locs ∧ lv_has ls 5 [(0, .ref h1), (1, .long v), (3, .int (nI k)), (4, .int (nI n))] ∧ (k ≤ n) ∧ (∀ i, i < k → g i = v)) (fun zz => match zz with | (k, g) => n - k) (0, w) ⟨hP, hD, hS, lv_sub hl [2, 3, 1, 0] rfl, Nat.zero_le _, fun i hi => absurd hi (Nat.not_lt_zero i)⟩ ?_
  clear hP hD hS hl
  rintro ⟨k, g⟩ H locs ls ⟨hP, hD, hS, hl, hk, hg⟩ ih_6
  have hP : va_P D vwCl [(h1, .inl (cJ, n, .inr (.inl g)))] H := hP
  have hD : va_D A [(h1, .inl (cJ, n, .inr (.inl g)))] := hD
  have hl : lv_has ls 5 [(0, .ref h1), (1, .long v), (3, .int (nI k)), (4, .int (nI n))] := hl
  have hk : k ≤ n := hk
  have hg : ∀ i, i < k → g i = v := hg
  refine lv_iload_n hx hb dJ7_fill_d0a16_6 rfl (lv_at hl 2 rfl) ?_
  refine lv_iload hx hb dJ7_fill_d0a16_7 (lv_at hl 3 rfl) ?_
  refine kw_icmp_ge (tgt := 22) hx hb dJ7_fill_d0a16_9 (by decide) (by omega) (by omega) (fun c_9_1 => ?_) (fun c_9_1 => ?_)
  · exact W.vret hx hb hr (fun t ht hW => ⟨⟨g, rfl, fun i hi => hg i (by omega), by rw [ht]; exact hP, hD⟩, hS.F ht⟩) hS.2.2 dJ7_fill_d0a16_22
  · refine lv_aload_n hx hb dJ7_fill_d0a16_12 rfl (lv_at hl 0 rfl) ?_
    refine lv_iload_n hx hb dJ7_fill_d0a16_13 rfl (lv_at hl 2 rfl) ?_
    refine lv_lload_n hx hb dJ7_fill_d0a16_14 rfl (lv_at hl 1 rfl) ?_
    refine va_last hx hb hK hP hD hS 0 1 rfl rfl (vp_in_nI (by omega) (by omega)) dJ7_fill_d0a16_15 (fun H locs hP hD hS => ?_)
    rw [nI_clamp (by omega)] at hP hD
    have hP : va_P D vwCl [(h1, .inl (cJ, n, .inr (.inl (vp_updL g k v))))] H := hP
    have hD : va_D A [(h1, .inl (cJ, n, .inr (.inl (vp_updL g k v))))] := hD
    refine lv_iinc (v := (nI (k + 1))) (lv' := [(3, .int (nI (k + 1))), (0, .ref h1), (1, .long v), (4, .int (nI n))]) hx hb dJ7_fill_d0a16_16 hl (k := 2) rfl (k_inc _ 1) (by decide) rfl (fun ls hl => ?_)
    refine lv_goto (tgt := 6) hx hb dJ7_fill_d0a16_19 (by decide) ?_
    exact ih_6 ((k + 1), (vp_updL g k v)) _ _ _ (by show n - (k + 1) < n - k; omega) ⟨hP, hD, hS, lv_sub hl [1, 2, 0, 3] rfl, by omega, kf_put hg⟩

theorem kiX3_forget_X3 : ∀ w ∈ u_ws RX3 TX3 1, w ∈ wsX3_forget := fun w h => List.mem_cons_of_mem _ (List.mem_append_right _ h)
set_option maxHeartbeats 4000000 in
set_option maxRecDepth 100000 in
theorem c_M_forget (l : Launch) (D : va_G) (cI cJ cZ : ClassId) (h0 h1 n : Nat) (w : Nat → Int64) (qn : n < 2 ^ 31) (sz : Nat) : kMV l yX3_forget wsX3_forget 1 24 D cI cJ cZ [.ref h0] [(h0, .inr (3, [.ref h1])), (h1, .inl (cJ, n, .inr (.inl w)))] sz (fun (g : Nat → Int64) => ∀ i, i < n → g i = 0) (fun g : Nat → Int64 => [(h0, .inr (3, [.ref h1])), (h1, .inl (cJ, n, .inr (.inl g)))]) := by
  refine Met.ofW (cc := cX3_forget) (maxL := 1) (ret := none) (by decide) rfl ?_
  intro p e s m args below meth c s₁ B hml hv
  obtain ⟨rfl, hsz, hP, ⟨hK, hN⟩, hD0⟩ := hv
  have hx := B.exec
  have hb := B.bytes
  have hr := B.returns
  have hts := atoms_spec (ws := wsX3_forget) B.pre
  have hown : s.vm.findClass RX3 = some m.cls := findClass_of_methodNamed B.named
  have hlocks := B.notSynchronized
  subst hsz
  have hD := hD0.self (sz := s.heap.size)
  generalize hAe : va_A [(h0, .inr (3, [.ref h1])), (h1, .inl (cJ, n, .inr (.inl w)))] s.heap.size = A at hD ⊢
  have hA : ∀ q : Nat, s.heap.size ≤ q → A q := fun q h => by rw [← hAe]; exact Or.inr h
  have hS : va_S A s.heap s.heap [] := va_S.rf
  have hl := lv_entry ([.ref h0]) (n := 1) (Nat.le_of_ble_eq_true rfl)
  rw [lg_entry_eq]
  generalize (lg_sl ([.ref h0]) ++ List.replicate (1 - (lg_sl ([.ref h0])).length) Slot.unset).toArray = ls at hl ⊢
  have hl : lv_has ls 1 [(0, .ref h0)] := hl
  have hK2 : kK D cI cJ cZ s := ⟨hK, hN⟩
  clear hD0
  refine lv_aload_n hx hb dX3_forget_0 rfl (lv_at hl 0 rfl) ?_
  refine va_get (D := D) (ci := 3) (v := .ref h1) (C := RX3) (T := TX3) (N := 1) hx hb hts kiX3_forget_X3 hown hK hP 0 rfl rfl 0 (by decide) (hts (.fieldLink RX3 13 "TwoBanks$Marks" "words" "[J") (List.mem_of_getElem? (i := 1) rfl)) (fun _ h9 => h9) rfl dX3_forget_1 ?_
  refine lv_lconst (v := 0) hx hb dX3_forget_4 (by decide) ?_
  refine k_callv (wr := [(h0, .inr (3, [.ref h1]))]) (w2 := (fun g : Nat → Int64 => [(h0, .inr (3, [.ref h1])), (h1, .inl (cJ, n, .inr (.inl g)))])) (va_runS (As := [.ref h1, .long 0]) (rest := []) ⟨hx, hb, hml, hown, hts⟩ (c_fill l D cI cJ cZ h1 n w 0 qn  s.heap.size) (va_cwS 2 hts gX3_forget_J7_fill_d0a16 rfl rfl rfl (by decide +kernel) ⟨Nat.le_of_ble_eq_true rfl, Nat.le_of_ble_eq_true rfl⟩) (kPS (wc := [(h1, .inl (cJ, n, .inr (.inl w)))]) hK2 hP hD [1] rfl (by decide)) rfl rfl hl.1 rfl (lv_room (Nat.le_of_ble_eq_true rfl)) dX3_forget_5 ⟨Nat.le_of_ble_eq_true rfl, Nat.le_of_ble_eq_true rfl⟩) hP hD hS hA [1] [0] [0, 1] rfl rfl (by decide) (by decide) (fun _ => rfl) (by decide) (fun u_2 H locs hw_2 hP hD hS => ?_)
  obtain ⟨g_1, rfl⟩ : ∃ z, z = u_2 := ⟨_, rfl⟩
  have hP : va_P D vwCl [(h0, .inr (3, [.ref h1])), (h1, .inl (cJ, n, .inr (.inl g_1)))] H := hP
  have hD : va_D A [(h0, .inr (3, [.ref h1])), (h1, .inl (cJ, n, .inr (.inl g_1)))] := hD
  exact W.vret hx hb hr (fun t ht hW => ⟨⟨g_1, rfl, hw_2, by rw [ht]; exact hP, hD⟩, hS.F ht⟩) hS.2.2 dX3_forget_8

theorem kiX3_has_X3 : ∀ w ∈ u_ws RX3 TX3 1, w ∈ wsX3_has := fun w h => List.mem_cons_of_mem _ (List.mem_append_right _ h)
set_option maxHeartbeats 4000000 in
set_option maxRecDepth 100000 in
theorem c_M_has (l : Launch) (D : va_G) (cI cJ cZ : ClassId) (h0 h1 n : Nat) (w : Nat → Int64) (i : Nat) (qi : i < 2 ^ 31) (qn : n < 2 ^ 31) (sz : Nat) : kMI l yX3_has wsX3_has 1 20 D cI cJ cZ [.ref h0, .int (nI i)] [(h0, .inr (3, [.ref h1])), (h1, .inl (cJ, n, .inr (.inl w)))] sz (fun r (_ : Unit) => (r = nI 1 ∧ mHas n w i) ∨ (r = nI 0 ∧ ¬ mHas n w i)) (fun _ : Unit => [(h0, .inr (3, [.ref h1])), (h1, .inl (cJ, n, .inr (.inl w)))]) := by
  refine Met.ofW (cc := cX3_has) (maxL := 3) (ret := (some .boolean)) (by decide) rfl ?_
  intro p e s m args below meth c s₁ B hml hv
  obtain ⟨rfl, hsz, hP, ⟨hK, hN⟩, hD0⟩ := hv
  have hx := B.exec
  have hb := B.bytes
  have hr := B.returns
  have hts := atoms_spec (ws := wsX3_has) B.pre
  have hown : s.vm.findClass RX3 = some m.cls := findClass_of_methodNamed B.named
  have hlocks := B.notSynchronized
  subst hsz
  have hD := hD0.self (sz := s.heap.size)
  generalize hAe : va_A [(h0, .inr (3, [.ref h1])), (h1, .inl (cJ, n, .inr (.inl w)))] s.heap.size = A at hD ⊢
  have hA : ∀ q : Nat, s.heap.size ≤ q → A q := fun q h => by rw [← hAe]; exact Or.inr h
  have hS : va_S A s.heap s.heap [] := va_S.rf
  have hl := lv_entry ([.ref h0, .int (nI i)]) (n := 3) (Nat.le_of_ble_eq_true rfl)
  rw [lg_entry_eq]
  generalize (lg_sl ([.ref h0, .int (nI i)]) ++ List.replicate (3 - (lg_sl ([.ref h0, .int (nI i)])).length) Slot.unset).toArray = ls at hl ⊢
  have hl : lv_has ls 3 [(0, .ref h0), (1, .int (nI i))] := hl
  have hK2 : kK D cI cJ cZ s := ⟨hK, hN⟩
  clear hD0
  refine lv_iload_n hx hb dX3_has_0 rfl (lv_at hl 1 rfl) ?_
  refine lv_bipush (v := (nI 6)) hx hb dX3_has_1 (by decide) ?_
  refine lv_ishr hx hb dX3_has_3 ?_
  refine k_toi (kb_sh qi) ?_
  refine lv_istore_n (lv' := [(2, .int (nI (i / 64))), (0, .ref h0), (1, .int (nI i))]) hx hb dX3_has_4 rfl hl (by decide) rfl (fun ls hl => ?_)
  refine lv_iload_n hx hb dX3_has_5 rfl (lv_at hl 0 rfl) ?_
  refine kw_if_lt (tgt := 41) hx hb dX3_has_6 (by decide) (by omega) (fun c_6_1 => False.elim c_6_1) (fun c_6_1 => ?_)
  refine lv_iload_n hx hb dX3_has_9 rfl (lv_at hl 0 rfl) ?_
  refine lv_aload_n hx hb dX3_has_10 rfl (lv_at hl 1 rfl) ?_
  refine va_get (D := D) (ci := 3) (v := .ref h1) (C := RX3) (T := TX3) (N := 1) hx hb hts kiX3_has_X3 hown hK hP 0 rfl rfl 0 (by decide) (hts (.fieldLink RX3 13 "TwoBanks$Marks" "words" "[J") (List.mem_of_getElem? (i := 1) rfl)) (fun _ h9 => h9) rfl dX3_has_11 ?_
  refine va_alen hx hb hK hP 1 1 rfl rfl (v := nI n) rfl dX3_has_14 ?_
  refine kw_icmp_ge (tgt := 41) hx hb dX3_has_15 (by decide) (by omega) (by omega) (fun c_15_2 => ?_) (fun c_15_2 => ?_)
  · refine lv_iconst (v := (nI 0)) hx hb dX3_has_41 (by decide) ?_
    exact W.zret (v := (nI 0)) hx hb hr (by first | decide +kernel | assumption | exact kz_narr (by first | assumption | omega)) (fun t ht hW => ⟨⟨(nI 0), (), rfl, Or.inr ⟨rfl, (by first | exact fun h => absurd h.1 (by omega) | exact fun h => h.2 (by assumption))⟩, by rw [ht]; exact hP, hD⟩, hS.F ht⟩) hS.2.2 dX3_has_42
  · refine lv_aload_n hx hb dX3_has_18 rfl (lv_at hl 1 rfl) ?_
    refine va_get (D := D) (ci := 3) (v := .ref h1) (C := RX3) (T := TX3) (N := 1) hx hb hts kiX3_has_X3 hown hK hP 0 rfl rfl 0 (by decide) (hts (.fieldLink RX3 13 "TwoBanks$Marks" "words" "[J") (List.mem_of_getElem? (i := 1) rfl)) (fun _ h9 => h9) rfl dX3_has_19 ?_
    refine lv_iload_n hx hb dX3_has_22 rfl (lv_at hl 0 rfl) ?_
    refine va_lald hx hb hK hP 1 1 rfl rfl (vp_in_nI (by omega) (by omega)) dX3_has_23 ?_
    refine k_tol (y := w (i / 64)) (congrArg w (nI_clamp (by omega))) ?_
    refine lv_iload_n hx hb dX3_has_24 rfl (lv_at hl 2 rfl) ?_
    refine lv_bipush (v := (nI 63)) hx hb dX3_has_25 (by decide) ?_
    refine lv_iand hx hb dX3_has_27 ?_
    refine k_toi (kb_an qi) ?_
    refine k_calll (wr := [(h0, .inr (3, [.ref h1])), (h1, .inl (cJ, n, .inr (.inl w)))]) (w2 := (fun _ : Unit => [(h0, .inr (3, [.ref h1])), (h1, .inl (cJ, n, .inr (.inl w)))])) (va_runSN (As := [.int (nI (i % 64))]) (rest := [.long (w (i / 64))]) ⟨hx, hb, hml, hown, hts⟩ (c_bit l D cI cJ cZ (nI (i % 64))  s.heap.size) ⟨va_cnB 1 hts gX3_has_X5_bit_n25 rfl rfl rfl (kN_X3_25 hN) (hts (.initialized RX5) (List.mem_of_getElem? (i := 3) rfl)) (by decide +kernel) ⟨Nat.le_of_ble_eq_true rfl, Nat.le_of_ble_eq_true rfl⟩, (hts (.static yX5_bit) (List.mem_of_getElem? (i := 2) rfl)), trivial⟩ (kPS (wc := []) hK2 hP hD [] rfl (by decide)) rfl rfl hl.1 rfl (lv_room (Nat.le_of_ble_eq_true rfl)) dX3_has_28 ⟨Nat.le_of_ble_eq_true rfl, Nat.le_of_ble_eq_true rfl⟩) hP hD hS hA [] [0, 1] [0, 1] rfl rfl (by decide) (by decide) (fun _ => rfl) (by decide) (fun r_3 u_3 H locs hw_3 hP hD hS => ?_)
    have hP : va_P D vwCl [(h0, .inr (3, [.ref h1])), (h1, .inl (cJ, n, .inr (.inl w)))] H := hP
    have hD : va_D A [(h0, .inr (3, [.ref h1])), (h1, .inl (cJ, n, .inr (.inl w)))] := hD
    subst hw_3
    refine lv_land hx hb dX3_has_31 ?_
    refine lv_lconst (v := 0) hx hb dX3_has_32 (by decide) ?_
    refine W.lcmp hx hb dX3_has_33 ?_
    refine kw_cmp_eq (tgt := 41) hx hb dX3_has_34 (by decide) (fun c_34_4 => ?_) (fun c_34_4 => ?_)
    · refine lv_iconst (v := (nI 0)) hx hb dX3_has_41 (by decide) ?_
      exact W.zret (v := (nI 0)) hx hb hr (by first | decide +kernel | assumption | exact kz_narr (by first | assumption | omega)) (fun t ht hW => ⟨⟨(nI 0), (), rfl, Or.inr ⟨rfl, (by first | exact fun h => absurd h.1 (by omega) | exact fun h => h.2 (by assumption))⟩, by rw [ht]; exact hP, hD⟩, hS.F ht⟩) hS.2.2 dX3_has_42
    · refine lv_iconst (v := (nI 1)) hx hb dX3_has_37 (by decide) ?_
      refine lv_goto (tgt := 42) hx hb dX3_has_38 (by decide) ?_
      exact W.zret (v := (nI 1)) hx hb hr (by first | decide +kernel | assumption | exact kz_narr (by first | assumption | omega)) (fun t ht hW => ⟨⟨(nI 1), (), rfl, Or.inl ⟨rfl, ⟨by omega, by assumption⟩⟩, by rw [ht]; exact hP, hD⟩, hS.F ht⟩) hS.2.2 dX3_has_42

theorem kiX3_mark_X3 : ∀ w ∈ u_ws RX3 TX3 1, w ∈ wsX3_mark := fun w h => List.mem_cons_of_mem _ (List.mem_append_right _ h)
set_option maxHeartbeats 4000000 in
set_option maxRecDepth 100000 in
theorem c_M_mark (l : Launch) (D : va_G) (cI cJ cZ : ClassId) (h0 h1 n : Nat) (w : Nat → Int64) (i : Nat) (qi : i < 2 ^ 31) (qn : n < 2 ^ 31) (qin : i / 64 < n) (sz : Nat) : kMV l yX3_mark wsX3_mark 1 20 D cI cJ cZ [.ref h0, .int (nI i)] [(h0, .inr (3, [.ref h1])), (h1, .inl (cJ, n, .inr (.inl w)))] sz (fun (_ : Unit) => True) (fun _ : Unit => [(h0, .inr (3, [.ref h1])), (h1, .inl (cJ, n, .inr (.inl (mSet w i))))]) := by
  refine Met.ofW (cc := cX3_mark) (maxL := 3) (ret := none) (by decide) rfl ?_
  intro p e s m args below meth c s₁ B hml hv
  obtain ⟨rfl, hsz, hP, ⟨hK, hN⟩, hD0⟩ := hv
  have hx := B.exec
  have hb := B.bytes
  have hr := B.returns
  have hts := atoms_spec (ws := wsX3_mark) B.pre
  have hown : s.vm.findClass RX3 = some m.cls := findClass_of_methodNamed B.named
  have hlocks := B.notSynchronized
  subst hsz
  have hD := hD0.self (sz := s.heap.size)
  generalize hAe : va_A [(h0, .inr (3, [.ref h1])), (h1, .inl (cJ, n, .inr (.inl w)))] s.heap.size = A at hD ⊢
  have hA : ∀ q : Nat, s.heap.size ≤ q → A q := fun q h => by rw [← hAe]; exact Or.inr h
  have hS : va_S A s.heap s.heap [] := va_S.rf
  have hl := lv_entry ([.ref h0, .int (nI i)]) (n := 3) (Nat.le_of_ble_eq_true rfl)
  rw [lg_entry_eq]
  generalize (lg_sl ([.ref h0, .int (nI i)]) ++ List.replicate (3 - (lg_sl ([.ref h0, .int (nI i)])).length) Slot.unset).toArray = ls at hl ⊢
  have hl : lv_has ls 3 [(0, .ref h0), (1, .int (nI i))] := hl
  have hK2 : kK D cI cJ cZ s := ⟨hK, hN⟩
  clear hD0
  refine lv_iload_n hx hb dX3_mark_0 rfl (lv_at hl 1 rfl) ?_
  refine lv_bipush (v := (nI 6)) hx hb dX3_mark_1 (by decide) ?_
  refine lv_ishr hx hb dX3_mark_3 ?_
  refine k_toi (kb_sh qi) ?_
  refine lv_istore_n (lv' := [(2, .int (nI (i / 64))), (0, .ref h0), (1, .int (nI i))]) hx hb dX3_mark_4 rfl hl (by decide) rfl (fun ls hl => ?_)
  refine lv_iload_n hx hb dX3_mark_5 rfl (lv_at hl 0 rfl) ?_
  refine kw_if_lt (tgt := 34) hx hb dX3_mark_6 (by decide) (by omega) (fun c_6_1 => False.elim c_6_1) (fun c_6_1 => ?_)
  refine lv_iload_n hx hb dX3_mark_9 rfl (lv_at hl 0 rfl) ?_
  refine lv_aload_n hx hb dX3_mark_10 rfl (lv_at hl 1 rfl) ?_
  refine va_get (D := D) (ci := 3) (v := .ref h1) (C := RX3) (T := TX3) (N := 1) hx hb hts kiX3_mark_X3 hown hK hP 0 rfl rfl 0 (by decide) (hts (.fieldLink RX3 13 "TwoBanks$Marks" "words" "[J") (List.mem_of_getElem? (i := 1) rfl)) (fun _ h9 => h9) rfl dX3_mark_11 ?_
  refine va_alen hx hb hK hP 1 1 rfl rfl (v := nI n) rfl dX3_mark_14 ?_
  refine kw_icmp_ge (tgt := 34) hx hb dX3_mark_15 (by decide) (by omega) (by omega) (fun c_15_2 => absurd c_15_2 (by omega)) (fun c_15_2 => ?_)
  refine lv_aload_n hx hb dX3_mark_18 rfl (lv_at hl 1 rfl) ?_
  refine va_get (D := D) (ci := 3) (v := .ref h1) (C := RX3) (T := TX3) (N := 1) hx hb hts kiX3_mark_X3 hown hK hP 0 rfl rfl 0 (by decide) (hts (.fieldLink RX3 13 "TwoBanks$Marks" "words" "[J") (List.mem_of_getElem? (i := 1) rfl)) (fun _ h9 => h9) rfl dX3_mark_19 ?_
  refine lv_iload_n hx hb dX3_mark_22 rfl (lv_at hl 0 rfl) ?_
  refine lv_dup2_11 hx hb dX3_mark_23 rfl rfl ?_
  refine va_lald hx hb hK hP 1 1 rfl rfl (vp_in_nI (by omega) (by omega)) dX3_mark_24 ?_
  refine k_tol (y := w (i / 64)) (congrArg w (nI_clamp (by omega))) ?_
  refine lv_iload_n hx hb dX3_mark_25 rfl (lv_at hl 2 rfl) ?_
  refine lv_bipush (v := (nI 63)) hx hb dX3_mark_26 (by decide) ?_
  refine lv_iand hx hb dX3_mark_28 ?_
  refine k_toi (kb_an qi) ?_
  refine k_calll (wr := [(h0, .inr (3, [.ref h1])), (h1, .inl (cJ, n, .inr (.inl w)))]) (w2 := (fun _ : Unit => [(h0, .inr (3, [.ref h1])), (h1, .inl (cJ, n, .inr (.inl w)))])) (va_runSN (As := [.int (nI (i % 64))]) (rest := [.long (w (i / 64)), .int (nI (i / 64)), .ref h1]) ⟨hx, hb, hml, hown, hts⟩ (c_bit l D cI cJ cZ (nI (i % 64))  s.heap.size) ⟨va_cnB 1 hts gX3_mark_X5_bit_n25 rfl rfl rfl (kN_X3_25 hN) (hts (.initialized RX5) (List.mem_of_getElem? (i := 3) rfl)) (by decide +kernel) ⟨Nat.le_of_ble_eq_true rfl, Nat.le_of_ble_eq_true rfl⟩, (hts (.static yX5_bit) (List.mem_of_getElem? (i := 2) rfl)), trivial⟩ (kPS (wc := []) hK2 hP hD [] rfl (by decide)) rfl rfl hl.1 rfl (lv_room (Nat.le_of_ble_eq_true rfl)) dX3_mark_29 ⟨Nat.le_of_ble_eq_true rfl, Nat.le_of_ble_eq_true rfl⟩) hP hD hS hA [] [0, 1] [0, 1] rfl rfl (by decide) (by decide) (fun _ => rfl) (by decide) (fun r_3 u_3 H locs hw_3 hP hD hS => ?_)
  have hP : va_P D vwCl [(h0, .inr (3, [.ref h1])), (h1, .inl (cJ, n, .inr (.inl w)))] H := hP
  have hD : va_D A [(h0, .inr (3, [.ref h1])), (h1, .inl (cJ, n, .inr (.inl w)))] := hD
  subst hw_3
  refine lv_lor hx hb dX3_mark_32 ?_
  refine va_last hx hb hK hP hD hS 1 1 rfl rfl (vp_in_nI (by omega) (by omega)) dX3_mark_33 (fun H locs hP hD hS => ?_)
  rw [nI_clamp (by omega)] at hP hD
  have hP : va_P D vwCl [(h0, .inr (3, [.ref h1])), (h1, .inl (cJ, n, .inr (.inl (vp_updL w (i / 64) ((w (i / 64)) ||| (gBit (nI (i % 64))))))))] H := hP
  have hD : va_D A [(h0, .inr (3, [.ref h1])), (h1, .inl (cJ, n, .inr (.inl (vp_updL w (i / 64) ((w (i / 64)) ||| (gBit (nI (i % 64))))))))] := hD
  exact W.vret hx hb hr (fun t ht hW => ⟨⟨(), rfl, trivial, by rw [ht]; exact hP, hD⟩, hS.F ht⟩) hS.2.2 dX3_mark_34

theorem kiX4_forget_X4 : ∀ w ∈ u_ws RX4 TX4 3, w ∈ wsX4_forget := fun w h => List.mem_cons_of_mem _ (List.mem_append_right _ h)
set_option maxHeartbeats 4000000 in
set_option maxRecDepth 100000 in
theorem c_P_forget (l : Launch) (D : va_G) (cI cJ cZ : ClassId) (h0 h1 h2 : Nat) (ln : Nat) (lay : Nat → Int64) (fs : Nat → Int32) (sz : Nat) : kMV l yX4_forget wsX4_forget 0 0 D cI cJ cZ [.ref h0] [(h0, .inr (4, [.ref h1, .ref h2, .int (nI ln)])), (h1, .inl (cJ, 36, .inr (.inl lay))), (h2, .inl (cI, 36, .inl fs))] sz (fun (_ : Unit) => True) (fun _ : Unit => [(h0, .inr (4, [.ref h1, .ref h2, .int (nI 0)])), (h1, .inl (cJ, 36, .inr (.inl lay))), (h2, .inl (cI, 36, .inl fs))]) := by
  refine Met.ofW (cc := cX4_forget) (maxL := 1) (ret := none) (by decide) rfl ?_
  intro p e s m args below meth c s₁ B hml hv
  obtain ⟨rfl, hsz, hP, ⟨hK, hN⟩, hD0⟩ := hv
  have hx := B.exec
  have hb := B.bytes
  have hr := B.returns
  have hts := atoms_spec (ws := wsX4_forget) B.pre
  have hown : s.vm.findClass RX4 = some m.cls := findClass_of_methodNamed B.named
  have hlocks := B.notSynchronized
  subst hsz
  have hD := hD0.self (sz := s.heap.size)
  generalize hAe : va_A [(h0, .inr (4, [.ref h1, .ref h2, .int (nI ln)])), (h1, .inl (cJ, 36, .inr (.inl lay))), (h2, .inl (cI, 36, .inl fs))] s.heap.size = A at hD ⊢
  have hA : ∀ q : Nat, s.heap.size ≤ q → A q := fun q h => by rw [← hAe]; exact Or.inr h
  have hS : va_S A s.heap s.heap [] := va_S.rf
  have hl := lv_entry ([.ref h0]) (n := 1) (Nat.le_of_ble_eq_true rfl)
  rw [lg_entry_eq]
  generalize (lg_sl ([.ref h0]) ++ List.replicate (1 - (lg_sl ([.ref h0])).length) Slot.unset).toArray = ls at hl ⊢
  have hl : lv_has ls 1 [(0, .ref h0)] := hl
  have hK2 : kK D cI cJ cZ s := ⟨hK, hN⟩
  clear hD0
  refine lv_aload_n hx hb dX4_forget_0 rfl (lv_at hl 0 rfl) ?_
  refine lv_iconst (v := (nI 0)) hx hb dX4_forget_1 (by decide) ?_
  refine va_put (D := D) (ci := 4) (v := .int (nI 0)) (ty := .int) (C := RX4) (T := TX4) (N := 3) hx hb hts kiX4_forget_X4 tyX4 tyX4_ok nmX4 hown hK hP hD hS 0 rfl rfl 2 (by decide) (hts (.fieldLink RX4 19 "TwoBanks$Path" "length" "I") (List.mem_of_getElem? (i := 1) rfl)) (fun _ h9 => h9) rfl  (by decide +kernel) rfl rfl (Nat.le_of_ble_eq_true rfl) dX4_forget_2 (fun H locs hP hD hS => ?_)
  have hP : va_P D vwCl [(h0, .inr (4, [.ref h1, .ref h2, .int (nI 0)])), (h1, .inl (cJ, 36, .inr (.inl lay))), (h2, .inl (cI, 36, .inl fs))] H := hP
  have hD : va_D A [(h0, .inr (4, [.ref h1, .ref h2, .int (nI 0)])), (h1, .inl (cJ, 36, .inr (.inl lay))), (h2, .inl (cI, 36, .inl fs))] := hD
  exact W.vret hx hb hr (fun t ht hW => ⟨⟨(), rfl, trivial, by rw [ht]; exact hP, hD⟩, hS.F ht⟩) hS.2.2 dX4_forget_5

theorem kiX4_length_X4 : ∀ w ∈ u_ws RX4 TX4 3, w ∈ wsX4_length := fun w h => List.mem_cons_of_mem _ (List.mem_append_right _ h)
set_option maxHeartbeats 4000000 in
set_option maxRecDepth 100000 in
theorem c_P_length (l : Launch) (D : va_G) (cI cJ cZ : ClassId) (h0 h1 h2 : Nat) (ln : Nat) (lay : Nat → Int64) (fs : Nat → Int32) (sz : Nat) : kMI l yX4_length wsX4_length 0 0 D cI cJ cZ [.ref h0] [(h0, .inr (4, [.ref h1, .ref h2, .int (nI ln)])), (h1, .inl (cJ, 36, .inr (.inl lay))), (h2, .inl (cI, 36, .inl fs))] sz (fun r (_ : Unit) => r = nI ln) (fun _ : Unit => [(h0, .inr (4, [.ref h1, .ref h2, .int (nI ln)])), (h1, .inl (cJ, 36, .inr (.inl lay))), (h2, .inl (cI, 36, .inl fs))]) := by
  refine Met.ofW (cc := cX4_length) (maxL := 1) (ret := (some .int)) (by decide) rfl ?_
  intro p e s m args below meth c s₁ B hml hv
  obtain ⟨rfl, hsz, hP, ⟨hK, hN⟩, hD0⟩ := hv
  have hx := B.exec
  have hb := B.bytes
  have hr := B.returns
  have hts := atoms_spec (ws := wsX4_length) B.pre
  have hown : s.vm.findClass RX4 = some m.cls := findClass_of_methodNamed B.named
  have hlocks := B.notSynchronized
  subst hsz
  have hD := hD0.self (sz := s.heap.size)
  generalize hAe : va_A [(h0, .inr (4, [.ref h1, .ref h2, .int (nI ln)])), (h1, .inl (cJ, 36, .inr (.inl lay))), (h2, .inl (cI, 36, .inl fs))] s.heap.size = A at hD ⊢
  have hA : ∀ q : Nat, s.heap.size ≤ q → A q := fun q h => by rw [← hAe]; exact Or.inr h
  have hS : va_S A s.heap s.heap [] := va_S.rf
  have hl := lv_entry ([.ref h0]) (n := 1) (Nat.le_of_ble_eq_true rfl)
  rw [lg_entry_eq]
  generalize (lg_sl ([.ref h0]) ++ List.replicate (1 - (lg_sl ([.ref h0])).length) Slot.unset).toArray = ls at hl ⊢
  have hl : lv_has ls 1 [(0, .ref h0)] := hl
  have hK2 : kK D cI cJ cZ s := ⟨hK, hN⟩
  clear hD0
  refine lv_aload_n hx hb dX4_length_0 rfl (lv_at hl 0 rfl) ?_
  refine va_get (D := D) (ci := 4) (v := .int (nI ln)) (C := RX4) (T := TX4) (N := 3) hx hb hts kiX4_length_X4 hown hK hP 0 rfl rfl 2 (by decide) (hts (.fieldLink RX4 19 "TwoBanks$Path" "length" "I") (List.mem_of_getElem? (i := 1) rfl)) (fun _ h9 => h9) rfl dX4_length_1 ?_
  exact W.iret (v := (nI ln)) hx hb hr (fun t ht hW => ⟨⟨(nI ln), (), rfl, rfl, by rw [ht]; exact hP, hD⟩, hS.F ht⟩) hS.2.2 dX4_length_4

theorem kiX4_field_X4 : ∀ w ∈ u_ws RX4 TX4 3, w ∈ wsX4_field := fun w h => List.mem_cons_of_mem _ (List.mem_append_right _ h)
set_option maxHeartbeats 4000000 in
set_option maxRecDepth 100000 in
theorem c_P_field (l : Launch) (D : va_G) (cI cJ cZ : ClassId) (h0 h1 h2 : Nat) (ln : Nat) (lay : Nat → Int64) (fs : Nat → Int32) (i : Int32) (qln : ln ≤ 36) (sz : Nat) : kMI l yX4_field wsX4_field 0 0 D cI cJ cZ [.ref h0, .int i] [(h0, .inr (4, [.ref h1, .ref h2, .int (nI ln)])), (h1, .inl (cJ, 36, .inr (.inl lay))), (h2, .inl (cI, 36, .inl fs))] sz (fun r (_ : Unit) => (∃ k, k < ln ∧ i = nI k ∧ r = fs k) ∨ (¬ fIn ln i ∧ r = -1)) (fun _ : Unit => [(h0, .inr (4, [.ref h1, .ref h2, .int (nI ln)])), (h1, .inl (cJ, 36, .inr (.inl lay))), (h2, .inl (cI, 36, .inl fs))]) := by
  refine Met.ofW (cc := cX4_field) (maxL := 2) (ret := (some .int)) (by decide) rfl ?_
  intro p e s m args below meth c s₁ B hml hv
  obtain ⟨rfl, hsz, hP, ⟨hK, hN⟩, hD0⟩ := hv
  have hx := B.exec
  have hb := B.bytes
  have hr := B.returns
  have hts := atoms_spec (ws := wsX4_field) B.pre
  have hown : s.vm.findClass RX4 = some m.cls := findClass_of_methodNamed B.named
  have hlocks := B.notSynchronized
  subst hsz
  have hD := hD0.self (sz := s.heap.size)
  generalize hAe : va_A [(h0, .inr (4, [.ref h1, .ref h2, .int (nI ln)])), (h1, .inl (cJ, 36, .inr (.inl lay))), (h2, .inl (cI, 36, .inl fs))] s.heap.size = A at hD ⊢
  have hA : ∀ q : Nat, s.heap.size ≤ q → A q := fun q h => by rw [← hAe]; exact Or.inr h
  have hS : va_S A s.heap s.heap [] := va_S.rf
  have hl := lv_entry ([.ref h0, .int i]) (n := 2) (Nat.le_of_ble_eq_true rfl)
  rw [lg_entry_eq]
  generalize (lg_sl ([.ref h0, .int i]) ++ List.replicate (2 - (lg_sl ([.ref h0, .int i])).length) Slot.unset).toArray = ls at hl ⊢
  have hl : lv_has ls 2 [(0, .ref h0), (1, .int i)] := hl
  have hK2 : kK D cI cJ cZ s := ⟨hK, hN⟩
  clear hD0
  refine lv_iload_n hx hb dX4_field_0 rfl (lv_at hl 1 rfl) ?_
  refine lv_if_lt (tgt := 30) hx hb dX4_field_1 (by decide) (fun c_1_1 => ?_) (fun c_1_1 => ?_)
  · refine lv_iconst (v := (-1)) hx hb dX4_field_30 (by decide) ?_
    exact W.iret (v := (-1)) hx hb hr (fun t ht hW => ⟨⟨(-1), (), rfl, Or.inr ⟨kz_has0 qln (by first | exact Or.inl (by assumption) | exact Or.inr (by assumption)), rfl⟩, by rw [ht]; exact hP, hD⟩, hS.F ht⟩) hS.2.2 dX4_field_31
  · refine lv_iload_n hx hb dX4_field_4 rfl (lv_at hl 1 rfl) ?_
    refine lv_aload_n hx hb dX4_field_5 rfl (lv_at hl 0 rfl) ?_
    refine va_get (D := D) (ci := 4) (v := .int (nI ln)) (C := RX4) (T := TX4) (N := 3) hx hb hts kiX4_field_X4 hown hK hP 0 rfl rfl 2 (by decide) (hts (.fieldLink RX4 19 "TwoBanks$Path" "length" "I") (List.mem_of_getElem? (i := 1) rfl)) (fun _ h9 => h9) rfl dX4_field_6 ?_
    refine lv_icmp_ge (tgt := 30) hx hb dX4_field_9 (by decide) (fun c_9_2 => ?_) (fun c_9_2 => ?_)
    · refine lv_iconst (v := (-1)) hx hb dX4_field_30 (by decide) ?_
      exact W.iret (v := (-1)) hx hb hr (fun t ht hW => ⟨⟨(-1), (), rfl, Or.inr ⟨kz_has0 qln (by first | exact Or.inl (by assumption) | exact Or.inr (by assumption)), rfl⟩, by rw [ht]; exact hP, hD⟩, hS.F ht⟩) hS.2.2 dX4_field_31
    · obtain ⟨k, hk, rfl⟩ := kz_has1 qln (by assumption) (by assumption)
      refine lv_iload_n hx hb dX4_field_12 rfl (lv_at hl 1 rfl) ?_
      refine lv_aload_n hx hb dX4_field_13 rfl (lv_at hl 0 rfl) ?_
      refine va_get (D := D) (ci := 4) (v := .ref h2) (C := RX4) (T := TX4) (N := 3) hx hb hts kiX4_field_X4 hown hK hP 0 rfl rfl 1 (by decide) (hts (.fieldLink RX4 15 "TwoBanks$Path" "fields" "[I") (List.mem_of_getElem? (i := 2) rfl)) (fun _ h9 => h9) rfl dX4_field_14 ?_
      refine va_alen hx hb hK hP 2 0 rfl rfl (v := nI 36) rfl dX4_field_17 ?_
      refine kw_icmp_ge (tgt := 30) hx hb dX4_field_18 (by decide) (by omega) (by omega) (fun c_18_3 => absurd c_18_3 (by omega)) (fun c_18_3 => ?_)
      refine lv_aload_n hx hb dX4_field_21 rfl (lv_at hl 0 rfl) ?_
      refine va_get (D := D) (ci := 4) (v := .ref h2) (C := RX4) (T := TX4) (N := 3) hx hb hts kiX4_field_X4 hown hK hP 0 rfl rfl 1 (by decide) (hts (.fieldLink RX4 15 "TwoBanks$Path" "fields" "[I") (List.mem_of_getElem? (i := 2) rfl)) (fun _ h9 => h9) rfl dX4_field_22 ?_
      refine lv_iload_n hx hb dX4_field_25 rfl (lv_at hl 1 rfl) ?_
      refine va_iald hx hb hK hP 2 0 rfl rfl (vp_in_nI (by omega) (by omega)) dX4_field_26 ?_
      refine k_toi (y := fs k) (congrArg fs (nI_clamp (by omega))) ?_
      refine lv_goto (tgt := 31) hx hb dX4_field_27 (by decide) ?_
      exact W.iret (v := (fs k)) hx hb hr (fun t ht hW => ⟨⟨(fs k), (), rfl, Or.inl ⟨k, hk, rfl, rfl⟩, by rw [ht]; exact hP, hD⟩, hS.F ht⟩) hS.2.2 dX4_field_31

theorem kiX4_trace_X4 : ∀ w ∈ u_ws RX4 TX4 3, w ∈ wsX4_trace := fun w h => List.mem_cons_of_mem _ (List.mem_append_left _ (List.mem_append_right _ h))
set_option maxHeartbeats 4000000 in
set_option maxRecDepth 100000 in
theorem c_P_trace (l : Launch) (D : va_G) (cI cJ cZ : ClassId) (h0 h1 h2 hg : Nat) (lay : Nat → Int64) (fs : Nat → Int32) (R C : Nat) (x t st : Int64) (K : Nat) (hR1 : 1 ≤ R) (hR2 : R ≤ 6) (hC1 : 1 ≤ C) (hC2 : C ≤ 6) (hRC : R * C ≤ 36) (hKK : K < 36) (hlay : ∀ j, j ≤ K → lay j = (pL R C x t j).1) (sz : Nat) : kMV l yX4_trace wsX4_trace 2 42 D cI cJ cZ [.ref h0, .ref hg, .long st, .int (nI K)] [(h0, .inr (4, [.ref h1, .ref h2, .int (nI 0)])), (h1, .inl (cJ, 36, .inr (.inl lay))), (h2, .inl (cI, 36, .inl fs)), (hg, wGr R C)] sz (fun (g : Nat → Int32) => ∀ j, j ≤ K → g j = pF R C x t st K j) (fun g : Nat → Int32 => [(h0, .inr (4, [.ref h1, .ref h2, .int (nI (K + 1))])), (h1, .inl (cJ, 36, .inr (.inl lay))), (h2, .inl (cI, 36, .inl g)), (hg, wGr R C)]) := by
  refine Met.ofW (cc := cX4_trace) (maxL := 9) (ret := none) (by decide) rfl ?_
  intro p e s m args below meth c s₁ B hml hv
  obtain ⟨rfl, hsz, hP, ⟨hK, hN⟩, hD0⟩ := hv
  have hx := B.exec
  have hb := B.bytes
  have hr := B.returns
  have hts := atoms_spec (ws := wsX4_trace) B.pre
  have hown : s.vm.findClass RX4 = some m.cls := findClass_of_methodNamed B.named
  have hlocks := B.notSynchronized
  subst hsz
  have hD := hD0.self (sz := s.heap.size)
  generalize hAe : va_A [(h0, .inr (4, [.ref h1, .ref h2, .int (nI 0)])), (h1, .inl (cJ, 36, .inr (.inl lay))), (h2, .inl (cI, 36, .inl fs)), (hg, wGr R C)] s.heap.size = A at hD ⊢
  have hA : ∀ q : Nat, s.heap.size ≤ q → A q := fun q h => by rw [← hAe]; exact Or.inr h
  have hS : va_S A s.heap s.heap [] := va_S.rf
  have hl := lv_entry ([.ref h0, .ref hg, .long st, .int (nI K)]) (n := 9) (Nat.le_of_ble_eq_true rfl)
  rw [lg_entry_eq]
  generalize (lg_sl ([.ref h0, .ref hg, .long st, .int (nI K)]) ++ List.replicate (9 - (lg_sl ([.ref h0, .ref hg, .long st, .int (nI K)])).length) Slot.unset).toArray = ls at hl ⊢
  have hl : lv_has ls 9 [(0, .ref h0), (1, .ref hg), (2, .long st), (4, .int (nI K))] := hl
  have hK2 : kK D cI cJ cZ s := ⟨hK, hN⟩
  clear hD0
  refine lv_lload_n hx hb dX4_trace_0 rfl (lv_at hl 2 rfl) ?_
  refine lv_lstore (lv' := [(5, .long st), (0, .ref h0), (1, .ref hg), (2, .long st), (4, .int (nI K))]) hx hb dX4_trace_1 hl (by decide) rfl (fun ls hl => ?_)
  refine lv_iload hx hb dX4_trace_3 (lv_at hl 4 rfl) ?_
  refine lv_istore (lv' := [(7, .int (nI K)), (5, .long st), (0, .ref h0), (1, .ref hg), (2, .long st), (4, .int (nI K))]) hx hb dX4_trace_5 hl (by decide) rfl (fun ls hl => ?_)
  have hP : va_P D vwCl [(h0, .inr (4, [.ref h1, .ref h2, .int (nI (K + 1 - (K + 1)))])), (h1, .inl (cJ, 36, .inr (.inl lay))), (h2, .inl (cI, 36, .inl fs)), (hg, wGr R C)] s.heap := (by rw [Nat.sub_self]; exact hP)
  have hD : va_D A [(h0, .inr (4, [.ref h1, .ref h2, .int (nI (K + 1 - (K + 1)))])), (h1, .inl (cJ, 36, .inr (.inl lay))), (h2, .inl (cI, 36, .inl fs)), (hg, wGr R C)] := (by rw [Nat.sub_self]; exact hD)
  have hl : lv_has ls 9 [(7, .int (kPr (K + 1))), (5, .long (pO R C x t st K (K + 1 - (K + 1)))), (0, .ref h0), (1, .ref hg), (2, .long st), (4, .int (nI K))] := by rw [Nat.sub_self]; exact hl
  refine kw_loop (σ := Nat × (Nat → Int32)) (fun zz H locs ls => match zz with | (tt, g) => va_P D vwCl [(h0, .inr (4, [.ref h1, .ref h2, .int (nI (K + 1 - tt))])), (h1, .inl (cJ, 36, .inr (.inl lay))), (h2, .inl (cI, 36, .inl g)), (hg, wGr R C)] H ∧ va_D A [(h0, .inr (4, [.ref h1, .ref h2, .int (nI (K + 1 - tt))])), (h1, .inl (cJ, 36, .inr (.inl lay))), (h2, .inl (cI, 36, .inl g)), (hg, wGr R C)] ∧ va_S A s.heap H locs ∧ lv_has ls 9 [(0, .ref h0), (1, .ref hg), (5, .long (pO R C x t st K (K + 1 - tt))), (7, .int (kPr tt))] ∧ (tt ≤ K + 1) ∧ (∀ j, j < K + 1 - tt → g j = pF R C x t st K j)) (fun zz => match zz with | (tt, g) => tt) ((K + 1), fs) ⟨hP, hD, hS, lv_sub hl [2, 3, 1, 0] rfl, Nat.le_refl _, fun j hj => absurd hj (by omega)⟩ ?_
  clear hP hD hS hl
  rintro ⟨tt, g⟩ H locs ls ⟨hP, hD, hS, hl, ht, hg2⟩ ih_7
  have hP : va_P D vwCl [(h0, .inr (4, [.ref h1, .ref h2, .int (nI (K + 1 - tt))])), (h1, .inl (cJ, 36, .inr (.inl lay))), (h2, .inl (cI, 36, .inl g)), (hg, wGr R C)] H := hP
  have hD : va_D A [(h0, .inr (4, [.ref h1, .ref h2, .int (nI (K + 1 - tt))])), (h1, .inl (cJ, 36, .inr (.inl lay))), (h2, .inl (cI, 36, .inl g)), (hg, wGr R C)] := hD
  have hl : lv_has ls 9 [(0, .ref h0), (1, .ref hg), (5, .long (pO R C x t st K (K + 1 - tt))), (7, .int (kPr tt))] := hl
  have ht : tt ≤ K + 1 := ht
  have hg2 : ∀ j, j < K + 1 - tt → g j = pF R C x t st K j := hg2
  rcases tt with _ | t2
  · have hl : lv_has ls 9 [(0, .ref h0), (1, .ref hg), (5, .long (pO R C x t st K (K + 1 - 0))), (7, .int (-1))] := hl
    refine lv_iload hx hb dX4_trace_7 (lv_at hl 3 rfl) ?_
    refine lv_if_lt (tgt := 94) hx hb dX4_trace_9 (by decide) (fun c_9_1 => ?_) (fun c_9_1 => absurd c_9_1 (by decide))
    exact W.vret hx hb hr (fun t ht hW => ⟨⟨g, rfl, fun j hj => hg2 j (by omega), by rw [ht]; exact hP, hD⟩, hS.F ht⟩) hS.2.2 dX4_trace_94
  · have hl : lv_has ls 9 [(0, .ref h0), (1, .ref hg), (5, .long (pO R C x t st K (K - t2))), (7, .int (nI t2))] := by rw [show K + 1 - (t2 + 1) = K - t2 by omega] at hl; exact hl
    have hP : va_P D vwCl [(h0, .inr (4, [.ref h1, .ref h2, .int (nI (K - t2))])), (h1, .inl (cJ, 36, .inr (.inl lay))), (h2, .inl (cI, 36, .inl g)), (hg, wGr R C)] H := (by rw [show K + 1 - (t2 + 1) = K - t2 by omega] at hP; exact hP)
    have hD : va_D A [(h0, .inr (4, [.ref h1, .ref h2, .int (nI (K - t2))])), (h1, .inl (cJ, 36, .inr (.inl lay))), (h2, .inl (cI, 36, .inl g)), (hg, wGr R C)] := (by rw [show K + 1 - (t2 + 1) = K - t2 by omega] at hD; exact hD)
    have hg2 : ∀ j, j < K - t2 → g j = pF R C x t st K j := fun j hj => hg2 j (by omega)
    refine lv_iload hx hb dX4_trace_7 (lv_at hl 3 rfl) ?_
    refine kw_if_lt (tgt := 94) hx hb dX4_trace_9 (by decide) (by omega) (fun c_9_2 => False.elim c_9_2) (fun c_9_2 => ?_)
    refine lv_iload hx hb dX4_trace_12 (lv_at hl 3 rfl) ?_
    refine lv_aload_n hx hb dX4_trace_14 rfl (lv_at hl 0 rfl) ?_
    refine va_get (D := D) (ci := 4) (v := .ref h1) (C := RX4) (T := TX4) (N := 3) hx hb hts kiX4_trace_X4 hown hK hP 0 rfl rfl 0 (by decide) (hts (.fieldLink RX4 9 "TwoBanks$Path" "layers" "[J") (List.mem_of_getElem? (i := 1) rfl)) (fun _ h9 => h9) rfl dX4_trace_15 ?_
    refine va_alen hx hb hK hP 1 1 rfl rfl (v := nI 36) rfl dX4_trace_18 ?_
    refine kw_icmp_ge (tgt := 94) hx hb dX4_trace_19 (by decide) (by omega) (by omega) (fun c_19_3 => absurd c_19_3 (by omega)) (fun c_19_3 => ?_)
    refine lv_aload_n hx hb dX4_trace_22 rfl (lv_at hl 0 rfl) ?_
    refine va_get (D := D) (ci := 4) (v := .ref h1) (C := RX4) (T := TX4) (N := 3) hx hb hts kiX4_trace_X4 hown hK hP 0 rfl rfl 0 (by decide) (hts (.fieldLink RX4 9 "TwoBanks$Path" "layers" "[J") (List.mem_of_getElem? (i := 1) rfl)) (fun _ h9 => h9) rfl dX4_trace_23 ?_
    refine lv_iload hx hb dX4_trace_26 (lv_at hl 3 rfl) ?_
    refine va_lald hx hb hK hP 1 1 rfl rfl (vp_in_nI (by omega) (by omega)) dX4_trace_28 ?_
    refine k_tol (y := lay t2) (congrArg lay (nI_clamp (by omega))) ?_
    refine lv_lload hx hb dX4_trace_29 (lv_at hl 2 rfl) ?_
    refine lv_land hx hb dX4_trace_31 ?_
    refine k_calli (wr := [(h0, .inr (4, [.ref h1, .ref h2, .int (nI (K - t2))])), (h1, .inl (cJ, 36, .inr (.inl lay))), (h2, .inl (cI, 36, .inl g)), (hg, wGr R C)]) (w2 := (fun _ : Unit => [(h0, .inr (4, [.ref h1, .ref h2, .int (nI (K - t2))])), (h1, .inl (cJ, 36, .inr (.inl lay))), (h2, .inl (cI, 36, .inl g)), (hg, wGr R C)])) (va_runSN (As := [.long ((lay t2) &&& (pO R C x t st K (K - t2)))]) (rest := []) ⟨hx, hb, hml, hown, hts⟩ (c_lowest l D cI cJ cZ ((lay t2) &&& (pO R C x t st K (K - t2)))  H.size) ⟨va_cnB 1 hts gX4_trace_X5_lowest_n38 rfl rfl rfl (kN_X4_38 hN) (hts (.initialized RX5) (List.mem_of_getElem? (i := 5) rfl)) (by decide +kernel) ⟨Nat.le_of_ble_eq_true rfl, Nat.le_of_ble_eq_true rfl⟩, (hts (.static yX5_lowest) (List.mem_of_getElem? (i := 4) rfl)), trivial⟩ (kPS (wc := []) hK2 hP hD [] rfl (by decide)) rfl rfl hl.1 rfl (lv_room (Nat.le_of_ble_eq_true rfl)) dX4_trace_32 ⟨Nat.le_of_ble_eq_true rfl, Nat.le_of_ble_eq_true rfl⟩) hP hD hS hA [] [0, 1, 2, 3] [0, 1, 2, 3] rfl rfl (by decide) (by decide) (fun _ => rfl) (by decide) (fun r_4 u_4 H locs hw_4 hP hD hS => ?_)
    have hP : va_P D vwCl [(h0, .inr (4, [.ref h1, .ref h2, .int (nI (K - t2))])), (h1, .inl (cJ, 36, .inr (.inl lay))), (h2, .inl (cI, 36, .inl g)), (hg, wGr R C)] H := hP
    have hD : va_D A [(h0, .inr (4, [.ref h1, .ref h2, .int (nI (K - t2))])), (h1, .inl (cJ, 36, .inr (.inl lay))), (h2, .inl (cI, 36, .inl g)), (hg, wGr R C)] := hD
    subst hw_4
    refine k_toi (y := (pF R C x t st K (K - t2))) (by rw [pF, show K - (K - t2) = t2 by omega, ← hlay t2 (by omega)]) ?_
    refine lv_istore (lv' := [(8, .int (pF R C x t st K (K - t2))), (0, .ref h0), (1, .ref hg), (5, .long (pO R C x t st K (K - t2))), (7, .int (nI t2))]) hx hb dX4_trace_35 hl (by decide) rfl (fun ls hl => ?_)
    refine lv_aload_n hx hb dX4_trace_37 rfl (lv_at hl 1 rfl) ?_
    refine va_get (D := D) (ci := 4) (v := .int (nI (K - t2))) (C := RX4) (T := TX4) (N := 3) hx hb hts kiX4_trace_X4 hown hK hP 0 rfl rfl 2 (by decide) (hts (.fieldLink RX4 19 "TwoBanks$Path" "length" "I") (List.mem_of_getElem? (i := 2) rfl)) (fun _ h9 => h9) rfl dX4_trace_38 ?_
    refine kw_if_lt (tgt := 77) hx hb dX4_trace_41 (by decide) (by omega) (fun c_41_5 => False.elim c_41_5) (fun c_41_5 => ?_)
    refine lv_aload_n hx hb dX4_trace_44 rfl (lv_at hl 1 rfl) ?_
    refine va_get (D := D) (ci := 4) (v := .int (nI (K - t2))) (C := RX4) (T := TX4) (N := 3) hx hb hts kiX4_trace_X4 hown hK hP 0 rfl rfl 2 (by decide) (hts (.fieldLink RX4 19 "TwoBanks$Path" "length" "I") (List.mem_of_getElem? (i := 2) rfl)) (fun _ h9 => h9) rfl dX4_trace_45 ?_
    refine lv_aload_n hx hb dX4_trace_48 rfl (lv_at hl 1 rfl) ?_
    refine va_get (D := D) (ci := 4) (v := .ref h2) (C := RX4) (T := TX4) (N := 3) hx hb hts kiX4_trace_X4 hown hK hP 0 rfl rfl 1 (by decide) (hts (.fieldLink RX4 15 "TwoBanks$Path" "fields" "[I") (List.mem_of_getElem? (i := 3) rfl)) (fun _ h9 => h9) rfl dX4_trace_49 ?_
    refine va_alen hx hb hK hP 2 0 rfl rfl (v := nI 36) rfl dX4_trace_52 ?_
    refine kw_icmp_ge (tgt := 77) hx hb dX4_trace_53 (by decide) (by omega) (by omega) (fun c_53_6 => absurd c_53_6 (by omega)) (fun c_53_6 => ?_)
    refine lv_aload_n hx hb dX4_trace_56 rfl (lv_at hl 1 rfl) ?_
    refine va_get (D := D) (ci := 4) (v := .ref h2) (C := RX4) (T := TX4) (N := 3) hx hb hts kiX4_trace_X4 hown hK hP 0 rfl rfl 1 (by decide) (hts (.fieldLink RX4 15 "TwoBanks$Path" "fields" "[I") (List.mem_of_getElem? (i := 3) rfl)) (fun _ h9 => h9) rfl dX4_trace_57 ?_
    refine lv_aload_n hx hb dX4_trace_60 rfl (lv_at hl 1 rfl) ?_
    refine va_get (D := D) (ci := 4) (v := .int (nI (K - t2))) (C := RX4) (T := TX4) (N := 3) hx hb hts kiX4_trace_X4 hown hK hP 0 rfl rfl 2 (by decide) (hts (.fieldLink RX4 19 "TwoBanks$Path" "length" "I") (List.mem_of_getElem? (i := 2) rfl)) (fun _ h9 => h9) rfl dX4_trace_61 ?_
    refine lv_iload hx hb dX4_trace_64 (lv_at hl 0 rfl) ?_
    refine va_iast hx hb hK hP hD hS 2 0 rfl rfl (vp_in_nI (by omega) (by omega)) dX4_trace_66 (fun H locs hP hD hS => ?_)
    rw [nI_clamp (by omega)] at hP hD
    have hP : va_P D vwCl [(h0, .inr (4, [.ref h1, .ref h2, .int (nI (K - t2))])), (h1, .inl (cJ, 36, .inr (.inl lay))), (h2, .inl (cI, 36, .inl (upd g (K - t2) (pF R C x t st K (K - t2))))), (hg, wGr R C)] H := hP
    have hD : va_D A [(h0, .inr (4, [.ref h1, .ref h2, .int (nI (K - t2))])), (h1, .inl (cJ, 36, .inr (.inl lay))), (h2, .inl (cI, 36, .inl (upd g (K - t2) (pF R C x t st K (K - t2))))), (hg, wGr R C)] := hD
    refine lv_aload_n hx hb dX4_trace_67 rfl (lv_at hl 1 rfl) ?_
    refine lv_dup hx hb dX4_trace_68 rfl ?_
    refine va_get (D := D) (ci := 4) (v := .int (nI (K - t2))) (C := RX4) (T := TX4) (N := 3) hx hb hts kiX4_trace_X4 hown hK hP 0 rfl rfl 2 (by decide) (hts (.fieldLink RX4 19 "TwoBanks$Path" "length" "I") (List.mem_of_getElem? (i := 2) rfl)) (fun _ h9 => h9) rfl dX4_trace_69 ?_
    refine lv_iconst (v := (nI 1)) hx hb dX4_trace_72 (by decide) ?_
    refine lv_iadd hx hb dX4_trace_73 ?_
    refine k_toi (y := nI ((K - t2) + 1)) (nI_add _ _) ?_
    refine va_put (D := D) (ci := 4) (v := .int (nI ((K - t2) + 1))) (ty := .int) (C := RX4) (T := TX4) (N := 3) hx hb hts kiX4_trace_X4 tyX4 tyX4_ok nmX4 hown hK hP hD hS 0 rfl rfl 2 (by decide) (hts (.fieldLink RX4 19 "TwoBanks$Path" "length" "I") (List.mem_of_getElem? (i := 2) rfl)) (fun _ h9 => h9) rfl  (by decide +kernel) rfl rfl (Nat.le_of_ble_eq_true rfl) dX4_trace_74 (fun H locs hP hD hS => ?_)
    have hP : va_P D vwCl [(h0, .inr (4, [.ref h1, .ref h2, .int (nI ((K - t2) + 1))])), (h1, .inl (cJ, 36, .inr (.inl lay))), (h2, .inl (cI, 36, .inl (upd g (K - t2) (pF R C x t st K (K - t2))))), (hg, wGr R C)] H := hP
    have hD : va_D A [(h0, .inr (4, [.ref h1, .ref h2, .int (nI ((K - t2) + 1))])), (h1, .inl (cJ, 36, .inr (.inl lay))), (h2, .inl (cI, 36, .inl (upd g (K - t2) (pF R C x t st K (K - t2))))), (hg, wGr R C)] := hD
    refine lv_aload_n hx hb dX4_trace_77 rfl (lv_at hl 2 rfl) ?_
    refine lv_iload hx hb dX4_trace_78 (lv_at hl 0 rfl) ?_
    refine k_calll (wr := [(h0, .inr (4, [.ref h1, .ref h2, .int (nI ((K - t2) + 1))])), (h1, .inl (cJ, 36, .inr (.inl lay))), (h2, .inl (cI, 36, .inl (upd g (K - t2) (pF R C x t st K (K - t2))))), (hg, wGr R C)]) (w2 := (fun _ : Unit => [(h0, .inr (4, [.ref h1, .ref h2, .int (nI ((K - t2) + 1))])), (h1, .inl (cJ, 36, .inr (.inl lay))), (h2, .inl (cI, 36, .inl (upd g (K - t2) (pF R C x t st K (K - t2))))), (hg, wGr R C)])) (va_runSN (As := [.int (pF R C x t st K (K - t2))]) (rest := [.ref hg]) ⟨hx, hb, hml, hown, hts⟩ (c_bit l D cI cJ cZ (pF R C x t st K (K - t2))  H.size) ⟨va_cnB 1 hts gX4_trace_X5_bit_n42 rfl rfl rfl (kN_X4_42 hN) (hts (.initialized RX5) (List.mem_of_getElem? (i := 5) rfl)) (by decide +kernel) ⟨Nat.le_of_ble_eq_true rfl, Nat.le_of_ble_eq_true rfl⟩, (hts (.static yX5_bit) (List.mem_of_getElem? (i := 14) rfl)), trivial⟩ (kPS (wc := []) hK2 hP hD [] rfl (by decide)) rfl rfl hl.1 rfl (lv_room (Nat.le_of_ble_eq_true rfl)) dX4_trace_80 ⟨Nat.le_of_ble_eq_true rfl, Nat.le_of_ble_eq_true rfl⟩) hP hD hS hA [] [0, 1, 2, 3] [0, 1, 2, 3] rfl rfl (by decide) (by decide) (fun _ => rfl) (by decide) (fun r_7 u_7 H locs hw_7 hP hD hS => ?_)
    have hP : va_P D vwCl [(h0, .inr (4, [.ref h1, .ref h2, .int (nI ((K - t2) + 1))])), (h1, .inl (cJ, 36, .inr (.inl lay))), (h2, .inl (cI, 36, .inl (upd g (K - t2) (pF R C x t st K (K - t2))))), (hg, wGr R C)] H := hP
    have hD : va_D A [(h0, .inr (4, [.ref h1, .ref h2, .int (nI ((K - t2) + 1))])), (h1, .inl (cJ, 36, .inr (.inl lay))), (h2, .inl (cI, 36, .inl (upd g (K - t2) (pF R C x t st K (K - t2))))), (hg, wGr R C)] := hD
    subst hw_7
    refine k_calll (wr := [(h0, .inr (4, [.ref h1, .ref h2, .int (nI ((K - t2) + 1))])), (h1, .inl (cJ, 36, .inr (.inl lay))), (h2, .inl (cI, 36, .inl (upd g (K - t2) (pF R C x t st K (K - t2)))))]) (w2 := (fun _ : Unit => [(h0, .inr (4, [.ref h1, .ref h2, .int (nI ((K - t2) + 1))])), (h1, .inl (cJ, 36, .inr (.inl lay))), (h2, .inl (cI, 36, .inl (upd g (K - t2) (pF R C x t st K (K - t2))))), (hg, wGr R C)])) (va_runV (As := [.long (gBit (pF R C x t st K (K - t2)))]) (rest := []) ⟨hx, hb, hml, hown, hts⟩ (c_G_beside l D cI cJ cZ hg R C (gBit (pF R C x t st K (K - t2))) hR1 hR2 hC1 hC2 hRC  H.size) (cwV 1 hts gX4_trace_X2_beside rfl rfl rfl (by decide +kernel) ⟨Nat.le_of_ble_eq_true rfl, Nat.le_of_ble_eq_true rfl⟩) (kPV (ci := 2) (q0 := 0) (wc := [(hg, wGr R C)]) hK2 hP hD [3] rfl (by decide) rfl rfl) rfl rfl hl.1 rfl (lv_room (Nat.le_of_ble_eq_true rfl)) dX4_trace_83 ⟨Nat.le_of_ble_eq_true rfl, Nat.le_of_ble_eq_true rfl⟩) hP hD hS hA [3] [0, 1, 2] [0, 1, 2, 3] rfl rfl (by decide) (by decide) (fun _ => rfl) (by decide) (fun r_8 u_8 H locs hw_8 hP hD hS => ?_)
    have hP : va_P D vwCl [(h0, .inr (4, [.ref h1, .ref h2, .int (nI ((K - t2) + 1))])), (h1, .inl (cJ, 36, .inr (.inl lay))), (h2, .inl (cI, 36, .inl (upd g (K - t2) (pF R C x t st K (K - t2))))), (hg, wGr R C)] H := hP
    have hD : va_D A [(h0, .inr (4, [.ref h1, .ref h2, .int (nI ((K - t2) + 1))])), (h1, .inl (cJ, 36, .inr (.inl lay))), (h2, .inl (cI, 36, .inl (upd g (K - t2) (pF R C x t st K (K - t2))))), (hg, wGr R C)] := hD
    subst hw_8
    refine k_tol (y := (pO R C x t st K (K - t2 + 1))) rfl ?_
    refine lv_lstore (lv' := [(5, .long (pO R C x t st K (K - t2 + 1))), (8, .int (pF R C x t st K (K - t2))), (0, .ref h0), (1, .ref hg), (7, .int (nI t2))]) hx hb dX4_trace_86 hl (by decide) rfl (fun ls hl => ?_)
    have hP : va_P D vwCl [(h0, .inr (4, [.ref h1, .ref h2, .int (nI (K + 1 - t2))])), (h1, .inl (cJ, 36, .inr (.inl lay))), (h2, .inl (cI, 36, .inl (upd g (K - t2) (pF R C x t st K (K - t2))))), (hg, wGr R C)] H := (by rw [show K + 1 - t2 = K - t2 + 1 by omega]; exact hP)
    have hD : va_D A [(h0, .inr (4, [.ref h1, .ref h2, .int (nI (K + 1 - t2))])), (h1, .inl (cJ, 36, .inr (.inl lay))), (h2, .inl (cI, 36, .inl (upd g (K - t2) (pF R C x t st K (K - t2))))), (hg, wGr R C)] := (by rw [show K + 1 - t2 = K - t2 + 1 by omega]; exact hD)
    have hl : lv_has ls 9 [(5, .long (pO R C x t st K (K + 1 - t2))), (8, .int (pF R C x t st K (K - t2))), (0, .ref h0), (1, .ref hg), (7, .int (nI t2))] := by rw [show K + 1 - t2 = K - t2 + 1 by omega]; exact hl
    refine lv_iinc (v := (kPr t2)) (lv' := [(7, .int (kPr t2)), (5, .long (pO R C x t st K (K + 1 - t2))), (8, .int (pF R C x t st K (K - t2))), (0, .ref h0), (1, .ref hg)]) hx hb dX4_trace_88 hl (k := 4) rfl (k_dec _) (by decide) rfl (fun ls hl => ?_)
    refine lv_goto (tgt := 7) hx hb dX4_trace_91 (by decide) ?_
    exact ih_7 (t2, (upd g (K - t2) (pF R C x t st K (K - t2)))) _ _ _ (Nat.lt_succ_self t2) ⟨hP, hD, hS, lv_sub hl [3, 4, 1, 0] rfl, by omega, by rw [show K + 1 - t2 = (K - t2) + 1 by omega]; exact kf_putI hg2 rfl⟩

theorem kiX4_find_X4 : ∀ w ∈ u_ws RX4 TX4 3, w ∈ wsX4_find := fun w h => List.mem_cons_of_mem _ (List.mem_append_left _ (List.mem_append_right _ h))
set_option maxHeartbeats 4000000 in
set_option maxRecDepth 100000 in
theorem c_P_find (l : Launch) (D : va_G) (cI cJ cZ : ClassId) (h0 h1 h2 hg ln : Nat) (lay : Nat → Int64) (fs : Nat → Int32) (R C : Nat) (x st t : Int64) (K : Nat) (hR1 : 1 ≤ R) (hR2 : R ≤ 6) (hC1 : 1 ≤ C) (hC2 : C ≤ 6) (hRC : R * C ≤ 36) (hKK : K < 36) (hmin : ∀ j, j < K → (pL R C x t j).1 &&& st = 0) (hhit : (pL R C x t K).1 &&& st ≠ 0) (hne : ∀ j, j ≤ K → (pL R C x t j).1 ≠ 0) (sz : Nat) : kMV l yX4_find wsX4_find 3 70 D cI cJ cZ [.ref h0, .ref hg, .long x, .long st, .long t] [(h0, .inr (4, [.ref h1, .ref h2, .int (nI ln)])), (h1, .inl (cJ, 36, .inr (.inl lay))), (h2, .inl (cI, 36, .inl fs)), (hg, wGr R C)] sz (fun u : (Nat → Int64) × (Nat → Int32) => ∀ j, j ≤ K → u.2 j = pF R C x t st K j) (fun u : (Nat → Int64) × (Nat → Int32) => match u with | (la, ga) => [(h0, .inr (4, [.ref h1, .ref h2, .int (nI (K + 1))])), (h1, .inl (cJ, 36, .inr (.inl la))), (h2, .inl (cI, 36, .inl ga)), (hg, wGr R C)]) := by
  refine Met.ofW (cc := cX4_find) (maxL := 13) (ret := none) (by decide) rfl ?_
  intro p e s m args below meth c s₁ B hml hv
  obtain ⟨rfl, hsz, hP, ⟨hK, hN⟩, hD0⟩ := hv
  have hx := B.exec
  have hb := B.bytes
  have hr := B.returns
  have hts := atoms_spec (ws := wsX4_find) B.pre
  have hown : s.vm.findClass RX4 = some m.cls := findClass_of_methodNamed B.named
  have hlocks := B.notSynchronized
  subst hsz
  have hD := hD0.self (sz := s.heap.size)
  generalize hAe : va_A [(h0, .inr (4, [.ref h1, .ref h2, .int (nI ln)])), (h1, .inl (cJ, 36, .inr (.inl lay))), (h2, .inl (cI, 36, .inl fs)), (hg, wGr R C)] s.heap.size = A at hD ⊢
  have hA : ∀ q : Nat, s.heap.size ≤ q → A q := fun q h => by rw [← hAe]; exact Or.inr h
  have hS : va_S A s.heap s.heap [] := va_S.rf
  have hl := lv_entry ([.ref h0, .ref hg, .long x, .long st, .long t]) (n := 13) (Nat.le_of_ble_eq_true rfl)
  rw [lg_entry_eq]
  generalize (lg_sl ([.ref h0, .ref hg, .long x, .long st, .long t]) ++ List.replicate (13 - (lg_sl ([.ref h0, .ref hg, .long x, .long st, .long t])).length) Slot.unset).toArray = ls at hl ⊢
  have hl : lv_has ls 13 [(0, .ref h0), (1, .ref hg), (2, .long x), (4, .long st), (6, .long t)] := hl
  have hK2 : kK D cI cJ cZ s := ⟨hK, hN⟩
  clear hD0
  refine lv_aload_n hx hb dX4_find_0 rfl (lv_at hl 0 rfl) ?_
  refine k_callv (wr := [(hg, wGr R C)]) (w2 := (fun _ : Unit => [(h0, .inr (4, [.ref h1, .ref h2, .int (nI 0)])), (h1, .inl (cJ, 36, .inr (.inl lay))), (h2, .inl (cI, 36, .inl fs)), (hg, wGr R C)])) (va_runV (As := []) (rest := []) ⟨hx, hb, hml, hown, hts⟩ (c_P_forget l D cI cJ cZ h0 h1 h2 ln lay fs  s.heap.size) (cwV 0 hts gX4_find_X4_forget rfl rfl rfl (by decide +kernel) ⟨Nat.le_of_ble_eq_true rfl, Nat.le_of_ble_eq_true rfl⟩) (kPV (ci := 4) (q0 := 0) (wc := [(h0, .inr (4, [.ref h1, .ref h2, .int (nI ln)])), (h1, .inl (cJ, 36, .inr (.inl lay))), (h2, .inl (cI, 36, .inl fs))]) hK2 hP hD [0, 1, 2] rfl (by decide) rfl rfl) rfl rfl hl.1 rfl (lv_room (Nat.le_of_ble_eq_true rfl)) dX4_find_1 ⟨Nat.le_of_ble_eq_true rfl, Nat.le_of_ble_eq_true rfl⟩) hP hD hS hA [0, 1, 2] [3] [1, 2, 3, 0] rfl rfl (by decide) (by decide) (fun _ => rfl) (by decide) (fun u_1 H locs hw_1 hP hD hS => ?_)
  have hP : va_P D vwCl [(h0, .inr (4, [.ref h1, .ref h2, .int (nI 0)])), (h1, .inl (cJ, 36, .inr (.inl lay))), (h2, .inl (cI, 36, .inl fs)), (hg, wGr R C)] H := hP
  have hD : va_D A [(h0, .inr (4, [.ref h1, .ref h2, .int (nI 0)])), (h1, .inl (cJ, 36, .inr (.inl lay))), (h2, .inl (cI, 36, .inl fs)), (hg, wGr R C)] := hD
  refine lv_lload_n hx hb dX4_find_4 rfl (lv_at hl 2 rfl) ?_
  refine lv_lload hx hb dX4_find_5 (lv_at hl 4 rfl) ?_
  refine lv_land hx hb dX4_find_7 ?_
  refine k_tol (y := ((pL R C x t 0).1)) rfl ?_
  refine lv_lstore (lv' := [(8, .long ((pL R C x t 0).1)), (0, .ref h0), (1, .ref hg), (2, .long x), (4, .long st), (6, .long t)]) hx hb dX4_find_8 hl (by decide) rfl (fun ls hl => ?_)
  refine lv_lload hx hb dX4_find_10 (lv_at hl 0 rfl) ?_
  refine lv_lstore (lv' := [(10, .long ((pL R C x t 0).1)), (8, .long ((pL R C x t 0).1)), (0, .ref h0), (1, .ref hg), (2, .long x), (4, .long st), (6, .long t)]) hx hb dX4_find_12 hl (by decide) rfl (fun ls hl => ?_)
  refine lv_iconst (v := (nI 0)) hx hb dX4_find_14 (by decide) ?_
  refine lv_istore (lv' := [(12, .int (nI 0)), (10, .long ((pL R C x t 0).1)), (8, .long ((pL R C x t 0).1)), (0, .ref h0), (1, .ref hg), (2, .long x), (4, .long st), (6, .long t)]) hx hb dX4_find_15 hl (by decide) rfl (fun ls hl => ?_)
  refine kw_loop (σ := Nat × (Nat → Int64)) (fun zz H locs ls => match zz with | (k, lay) => va_P D vwCl [(h0, .inr (4, [.ref h1, .ref h2, .int (nI 0)])), (h1, .inl (cJ, 36, .inr (.inl lay))), (h2, .inl (cI, 36, .inl fs)), (hg, wGr R C)] H ∧ va_D A [(h0, .inr (4, [.ref h1, .ref h2, .int (nI 0)])), (h1, .inl (cJ, 36, .inr (.inl lay))), (h2, .inl (cI, 36, .inl fs)), (hg, wGr R C)] ∧ va_S A s.heap H locs ∧ lv_has ls 13 [(0, .ref h0), (1, .ref hg), (2, .long x), (4, .long st), (8, .long ((pL R C x t k).1)), (10, .long ((pL R C x t k).2)), (12, .int (nI k))] ∧ (k ≤ K) ∧ (∀ j, j < k → lay j = (pL R C x t j).1)) (fun zz => match zz with | (k, lay) => K - k) (0, lay) ⟨hP, hD, hS, lv_sub hl [3, 4, 5, 6, 2, 1, 0] rfl, Nat.zero_le _, fun j hj => absurd hj (Nat.not_lt_zero j)⟩ ?_
  clear hP hD hS hl
  rintro ⟨k, lay⟩ H locs ls ⟨hP, hD, hS, hl, hk, hlay⟩ ih_17
  have hP : va_P D vwCl [(h0, .inr (4, [.ref h1, .ref h2, .int (nI 0)])), (h1, .inl (cJ, 36, .inr (.inl lay))), (h2, .inl (cI, 36, .inl fs)), (hg, wGr R C)] H := hP
  have hD : va_D A [(h0, .inr (4, [.ref h1, .ref h2, .int (nI 0)])), (h1, .inl (cJ, 36, .inr (.inl lay))), (h2, .inl (cI, 36, .inl fs)), (hg, wGr R C)] := hD
  have hl : lv_has ls 13 [(0, .ref h0), (1, .ref hg), (2, .long x), (4, .long st), (8, .long ((pL R C x t k).1)), (10, .long ((pL R C x t k).2)), (12, .int (nI k))] := hl
  have hk : k ≤ K := hk
  have hlay : ∀ j, j < k → lay j = (pL R C x t j).1 := hlay
  refine lv_iload hx hb dX4_find_17 (lv_at hl 6 rfl) ?_
  refine lv_aload_n hx hb dX4_find_19 rfl (lv_at hl 0 rfl) ?_
  refine va_get (D := D) (ci := 4) (v := .ref h1) (C := RX4) (T := TX4) (N := 3) hx hb hts kiX4_find_X4 hown hK hP 0 rfl rfl 0 (by decide) (hts (.fieldLink RX4 9 "TwoBanks$Path" "layers" "[J") (List.mem_of_getElem? (i := 1) rfl)) (fun _ h9 => h9) rfl dX4_find_20 ?_
  refine va_alen hx hb hK hP 1 1 rfl rfl (v := nI 36) rfl dX4_find_23 ?_
  refine kw_icmp_ge (tgt := 93) hx hb dX4_find_24 (by decide) (by omega) (by omega) (fun c_24_2 => absurd c_24_2 (by omega)) (fun c_24_2 => ?_)
  refine lv_lload hx hb dX4_find_27 (lv_at hl 4 rfl) ?_
  refine lv_lconst (v := 0) hx hb dX4_find_29 (by decide) ?_
  refine W.lcmp hx hb dX4_find_30 ?_
  refine kw_cmp_eq (tgt := 93) hx hb dX4_find_31 (by decide) (fun c_31_3 => absurd c_31_3 (hne k (by omega))) (fun c_31_3 => ?_)
  refine lv_aload_n hx hb dX4_find_34 rfl (lv_at hl 0 rfl) ?_
  refine va_get (D := D) (ci := 4) (v := .ref h1) (C := RX4) (T := TX4) (N := 3) hx hb hts kiX4_find_X4 hown hK hP 0 rfl rfl 0 (by decide) (hts (.fieldLink RX4 9 "TwoBanks$Path" "layers" "[J") (List.mem_of_getElem? (i := 1) rfl)) (fun _ h9 => h9) rfl dX4_find_35 ?_
  refine lv_iload hx hb dX4_find_38 (lv_at hl 6 rfl) ?_
  refine lv_lload hx hb dX4_find_40 (lv_at hl 4 rfl) ?_
  refine va_last hx hb hK hP hD hS 1 1 rfl rfl (vp_in_nI (by omega) (by omega)) dX4_find_42 (fun H locs hP hD hS => ?_)
  rw [nI_clamp (by omega)] at hP hD
  have hP : va_P D vwCl [(h0, .inr (4, [.ref h1, .ref h2, .int (nI 0)])), (h1, .inl (cJ, 36, .inr (.inl (vp_updL lay k ((pL R C x t k).1))))), (h2, .inl (cI, 36, .inl fs)), (hg, wGr R C)] H := hP
  have hD : va_D A [(h0, .inr (4, [.ref h1, .ref h2, .int (nI 0)])), (h1, .inl (cJ, 36, .inr (.inl (vp_updL lay k ((pL R C x t k).1))))), (h2, .inl (cI, 36, .inl fs)), (hg, wGr R C)] := hD
  refine lv_lload hx hb dX4_find_43 (lv_at hl 4 rfl) ?_
  refine lv_lload hx hb dX4_find_45 (lv_at hl 3 rfl) ?_
  refine lv_land hx hb dX4_find_47 ?_
  refine lv_lconst (v := 0) hx hb dX4_find_48 (by decide) ?_
  refine W.lcmp hx hb dX4_find_49 ?_
  refine kw_cmp_eq (tgt := 63) hx hb dX4_find_50 (by decide) (fun c_50_4 => ?_) (fun c_50_4 => ?_)
  · have hkK : k < K := by rcases Nat.lt_or_ge k K with q | q; exact q; exact absurd (by have e : k = K := (by omega); rw [e] at c_50_4; exact c_50_4) hhit
    refine lv_aload_n hx hb dX4_find_63 rfl (lv_at hl 1 rfl) ?_
    refine lv_lload hx hb dX4_find_64 (lv_at hl 4 rfl) ?_
    refine k_calll (wr := [(h0, .inr (4, [.ref h1, .ref h2, .int (nI 0)])), (h1, .inl (cJ, 36, .inr (.inl (vp_updL lay k ((pL R C x t k).1))))), (h2, .inl (cI, 36, .inl fs))]) (w2 := (fun _ : Unit => [(h0, .inr (4, [.ref h1, .ref h2, .int (nI 0)])), (h1, .inl (cJ, 36, .inr (.inl (vp_updL lay k ((pL R C x t k).1))))), (h2, .inl (cI, 36, .inl fs)), (hg, wGr R C)])) (va_runV (As := [.long ((pL R C x t k).1)]) (rest := []) ⟨hx, hb, hml, hown, hts⟩ (c_G_beside l D cI cJ cZ hg R C ((pL R C x t k).1) hR1 hR2 hC1 hC2 hRC  H.size) (cwV 1 hts gX4_find_X2_beside rfl rfl rfl (by decide +kernel) ⟨Nat.le_of_ble_eq_true rfl, Nat.le_of_ble_eq_true rfl⟩) (kPV (ci := 2) (q0 := 0) (wc := [(hg, wGr R C)]) hK2 hP hD [3] rfl (by decide) rfl rfl) rfl rfl hl.1 rfl (lv_room (Nat.le_of_ble_eq_true rfl)) dX4_find_66 ⟨Nat.le_of_ble_eq_true rfl, Nat.le_of_ble_eq_true rfl⟩) hP hD hS hA [3] [0, 1, 2] [0, 1, 2, 3] rfl rfl (by decide) (by decide) (fun _ => rfl) (by decide) (fun r_5 u_5 H locs hw_5 hP hD hS => ?_)
    have hP : va_P D vwCl [(h0, .inr (4, [.ref h1, .ref h2, .int (nI 0)])), (h1, .inl (cJ, 36, .inr (.inl (vp_updL lay k ((pL R C x t k).1))))), (h2, .inl (cI, 36, .inl fs)), (hg, wGr R C)] H := hP
    have hD : va_D A [(h0, .inr (4, [.ref h1, .ref h2, .int (nI 0)])), (h1, .inl (cJ, 36, .inr (.inl (vp_updL lay k ((pL R C x t k).1))))), (h2, .inl (cI, 36, .inl fs)), (hg, wGr R C)] := hD
    subst hw_5
    refine lv_lload_n hx hb dX4_find_69 rfl (lv_at hl 2 rfl) ?_
    refine lv_land hx hb dX4_find_70 ?_
    refine lv_lload hx hb dX4_find_71 (lv_at hl 5 rfl) ?_
    refine lv_ldc2 (v := (-1)) hx hb hown (hts (.constantLong RX4 36 (-1)) (List.mem_of_getElem? (i := 2) rfl)) dX4_find_73 ?_
    refine lv_lxor hx hb dX4_find_76 ?_
    refine lv_land hx hb dX4_find_77 ?_
    refine k_tol (y := ((pL R C x t (k + 1)).1)) rfl ?_
    refine lv_lstore (lv' := [(8, .long ((pL R C x t (k + 1)).1)), (0, .ref h0), (1, .ref hg), (2, .long x), (4, .long st), (10, .long ((pL R C x t k).2)), (12, .int (nI k))]) hx hb dX4_find_78 hl (by decide) rfl (fun ls hl => ?_)
    refine lv_lload hx hb dX4_find_80 (lv_at hl 5 rfl) ?_
    refine lv_lload hx hb dX4_find_82 (lv_at hl 0 rfl) ?_
    refine lv_lor hx hb dX4_find_84 ?_
    refine k_tol (y := ((pL R C x t (k + 1)).2)) rfl ?_
    refine lv_lstore (lv' := [(10, .long ((pL R C x t (k + 1)).2)), (8, .long ((pL R C x t (k + 1)).1)), (0, .ref h0), (1, .ref hg), (2, .long x), (4, .long st), (12, .int (nI k))]) hx hb dX4_find_85 hl (by decide) rfl (fun ls hl => ?_)
    refine lv_iinc (v := (nI (k + 1))) (lv' := [(12, .int (nI (k + 1))), (10, .long ((pL R C x t (k + 1)).2)), (8, .long ((pL R C x t (k + 1)).1)), (0, .ref h0), (1, .ref hg), (2, .long x), (4, .long st)]) hx hb dX4_find_87 hl (k := 6) rfl (k_inc _ 1) (by decide) rfl (fun ls hl => ?_)
    refine lv_goto (tgt := 17) hx hb dX4_find_90 (by decide) ?_
    exact ih_17 ((k + 1), (vp_updL lay k ((pL R C x t k).1))) _ _ _ (by show K - (k + 1) < K - k; omega) ⟨hP, hD, hS, lv_sub hl [3, 4, 5, 6, 2, 1, 0] rfl, by omega, kf_putL2 hlay⟩
  · have hkK : k = K := by rcases Nat.lt_or_ge k K with q | q; exact absurd (hmin k q) c_50_4; omega
    have hl : lv_has ls 13 [(0, .ref h0), (1, .ref hg), (2, .long x), (4, .long st), (8, .long ((pL R C x t k).1)), (10, .long ((pL R C x t k).2)), (12, .int (nI K))] := by rw [← hkK]; exact hl
    have hlay2 : ∀ j, j ≤ K → vp_updL lay k (pL R C x t k).1 j = (pL R C x t j).1 := by rw [← hkK]; exact kf_putL hlay
    refine lv_aload_n hx hb dX4_find_53 rfl (lv_at hl 0 rfl) ?_
    refine lv_aload_n hx hb dX4_find_54 rfl (lv_at hl 1 rfl) ?_
    refine lv_lload hx hb dX4_find_55 (lv_at hl 3 rfl) ?_
    refine lv_iload hx hb dX4_find_57 (lv_at hl 6 rfl) ?_
    refine k_callv (wr := []) (w2 := (fun g : Nat → Int32 => [(h0, .inr (4, [.ref h1, .ref h2, .int (nI (K + 1))])), (h1, .inl (cJ, 36, .inr (.inl (vp_updL lay k ((pL R C x t k).1))))), (h2, .inl (cI, 36, .inl g)), (hg, wGr R C)])) (va_runV (As := [.ref hg, .long st, .int (nI K)]) (rest := []) ⟨hx, hb, hml, hown, hts⟩ (c_P_trace l D cI cJ cZ h0 h1 h2 hg (vp_updL lay k ((pL R C x t k).1)) fs R C x t st K hR1 hR2 hC1 hC2 hRC hKK hlay2  H.size) (cwV 3 hts gX4_find_X4_trace rfl rfl rfl (by decide +kernel) ⟨Nat.le_of_ble_eq_true rfl, Nat.le_of_ble_eq_true rfl⟩) (kPV (ci := 4) (q0 := 0) (wc := [(h0, .inr (4, [.ref h1, .ref h2, .int (nI 0)])), (h1, .inl (cJ, 36, .inr (.inl (vp_updL lay k ((pL R C x t k).1))))), (h2, .inl (cI, 36, .inl fs)), (hg, wGr R C)]) hK2 hP hD [0, 1, 2, 3] rfl (by decide) rfl rfl) rfl rfl hl.1 rfl (lv_room (Nat.le_of_ble_eq_true rfl)) dX4_find_59 ⟨Nat.le_of_ble_eq_true rfl, Nat.le_of_ble_eq_true rfl⟩) hP hD hS hA [0, 1, 2, 3] [] [0, 1, 2, 3] rfl rfl (by decide) (by decide) (fun _ => rfl) (by decide) (fun u_7 H locs hw_7 hP hD hS => ?_)
    obtain ⟨g_6, rfl⟩ : ∃ z, z = u_7 := ⟨_, rfl⟩
    have hP : va_P D vwCl [(h0, .inr (4, [.ref h1, .ref h2, .int (nI (K + 1))])), (h1, .inl (cJ, 36, .inr (.inl (vp_updL lay k ((pL R C x t k).1))))), (h2, .inl (cI, 36, .inl g_6)), (hg, wGr R C)] H := hP
    have hD : va_D A [(h0, .inr (4, [.ref h1, .ref h2, .int (nI (K + 1))])), (h1, .inl (cJ, 36, .inr (.inl (vp_updL lay k ((pL R C x t k).1))))), (h2, .inl (cI, 36, .inl g_6)), (hg, wGr R C)] := hD
    have hgg := hw_7
    exact W.vret hx hb hr (fun t ht hW => ⟨⟨(_, g_6), rfl, hgg, by rw [ht]; exact hP, hD⟩, hS.F ht⟩) hS.2.2 dX4_find_62
