theorem nx_xor (a b : Nat) : nI a ^^^ nI b = nI (a ^^^ b) := by
  apply Int32.toBitVec_inj.1
  show BitVec.ofNat 32 a ^^^ BitVec.ofNat 32 b = BitVec.ofNat 32 (a ^^^ b)
  apply BitVec.eq_of_getLsbD_eq
  intro i hi
  simp [hi]
theorem tb_eq {a b : Bool} (h : a.toNat = b.toNat) : a = b := by cases a <;> cases b <;> first | rfl | exact absurd h (by decide)
theorem ey_lt {R C : Nat} {b ey : Nat → Nat} (h : eyP b (R * C) ey) (hn : fb_ct (mE b) (R * C) ≤ 10) : ∀ k, k < fb_ct (mE b) (R * C) → ey k < R * C ∧ b (ey k) = 0 ∧ fb_ct (mE b) (ey k) = k := by
  intro k hk
  obtain ⟨x, h1, h2, h3⟩ := fb_ct_kth (p := mE b) hk
  have hb : b x = 0 := of_decide_eq_true h2
  have e := h x h1 hb (by omega)
  rw [h3] at e
  rw [e]
  exact ⟨h1, hb, h3⟩
theorem ey_inj {R C : Nat} {b ey : Nat → Nat} (h : eyP b (R * C) ey) (hn : fb_ct (mE b) (R * C) ≤ 10) : ∀ i j, i < fb_ct (mE b) (R * C) → j < fb_ct (mE b) (R * C) → ey i = ey j → i = j := fun i j hi hj e => by
  have h1 := (ey_lt h hn i hi).2.2
  have h2 := (ey_lt h hn j hj).2.2
  rw [← h1, ← h2, e]
theorem kiX6_isDead_X6 : ∀ w ∈ u_ws RX6 TX6 17, w ∈ wsX6_isDead := fun w h => List.mem_cons_of_mem _ (List.mem_append_right _ h)
set_option maxHeartbeats 4000000 in
set_option maxRecDepth 100000 in
theorem c_R_isDead (l : Launch) (D : va_G) (cI cJ cZ : ClassId) (h0 : Nat) (q : Nat → Nat) (R C tn dn ag md em : Nat) (no : Nat → Bool) (k : Nat) (qem : em ≤ 10) (qk : k < em) (sz : Nat) : kMI l yX6_isDead wsX6_isDead 0 0 D cI cJ cZ [.ref h0, .int (nI k)] [(h0, wMo q R C tn dn ag md em), ((q 9), .inl (cZ, 1024, .inl (bA no)))] sz (fun r (_ : Unit) => (r = nI 1 ∧ ∀ i, i < 2 ^ em → no i = no (i ^^^ 2 ^ k)) ∨ (r = nI 0 ∧ ¬ ∀ i, i < 2 ^ em → no i = no (i ^^^ 2 ^ k))) (fun _ : Unit => [(h0, wMo q R C tn dn ag md em), ((q 9), .inl (cZ, 1024, .inl (bA no)))]) := by
  refine Met.ofW (cc := cX6_isDead) (maxL := 3) (ret := (some .boolean)) (by decide) rfl ?_
  intro p e s m args below meth c s₁ B hml hv
  obtain ⟨rfl, hsz, hP, ⟨hK, hN⟩, hD0⟩ := hv
  have hx := B.exec
  have hb := B.bytes
  have hr := B.returns
  have hts := atoms_spec (ws := wsX6_isDead) B.pre
  have hown : s.vm.findClass RX6 = some m.cls := findClass_of_methodNamed B.named
  have hlocks := B.notSynchronized
  subst hsz
  have hD := hD0.self (sz := s.heap.size)
  generalize hAe : va_A [(h0, wMo q R C tn dn ag md em), ((q 9), .inl (cZ, 1024, .inl (bA no)))] s.heap.size = A at hD ⊢
  have hA : ∀ q : Nat, s.heap.size ≤ q → A q := fun q h => by rw [← hAe]; exact Or.inr h
  have hS : va_S A s.heap s.heap [] := va_S.rf
  have hl := lv_entry ([.ref h0, .int (nI k)]) (n := 3) (Nat.le_of_ble_eq_true rfl)
  rw [lg_entry_eq]
  generalize (lg_sl ([.ref h0, .int (nI k)]) ++ List.replicate (3 - (lg_sl ([.ref h0, .int (nI k)])).length) Slot.unset).toArray = ls at hl ⊢
  have hl : lv_has ls 3 [(0, .ref h0), (1, .int (nI k))] := hl
  have hK2 : kK D cI cJ cZ s := ⟨hK, hN⟩
  clear hD0
  have h2n := p2_le qem
  refine lv_iconst (v := (nI 0)) hx hb dX6_isDead_0 (by decide) ?_
  refine lv_istore_n (lv' := [(2, .int (nI 0)), (0, .ref h0), (1, .int (nI k))]) hx hb dX6_isDead_1 rfl hl (by decide) rfl (fun ls hl => ?_)
  refine kw_loop (σ := Nat) (fun (i9 : Nat) H locs ls => va_P D vwCl [(h0, wMo q R C tn dn ag md em), ((q 9), .inl (cZ, 1024, .inl (bA no)))] H ∧ va_D A [(h0, wMo q R C tn dn ag md em), ((q 9), .inl (cZ, 1024, .inl (bA no)))] ∧ va_S A s.heap H locs ∧ lv_has ls 3 [(0, .ref h0), (1, .int (nI k)), (2, .int (nI i9))] ∧ (i9 ≤ 2 ^ em) ∧ (∀ i, i < i9 → no i = no (i ^^^ 2 ^ k))) (fun (i9 : Nat) => 2 ^ em - i9) 0 ⟨hP, hD, hS, lv_sub hl [1, 2, 0] rfl, Nat.zero_le _, fun i hi => absurd hi (Nat.not_lt_zero _)⟩ ?_
  clear hP hD hS hl
  rintro i9 H locs ls ⟨hP, hD, hS, hl, hi9, hd9⟩ ih_2
  have hP : va_P D vwCl [(h0, wMo q R C tn dn ag md em), ((q 9), .inl (cZ, 1024, .inl (bA no)))] H := hP
  have hD : va_D A [(h0, wMo q R C tn dn ag md em), ((q 9), .inl (cZ, 1024, .inl (bA no)))] := hD
  have hl : lv_has ls 3 [(0, .ref h0), (1, .int (nI k)), (2, .int (nI i9))] := hl
  have hi9 : i9 ≤ 2 ^ em := hi9
  have hd9 : ∀ i, i < i9 → no i = no (i ^^^ 2 ^ k) := hd9
  refine lv_iload_n hx hb dX6_isDead_2 rfl (lv_at hl 2 rfl) ?_
  refine lv_iconst (v := (nI 1)) hx hb dX6_isDead_3 (by decide) ?_
  refine lv_aload_n hx hb dX6_isDead_4 rfl (lv_at hl 0 rfl) ?_
  refine va_get (D := D) (ci := 6) (v := .int (nI em)) (C := RX6) (T := TX6) (N := 17) hx hb hts kiX6_isDead_X6 hown hK hP 0 rfl rfl 11 (by decide) (hts (.fieldLink RX6 130 "TwoBanksModel" "empties" "I") (List.mem_of_getElem? (i := 1) rfl)) (fun _ h9 => h9) rfl dX6_isDead_5 ?_
  refine lv_ishl hx hb dX6_isDead_8 ?_
  refine k_toi (y := nI (2 ^ em)) (kf_shl1 (by omega)) ?_
  refine kw_icmp_ge (tgt := 39) hx hb dX6_isDead_9 (by decide) (by omega) (by omega) (fun c_9_1 => ?_) (fun c_9_1 => ?_)
  · refine lv_iconst (v := (nI 1)) hx hb dX6_isDead_39 (by decide) ?_
    exact W.zret (v := (nI 1)) hx hb hr (by first | decide +kernel | assumption | exact kz_bA | exact kz_narr (by first | assumption | omega)) (fun t ht hW => ⟨⟨(nI 1), (), rfl, Or.inl ⟨rfl, fun i hi => hd9 i (by omega)⟩, by rw [ht]; exact hP, hD⟩, hS.F ht⟩) hS.2.2 dX6_isDead_40
  · have hil : i9 < 2 ^ em := c_9_1
    have hxl : i9 ^^^ 2 ^ k < 2 ^ em := Nat.xor_lt_two_pow hil (Nat.pow_lt_pow_right (by decide) qk)
    have hb1 : (no i9).toNat ≤ 1 := Bool.toNat_le _
    have hb2 : (no (i9 ^^^ 2 ^ k)).toNat ≤ 1 := Bool.toNat_le _
    refine lv_aload_n hx hb dX6_isDead_12 rfl (lv_at hl 0 rfl) ?_
    refine va_get (D := D) (ci := 6) (v := .ref (q 9)) (C := RX6) (T := TX6) (N := 17) hx hb hts kiX6_isDead_X6 hown hK hP 0 rfl rfl 16 (by decide) (hts (.fieldLink RX6 53 "TwoBanksModel" "isNorth" "[Z") (List.mem_of_getElem? (i := 2) rfl)) (fun _ h9 => h9) rfl dX6_isDead_13 ?_
    refine lv_iload_n hx hb dX6_isDead_16 rfl (lv_at hl 2 rfl) ?_
    refine va_zald hx hb hK hP 1 2 rfl rfl (vp_in_nI (by omega) (by omega)) dX6_isDead_17 ?_
    refine k_toi (y := nI ((no i9).toNat)) (congrArg (bA no) (nI_clamp (by omega))) ?_
    refine lv_aload_n hx hb dX6_isDead_18 rfl (lv_at hl 0 rfl) ?_
    refine va_get (D := D) (ci := 6) (v := .ref (q 9)) (C := RX6) (T := TX6) (N := 17) hx hb hts kiX6_isDead_X6 hown hK hP 0 rfl rfl 16 (by decide) (hts (.fieldLink RX6 53 "TwoBanksModel" "isNorth" "[Z") (List.mem_of_getElem? (i := 2) rfl)) (fun _ h9 => h9) rfl dX6_isDead_19 ?_
    refine lv_iload_n hx hb dX6_isDead_22 rfl (lv_at hl 2 rfl) ?_
    refine lv_iconst (v := (nI 1)) hx hb dX6_isDead_23 (by decide) ?_
    refine lv_iload_n hx hb dX6_isDead_24 rfl (lv_at hl 1 rfl) ?_
    refine lv_ishl hx hb dX6_isDead_25 ?_
    refine k_toi (y := nI (2 ^ k)) (kf_shl1 (by omega)) ?_
    refine lv_ixor hx hb dX6_isDead_26 ?_
    refine k_toi (y := nI (i9 ^^^ 2 ^ k)) (nx_xor _ _) ?_
    refine va_zald hx hb hK hP 1 2 rfl rfl (vp_in_nI (by omega) (by omega)) dX6_isDead_27 ?_
    refine k_toi (y := nI ((no (i9 ^^^ 2 ^ k)).toNat)) (congrArg (bA no) (nI_clamp (by omega))) ?_
    refine kw_icmp_eq (tgt := 33) hx hb dX6_isDead_28 (by decide) (by omega) (by omega) (fun c_28_2 => ?_) (fun c_28_2 => ?_)
    · have heq9 := c_28_2
      refine lv_iinc (v := (nI (i9 + 1))) (lv' := [(2, .int (nI (i9 + 1))), (0, .ref h0), (1, .int (nI k))]) hx hb dX6_isDead_33 hl (k := 2) rfl (k_inc _ 1) (by decide) rfl (fun ls hl => ?_)
      refine lv_goto (tgt := 2) hx hb dX6_isDead_36 (by decide) ?_
      exact ih_2 (i9 + 1) _ _ _ (by show 2 ^ em - (i9 + 1) < 2 ^ em - i9; omega) ⟨hP, hD, hS, lv_sub hl [1, 2, 0] rfl, by omega, lt_sp hd9 (tb_eq heq9)⟩
    · have hne9 := c_28_2
      refine lv_iconst (v := (nI 0)) hx hb dX6_isDead_31 (by decide) ?_
      exact W.zret (v := (nI 0)) hx hb hr (by first | decide +kernel | assumption | exact kz_bA | exact kz_narr (by first | assumption | omega)) (fun t ht hW => ⟨⟨(nI 0), (), rfl, Or.inr ⟨rfl, fun h9 => hne9 (by rw [h9 i9 hil])⟩, by rw [ht]; exact hP, hD⟩, hS.F ht⟩) hS.2.2 dX6_isDead_32
