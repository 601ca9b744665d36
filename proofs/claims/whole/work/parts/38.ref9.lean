def mFill (b ey : Nat → Nat) (cd : Nat) : Nat → (Nat → Nat) | 0 => b | k + 1 => uN (mFill b ey cd k) (ey k) (dg cd k)
def cdOf (bits : Nat) : Nat → Nat | 0 => 0 | k + 1 => cdOf bits k + (1 + bits / 2 ^ k % 2) * 3 ^ k
theorem cdOf_lt (bits : Nat) : ∀ k, cdOf bits k < 3 ^ k
  | 0 => by unfold cdOf; decide
  | k + 1 => by
    have := cdOf_lt bits k
    have h2 : bits / 2 ^ k % 2 < 2 := Nat.mod_lt _ (by decide)
    unfold cdOf
    rw [Nat.pow_succ]
    have h3 : (1 + bits / 2 ^ k % 2) * 3 ^ k ≤ 2 * 3 ^ k := Nat.mul_le_mul_right _ (by omega)
    omega
theorem kf_shr {n k : Nat} (hn : n < 2 ^ 31) (hk : k < 31) : nI n >>> (nI k &&& 31) = nI (n / 2 ^ k) := pk_shrN hn _ k (s_l k (by omega))
theorem kf_and1 {n : Nat} (hn : n < 2 ^ 31) : nI n &&& nI 1 = nI (n % 2) := pk_andN (by omega) 1 (by decide)
theorem kiX6_fills_X6 : ∀ w ∈ u_ws RX6 TX6 17, w ∈ wsX6_fills := fun w h => List.mem_cons_of_mem _ (List.mem_append_right _ h)
set_option maxHeartbeats 4000000 in
set_option maxRecDepth 100000 in
theorem c_R_fills (l : Launch) (D : va_G) (cI cJ cZ : ClassId) (h0 : Nat) (q : Nat → Nat) (R C tn dn ag md em : Nat) (b ey pw : Nat → Nat) (cd : Nat) (hR1 : 1 ≤ R) (hR2 : R ≤ 6) (hC1 : 1 ≤ C) (hC2 : C ≤ 6) (hRC : R * C ≤ 36) (hey : ∀ k, k < em → ey k < R * C) (hpw : ∀ i, i < 11 → pw i = 3 ^ i) (qem : em ≤ 10) (qcd : cd < 59049) (sz : Nat) : kMV l yX6_fills wsX6_fills 0 0 D cI cJ cZ [.ref h0, .int (nI cd)] [(h0, wMo q R C tn dn ag md em), ((q 0), .inl (cI, 36, .inl (nA b))), ((q 5), .inl (cI, 10, .inl (nA ey))), ((q 6), .inl (cI, 11, .inl (nA pw)))] sz (fun (_ : Unit) => True) (fun _ : Unit => [(h0, wMo q R C tn dn ag md em), ((q 0), .inl (cI, 36, .inl (nA (mFill b ey cd em)))), ((q 5), .inl (cI, 10, .inl (nA ey))), ((q 6), .inl (cI, 11, .inl (nA pw)))]) := by
  refine Met.ofW (cc := cX6_fills) (maxL := 3) (ret := none) (by decide) rfl ?_
  intro p e s m args below meth c s₁ B hml hv
  obtain ⟨rfl, hsz, hP, ⟨hK, hN⟩, hD0⟩ := hv
  have hx := B.exec
  have hb := B.bytes
  have hr := B.returns
  have hts := atoms_spec (ws := wsX6_fills) B.pre
  have hown : s.vm.findClass RX6 = some m.cls := findClass_of_methodNamed B.named
  have hlocks := B.notSynchronized
  subst hsz
  have hD := hD0.self (sz := s.heap.size)
  generalize hAe : va_A [(h0, wMo q R C tn dn ag md em), ((q 0), .inl (cI, 36, .inl (nA b))), ((q 5), .inl (cI, 10, .inl (nA ey))), ((q 6), .inl (cI, 11, .inl (nA pw)))] s.heap.size = A at hD ⊢
  have hA : ∀ q : Nat, s.heap.size ≤ q → A q := fun q h => by rw [← hAe]; exact Or.inr h
  have hS : va_S A s.heap s.heap [] := va_S.rf
  have hl := lv_entry ([.ref h0, .int (nI cd)]) (n := 3) (Nat.le_of_ble_eq_true rfl)
  rw [lg_entry_eq]
  generalize (lg_sl ([.ref h0, .int (nI cd)]) ++ List.replicate (3 - (lg_sl ([.ref h0, .int (nI cd)])).length) Slot.unset).toArray = ls at hl ⊢
  have hl : lv_has ls 3 [(0, .ref h0), (1, .int (nI cd))] := hl
  have hK2 : kK D cI cJ cZ s := ⟨hK, hN⟩
  clear hD0
  refine lv_iconst (v := (nI 0)) hx hb dX6_fills_0 (by decide) ?_
  refine lv_istore_n (lv' := [(2, .int (nI 0)), (0, .ref h0), (1, .int (nI cd))]) hx hb dX6_fills_1 rfl hl (by decide) rfl (fun ls hl => ?_)
  refine kw_loop (σ := Nat) (fun (k : Nat) H locs ls => va_P D vwCl [(h0, wMo q R C tn dn ag md em), ((q 0), .inl (cI, 36, .inl (nA (mFill b ey cd k)))), ((q 5), .inl (cI, 10, .inl (nA ey))), ((q 6), .inl (cI, 11, .inl (nA pw)))] H ∧ va_D A [(h0, wMo q R C tn dn ag md em), ((q 0), .inl (cI, 36, .inl (nA (mFill b ey cd k)))), ((q 5), .inl (cI, 10, .inl (nA ey))), ((q 6), .inl (cI, 11, .inl (nA pw)))] ∧ va_S A s.heap H locs ∧ lv_has ls 3 [(0, .ref h0), (1, .int (nI cd)), (2, .int (nI k))] ∧ (k ≤ em)) (fun (k : Nat) => em - k) 0 ⟨hP, hD, hS, lv_sub hl [1, 2, 0] rfl, Nat.zero_le _⟩ ?_
  clear hP hD hS hl
  rintro k H locs ls ⟨hP, hD, hS, hl, hk9⟩ ih_2
  have hP : va_P D vwCl [(h0, wMo q R C tn dn ag md em), ((q 0), .inl (cI, 36, .inl (nA (mFill b ey cd k)))), ((q 5), .inl (cI, 10, .inl (nA ey))), ((q 6), .inl (cI, 11, .inl (nA pw)))] H := hP
  have hD : va_D A [(h0, wMo q R C tn dn ag md em), ((q 0), .inl (cI, 36, .inl (nA (mFill b ey cd k)))), ((q 5), .inl (cI, 10, .inl (nA ey))), ((q 6), .inl (cI, 11, .inl (nA pw)))] := hD
  have hl : lv_has ls 3 [(0, .ref h0), (1, .int (nI cd)), (2, .int (nI k))] := hl
  have hk9 : k ≤ em := hk9
  refine lv_iload_n hx hb dX6_fills_2 rfl (lv_at hl 2 rfl) ?_
  refine lv_aload_n hx hb dX6_fills_3 rfl (lv_at hl 0 rfl) ?_
  refine va_get (D := D) (ci := 6) (v := .int (nI em)) (C := RX6) (T := TX6) (N := 17) hx hb hts kiX6_fills_X6 hown hK hP 0 rfl rfl 11 (by decide) (hts (.fieldLink RX6 130 "TwoBanksModel" "empties" "I") (List.mem_of_getElem? (i := 1) rfl)) (fun _ h9 => h9) rfl dX6_fills_4 ?_
  refine kw_icmp_ge (tgt := 37) hx hb dX6_fills_7 (by decide) (by omega) (by omega) (fun c_7_1 => ?_) (fun c_7_1 => ?_)
  · have hP : va_P D vwCl [(h0, wMo q R C tn dn ag md em), ((q 0), .inl (cI, 36, .inl (nA (mFill b ey cd em)))), ((q 5), .inl (cI, 10, .inl (nA ey))), ((q 6), .inl (cI, 11, .inl (nA pw)))] H := (by have e9 : k = em := (by omega); rw [e9] at hP; exact hP)
    have hD : va_D A [(h0, wMo q R C tn dn ag md em), ((q 0), .inl (cI, 36, .inl (nA (mFill b ey cd em)))), ((q 5), .inl (cI, 10, .inl (nA ey))), ((q 6), .inl (cI, 11, .inl (nA pw)))] := (by have e9 : k = em := (by omega); rw [e9] at hD; exact hD)
    exact W.vret hx hb hr (fun t ht hW => ⟨⟨(), rfl, trivial, by rw [ht]; exact hP, hD⟩, hS.F ht⟩) hS.2.2 dX6_fills_37
  · have hkl : k < em := c_7_1
    have hek := hey k hkl
    have hpk := hpw k (by omega)
    have hp0 : 0 < 3 ^ k := Nat.pow_pos (by decide)
    have hpb : 3 ^ k ≤ 3 ^ 10 := Nat.pow_le_pow_right (by decide) (by omega)
    refine lv_aload_n hx hb dX6_fills_10 rfl (lv_at hl 0 rfl) ?_
    refine va_get (D := D) (ci := 6) (v := .ref (q 0)) (C := RX6) (T := TX6) (N := 17) hx hb hts kiX6_fills_X6 hown hK hP 0 rfl rfl 3 (by decide) (hts (.fieldLink RX6 19 "TwoBanksModel" "at" "[I") (List.mem_of_getElem? (i := 2) rfl)) (fun _ h9 => h9) rfl dX6_fills_11 ?_
    refine lv_aload_n hx hb dX6_fills_14 rfl (lv_at hl 0 rfl) ?_
    refine va_get (D := D) (ci := 6) (v := .ref (q 5)) (C := RX6) (T := TX6) (N := 17) hx hb hts kiX6_fills_X6 hown hK hP 0 rfl rfl 12 (by decide) (hts (.fieldLink RX6 40 "TwoBanksModel" "empty" "[I") (List.mem_of_getElem? (i := 3) rfl)) (fun _ h9 => h9) rfl dX6_fills_15 ?_
    refine lv_iload_n hx hb dX6_fills_18 rfl (lv_at hl 2 rfl) ?_
    refine va_iald hx hb hK hP 2 0 rfl rfl (vp_in_nI (by omega) (by omega)) dX6_fills_19 ?_
    refine k_toi (y := nI (ey k)) (congrArg (nA ey) (nI_clamp (by omega))) ?_
    refine lv_iload_n hx hb dX6_fills_20 rfl (lv_at hl 1 rfl) ?_
    refine lv_aload_n hx hb dX6_fills_21 rfl (lv_at hl 0 rfl) ?_
    refine va_get (D := D) (ci := 6) (v := .ref (q 6)) (C := RX6) (T := TX6) (N := 17) hx hb hts kiX6_fills_X6 hown hK hP 0 rfl rfl 13 (by decide) (hts (.fieldLink RX6 43 "TwoBanksModel" "power" "[I") (List.mem_of_getElem? (i := 4) rfl)) (fun _ h9 => h9) rfl dX6_fills_22 ?_
    refine lv_iload_n hx hb dX6_fills_25 rfl (lv_at hl 2 rfl) ?_
    refine va_iald hx hb hK hP 3 0 rfl rfl (vp_in_nI (by omega) (by omega)) dX6_fills_26 ?_
    refine k_toi (y := nI (pw k)) (congrArg (nA pw) (nI_clamp (by omega))) ?_
    refine k_toi (y := nI (3 ^ k)) (congrArg nI hpk) ?_
    refine lv_idiv hx hb dX6_fills_27 (nI_ne0 (by omega) (by omega)) ?_
    refine k_toi (y := nI (cd / (3 ^ k))) (pk_div (by omega) (by omega) (by omega)) ?_
    have hdv : cd / 3 ^ k ≤ cd := Nat.div_le_self _ _
    refine lv_iconst (v := (nI 3)) hx hb dX6_fills_28 (by decide) ?_
    refine lv_irem hx hb dX6_fills_29 (nI_ne0 (by omega) (by omega)) ?_
    refine k_toi (y := nI ((cd / (3 ^ k)) % 3)) (pk_rem (by omega) (by omega) (by omega)) ?_
    refine k_toi (y := nI (dg cd k)) rfl ?_
    have hdg := dg_lt cd k
    refine va_iast hx hb hK hP hD hS 1 0 rfl rfl (vp_in_nI (by omega) (by omega)) dX6_fills_30 (fun H locs hP hD hS => ?_)
    rw [nI_clamp (by omega)] at hP hD
    rw [nA_upd] at hP hD
    have hP : va_P D vwCl [(h0, wMo q R C tn dn ag md em), ((q 0), .inl (cI, 36, .inl (nA (uN (mFill b ey cd k) (ey k) (dg cd k))))), ((q 5), .inl (cI, 10, .inl (nA ey))), ((q 6), .inl (cI, 11, .inl (nA pw)))] H := hP
    have hD : va_D A [(h0, wMo q R C tn dn ag md em), ((q 0), .inl (cI, 36, .inl (nA (uN (mFill b ey cd k) (ey k) (dg cd k))))), ((q 5), .inl (cI, 10, .inl (nA ey))), ((q 6), .inl (cI, 11, .inl (nA pw)))] := hD
    refine lv_iinc (v := (nI (k + 1))) (lv' := [(2, .int (nI (k + 1))), (0, .ref h0), (1, .int (nI cd))]) hx hb dX6_fills_31 hl (k := 2) rfl (k_inc _ 1) (by decide) rfl (fun ls hl => ?_)
    refine lv_goto (tgt := 2) hx hb dX6_fills_34 (by decide) ?_
    exact ih_2 (k + 1) _ _ _ (by show em - (k + 1) < em - k; omega) ⟨hP, hD, hS, lv_sub hl [1, 2, 0] rfl, by omega⟩

theorem kiX6_codeOf_X6 : ∀ w ∈ u_ws RX6 TX6 17, w ∈ wsX6_codeOf := fun w h => List.mem_cons_of_mem _ (List.mem_append_right _ h)
set_option maxHeartbeats 4000000 in
set_option maxRecDepth 100000 in
theorem c_R_codeOf (l : Launch) (D : va_G) (cI cJ cZ : ClassId) (h0 : Nat) (q : Nat → Nat) (R C tn dn ag md em : Nat) (pw : Nat → Nat) (bits : Nat) (hpw : ∀ i, i < 11 → pw i = 3 ^ i) (qem : em ≤ 10) (qbi : bits < 1024) (sz : Nat) : kMI l yX6_codeOf wsX6_codeOf 0 0 D cI cJ cZ [.ref h0, .int (nI bits)] [(h0, wMo q R C tn dn ag md em), ((q 6), .inl (cI, 11, .inl (nA pw)))] sz (fun r (_ : Unit) => r = nI (cdOf bits em)) (fun _ : Unit => [(h0, wMo q R C tn dn ag md em), ((q 6), .inl (cI, 11, .inl (nA pw)))]) := by
  refine Met.ofW (cc := cX6_codeOf) (maxL := 4) (ret := (some .int)) (by decide) rfl ?_
  intro p e s m args below meth c s₁ B hml hv
  obtain ⟨rfl, hsz, hP, ⟨hK, hN⟩, hD0⟩ := hv
  have hx := B.exec
  have hb := B.bytes
  have hr := B.returns
  have hts := atoms_spec (ws := wsX6_codeOf) B.pre
  have hown : s.vm.findClass RX6 = some m.cls := findClass_of_methodNamed B.named
  have hlocks := B.notSynchronized
  subst hsz
  have hD := hD0.self (sz := s.heap.size)
  generalize hAe : va_A [(h0, wMo q R C tn dn ag md em), ((q 6), .inl (cI, 11, .inl (nA pw)))] s.heap.size = A at hD ⊢
  have hA : ∀ q : Nat, s.heap.size ≤ q → A q := fun q h => by rw [← hAe]; exact Or.inr h
  have hS : va_S A s.heap s.heap [] := va_S.rf
  have hl := lv_entry ([.ref h0, .int (nI bits)]) (n := 4) (Nat.le_of_ble_eq_true rfl)
  rw [lg_entry_eq]
  generalize (lg_sl ([.ref h0, .int (nI bits)]) ++ List.replicate (4 - (lg_sl ([.ref h0, .int (nI bits)])).length) Slot.unset).toArray = ls at hl ⊢
  have hl : lv_has ls 4 [(0, .ref h0), (1, .int (nI bits))] := hl
  have hK2 : kK D cI cJ cZ s := ⟨hK, hN⟩
  clear hD0
  refine lv_iconst (v := (nI 0)) hx hb dX6_codeOf_0 (by decide) ?_
  refine lv_istore_n (lv' := [(2, .int (nI 0)), (0, .ref h0), (1, .int (nI bits))]) hx hb dX6_codeOf_1 rfl hl (by decide) rfl (fun ls hl => ?_)
  refine lv_iconst (v := (nI 0)) hx hb dX6_codeOf_2 (by decide) ?_
  refine lv_istore_n (lv' := [(3, .int (nI 0)), (2, .int (nI 0)), (0, .ref h0), (1, .int (nI bits))]) hx hb dX6_codeOf_3 rfl hl (by decide) rfl (fun ls hl => ?_)
  refine kw_loop (σ := Nat) (fun (k : Nat) H locs ls => va_P D vwCl [(h0, wMo q R C tn dn ag md em), ((q 6), .inl (cI, 11, .inl (nA pw)))] H ∧ va_D A [(h0, wMo q R C tn dn ag md em), ((q 6), .inl (cI, 11, .inl (nA pw)))] ∧ va_S A s.heap H locs ∧ lv_has ls 4 [(0, .ref h0), (1, .int (nI bits)), (2, .int (nI (cdOf bits k))), (3, .int (nI k))] ∧ (k ≤ em)) (fun (k : Nat) => em - k) 0 ⟨hP, hD, hS, lv_sub hl [2, 3, 1, 0] rfl, Nat.zero_le _⟩ ?_
  clear hP hD hS hl
  rintro k H locs ls ⟨hP, hD, hS, hl, hk9⟩ ih_4
  have hP : va_P D vwCl [(h0, wMo q R C tn dn ag md em), ((q 6), .inl (cI, 11, .inl (nA pw)))] H := hP
  have hD : va_D A [(h0, wMo q R C tn dn ag md em), ((q 6), .inl (cI, 11, .inl (nA pw)))] := hD
  have hl : lv_has ls 4 [(0, .ref h0), (1, .int (nI bits)), (2, .int (nI (cdOf bits k))), (3, .int (nI k))] := hl
  have hk9 : k ≤ em := hk9
  refine lv_iload_n hx hb dX6_codeOf_4 rfl (lv_at hl 3 rfl) ?_
  refine lv_aload_n hx hb dX6_codeOf_5 rfl (lv_at hl 0 rfl) ?_
  refine va_get (D := D) (ci := 6) (v := .int (nI em)) (C := RX6) (T := TX6) (N := 17) hx hb hts kiX6_codeOf_X6 hown hK hP 0 rfl rfl 11 (by decide) (hts (.fieldLink RX6 130 "TwoBanksModel" "empties" "I") (List.mem_of_getElem? (i := 1) rfl)) (fun _ h9 => h9) rfl dX6_codeOf_6 ?_
  refine kw_icmp_ge (tgt := 35) hx hb dX6_codeOf_9 (by decide) (by omega) (by omega) (fun c_9_1 => ?_) (fun c_9_1 => ?_)
  · refine lv_iload_n hx hb dX6_codeOf_35 rfl (lv_at hl 2 rfl) ?_
    exact W.iret (v := (nI (cdOf bits k))) hx hb hr (fun t ht hW => ⟨⟨(nI (cdOf bits k)), (), rfl, by rw [show k = em by omega], by rw [ht]; exact hP, hD⟩, hS.F ht⟩) hS.2.2 dX6_codeOf_36
  · have hkl : k < em := c_9_1
    have hpk := hpw k (by omega)
    have hdv : bits / 2 ^ k ≤ bits := Nat.div_le_self _ _
    refine lv_iload_n hx hb dX6_codeOf_12 rfl (lv_at hl 2 rfl) ?_
    refine lv_iconst (v := (nI 1)) hx hb dX6_codeOf_13 (by decide) ?_
    refine lv_iload_n hx hb dX6_codeOf_14 rfl (lv_at hl 1 rfl) ?_
    refine lv_iload_n hx hb dX6_codeOf_15 rfl (lv_at hl 3 rfl) ?_
    refine lv_ishr hx hb dX6_codeOf_16 ?_
    refine k_toi (y := nI (bits / 2 ^ k)) (kf_shr (by omega) (by omega)) ?_
    refine lv_iconst (v := (nI 1)) hx hb dX6_codeOf_17 (by decide) ?_
    refine lv_iand hx hb dX6_codeOf_18 ?_
    refine k_toi (y := nI (bits / 2 ^ k % 2)) (kf_and1 (by omega)) ?_
    refine lv_iadd hx hb dX6_codeOf_19 ?_
    refine k_toi (y := nI (1 + (bits / 2 ^ k % 2))) (nI_add _ _) ?_
    refine lv_aload_n hx hb dX6_codeOf_20 rfl (lv_at hl 0 rfl) ?_
    refine va_get (D := D) (ci := 6) (v := .ref (q 6)) (C := RX6) (T := TX6) (N := 17) hx hb hts kiX6_codeOf_X6 hown hK hP 0 rfl rfl 13 (by decide) (hts (.fieldLink RX6 43 "TwoBanksModel" "power" "[I") (List.mem_of_getElem? (i := 2) rfl)) (fun _ h9 => h9) rfl dX6_codeOf_21 ?_
    refine lv_iload_n hx hb dX6_codeOf_24 rfl (lv_at hl 3 rfl) ?_
    refine va_iald hx hb hK hP 1 0 rfl rfl (vp_in_nI (by omega) (by omega)) dX6_codeOf_25 ?_
    refine k_toi (y := nI (pw k)) (congrArg (nA pw) (nI_clamp (by omega))) ?_
    refine k_toi (y := nI (3 ^ k)) (congrArg nI hpk) ?_
    refine lv_imul hx hb dX6_codeOf_26 ?_
    refine k_toi (y := nI ((1 + (bits / 2 ^ k % 2)) * (3 ^ k))) (pk_mul _ _) ?_
    refine lv_iadd hx hb dX6_codeOf_27 ?_
    refine k_toi (y := nI ((cdOf bits k) + ((1 + (bits / 2 ^ k % 2)) * (3 ^ k)))) (nI_add _ _) ?_
    refine lv_istore_n (lv' := [(2, .int (nI ((cdOf bits k) + ((1 + (bits / 2 ^ k % 2)) * (3 ^ k))))), (0, .ref h0), (1, .int (nI bits)), (3, .int (nI k))]) hx hb dX6_codeOf_28 rfl hl (by decide) rfl (fun ls hl => ?_)
    refine lv_iinc (v := (nI (k + 1))) (lv' := [(3, .int (nI (k + 1))), (2, .int (nI ((cdOf bits k) + ((1 + (bits / 2 ^ k % 2)) * (3 ^ k))))), (0, .ref h0), (1, .int (nI bits))]) hx hb dX6_codeOf_29 hl (k := 3) rfl (k_inc _ 1) (by decide) rfl (fun ls hl => ?_)
    refine lv_goto (tgt := 4) hx hb dX6_codeOf_32 (by decide) ?_
    exact ih_4 (k + 1) _ _ _ (by show em - (k + 1) < em - k; omega) ⟨hP, hD, hS, lv_sub hl [2, 3, 1, 0] rfl, by omega⟩

theorem kiX6_hang_X6 : ∀ w ∈ u_ws RX6 TX6 17, w ∈ wsX6_hang := fun w h => List.mem_cons_of_mem _ (List.mem_append_right _ h)
set_option maxHeartbeats 4000000 in
set_option maxRecDepth 100000 in
theorem c_R_hang (l : Launch) (D : va_G) (cI cJ cZ : ClassId) (h0 : Nat) (q : Nat → Nat) (R C tn dn ag md em : Nat) (b : Nat → Nat) (z : Nat → Bool) (cl x y : Nat) (hR1 : 1 ≤ R) (hR2 : R ≤ 6) (hC1 : 1 ≤ C) (hC2 : C ≤ 6) (hRC : R * C ≤ 36) (hbv : ∀ f, f < R * C → b f ≤ 2) (qcl : cl ≤ 2) (qx : x < R * C) (qy : y < R * C) (sz : Nat) : kMI l yX6_hang wsX6_hang 4 92 D cI cJ cZ [.ref h0, .int (nI cl), .int (nI x), .int (nI y)] [(h0, wMo q R C tn dn ag md em), ((q 0), .inl (cI, 36, .inl (nA b))), ((q 2), .inl (cZ, 36, .inl (bA z)))] sz (fun r (_ : Nat → Bool) => (r = nI 1 ∧ (b x = cl ∧ b y = cl ∧ mG R C b x y)) ∨ (r = nI 0 ∧ ¬ (b x = cl ∧ b y = cl ∧ mG R C b x y))) (fun za : Nat → Bool => [(h0, wMo q R C tn dn ag md em), ((q 0), .inl (cI, 36, .inl (nA b))), ((q 2), .inl (cZ, 36, .inl (bA za)))]) := by
  refine Met.ofW (cc := cX6_hang) (maxL := 4) (ret := (some .boolean)) (by decide) rfl ?_
  intro p e s m args below meth c s₁ B hml hv
  obtain ⟨rfl, hsz, hP, ⟨hK, hN⟩, hD0⟩ := hv
  have hx := B.exec
  have hb := B.bytes
  have hr := B.returns
  have hts := atoms_spec (ws := wsX6_hang) B.pre
  have hown : s.vm.findClass RX6 = some m.cls := findClass_of_methodNamed B.named
  have hlocks := B.notSynchronized
  subst hsz
  have hD := hD0.self (sz := s.heap.size)
  generalize hAe : va_A [(h0, wMo q R C tn dn ag md em), ((q 0), .inl (cI, 36, .inl (nA b))), ((q 2), .inl (cZ, 36, .inl (bA z)))] s.heap.size = A at hD ⊢
  have hA : ∀ q : Nat, s.heap.size ≤ q → A q := fun q h => by rw [← hAe]; exact Or.inr h
  have hS : va_S A s.heap s.heap [] := va_S.rf
  have hl := lv_entry ([.ref h0, .int (nI cl), .int (nI x), .int (nI y)]) (n := 4) (Nat.le_of_ble_eq_true rfl)
  rw [lg_entry_eq]
  generalize (lg_sl ([.ref h0, .int (nI cl), .int (nI x), .int (nI y)]) ++ List.replicate (4 - (lg_sl ([.ref h0, .int (nI cl), .int (nI x), .int (nI y)])).length) Slot.unset).toArray = ls at hl ⊢
  have hl : lv_has ls 4 [(0, .ref h0), (1, .int (nI cl)), (2, .int (nI x)), (3, .int (nI y))] := hl
  have hK2 : kK D cI cJ cZ s := ⟨hK, hN⟩
  clear hD0
  have hbx := hbv x qx
  have hby := hbv y qy
  refine lv_aload_n hx hb dX6_hang_0 rfl (lv_at hl 0 rfl) ?_
  refine va_get (D := D) (ci := 6) (v := .ref (q 0)) (C := RX6) (T := TX6) (N := 17) hx hb hts kiX6_hang_X6 hown hK hP 0 rfl rfl 3 (by decide) (hts (.fieldLink RX6 19 "TwoBanksModel" "at" "[I") (List.mem_of_getElem? (i := 1) rfl)) (fun _ h9 => h9) rfl dX6_hang_1 ?_
  refine lv_iload_n hx hb dX6_hang_4 rfl (lv_at hl 2 rfl) ?_
  refine va_iald hx hb hK hP 1 0 rfl rfl (vp_in_nI (by omega) (by omega)) dX6_hang_5 ?_
  refine k_toi (y := nI (b x)) (congrArg (nA b) (nI_clamp (by omega))) ?_
  refine lv_iload_n hx hb dX6_hang_6 rfl (lv_at hl 1 rfl) ?_
  refine kw_icmp_ne (tgt := 20) hx hb dX6_hang_7 (by decide) (by omega) (by omega) (fun c_7_1 => ?_) (fun c_7_1 => ?_)
  · refine lv_iconst (v := (nI 0)) hx hb dX6_hang_20 (by decide) ?_
    exact W.zret (v := (nI 0)) hx hb hr (by first | decide +kernel | assumption | exact kz_bA | exact kz_narr (by first | assumption | omega)) (fun t ht hW => ⟨⟨(nI 0), z, rfl, Or.inr ⟨rfl, fun h9 => by omega⟩, by rw [ht]; exact hP, hD⟩, hS.F ht⟩) hS.2.2 dX6_hang_21
  · refine lv_aload_n hx hb dX6_hang_10 rfl (lv_at hl 0 rfl) ?_
    refine va_get (D := D) (ci := 6) (v := .ref (q 0)) (C := RX6) (T := TX6) (N := 17) hx hb hts kiX6_hang_X6 hown hK hP 0 rfl rfl 3 (by decide) (hts (.fieldLink RX6 19 "TwoBanksModel" "at" "[I") (List.mem_of_getElem? (i := 1) rfl)) (fun _ h9 => h9) rfl dX6_hang_11 ?_
    refine lv_iload_n hx hb dX6_hang_14 rfl (lv_at hl 3 rfl) ?_
    refine va_iald hx hb hK hP 1 0 rfl rfl (vp_in_nI (by omega) (by omega)) dX6_hang_15 ?_
    refine k_toi (y := nI (b y)) (congrArg (nA b) (nI_clamp (by omega))) ?_
    refine lv_iload_n hx hb dX6_hang_16 rfl (lv_at hl 1 rfl) ?_
    refine kw_icmp_eq (tgt := 22) hx hb dX6_hang_17 (by decide) (by omega) (by omega) (fun c_17_2 => ?_) (fun c_17_2 => ?_)
    · refine lv_aload_n hx hb dX6_hang_22 rfl (lv_at hl 0 rfl) ?_
      refine lv_iload_n hx hb dX6_hang_23 rfl (lv_at hl 2 rfl) ?_
      refine k_callv (wr := []) (w2 := (fun za : Nat → Bool => [(h0, wMo q R C tn dn ag md em), ((q 0), .inl (cI, 36, .inl (nA b))), ((q 2), .inl (cZ, 36, .inl (bA za)))])) (va_runV (As := [.int (nI x)]) (rest := []) ⟨hx, hb, hml, hown, hts⟩ (c_R_groupOf l D cI cJ cZ h0 q R C tn dn ag md em b z x hR1 hR2 hC1 hC2 hRC hbv (by omega)  s.heap.size) (cwV 1 hts gX6_hang_X6_groupOf rfl rfl rfl (by decide +kernel) ⟨Nat.le_of_ble_eq_true rfl, Nat.le_of_ble_eq_true rfl⟩) (kPV (ci := 6) (q0 := 0) (wc := [(h0, wMo q R C tn dn ag md em), ((q 0), .inl (cI, 36, .inl (nA b))), ((q 2), .inl (cZ, 36, .inl (bA z)))]) hK2 hP hD [0, 1, 2] rfl (by decide) rfl rfl) rfl rfl hl.1 rfl (lv_room (Nat.le_of_ble_eq_true rfl)) dX6_hang_24 ⟨Nat.le_of_ble_eq_true rfl, Nat.le_of_ble_eq_true rfl⟩) hP hD hS hA [0, 1, 2] [] [0, 1, 2] rfl rfl (by decide) (by decide) (fun _ => rfl) (by decide) (fun u_4 H locs hw_4 hP hD hS => ?_)
      obtain ⟨za_3, rfl⟩ : ∃ z, z = u_4 := ⟨_, rfl⟩
      have hP : va_P D vwCl [(h0, wMo q R C tn dn ag md em), ((q 0), .inl (cI, 36, .inl (nA b))), ((q 2), .inl (cZ, 36, .inl (bA za_3)))] H := hP
      have hD : va_D A [(h0, wMo q R C tn dn ag md em), ((q 0), .inl (cI, 36, .inl (nA b))), ((q 2), .inl (cZ, 36, .inl (bA za_3)))] := hD
      refine lv_aload_n hx hb dX6_hang_27 rfl (lv_at hl 0 rfl) ?_
      refine va_get (D := D) (ci := 6) (v := .ref (q 2)) (C := RX6) (T := TX6) (N := 17) hx hb hts kiX6_hang_X6 hown hK hP 0 rfl rfl 8 (by decide) (hts (.fieldLink RX6 30 "TwoBanksModel" "isReached" "[Z") (List.mem_of_getElem? (i := 2) rfl)) (fun _ h9 => h9) rfl dX6_hang_28 ?_
      refine lv_iload_n hx hb dX6_hang_31 rfl (lv_at hl 3 rfl) ?_
      refine va_zald hx hb hK hP 2 2 rfl rfl (vp_in_nI (by omega) (by omega)) dX6_hang_32 ?_
      refine k_toi (y := nI ((za_3 y).toNat)) (congrArg (bA za_3) (nI_clamp (by omega))) ?_
      exact W.zret (v := (nI ((za_3 y).toNat))) hx hb hr (by first | decide +kernel | assumption | exact kz_bA | exact kz_narr (by first | assumption | omega)) (fun t ht hW => ⟨⟨(nI ((za_3 y).toNat)), za_3, rfl, (by rcases hcb : za_3 y with _ | _; exact Or.inr ⟨rfl, fun h9 => by have := (hw_4 y qy).mpr h9.2.2; rw [hcb] at this; cases this⟩; exact Or.inl ⟨rfl, by omega, by omega, (hw_4 y qy).mp hcb⟩), by rw [ht]; exact hP, hD⟩, hS.F ht⟩) hS.2.2 dX6_hang_33
    · refine lv_iconst (v := (nI 0)) hx hb dX6_hang_20 (by decide) ?_
      exact W.zret (v := (nI 0)) hx hb hr (by first | decide +kernel | assumption | exact kz_bA | exact kz_narr (by first | assumption | omega)) (fun t ht hW => ⟨⟨(nI 0), z, rfl, Or.inr ⟨rfl, fun h9 => by omega⟩, by rw [ht]; exact hP, hD⟩, hS.F ht⟩) hS.2.2 dX6_hang_21
