def mF (cl : Nat) : Nat := if cl = 1 then 1 else 4
def mL (cl : Nat) : Nat := if cl = 1 then 2 else 8
theorem mF_bd (x cl : Nat) : x &&& mF cl ≤ 8 := Nat.le_trans Nat.and_le_right (by unfold mF; split <;> omega)
theorem mL_bd (x cl : Nat) : x &&& mL cl ≤ 8 := Nat.le_trans Nat.and_le_right (by unfold mL; split <;> omega)
def mSeed (R C : Nat) (b : Nat → Nat) (cl : Nat) (x : Nat) : Prop := x < R * C ∧ b x = cl ∧ 0 < mBk R C x &&& mF cl
def mJ (R C : Nat) (b : Nat → Nat) (cl : Nat) : Prop := ∃ f, f < R * C ∧ ME R C b cl (mSeed R C b cl) f ∧ 0 < mBk R C f &&& mL cl
noncomputable def mWho (R C : Nat) (b : Nat → Nat) : Nat := @ite Nat (mJ R C b 1) (Classical.propDecidable _) 1 (@ite Nat (mJ R C b 2) (Classical.propDecidable _) 2 0)
theorem mWho_1 {R C : Nat} {b : Nat → Nat} (h : mJ R C b 1) : mWho R C b = 1 := if_pos h
theorem mWho_2 {R C : Nat} {b : Nat → Nat} (h1 : ¬ mJ R C b 1) (h : mJ R C b 2) : mWho R C b = 2 := by unfold mWho; rw [if_neg h1, if_pos h]
theorem mWho_0 {R C : Nat} {b : Nat → Nat} (h1 : ¬ mJ R C b 1) (h : ¬ mJ R C b 2) : mWho R C b = 0 := by unfold mWho; rw [if_neg h1, if_neg h]
def sdP (R C : Nat) (b : Nat → Nat) (cl : Nat) (z : Nat → Bool) (x : Nat) : Prop := z x = true ↔ (b x = cl ∧ 0 < mBk R C x &&& mF cl)
theorem sd_put {R C : Nat} {b : Nat → Nat} {cl f : Nat} {z : Nat → Bool} {v : Bool} (h : ∀ x, x < f → sdP R C b cl z x) (hv : v = true ↔ (b f = cl ∧ 0 < mBk R C f &&& mF cl)) : ∀ x, x < f + 1 → sdP R C b cl (uB z f v) x := by
  intro x hx
  unfold sdP
  by_cases e : x = f
  · rw [e, uB_s]; exact hv
  · rw [uB_n e]; exact h x (by omega)
theorem sd_end {R C : Nat} {b : Nat → Nat} {cl : Nat} {z zz : Nat → Bool} (h : ∀ x, x < R * C → sdP R C b cl z x) (hz : ∀ f, f < R * C → (zz f = true ↔ ME R C b cl (fun x => x < R * C ∧ z x = true) f)) : ∀ f, f < R * C → (zz f = true ↔ ME R C b cl (mSeed R C b cl) f) := by
  intro f hf
  rw [hz f hf]
  exact RE_cong (fun _ => Iff.rfl) (fun x => ⟨fun hx => ⟨hx.1, (h x hx.1).mp hx.2⟩, fun hx => ⟨hx.1, (h x hx.1).mpr hx.2⟩⟩)
theorem and0 {x : Nat} (h : x = 0) : ¬ 0 < x := by omega
theorem kiX6_joins_X6 : ∀ w ∈ u_ws RX6 TX6 17, w ∈ wsX6_joins := fun w h => List.mem_cons_of_mem _ (List.mem_append_right _ h)
set_option maxHeartbeats 4000000 in
set_option maxRecDepth 100000 in
theorem c_R_joins (l : Launch) (D : va_G) (cI cJ cZ : ClassId) (h0 : Nat) (q : Nat → Nat) (R C tn dn ag md em : Nat) (b : Nat → Nat) (z : Nat → Bool) (cl : Nat) (hR1 : 1 ≤ R) (hR2 : R ≤ 6) (hC1 : 1 ≤ C) (hC2 : C ≤ 6) (hRC : R * C ≤ 36) (hbv : ∀ f, f < R * C → b f ≤ 2) (qcl : cl ≤ 2) (sz : Nat) : kMI l yX6_joins wsX6_joins 3 71 D cI cJ cZ [.ref h0, .int (nI cl)] [(h0, wMo q R C tn dn ag md em), ((q 0), .inl (cI, 36, .inl (nA b))), ((q 2), .inl (cZ, 36, .inl (bA z)))] sz (fun r (_ : Nat → Bool) => (r = nI 1 ∧ mJ R C b cl) ∨ (r = nI 0 ∧ ¬ mJ R C b cl)) (fun za : Nat → Bool => [(h0, wMo q R C tn dn ag md em), ((q 0), .inl (cI, 36, .inl (nA b))), ((q 2), .inl (cZ, 36, .inl (bA za)))]) := by
  refine Met.ofW (cc := cX6_joins) (maxL := 3) (ret := (some .boolean)) (by decide) rfl ?_
  intro p e s m args below meth c s₁ B hml hv
  obtain ⟨rfl, hsz, hP, ⟨hK, hN⟩, hD0⟩ := hv
  have hx := B.exec
  have hb := B.bytes
  have hr := B.returns
  have hts := atoms_spec (ws := wsX6_joins) B.pre
  have hown : s.vm.findClass RX6 = some m.cls := findClass_of_methodNamed B.named
  have hlocks := B.notSynchronized
  subst hsz
  have hD := hD0.self (sz := s.heap.size)
  generalize hAe : va_A [(h0, wMo q R C tn dn ag md em), ((q 0), .inl (cI, 36, .inl (nA b))), ((q 2), .inl (cZ, 36, .inl (bA z)))] s.heap.size = A at hD ⊢
  have hA : ∀ q : Nat, s.heap.size ≤ q → A q := fun q h => by rw [← hAe]; exact Or.inr h
  have hS : va_S A s.heap s.heap [] := va_S.rf
  have hl := lv_entry ([.ref h0, .int (nI cl)]) (n := 3) (Nat.le_of_ble_eq_true rfl)
  rw [lg_entry_eq]
  generalize (lg_sl ([.ref h0, .int (nI cl)]) ++ List.replicate (3 - (lg_sl ([.ref h0, .int (nI cl)])).length) Slot.unset).toArray = ls at hl ⊢
  have hl : lv_has ls 3 [(0, .ref h0), (1, .int (nI cl))] := hl
  have hK2 : kK D cI cJ cZ s := ⟨hK, hN⟩
  clear hD0
  refine lv_iconst (v := (nI 0)) hx hb dX6_joins_0 (by decide) ?_
  refine lv_istore_n (lv' := [(2, .int (nI 0)), (0, .ref h0), (1, .int (nI cl))]) hx hb dX6_joins_1 rfl hl (by decide) rfl (fun ls hl => ?_)
  refine kw_loop (σ := Nat × (Nat → Bool)) (fun zz H locs ls => match zz with | (f, zs) => va_P D vwCl [(h0, wMo q R C tn dn ag md em), ((q 0), .inl (cI, 36, .inl (nA b))), ((q 2), .inl (cZ, 36, .inl (bA zs)))] H ∧ va_D A [(h0, wMo q R C tn dn ag md em), ((q 0), .inl (cI, 36, .inl (nA b))), ((q 2), .inl (cZ, 36, .inl (bA zs)))] ∧ va_S A s.heap H locs ∧ lv_has ls 3 [(0, .ref h0), (1, .int (nI cl)), (2, .int (nI f))] ∧ (f ≤ R * C) ∧ (∀ x, x < f → sdP R C b cl zs x)) (fun zz => match zz with | (f, zs) => R * C - f) (0, z) ⟨hP, hD, hS, lv_sub hl [1, 2, 0] rfl, Nat.zero_le _, fun x hx => absurd hx (Nat.not_lt_zero _)⟩ ?_
  clear hP hD hS hl
  rintro ⟨f, zs⟩ H locs ls ⟨hP, hD, hS, hl, hf3, hs3⟩ ih_2
  have hP : va_P D vwCl [(h0, wMo q R C tn dn ag md em), ((q 0), .inl (cI, 36, .inl (nA b))), ((q 2), .inl (cZ, 36, .inl (bA zs)))] H := hP
  have hD : va_D A [(h0, wMo q R C tn dn ag md em), ((q 0), .inl (cI, 36, .inl (nA b))), ((q 2), .inl (cZ, 36, .inl (bA zs)))] := hD
  have hl : lv_has ls 3 [(0, .ref h0), (1, .int (nI cl)), (2, .int (nI f))] := hl
  have hf3 : f ≤ R * C := hf3
  have hs3 : ∀ x, x < f → sdP R C b cl zs x := hs3
  refine lv_iload_n hx hb dX6_joins_2 rfl (lv_at hl 2 rfl) ?_
  refine lv_aload_n hx hb dX6_joins_3 rfl (lv_at hl 0 rfl) ?_
  refine k_calli (wr := [((q 0), .inl (cI, 36, .inl (nA b))), ((q 2), .inl (cZ, 36, .inl (bA zs)))]) (w2 := (fun _ : Unit => [(h0, wMo q R C tn dn ag md em), ((q 0), .inl (cI, 36, .inl (nA b))), ((q 2), .inl (cZ, 36, .inl (bA zs)))])) (va_runV (As := []) (rest := [.int (nI f)]) ⟨hx, hb, hml, hown, hts⟩ (c_R_fields l D cI cJ cZ h0 q R C tn dn ag md em  H.size) (cwV 0 hts gX6_joins_X6_fields rfl rfl rfl (by decide +kernel) ⟨Nat.le_of_ble_eq_true rfl, Nat.le_of_ble_eq_true rfl⟩) (kPV (ci := 6) (q0 := 0) (wc := [(h0, wMo q R C tn dn ag md em)]) hK2 hP hD [0] rfl (by decide) rfl rfl) rfl rfl hl.1 rfl (lv_room (Nat.le_of_ble_eq_true rfl)) dX6_joins_4 ⟨Nat.le_of_ble_eq_true rfl, Nat.le_of_ble_eq_true rfl⟩) hP hD hS hA [0] [1, 2] [2, 0, 1] rfl rfl (by decide) (by decide) (fun _ => rfl) (by decide) (fun r_1 u_1 H locs hw_1 hP hD hS => ?_)
  have hP : va_P D vwCl [(h0, wMo q R C tn dn ag md em), ((q 0), .inl (cI, 36, .inl (nA b))), ((q 2), .inl (cZ, 36, .inl (bA zs)))] H := hP
  have hD : va_D A [(h0, wMo q R C tn dn ag md em), ((q 0), .inl (cI, 36, .inl (nA b))), ((q 2), .inl (cZ, 36, .inl (bA zs)))] := hD
  subst hw_1
  refine kw_icmp_ge (tgt := 50) hx hb dX6_joins_7 (by decide) (by omega) (by omega) (fun c_7_2 => ?_) (fun c_7_2 => ?_)
  · refine lv_aload_n hx hb dX6_joins_50 rfl (lv_at hl 0 rfl) ?_
    refine lv_iload_n hx hb dX6_joins_51 rfl (lv_at hl 1 rfl) ?_
    refine k_callv (wr := []) (w2 := (fun za : Nat → Bool => [(h0, wMo q R C tn dn ag md em), ((q 0), .inl (cI, 36, .inl (nA b))), ((q 2), .inl (cZ, 36, .inl (bA za)))])) (va_runV (As := [.int (nI cl)]) (rest := []) ⟨hx, hb, hml, hown, hts⟩ (c_R_reaches l D cI cJ cZ h0 q R C tn dn ag md em b zs cl hR1 hR2 hC1 hC2 hRC hbv qcl  H.size) (cwV 1 hts gX6_joins_X6_reaches rfl rfl rfl (by decide +kernel) ⟨Nat.le_of_ble_eq_true rfl, Nat.le_of_ble_eq_true rfl⟩) (kPV (ci := 6) (q0 := 0) (wc := [(h0, wMo q R C tn dn ag md em), ((q 0), .inl (cI, 36, .inl (nA b))), ((q 2), .inl (cZ, 36, .inl (bA zs)))]) hK2 hP hD [0, 1, 2] rfl (by decide) rfl rfl) rfl rfl hl.1 rfl (lv_room (Nat.le_of_ble_eq_true rfl)) dX6_joins_52 ⟨Nat.le_of_ble_eq_true rfl, Nat.le_of_ble_eq_true rfl⟩) hP hD hS hA [0, 1, 2] [] [0, 1, 2] rfl rfl (by decide) (by decide) (fun _ => rfl) (by decide) (fun u_4 H locs hw_4 hP hD hS => ?_)
    obtain ⟨za_3, rfl⟩ : ∃ z, z = u_4 := ⟨_, rfl⟩
    have hP : va_P D vwCl [(h0, wMo q R C tn dn ag md em), ((q 0), .inl (cI, 36, .inl (nA b))), ((q 2), .inl (cZ, 36, .inl (bA za_3)))] H := hP
    have hD : va_D A [(h0, wMo q R C tn dn ag md em), ((q 0), .inl (cI, 36, .inl (nA b))), ((q 2), .inl (cZ, 36, .inl (bA za_3)))] := hD
    have hz9 := sd_end (fun x hx => hs3 x (by omega)) hw_4
    refine lv_iconst (v := (nI 0)) hx hb dX6_joins_55 (by decide) ?_
    refine lv_istore_n (lv' := [(2, .int (nI 0)), (0, .ref h0), (1, .int (nI cl))]) hx hb dX6_joins_56 rfl hl (by decide) rfl (fun ls hl => ?_)
    refine kw_loop (σ := Nat) (fun (f : Nat) H locs ls => va_P D vwCl [(h0, wMo q R C tn dn ag md em), ((q 0), .inl (cI, 36, .inl (nA b))), ((q 2), .inl (cZ, 36, .inl (bA za_3)))] H ∧ va_D A [(h0, wMo q R C tn dn ag md em), ((q 0), .inl (cI, 36, .inl (nA b))), ((q 2), .inl (cZ, 36, .inl (bA za_3)))] ∧ va_S A s.heap H locs ∧ lv_has ls 3 [(0, .ref h0), (1, .int (nI cl)), (2, .int (nI f))] ∧ (f ≤ R * C) ∧ (∀ x, x < f → ¬ (ME R C b cl (mSeed R C b cl) x ∧ 0 < mBk R C x &&& mL cl))) (fun (f : Nat) => R * C - f) 0 ⟨hP, hD, hS, lv_sub hl [1, 2, 0] rfl, Nat.zero_le _, fun x hx => absurd hx (Nat.not_lt_zero _)⟩ ?_
    clear hP hD hS hl
    rintro f H locs ls ⟨hP, hD, hS, hl, hf4, hn4⟩ ih_57
    have hP : va_P D vwCl [(h0, wMo q R C tn dn ag md em), ((q 0), .inl (cI, 36, .inl (nA b))), ((q 2), .inl (cZ, 36, .inl (bA za_3)))] H := hP
    have hD : va_D A [(h0, wMo q R C tn dn ag md em), ((q 0), .inl (cI, 36, .inl (nA b))), ((q 2), .inl (cZ, 36, .inl (bA za_3)))] := hD
    have hl : lv_has ls 3 [(0, .ref h0), (1, .int (nI cl)), (2, .int (nI f))] := hl
    have hf4 : f ≤ R * C := hf4
    have hn4 : ∀ x, x < f → ¬ (ME R C b cl (mSeed R C b cl) x ∧ 0 < mBk R C x &&& mL cl) := hn4
    refine lv_iload_n hx hb dX6_joins_57 rfl (lv_at hl 2 rfl) ?_
    refine lv_aload_n hx hb dX6_joins_58 rfl (lv_at hl 0 rfl) ?_
    refine k_calli (wr := [((q 0), .inl (cI, 36, .inl (nA b))), ((q 2), .inl (cZ, 36, .inl (bA za_3)))]) (w2 := (fun _ : Unit => [(h0, wMo q R C tn dn ag md em), ((q 0), .inl (cI, 36, .inl (nA b))), ((q 2), .inl (cZ, 36, .inl (bA za_3)))])) (va_runV (As := []) (rest := [.int (nI f)]) ⟨hx, hb, hml, hown, hts⟩ (c_R_fields l D cI cJ cZ h0 q R C tn dn ag md em  H.size) (cwV 0 hts gX6_joins_X6_fields rfl rfl rfl (by decide +kernel) ⟨Nat.le_of_ble_eq_true rfl, Nat.le_of_ble_eq_true rfl⟩) (kPV (ci := 6) (q0 := 0) (wc := [(h0, wMo q R C tn dn ag md em)]) hK2 hP hD [0] rfl (by decide) rfl rfl) rfl rfl hl.1 rfl (lv_room (Nat.le_of_ble_eq_true rfl)) dX6_joins_59 ⟨Nat.le_of_ble_eq_true rfl, Nat.le_of_ble_eq_true rfl⟩) hP hD hS hA [0] [1, 2] [2, 0, 1] rfl rfl (by decide) (by decide) (fun _ => rfl) (by decide) (fun r_5 u_5 H locs hw_5 hP hD hS => ?_)
    have hP : va_P D vwCl [(h0, wMo q R C tn dn ag md em), ((q 0), .inl (cI, 36, .inl (nA b))), ((q 2), .inl (cZ, 36, .inl (bA za_3)))] H := hP
    have hD : va_D A [(h0, wMo q R C tn dn ag md em), ((q 0), .inl (cI, 36, .inl (nA b))), ((q 2), .inl (cZ, 36, .inl (bA za_3)))] := hD
    subst hw_5
    refine kw_icmp_ge (tgt := 95) hx hb dX6_joins_62 (by decide) (by omega) (by omega) (fun c_62_6 => ?_) (fun c_62_6 => ?_)
    · refine lv_iconst (v := (nI 0)) hx hb dX6_joins_95 (by decide) ?_
      exact W.zret (v := (nI 0)) hx hb hr (by first | decide +kernel | assumption | exact kz_narr (by first | assumption | omega)) (fun t ht hW => ⟨⟨(nI 0), za_3, rfl, Or.inr ⟨rfl, fun ⟨x, h1, h2, h3⟩ => hn4 x (by omega) ⟨h2, h3⟩⟩, by rw [ht]; exact hP, hD⟩, hS.F ht⟩) hS.2.2 dX6_joins_96
    · have hfl : f < R * C := c_62_6
      have hbf := hbv f hfl
      have hzb : (za_3 f).toNat ≤ 1 := Bool.toNat_le _
      refine lv_aload_n hx hb dX6_joins_65 rfl (lv_at hl 0 rfl) ?_
      refine va_get (D := D) (ci := 6) (v := .ref (q 2)) (C := RX6) (T := TX6) (N := 17) hx hb hts kiX6_joins_X6 hown hK hP 0 rfl rfl 8 (by decide) (hts (.fieldLink RX6 30 "TwoBanksModel" "isReached" "[Z") (List.mem_of_getElem? (i := 1) rfl)) (fun _ h9 => h9) rfl dX6_joins_66 ?_
      refine lv_iload_n hx hb dX6_joins_69 rfl (lv_at hl 2 rfl) ?_
      refine va_zald hx hb hK hP 2 2 rfl rfl (vp_in_nI (by omega) (by omega)) dX6_joins_70 ?_
      refine k_toi (y := nI ((za_3 f).toNat)) (congrArg (bA za_3) (nI_clamp (by omega))) ?_
      refine kw_if_eq (tgt := 89) hx hb dX6_joins_71 (by decide) (by omega) (fun c_71_7 => ?_) (fun c_71_7 => ?_)
      · have hzo := bz_f c_71_7
        refine lv_iinc (v := (nI (f + 1))) (lv' := [(2, .int (nI (f + 1))), (0, .ref h0), (1, .int (nI cl))]) hx hb dX6_joins_89 hl (k := 2) rfl (k_inc _ 1) (by decide) rfl (fun ls hl => ?_)
        refine lv_goto (tgt := 57) hx hb dX6_joins_92 (by decide) ?_
        exact ih_57 (f + 1) _ _ _ (by show R * C - (f + 1) < R * C - f; omega) ⟨hP, hD, hS, lv_sub hl [1, 2, 0] rfl, by omega, lt_sp hn4 (fun h => by have := (hz9 f hfl).mpr h.1; rw [hzo] at this; cases this)⟩
      · have hzo := bz_t c_71_7
        refine lv_aload_n hx hb dX6_joins_74 rfl (lv_at hl 0 rfl) ?_
        refine lv_iload_n hx hb dX6_joins_75 rfl (lv_at hl 2 rfl) ?_
        refine k_calli (wr := [((q 0), .inl (cI, 36, .inl (nA b))), ((q 2), .inl (cZ, 36, .inl (bA za_3)))]) (w2 := (fun _ : Unit => [(h0, wMo q R C tn dn ag md em), ((q 0), .inl (cI, 36, .inl (nA b))), ((q 2), .inl (cZ, 36, .inl (bA za_3)))])) (va_runV (As := [.int (nI f)]) (rest := []) ⟨hx, hb, hml, hown, hts⟩ (c_R_banks l D cI cJ cZ h0 q R C tn dn ag md em f hR1 hR2 hC1 hC2 hRC (by omega)  H.size) (cwV 1 hts gX6_joins_X6_banks rfl rfl rfl (by decide +kernel) ⟨Nat.le_of_ble_eq_true rfl, Nat.le_of_ble_eq_true rfl⟩) (kPV (ci := 6) (q0 := 0) (wc := [(h0, wMo q R C tn dn ag md em)]) hK2 hP hD [0] rfl (by decide) rfl rfl) rfl rfl hl.1 rfl (lv_room (Nat.le_of_ble_eq_true rfl)) dX6_joins_76 ⟨Nat.le_of_ble_eq_true rfl, Nat.le_of_ble_eq_true rfl⟩) hP hD hS hA [0] [1, 2] [2, 0, 1] rfl rfl (by decide) (by decide) (fun _ => rfl) (by decide) (fun r_8 u_8 H locs hw_8 hP hD hS => ?_)
        have hP : va_P D vwCl [(h0, wMo q R C tn dn ag md em), ((q 0), .inl (cI, 36, .inl (nA b))), ((q 2), .inl (cZ, 36, .inl (bA za_3)))] H := hP
        have hD : va_D A [(h0, wMo q R C tn dn ag md em), ((q 0), .inl (cI, 36, .inl (nA b))), ((q 2), .inl (cZ, 36, .inl (bA za_3)))] := hD
        subst hw_8
        refine lv_iload_n hx hb dX6_joins_79 rfl (lv_at hl 1 rfl) ?_
        refine k_calli (wr := [(h0, wMo q R C tn dn ag md em), ((q 0), .inl (cI, 36, .inl (nA b))), ((q 2), .inl (cZ, 36, .inl (bA za_3)))]) (w2 := (fun _ : Unit => [(h0, wMo q R C tn dn ag md em), ((q 0), .inl (cI, 36, .inl (nA b))), ((q 2), .inl (cZ, 36, .inl (bA za_3)))])) (va_runS (As := [.int (nI cl)]) (rest := [.int (nI (mBk R C f))]) ⟨hx, hb, hml, hown, hts⟩ (c_R_last l D cI cJ cZ cl qcl  H.size) (va_cwS 1 hts gX6_joins_X6_last rfl rfl rfl (by decide +kernel) ⟨Nat.le_of_ble_eq_true rfl, Nat.le_of_ble_eq_true rfl⟩) (kPS (wc := []) hK2 hP hD [] rfl (by decide)) rfl rfl hl.1 rfl (lv_room (Nat.le_of_ble_eq_true rfl)) dX6_joins_80 ⟨Nat.le_of_ble_eq_true rfl, Nat.le_of_ble_eq_true rfl⟩) hP hD hS hA [] [0, 1, 2] [0, 1, 2] rfl rfl (by decide) (by decide) (fun _ => rfl) (by decide) (fun r_9 u_9 H locs hw_9 hP hD hS => ?_)
        have hP : va_P D vwCl [(h0, wMo q R C tn dn ag md em), ((q 0), .inl (cI, 36, .inl (nA b))), ((q 2), .inl (cZ, 36, .inl (bA za_3)))] H := hP
        have hD : va_D A [(h0, wMo q R C tn dn ag md em), ((q 0), .inl (cI, 36, .inl (nA b))), ((q 2), .inl (cZ, 36, .inl (bA za_3)))] := hD
        subst hw_9
        refine k_toi (y := nI (mL cl)) rfl ?_
        refine lv_iand hx hb dX6_joins_83 ?_
        refine k_toi (y := nI ((mBk R C f) &&& (mL cl))) (fa_and _ _) ?_
        have hbd := mL_bd (mBk R C f) cl
        refine kw_if_eq (tgt := 89) hx hb dX6_joins_84 (by decide) (by omega) (fun c_84_10 => ?_) (fun c_84_10 => ?_)
        · have hbl : mBk R C f &&& mL cl = 0 := c_84_10
          refine lv_iinc (v := (nI (f + 1))) (lv' := [(2, .int (nI (f + 1))), (0, .ref h0), (1, .int (nI cl))]) hx hb dX6_joins_89 hl (k := 2) rfl (k_inc _ 1) (by decide) rfl (fun ls hl => ?_)
          refine lv_goto (tgt := 57) hx hb dX6_joins_92 (by decide) ?_
          exact ih_57 (f + 1) _ _ _ (by show R * C - (f + 1) < R * C - f; omega) ⟨hP, hD, hS, lv_sub hl [1, 2, 0] rfl, by omega, lt_sp hn4 (fun h => absurd h.2 (and0 hbl))⟩
        · have hbl : 0 < mBk R C f &&& mL cl := c_84_10
          refine lv_iconst (v := (nI 1)) hx hb dX6_joins_87 (by decide) ?_
          exact W.zret (v := (nI 1)) hx hb hr (by first | decide +kernel | assumption | exact kz_narr (by first | assumption | omega)) (fun t ht hW => ⟨⟨(nI 1), za_3, rfl, Or.inl ⟨rfl, f, hfl, (hz9 f hfl).mp hzo, hbl⟩, by rw [ht]; exact hP, hD⟩, hS.F ht⟩) hS.2.2 dX6_joins_88
  · have hfl : f < R * C := c_7_2
    have hbf := hbv f hfl
    refine lv_aload_n hx hb dX6_joins_10 rfl (lv_at hl 0 rfl) ?_
    refine va_get (D := D) (ci := 6) (v := .ref (q 2)) (C := RX6) (T := TX6) (N := 17) hx hb hts kiX6_joins_X6 hown hK hP 0 rfl rfl 8 (by decide) (hts (.fieldLink RX6 30 "TwoBanksModel" "isReached" "[Z") (List.mem_of_getElem? (i := 1) rfl)) (fun _ h9 => h9) rfl dX6_joins_11 ?_
    refine lv_iload_n hx hb dX6_joins_14 rfl (lv_at hl 2 rfl) ?_
    refine lv_aload_n hx hb dX6_joins_15 rfl (lv_at hl 0 rfl) ?_
    refine va_get (D := D) (ci := 6) (v := .ref (q 0)) (C := RX6) (T := TX6) (N := 17) hx hb hts kiX6_joins_X6 hown hK hP 0 rfl rfl 3 (by decide) (hts (.fieldLink RX6 19 "TwoBanksModel" "at" "[I") (List.mem_of_getElem? (i := 2) rfl)) (fun _ h9 => h9) rfl dX6_joins_16 ?_
    refine lv_iload_n hx hb dX6_joins_19 rfl (lv_at hl 2 rfl) ?_
    refine va_iald hx hb hK hP 1 0 rfl rfl (vp_in_nI (by omega) (by omega)) dX6_joins_20 ?_
    refine k_toi (y := nI (b f)) (congrArg (nA b) (nI_clamp (by omega))) ?_
    refine lv_iload_n hx hb dX6_joins_21 rfl (lv_at hl 1 rfl) ?_
    refine kw_icmp_ne (tgt := 42) hx hb dX6_joins_22 (by decide) (by omega) (by omega) (fun c_22_11 => ?_) (fun c_22_11 => ?_)
    · have hbn : ¬ b f = cl := c_22_11
      refine lv_iconst (v := (nI 0)) hx hb dX6_joins_42 (by decide) ?_
      refine va_zast hx hb hK hP hD hS 2 2 rfl rfl (vp_in_nI (by omega) (by omega)) dX6_joins_43 (fun H locs hP hD hS => ?_)
      rw [nI_clamp (by omega)] at hP hD
      rw [kz_nar (by first | decide | assumption | omega)] at hP hD
      rw [bA_upd0] at hP hD
      have hP : va_P D vwCl [(h0, wMo q R C tn dn ag md em), ((q 0), .inl (cI, 36, .inl (nA b))), ((q 2), .inl (cZ, 36, .inl (bA (uB zs f false))))] H := hP
      have hD : va_D A [(h0, wMo q R C tn dn ag md em), ((q 0), .inl (cI, 36, .inl (nA b))), ((q 2), .inl (cZ, 36, .inl (bA (uB zs f false))))] := hD
      refine lv_iinc (v := (nI (f + 1))) (lv' := [(2, .int (nI (f + 1))), (0, .ref h0), (1, .int (nI cl))]) hx hb dX6_joins_44 hl (k := 2) rfl (k_inc _ 1) (by decide) rfl (fun ls hl => ?_)
      refine lv_goto (tgt := 2) hx hb dX6_joins_47 (by decide) ?_
      exact ih_2 ((f + 1), (uB zs f false)) _ _ _ (by show R * C - (f + 1) < R * C - f; omega) ⟨hP, hD, hS, lv_sub hl [1, 2, 0] rfl, by omega, sd_put hs3 ⟨fun h => (by cases h), fun h => absurd h.1 hbn⟩⟩
    · have hbc : b f = cl := c_22_11
      refine lv_aload_n hx hb dX6_joins_25 rfl (lv_at hl 0 rfl) ?_
      refine lv_iload_n hx hb dX6_joins_26 rfl (lv_at hl 2 rfl) ?_
      refine k_calli (wr := [((q 0), .inl (cI, 36, .inl (nA b))), ((q 2), .inl (cZ, 36, .inl (bA zs)))]) (w2 := (fun _ : Unit => [(h0, wMo q R C tn dn ag md em), ((q 0), .inl (cI, 36, .inl (nA b))), ((q 2), .inl (cZ, 36, .inl (bA zs)))])) (va_runV (As := [.int (nI f)]) (rest := [.int (nI f), .ref (q 2)]) ⟨hx, hb, hml, hown, hts⟩ (c_R_banks l D cI cJ cZ h0 q R C tn dn ag md em f hR1 hR2 hC1 hC2 hRC (by omega)  H.size) (cwV 1 hts gX6_joins_X6_banks rfl rfl rfl (by decide +kernel) ⟨Nat.le_of_ble_eq_true rfl, Nat.le_of_ble_eq_true rfl⟩) (kPV (ci := 6) (q0 := 0) (wc := [(h0, wMo q R C tn dn ag md em)]) hK2 hP hD [0] rfl (by decide) rfl rfl) rfl rfl hl.1 rfl (lv_room (Nat.le_of_ble_eq_true rfl)) dX6_joins_27 ⟨Nat.le_of_ble_eq_true rfl, Nat.le_of_ble_eq_true rfl⟩) hP hD hS hA [0] [1, 2] [2, 0, 1] rfl rfl (by decide) (by decide) (fun _ => rfl) (by decide) (fun r_12 u_12 H locs hw_12 hP hD hS => ?_)
      have hP : va_P D vwCl [(h0, wMo q R C tn dn ag md em), ((q 0), .inl (cI, 36, .inl (nA b))), ((q 2), .inl (cZ, 36, .inl (bA zs)))] H := hP
      have hD : va_D A [(h0, wMo q R C tn dn ag md em), ((q 0), .inl (cI, 36, .inl (nA b))), ((q 2), .inl (cZ, 36, .inl (bA zs)))] := hD
      subst hw_12
      refine lv_iload_n hx hb dX6_joins_30 rfl (lv_at hl 1 rfl) ?_
      refine k_calli (wr := [(h0, wMo q R C tn dn ag md em), ((q 0), .inl (cI, 36, .inl (nA b))), ((q 2), .inl (cZ, 36, .inl (bA zs)))]) (w2 := (fun _ : Unit => [(h0, wMo q R C tn dn ag md em), ((q 0), .inl (cI, 36, .inl (nA b))), ((q 2), .inl (cZ, 36, .inl (bA zs)))])) (va_runS (As := [.int (nI cl)]) (rest := [.int (nI (mBk R C f)), .int (nI f), .ref (q 2)]) ⟨hx, hb, hml, hown, hts⟩ (c_R_first l D cI cJ cZ cl qcl  H.size) (va_cwS 1 hts gX6_joins_X6_first rfl rfl rfl (by decide +kernel) ⟨Nat.le_of_ble_eq_true rfl, Nat.le_of_ble_eq_true rfl⟩) (kPS (wc := []) hK2 hP hD [] rfl (by decide)) rfl rfl hl.1 rfl (lv_room (Nat.le_of_ble_eq_true rfl)) dX6_joins_31 ⟨Nat.le_of_ble_eq_true rfl, Nat.le_of_ble_eq_true rfl⟩) hP hD hS hA [] [0, 1, 2] [0, 1, 2] rfl rfl (by decide) (by decide) (fun _ => rfl) (by decide) (fun r_13 u_13 H locs hw_13 hP hD hS => ?_)
      have hP : va_P D vwCl [(h0, wMo q R C tn dn ag md em), ((q 0), .inl (cI, 36, .inl (nA b))), ((q 2), .inl (cZ, 36, .inl (bA zs)))] H := hP
      have hD : va_D A [(h0, wMo q R C tn dn ag md em), ((q 0), .inl (cI, 36, .inl (nA b))), ((q 2), .inl (cZ, 36, .inl (bA zs)))] := hD
      subst hw_13
      refine k_toi (y := nI (mF cl)) rfl ?_
      refine lv_iand hx hb dX6_joins_34 ?_
      refine k_toi (y := nI ((mBk R C f) &&& (mF cl))) (fa_and _ _) ?_
      have hbd := mF_bd (mBk R C f) cl
      refine kw_if_eq (tgt := 42) hx hb dX6_joins_35 (by decide) (by omega) (fun c_35_14 => ?_) (fun c_35_14 => ?_)
      · have hbk : mBk R C f &&& mF cl = 0 := c_35_14
        refine lv_iconst (v := (nI 0)) hx hb dX6_joins_42 (by decide) ?_
        refine va_zast hx hb hK hP hD hS 2 2 rfl rfl (vp_in_nI (by omega) (by omega)) dX6_joins_43 (fun H locs hP hD hS => ?_)
        rw [nI_clamp (by omega)] at hP hD
        rw [kz_nar (by first | decide | assumption | omega)] at hP hD
        rw [bA_upd0] at hP hD
        have hP : va_P D vwCl [(h0, wMo q R C tn dn ag md em), ((q 0), .inl (cI, 36, .inl (nA b))), ((q 2), .inl (cZ, 36, .inl (bA (uB zs f false))))] H := hP
        have hD : va_D A [(h0, wMo q R C tn dn ag md em), ((q 0), .inl (cI, 36, .inl (nA b))), ((q 2), .inl (cZ, 36, .inl (bA (uB zs f false))))] := hD
        refine lv_iinc (v := (nI (f + 1))) (lv' := [(2, .int (nI (f + 1))), (0, .ref h0), (1, .int (nI cl))]) hx hb dX6_joins_44 hl (k := 2) rfl (k_inc _ 1) (by decide) rfl (fun ls hl => ?_)
        refine lv_goto (tgt := 2) hx hb dX6_joins_47 (by decide) ?_
        exact ih_2 ((f + 1), (uB zs f false)) _ _ _ (by show R * C - (f + 1) < R * C - f; omega) ⟨hP, hD, hS, lv_sub hl [1, 2, 0] rfl, by omega, sd_put hs3 ⟨fun h => (by cases h), fun h => absurd h.2 (and0 hbk)⟩⟩
      · have hbk : 0 < mBk R C f &&& mF cl := c_35_14
        refine lv_iconst (v := (nI 1)) hx hb dX6_joins_38 (by decide) ?_
        refine lv_goto (tgt := 43) hx hb dX6_joins_39 (by decide) ?_
        refine va_zast hx hb hK hP hD hS 2 2 rfl rfl (vp_in_nI (by omega) (by omega)) dX6_joins_43 (fun H locs hP hD hS => ?_)
        rw [nI_clamp (by omega)] at hP hD
        rw [kz_nar (by first | decide | assumption | omega)] at hP hD
        rw [bA_upd1] at hP hD
        have hP : va_P D vwCl [(h0, wMo q R C tn dn ag md em), ((q 0), .inl (cI, 36, .inl (nA b))), ((q 2), .inl (cZ, 36, .inl (bA (uB zs f true))))] H := hP
        have hD : va_D A [(h0, wMo q R C tn dn ag md em), ((q 0), .inl (cI, 36, .inl (nA b))), ((q 2), .inl (cZ, 36, .inl (bA (uB zs f true))))] := hD
        refine lv_iinc (v := (nI (f + 1))) (lv' := [(2, .int (nI (f + 1))), (0, .ref h0), (1, .int (nI cl))]) hx hb dX6_joins_44 hl (k := 2) rfl (k_inc _ 1) (by decide) rfl (fun ls hl => ?_)
        refine lv_goto (tgt := 2) hx hb dX6_joins_47 (by decide) ?_
        exact ih_2 ((f + 1), (uB zs f true)) _ _ _ (by show R * C - (f + 1) < R * C - f; omega) ⟨hP, hD, hS, lv_sub hl [1, 2, 0] rfl, by omega, sd_put hs3 ⟨fun _ => ⟨hbc, hbk⟩, fun _ => rfl⟩⟩

set_option maxHeartbeats 4000000 in
set_option maxRecDepth 100000 in
theorem c_R_joined (l : Launch) (D : va_G) (cI cJ cZ : ClassId) (h0 : Nat) (q : Nat → Nat) (R C tn dn ag md em : Nat) (b : Nat → Nat) (z : Nat → Bool) (hR1 : 1 ≤ R) (hR2 : R ≤ 6) (hC1 : 1 ≤ C) (hC2 : C ≤ 6) (hRC : R * C ≤ 36) (hbv : ∀ f, f < R * C → b f ≤ 2) (sz : Nat) : kMI l yX6_joined wsX6_joined 4 93 D cI cJ cZ [.ref h0] [(h0, wMo q R C tn dn ag md em), ((q 0), .inl (cI, 36, .inl (nA b))), ((q 2), .inl (cZ, 36, .inl (bA z)))] sz (fun r (_ : Nat → Bool) => r = nI (mWho R C b)) (fun za : Nat → Bool => [(h0, wMo q R C tn dn ag md em), ((q 0), .inl (cI, 36, .inl (nA b))), ((q 2), .inl (cZ, 36, .inl (bA za)))]) := by
  refine Met.ofW (cc := cX6_joined) (maxL := 1) (ret := (some .int)) (by decide) rfl ?_
  intro p e s m args below meth c s₁ B hml hv
  obtain ⟨rfl, hsz, hP, ⟨hK, hN⟩, hD0⟩ := hv
  have hx := B.exec
  have hb := B.bytes
  have hr := B.returns
  have hts := atoms_spec (ws := wsX6_joined) B.pre
  have hown : s.vm.findClass RX6 = some m.cls := findClass_of_methodNamed B.named
  have hlocks := B.notSynchronized
  subst hsz
  have hD := hD0.self (sz := s.heap.size)
  generalize hAe : va_A [(h0, wMo q R C tn dn ag md em), ((q 0), .inl (cI, 36, .inl (nA b))), ((q 2), .inl (cZ, 36, .inl (bA z)))] s.heap.size = A at hD ⊢
  have hA : ∀ q : Nat, s.heap.size ≤ q → A q := fun q h => by rw [← hAe]; exact Or.inr h
  have hS : va_S A s.heap s.heap [] := va_S.rf
  have hl := lv_entry ([.ref h0]) (n := 1) (Nat.le_of_ble_eq_true rfl)
  rw [lg_entry_eq]
  generalize (lg_sl ([.ref h0]) ++ List.replicate (1 - (lg_sl ([.ref h0])).length) Slot.unset).toArray = ls at hl ⊢
  have hl : lv_has ls 1 [(0, .ref h0)] := hl
  have hK2 : kK D cI cJ cZ s := ⟨hK, hN⟩
  clear hD0
  refine lv_aload_n hx hb dX6_joined_0 rfl (lv_at hl 0 rfl) ?_
  refine lv_iconst (v := (nI 1)) hx hb dX6_joined_1 (by decide) ?_
  refine k_calli (wr := []) (w2 := (fun za : Nat → Bool => [(h0, wMo q R C tn dn ag md em), ((q 0), .inl (cI, 36, .inl (nA b))), ((q 2), .inl (cZ, 36, .inl (bA za)))])) (va_runV (As := [.int (nI 1)]) (rest := []) ⟨hx, hb, hml, hown, hts⟩ (c_R_joins l D cI cJ cZ h0 q R C tn dn ag md em b z 1 hR1 hR2 hC1 hC2 hRC hbv (by omega)  s.heap.size) (cwV 1 hts gX6_joined_X6_joins rfl rfl rfl (by decide +kernel) ⟨Nat.le_of_ble_eq_true rfl, Nat.le_of_ble_eq_true rfl⟩) (kPV (ci := 6) (q0 := 0) (wc := [(h0, wMo q R C tn dn ag md em), ((q 0), .inl (cI, 36, .inl (nA b))), ((q 2), .inl (cZ, 36, .inl (bA z)))]) hK2 hP hD [0, 1, 2] rfl (by decide) rfl rfl) rfl rfl hl.1 rfl (lv_room (Nat.le_of_ble_eq_true rfl)) dX6_joined_2 ⟨Nat.le_of_ble_eq_true rfl, Nat.le_of_ble_eq_true rfl⟩) hP hD hS hA [0, 1, 2] [] [0, 1, 2] rfl rfl (by decide) (by decide) (fun _ => rfl) (by decide) (fun r_2 u_2 H locs hw_2 hP hD hS => ?_)
  obtain ⟨za_1, rfl⟩ : ∃ z, z = u_2 := ⟨_, rfl⟩
  have hP : va_P D vwCl [(h0, wMo q R C tn dn ag md em), ((q 0), .inl (cI, 36, .inl (nA b))), ((q 2), .inl (cZ, 36, .inl (bA za_1)))] H := hP
  have hD : va_D A [(h0, wMo q R C tn dn ag md em), ((q 0), .inl (cI, 36, .inl (nA b))), ((q 2), .inl (cZ, 36, .inl (bA za_1)))] := hD
  rcases hw_2 with ⟨rfl, hw_2⟩ | ⟨rfl, hw_2⟩
  · skip
    refine lv_if_eq (tgt := 12) hx hb dX6_joined_5 (by decide) (fun c_5_3 => absurd c_5_3 (by decide)) (fun c_5_3 => ?_)
    refine lv_iconst (v := (nI 1)) hx hb dX6_joined_8 (by decide) ?_
    refine lv_goto (tgt := 25) hx hb dX6_joined_9 (by decide) ?_
    exact W.iret (v := (nI 1)) hx hb hr (fun t ht hW => ⟨⟨(nI 1), za_1, rfl, (by rw [mWho_1 hw_2]), by rw [ht]; exact hP, hD⟩, hS.F ht⟩) hS.2.2 dX6_joined_25
  · skip
    refine lv_if_eq (tgt := 12) hx hb dX6_joined_5 (by decide) (fun c_5_4 => ?_) (fun c_5_4 => absurd c_5_4 (by decide))
    refine lv_aload_n hx hb dX6_joined_12 rfl (lv_at hl 0 rfl) ?_
    refine lv_iconst (v := (nI 2)) hx hb dX6_joined_13 (by decide) ?_
    refine k_calli (wr := []) (w2 := (fun za : Nat → Bool => [(h0, wMo q R C tn dn ag md em), ((q 0), .inl (cI, 36, .inl (nA b))), ((q 2), .inl (cZ, 36, .inl (bA za)))])) (va_runV (As := [.int (nI 2)]) (rest := []) ⟨hx, hb, hml, hown, hts⟩ (c_R_joins l D cI cJ cZ h0 q R C tn dn ag md em b za_1 2 hR1 hR2 hC1 hC2 hRC hbv (by omega)  H.size) (cwV 1 hts gX6_joined_X6_joins rfl rfl rfl (by decide +kernel) ⟨Nat.le_of_ble_eq_true rfl, Nat.le_of_ble_eq_true rfl⟩) (kPV (ci := 6) (q0 := 0) (wc := [(h0, wMo q R C tn dn ag md em), ((q 0), .inl (cI, 36, .inl (nA b))), ((q 2), .inl (cZ, 36, .inl (bA za_1)))]) hK2 hP hD [0, 1, 2] rfl (by decide) rfl rfl) rfl rfl hl.1 rfl (lv_room (Nat.le_of_ble_eq_true rfl)) dX6_joined_14 ⟨Nat.le_of_ble_eq_true rfl, Nat.le_of_ble_eq_true rfl⟩) hP hD hS hA [0, 1, 2] [] [0, 1, 2] rfl rfl (by decide) (by decide) (fun _ => rfl) (by decide) (fun r_6 u_6 H locs hw_6 hP hD hS => ?_)
    obtain ⟨za_5, rfl⟩ : ∃ z, z = u_6 := ⟨_, rfl⟩
    have hP : va_P D vwCl [(h0, wMo q R C tn dn ag md em), ((q 0), .inl (cI, 36, .inl (nA b))), ((q 2), .inl (cZ, 36, .inl (bA za_5)))] H := hP
    have hD : va_D A [(h0, wMo q R C tn dn ag md em), ((q 0), .inl (cI, 36, .inl (nA b))), ((q 2), .inl (cZ, 36, .inl (bA za_5)))] := hD
    rcases hw_6 with ⟨rfl, hw_6⟩ | ⟨rfl, hw_6⟩
    · skip
      refine lv_if_eq (tgt := 24) hx hb dX6_joined_17 (by decide) (fun c_17_7 => absurd c_17_7 (by decide)) (fun c_17_7 => ?_)
      refine lv_iconst (v := (nI 2)) hx hb dX6_joined_20 (by decide) ?_
      refine lv_goto (tgt := 25) hx hb dX6_joined_21 (by decide) ?_
      exact W.iret (v := (nI 2)) hx hb hr (fun t ht hW => ⟨⟨(nI 2), za_5, rfl, (by rw [mWho_2 hw_2 hw_6]), by rw [ht]; exact hP, hD⟩, hS.F ht⟩) hS.2.2 dX6_joined_25
    · skip
      refine lv_if_eq (tgt := 24) hx hb dX6_joined_17 (by decide) (fun c_17_8 => ?_) (fun c_17_8 => absurd c_17_8 (by decide))
      refine lv_iconst (v := (nI 0)) hx hb dX6_joined_24 (by decide) ?_
      exact W.iret (v := (nI 0)) hx hb hr (fun t ht hW => ⟨⟨(nI 0), za_5, rfl, (by rw [mWho_0 hw_2 hw_6]), by rw [ht]; exact hP, hD⟩, hS.F ht⟩) hS.2.2 dX6_joined_25
