theorem k_out {x : Int32} {hi : Nat} (hh : hi < 2 ^ 30) (h : ∀ j, j ≤ hi → x ≠ nI j) : x.toInt < 0 ∨ (hi : Int) < x.toInt := by
  by_cases h0 : x < 0
  · exact Or.inl (by have := Int32.lt_iff_toInt_lt.mp h0; have e0 : (0 : Int32).toInt = 0 := (by decide); omega)
  · obtain ⟨j, hj, rfl⟩ := nI_of h0
    rw [nI_toInt hj]
    refine Or.inr ?_
    rcases Nat.lt_or_ge hi j with q | q
    · omega
    · exact absurd rfl (h j q)
theorem gSpots_in {R C : Nat} (hR2 : R ≤ 6) (hC2 : C ≤ 6) {ow ot : Int64} {i : Nat} (h : bq (gSpots R C ow ot) i = true) : i < R * C := by
  unfold gSpots at h
  rw [bq_and, Bool.and_eq_true] at h
  rcases Nat.lt_or_ge i 64 with q | q
  · rw [gAll_bits R (by omega) C (by omega) i q] at h
    exact of_decide_eq_true h.1
  · rw [bq_big q] at h; cases h.1
theorem fQ_mono {R C : Nat} (hR1 : 1 ≤ R) (hR2 : R ≤ 6) (hC1 : 1 ≤ C) (hC2 : C ≤ 6) {ow ot fr to : Int64} (how : ∀ i, bq ow i = true → i < R * C) : qMono (fQ R C ow fr to (gSpots R C ow ot)) (pcn (gSpots R C ow ot)) := fQ_mono2 hR1 hR2 hC1 hC2 how (fun i hi => gSpots_in hR2 hC2 hi)
theorem pcn_36 {x : Int64} (h : ∀ i, bq x i = true → i < 36) : pcn x = fb_ct (bq x) 36 := by
  have e := fb_ct_split (bq x) 36 28
  have z : fb_ct (fun k => bq x (36 + k)) 28 = 0 := by
    apply fb_ct_zero.mpr
    intro k _
    cases hk : bq x (36 + k) with
    | false => rfl
    | true => have := h _ hk; omega
  rw [z] at e
  exact e
theorem gSpots_sw {R C : Nat} {no we : Int64} {cv : Nat} (h : cv = 1 ∨ cv = 2) : gSpots R C (gSt no we cv) (gSt no we (3 - cv)) = gSpots R C no we := by
  rcases h with rfl | rfl
  · rfl
  · apply bq_ext
    intro i hi
    show bq (gAll R C &&& ((we ||| no) ^^^ (-1))) i = bq (gAll R C &&& ((no ||| we) ^^^ (-1))) i
    rw [bq_andn, bq_andn, bq_or, bq_or, Bool.or_comm]
theorem gSt_in {R C : Nat} {no we : Int64} {cv : Nat} (hno : ∀ i, bq no i = true → i < R * C) (hwe : ∀ i, bq we i = true → i < R * C) : ∀ i, bq (gSt no we cv) i = true → i < R * C := by
  intro i hi
  unfold gSt at hi
  split at hi
  · exact hno i hi
  · exact hwe i hi
def gLook (R C : Nat) (no we : Int64) (k : Nat) (what : Int32) : Int32 := if gGrp R C no we k = 0 then -1 else if what = nI 0 then jBC (gGrp R C no we k) else if what = nI 1 then gBk R C (gGrp R C no we k) else if what = nI 2 then jBC (gBes R C (gGrp R C no we k) &&& gSpots R C no we) else -1
abbrev FS15 : Type := Nat × Nat × Int64 × Int64 × Int64 × Int64 × Int64 × Nat × Nat × Nat × Nat × Int64 × (Nat → Int64) × (Nat → Int64) × (Nat → Int64)
def fiIn (u : FS15) : Prop := match u with | (fR, fC, ow, ot, fr, to, sp, sc, fu, rn, dk, ds, rw, ww, lw) => fR = 0 ∨ fiOK fR fC ow ot fr to sp sc fu rn dk ds rw ww lw
/-- the banks' question -/
def bQ (R C : Nat) (no we : Int64) : Nat → Bool := fQ R C no (gNo C) (gSo R C) (gSpots R C no we)
/-- a link's question -/
def lQ (R C : Nat) (no we : Int64) (cv a b : Nat) : Nat → Bool := fQ R C (gSt no we cv) (gBit (nI a)) (gBit (nI b)) (gSpots R C no we)
theorem kiX5_at_X5 : ∀ w ∈ u_ws RX5 TX5 9, w ∈ wsX5_at := fun w h => List.mem_cons_of_mem _ (List.mem_append_left _ (List.mem_append_right _ h))
set_option maxHeartbeats 4000000 in
set_option maxRecDepth 100000 in
theorem c_T_at (l : Launch) (D : va_G) (cI cJ cZ : ClassId) (t0 tg td tp b0 l0 : Nat) (no we : Int64) (tl un : Nat) (R C : Nat) (f : Int32) (hR1 : 1 ≤ R) (hR2 : R ≤ 6) (hC1 : 1 ≤ C) (hC2 : C ≤ 6) (hRC : R * C ≤ 36) (sz : Nat) : kMI l yX5_at wsX5_at 2 41 D cI cJ cZ [.ref t0, .int f] [(t0, wTB tg td tp b0 l0 no we tl un), (tg, wGr R C)] sz (fun r (_ : Unit) => (¬ fIn (R * C) f ∧ r = -1) ∨ (∃ k, k < R * C ∧ f = nI k ∧ r = nI (sAt no we k))) (fun _ : Unit => [(t0, wTB tg td tp b0 l0 no we tl un), (tg, wGr R C)]) := by
  refine Met.ofW (cc := cX5_at) (maxL := 2) (ret := (some .int)) (by decide) rfl ?_
  intro p e s m args below meth c s₁ B hml hv
  obtain ⟨rfl, hsz, hP, ⟨hK, hN⟩, hD0⟩ := hv
  have hx := B.exec
  have hb := B.bytes
  have hr := B.returns
  have hts := atoms_spec (ws := wsX5_at) B.pre
  have hown : s.vm.findClass RX5 = some m.cls := findClass_of_methodNamed B.named
  have hlocks := B.notSynchronized
  subst hsz
  have hD := hD0.self (sz := s.heap.size)
  generalize hAe : va_A [(t0, wTB tg td tp b0 l0 no we tl un), (tg, wGr R C)] s.heap.size = A at hD ⊢
  have hA : ∀ q : Nat, s.heap.size ≤ q → A q := fun q h => by rw [← hAe]; exact Or.inr h
  have hS : va_S A s.heap s.heap [] := va_S.rf
  have hl := lv_entry ([.ref t0, .int f]) (n := 2) (Nat.le_of_ble_eq_true rfl)
  rw [lg_entry_eq]
  generalize (lg_sl ([.ref t0, .int f]) ++ List.replicate (2 - (lg_sl ([.ref t0, .int f])).length) Slot.unset).toArray = ls at hl ⊢
  have hl : lv_has ls 2 [(0, .ref t0), (1, .int f)] := hl
  have hK2 : kK D cI cJ cZ s := ⟨hK, hN⟩
  clear hD0
  refine lv_aload_n hx hb dX5_at_0 rfl (lv_at hl 0 rfl) ?_
  refine va_get (D := D) (ci := 5) (v := .ref tg) (C := RX5) (T := TX5) (N := 9) hx hb hts kiX5_at_X5 hown hK hP 0 rfl rfl 0 (by decide) (hts (.fieldLink RX5 12 "TwoBanks" "grid" "LTwoBanks$Grid;") (List.mem_of_getElem? (i := 1) rfl)) (fun _ h9 => h9) rfl dX5_at_1 ?_
  refine lv_iload_n hx hb dX5_at_4 rfl (lv_at hl 1 rfl) ?_
  refine k_calli (wr := [(t0, wTB tg td tp b0 l0 no we tl un)]) (w2 := (fun _ : Unit => [(t0, wTB tg td tp b0 l0 no we tl un), (tg, wGr R C)])) (va_runV (As := [.int f]) (rest := []) ⟨hx, hb, hml, hown, hts⟩ (c_G_has l D cI cJ cZ tg R C f hRC  s.heap.size) (cwV 1 hts gX5_at_X2_has rfl rfl rfl (by decide +kernel) ⟨Nat.le_of_ble_eq_true rfl, Nat.le_of_ble_eq_true rfl⟩) (kPV (ci := 2) (q0 := 0) (wc := [(tg, wGr R C)]) hK2 hP hD [1] rfl (by decide) rfl rfl) rfl rfl hl.1 rfl (lv_room (Nat.le_of_ble_eq_true rfl)) dX5_at_5 ⟨Nat.le_of_ble_eq_true rfl, Nat.le_of_ble_eq_true rfl⟩) hP hD hS hA [1] [0] [0, 1] rfl rfl (by decide) (by decide) (fun _ => rfl) (by decide) (fun r_1 u_1 H locs hw_1 hP hD hS => ?_)
  have hP : va_P D vwCl [(t0, wTB tg td tp b0 l0 no we tl un), (tg, wGr R C)] H := hP
  have hD : va_D A [(t0, wTB tg td tp b0 l0 no we tl un), (tg, wGr R C)] := hD
  rcases hw_1 with ⟨rfl, hw_1⟩ | ⟨rfl, hw_1⟩
  · obtain ⟨k, hk, rfl⟩ := hw_1
    refine lv_if_eq (tgt := 19) hx hb dX5_at_8 (by decide) (fun c_8_2 => absurd c_8_2 (by decide)) (fun c_8_2 => ?_)
    refine lv_aload_n hx hb dX5_at_11 rfl (lv_at hl 0 rfl) ?_
    refine lv_iload_n hx hb dX5_at_12 rfl (lv_at hl 1 rfl) ?_
    refine k_calli (wr := [(tg, wGr R C)]) (w2 := (fun _ : Unit => [(t0, wTB tg td tp b0 l0 no we tl un), (tg, wGr R C)])) (va_runV (As := [.int (nI k)]) (rest := []) ⟨hx, hb, hml, hown, hts⟩ (c_T_stoneAt l D cI cJ cZ t0 tg td tp b0 l0 no we tl un k (by omega)  H.size) (cwV 1 hts gX5_at_X5_stoneAt rfl rfl rfl (by decide +kernel) ⟨Nat.le_of_ble_eq_true rfl, Nat.le_of_ble_eq_true rfl⟩) (kPV (ci := 5) (q0 := 0) (wc := [(t0, wTB tg td tp b0 l0 no we tl un)]) hK2 hP hD [0] rfl (by decide) rfl rfl) rfl rfl hl.1 rfl (lv_room (Nat.le_of_ble_eq_true rfl)) dX5_at_13 ⟨Nat.le_of_ble_eq_true rfl, Nat.le_of_ble_eq_true rfl⟩) hP hD hS hA [0] [1] [1, 0] rfl rfl (by decide) (by decide) (fun _ => rfl) (by decide) (fun r_3 u_3 H locs hw_3 hP hD hS => ?_)
    have hP : va_P D vwCl [(t0, wTB tg td tp b0 l0 no we tl un), (tg, wGr R C)] H := hP
    have hD : va_D A [(t0, wTB tg td tp b0 l0 no we tl un), (tg, wGr R C)] := hD
    subst hw_3
    refine lv_goto (tgt := 20) hx hb dX5_at_16 (by decide) ?_
    exact W.iret (v := (nI (sAt no we k))) hx hb hr (fun t ht hW => ⟨⟨(nI (sAt no we k)), (), rfl, Or.inr ⟨k, hk, rfl, rfl⟩, by rw [ht]; exact hP, hD⟩, hS.F ht⟩) hS.2.2 dX5_at_20
  · skip
    refine lv_if_eq (tgt := 19) hx hb dX5_at_8 (by decide) (fun c_8_4 => ?_) (fun c_8_4 => absurd c_8_4 (by decide))
    refine lv_iconst (v := (-1)) hx hb dX5_at_19 (by decide) ?_
    exact W.iret (v := (-1)) hx hb hr (fun t ht hW => ⟨⟨(-1), (), rfl, Or.inl ⟨hw_1, rfl⟩, by rw [ht]; exact hP, hD⟩, hS.F ht⟩) hS.2.2 dX5_at_20

set_option maxHeartbeats 4000000 in
set_option maxRecDepth 100000 in
theorem c_T_group (l : Launch) (D : va_G) (cI cJ cZ : ClassId) (t0 tg td tp b0 l0 : Nat) (no we : Int64) (tl un : Nat) (R C : Nat) (f : Int32) (hR1 : 1 ≤ R) (hR2 : R ≤ 6) (hC1 : 1 ≤ C) (hC2 : C ≤ 6) (hRC : R * C ≤ 36) (sz : Nat) : kMI l yX5_group wsX5_group 3 83 D cI cJ cZ [.ref t0, .int f] [(t0, wTB tg td tp b0 l0 no we tl un), (tg, wGr R C)] sz (fun r (_ : Unit) => (¬ fIn (R * C) f ∧ r = -1) ∨ (∃ k, k < R * C ∧ f = nI k ∧ r = if gGrp R C no we k = 0 then -1 else gLow (gGrp R C no we k))) (fun _ : Unit => [(t0, wTB tg td tp b0 l0 no we tl un), (tg, wGr R C)]) := by
  refine Met.ofW (cc := cX5_group) (maxL := 4) (ret := (some .int)) (by decide) rfl ?_
  intro p e s m args below meth c s₁ B hml hv
  obtain ⟨rfl, hsz, hP, ⟨hK, hN⟩, hD0⟩ := hv
  have hx := B.exec
  have hb := B.bytes
  have hr := B.returns
  have hts := atoms_spec (ws := wsX5_group) B.pre
  have hown : s.vm.findClass RX5 = some m.cls := findClass_of_methodNamed B.named
  have hlocks := B.notSynchronized
  subst hsz
  have hD := hD0.self (sz := s.heap.size)
  generalize hAe : va_A [(t0, wTB tg td tp b0 l0 no we tl un), (tg, wGr R C)] s.heap.size = A at hD ⊢
  have hA : ∀ q : Nat, s.heap.size ≤ q → A q := fun q h => by rw [← hAe]; exact Or.inr h
  have hS : va_S A s.heap s.heap [] := va_S.rf
  have hl := lv_entry ([.ref t0, .int f]) (n := 4) (Nat.le_of_ble_eq_true rfl)
  rw [lg_entry_eq]
  generalize (lg_sl ([.ref t0, .int f]) ++ List.replicate (4 - (lg_sl ([.ref t0, .int f])).length) Slot.unset).toArray = ls at hl ⊢
  have hl : lv_has ls 4 [(0, .ref t0), (1, .int f)] := hl
  have hK2 : kK D cI cJ cZ s := ⟨hK, hN⟩
  clear hD0
  refine lv_aload_n hx hb dX5_group_0 rfl (lv_at hl 0 rfl) ?_
  refine lv_iload_n hx hb dX5_group_1 rfl (lv_at hl 1 rfl) ?_
  refine k_calll (wr := []) (w2 := (fun _ : Unit => [(t0, wTB tg td tp b0 l0 no we tl un), (tg, wGr R C)])) (va_runV (As := [.int f]) (rest := []) ⟨hx, hb, hml, hown, hts⟩ (c_T_groupAt l D cI cJ cZ t0 tg td tp b0 l0 no we tl un R C f hR1 hR2 hC1 hC2 hRC  s.heap.size) (cwV 1 hts gX5_group_X5_groupAt rfl rfl rfl (by decide +kernel) ⟨Nat.le_of_ble_eq_true rfl, Nat.le_of_ble_eq_true rfl⟩) (kPV (ci := 5) (q0 := 0) (wc := [(t0, wTB tg td tp b0 l0 no we tl un), (tg, wGr R C)]) hK2 hP hD [0, 1] rfl (by decide) rfl rfl) rfl rfl hl.1 rfl (lv_room (Nat.le_of_ble_eq_true rfl)) dX5_group_2 ⟨Nat.le_of_ble_eq_true rfl, Nat.le_of_ble_eq_true rfl⟩) hP hD hS hA [0, 1] [] [0, 1] rfl rfl (by decide) (by decide) (fun _ => rfl) (by decide) (fun r_1 u_1 H locs hw_1 hP hD hS => ?_)
  have hP : va_P D vwCl [(t0, wTB tg td tp b0 l0 no we tl un), (tg, wGr R C)] H := hP
  have hD : va_D A [(t0, wTB tg td tp b0 l0 no we tl un), (tg, wGr R C)] := hD
  rcases hw_1 with ⟨rfl, hw_1⟩ | ⟨k7, hk7, rfl, rfl⟩
  · skip
    refine lv_lstore_n (lv' := [(2, .long 0), (0, .ref t0), (1, .int f)]) hx hb dX5_group_5 rfl hl (by decide) rfl (fun ls hl => ?_)
    refine lv_lload_n hx hb dX5_group_6 rfl (lv_at hl 0 rfl) ?_
    refine lv_lconst (v := 0) hx hb dX5_group_7 (by decide) ?_
    refine W.lcmp hx hb dX5_group_8 ?_
    refine kw_cmp_ne (tgt := 16) hx hb dX5_group_9 (by decide) (fun c_9_2 => absurd rfl c_9_2) (fun c_9_2 => ?_)
    refine lv_iconst (v := (-1)) hx hb dX5_group_12 (by decide) ?_
    refine lv_goto (tgt := 20) hx hb dX5_group_13 (by decide) ?_
    exact W.iret (v := (-1)) hx hb hr (fun t ht hW => ⟨⟨(-1), (), rfl, Or.inl ⟨hw_1, rfl⟩, by rw [ht]; exact hP, hD⟩, hS.F ht⟩) hS.2.2 dX5_group_20
  · skip
    refine lv_lstore_n (lv' := [(2, .long (gGrp R C no we k7)), (0, .ref t0), (1, .int (nI k7))]) hx hb dX5_group_5 rfl hl (by decide) rfl (fun ls hl => ?_)
    refine lv_lload_n hx hb dX5_group_6 rfl (lv_at hl 0 rfl) ?_
    refine lv_lconst (v := 0) hx hb dX5_group_7 (by decide) ?_
    refine W.lcmp hx hb dX5_group_8 ?_
    refine kw_cmp_ne (tgt := 16) hx hb dX5_group_9 (by decide) (fun c_9_3 => ?_) (fun c_9_3 => ?_)
    · refine lv_lload_n hx hb dX5_group_16 rfl (lv_at hl 0 rfl) ?_
      refine k_calli (wr := [(t0, wTB tg td tp b0 l0 no we tl un), (tg, wGr R C)]) (w2 := (fun _ : Unit => [(t0, wTB tg td tp b0 l0 no we tl un), (tg, wGr R C)])) (va_runS (As := [.long (gGrp R C no we k7)]) (rest := []) ⟨hx, hb, hml, hown, hts⟩ (c_lowest l D cI cJ cZ (gGrp R C no we k7)  H.size) (va_cwS 1 hts gX5_group_X5_lowest rfl rfl rfl (by decide +kernel) ⟨Nat.le_of_ble_eq_true rfl, Nat.le_of_ble_eq_true rfl⟩) (kPS (wc := []) hK2 hP hD [] rfl (by decide)) rfl rfl hl.1 rfl (lv_room (Nat.le_of_ble_eq_true rfl)) dX5_group_17 ⟨Nat.le_of_ble_eq_true rfl, Nat.le_of_ble_eq_true rfl⟩) hP hD hS hA [] [0, 1] [0, 1] rfl rfl (by decide) (by decide) (fun _ => rfl) (by decide) (fun r_4 u_4 H locs hw_4 hP hD hS => ?_)
      have hP : va_P D vwCl [(t0, wTB tg td tp b0 l0 no we tl un), (tg, wGr R C)] H := hP
      have hD : va_D A [(t0, wTB tg td tp b0 l0 no we tl un), (tg, wGr R C)] := hD
      subst hw_4
      exact W.iret (v := (gLow (gGrp R C no we k7))) hx hb hr (fun t ht hW => ⟨⟨(gLow (gGrp R C no we k7)), (), rfl, Or.inr ⟨k7, hk7, rfl, by rw [if_neg (by assumption)]⟩, by rw [ht]; exact hP, hD⟩, hS.F ht⟩) hS.2.2 dX5_group_20
    · refine lv_iconst (v := (-1)) hx hb dX5_group_12 (by decide) ?_
      refine lv_goto (tgt := 20) hx hb dX5_group_13 (by decide) ?_
      exact W.iret (v := (-1)) hx hb hr (fun t ht hW => ⟨⟨(-1), (), rfl, Or.inr ⟨k7, hk7, rfl, by rw [if_pos (by assumption)]⟩, by rw [ht]; exact hP, hD⟩, hS.F ht⟩) hS.2.2 dX5_group_20

theorem kiX5_look_X5 : ∀ w ∈ u_ws RX5 TX5 9, w ∈ wsX5_look := fun w h => List.mem_cons_of_mem _ (List.mem_append_left _ (List.mem_append_right _ h))
set_option maxHeartbeats 4000000 in
set_option maxRecDepth 100000 in
theorem c_T_look (l : Launch) (D : va_G) (cI cJ cZ : ClassId) (t0 tg td tp b0 l0 : Nat) (no we : Int64) (tl un : Nat) (R C : Nat) (f what : Int32) (hR1 : 1 ≤ R) (hR2 : R ≤ 6) (hC1 : 1 ≤ C) (hC2 : C ≤ 6) (hRC : R * C ≤ 36) (sz : Nat) : kMI l yX5_look wsX5_look 3 83 D cI cJ cZ [.ref t0, .int f, .int what] [(t0, wTB tg td tp b0 l0 no we tl un), (tg, wGr R C)] sz (fun r (_ : Unit) => (¬ fIn (R * C) f ∧ r = -1) ∨ (∃ k, k < R * C ∧ f = nI k ∧ r = gLook R C no we k what)) (fun _ : Unit => [(t0, wTB tg td tp b0 l0 no we tl un), (tg, wGr R C)]) := by
  refine Met.ofW (cc := cX5_look) (maxL := 5) (ret := (some .int)) (by decide) rfl ?_
  intro p e s m args below meth c s₁ B hml hv
  obtain ⟨rfl, hsz, hP, ⟨hK, hN⟩, hD0⟩ := hv
  have hx := B.exec
  have hb := B.bytes
  have hr := B.returns
  have hts := atoms_spec (ws := wsX5_look) B.pre
  have hown : s.vm.findClass RX5 = some m.cls := findClass_of_methodNamed B.named
  have hlocks := B.notSynchronized
  subst hsz
  have hD := hD0.self (sz := s.heap.size)
  generalize hAe : va_A [(t0, wTB tg td tp b0 l0 no we tl un), (tg, wGr R C)] s.heap.size = A at hD ⊢
  have hA : ∀ q : Nat, s.heap.size ≤ q → A q := fun q h => by rw [← hAe]; exact Or.inr h
  have hS : va_S A s.heap s.heap [] := va_S.rf
  have hl := lv_entry ([.ref t0, .int f, .int what]) (n := 5) (Nat.le_of_ble_eq_true rfl)
  rw [lg_entry_eq]
  generalize (lg_sl ([.ref t0, .int f, .int what]) ++ List.replicate (5 - (lg_sl ([.ref t0, .int f, .int what])).length) Slot.unset).toArray = ls at hl ⊢
  have hl : lv_has ls 5 [(0, .ref t0), (1, .int f), (2, .int what)] := hl
  have hK2 : kK D cI cJ cZ s := ⟨hK, hN⟩
  clear hD0
  refine lv_aload_n hx hb dX5_look_0 rfl (lv_at hl 0 rfl) ?_
  refine lv_iload_n hx hb dX5_look_1 rfl (lv_at hl 1 rfl) ?_
  refine k_calll (wr := []) (w2 := (fun _ : Unit => [(t0, wTB tg td tp b0 l0 no we tl un), (tg, wGr R C)])) (va_runV (As := [.int f]) (rest := []) ⟨hx, hb, hml, hown, hts⟩ (c_T_groupAt l D cI cJ cZ t0 tg td tp b0 l0 no we tl un R C f hR1 hR2 hC1 hC2 hRC  s.heap.size) (cwV 1 hts gX5_look_X5_groupAt rfl rfl rfl (by decide +kernel) ⟨Nat.le_of_ble_eq_true rfl, Nat.le_of_ble_eq_true rfl⟩) (kPV (ci := 5) (q0 := 0) (wc := [(t0, wTB tg td tp b0 l0 no we tl un), (tg, wGr R C)]) hK2 hP hD [0, 1] rfl (by decide) rfl rfl) rfl rfl hl.1 rfl (lv_room (Nat.le_of_ble_eq_true rfl)) dX5_look_2 ⟨Nat.le_of_ble_eq_true rfl, Nat.le_of_ble_eq_true rfl⟩) hP hD hS hA [0, 1] [] [0, 1] rfl rfl (by decide) (by decide) (fun _ => rfl) (by decide) (fun r_1 u_1 H locs hw_1 hP hD hS => ?_)
  have hP : va_P D vwCl [(t0, wTB tg td tp b0 l0 no we tl un), (tg, wGr R C)] H := hP
  have hD : va_D A [(t0, wTB tg td tp b0 l0 no we tl un), (tg, wGr R C)] := hD
  rcases hw_1 with ⟨rfl, hw_1⟩ | ⟨k7, hk7, rfl, rfl⟩
  · skip
    refine lv_lstore_n (lv' := [(3, .long 0), (0, .ref t0), (1, .int f), (2, .int what)]) hx hb dX5_look_5 rfl hl (by decide) rfl (fun ls hl => ?_)
    refine lv_lload_n hx hb dX5_look_6 rfl (lv_at hl 0 rfl) ?_
    refine lv_lconst (v := 0) hx hb dX5_look_7 (by decide) ?_
    refine W.lcmp hx hb dX5_look_8 ?_
    refine kw_cmp_ne (tgt := 14) hx hb dX5_look_9 (by decide) (fun c_9_2 => absurd rfl c_9_2) (fun c_9_2 => ?_)
    refine lv_iconst (v := (-1)) hx hb dX5_look_12 (by decide) ?_
    exact W.iret (v := (-1)) hx hb hr (fun t ht hW => ⟨⟨(-1), (), rfl, Or.inl ⟨hw_1, rfl⟩, by rw [ht]; exact hP, hD⟩, hS.F ht⟩) hS.2.2 dX5_look_13
  · skip
    refine lv_lstore_n (lv' := [(3, .long (gGrp R C no we k7)), (0, .ref t0), (1, .int (nI k7)), (2, .int what)]) hx hb dX5_look_5 rfl hl (by decide) rfl (fun ls hl => ?_)
    refine lv_lload_n hx hb dX5_look_6 rfl (lv_at hl 0 rfl) ?_
    refine lv_lconst (v := 0) hx hb dX5_look_7 (by decide) ?_
    refine W.lcmp hx hb dX5_look_8 ?_
    refine kw_cmp_ne (tgt := 14) hx hb dX5_look_9 (by decide) (fun c_9_3 => ?_) (fun c_9_3 => ?_)
    · refine lv_iload_n hx hb dX5_look_14 rfl (lv_at hl 3 rfl) ?_
      by_cases hw0 : what = nI 0
      · subst hw0
        refine lv_tableIn (off := 25) (tgt := 40) hx hb dX5_look_15 (by decide) (by decide) rfl (by decide) ?_
        refine lv_lload_n hx hb dX5_look_40 rfl (lv_at hl 0 rfl) ?_
        refine k_calli (wr := [(t0, wTB tg td tp b0 l0 no we tl un), (tg, wGr R C)]) (w2 := (fun _ : Unit => [(t0, wTB tg td tp b0 l0 no we tl un), (tg, wGr R C)])) (va_runS (As := [.long (gGrp R C no we k7)]) (rest := []) ⟨hx, hb, hml, hown, hts⟩ (c_bitCount l D cI cJ cZ (gGrp R C no we k7)  H.size) (va_cwS 1 hts gX5_look_J13_bitCount_95d88 rfl rfl rfl (by decide +kernel) ⟨Nat.le_of_ble_eq_true rfl, Nat.le_of_ble_eq_true rfl⟩) (kPS (wc := []) hK2 hP hD [] rfl (by decide)) rfl rfl hl.1 rfl (lv_room (Nat.le_of_ble_eq_true rfl)) dX5_look_41 ⟨Nat.le_of_ble_eq_true rfl, Nat.le_of_ble_eq_true rfl⟩) hP hD hS hA [] [0, 1] [0, 1] rfl rfl (by decide) (by decide) (fun _ => rfl) (by decide) (fun r_4 u_4 H locs hw_4 hP hD hS => ?_)
        have hP : va_P D vwCl [(t0, wTB tg td tp b0 l0 no we tl un), (tg, wGr R C)] H := hP
        have hD : va_D A [(t0, wTB tg td tp b0 l0 no we tl un), (tg, wGr R C)] := hD
        subst hw_4
        exact W.iret (v := (jBC (gGrp R C no we k7))) hx hb hr (fun t ht hW => ⟨⟨(jBC (gGrp R C no we k7)), (), rfl, Or.inr ⟨k7, hk7, rfl, by unfold gLook; rw [if_neg (by assumption), if_pos rfl]⟩, by rw [ht]; exact hP, hD⟩, hS.F ht⟩) hS.2.2 dX5_look_44
      · by_cases hw1 : what = nI 1
        · subst hw1
          refine lv_tableIn (off := 30) (tgt := 45) hx hb dX5_look_15 (by decide) (by decide) rfl (by decide) ?_
          refine lv_aload_n hx hb dX5_look_45 rfl (lv_at hl 1 rfl) ?_
          refine va_get (D := D) (ci := 5) (v := .ref tg) (C := RX5) (T := TX5) (N := 9) hx hb hts kiX5_look_X5 hown hK hP 0 rfl rfl 0 (by decide) (hts (.fieldLink RX5 12 "TwoBanks" "grid" "LTwoBanks$Grid;") (List.mem_of_getElem? (i := 1) rfl)) (fun _ h9 => h9) rfl dX5_look_46 ?_
          refine lv_lload_n hx hb dX5_look_49 rfl (lv_at hl 0 rfl) ?_
          refine k_calli (wr := [(t0, wTB tg td tp b0 l0 no we tl un)]) (w2 := (fun _ : Unit => [(t0, wTB tg td tp b0 l0 no we tl un), (tg, wGr R C)])) (va_runV (As := [.long (gGrp R C no we k7)]) (rest := []) ⟨hx, hb, hml, hown, hts⟩ (c_G_banksOf l D cI cJ cZ tg R C (gGrp R C no we k7)  H.size) (cwV 1 hts gX5_look_X2_banksOf rfl rfl rfl (by decide +kernel) ⟨Nat.le_of_ble_eq_true rfl, Nat.le_of_ble_eq_true rfl⟩) (kPV (ci := 2) (q0 := 0) (wc := [(tg, wGr R C)]) hK2 hP hD [1] rfl (by decide) rfl rfl) rfl rfl hl.1 rfl (lv_room (Nat.le_of_ble_eq_true rfl)) dX5_look_50 ⟨Nat.le_of_ble_eq_true rfl, Nat.le_of_ble_eq_true rfl⟩) hP hD hS hA [1] [0] [0, 1] rfl rfl (by decide) (by decide) (fun _ => rfl) (by decide) (fun r_5 u_5 H locs hw_5 hP hD hS => ?_)
          have hP : va_P D vwCl [(t0, wTB tg td tp b0 l0 no we tl un), (tg, wGr R C)] H := hP
          have hD : va_D A [(t0, wTB tg td tp b0 l0 no we tl un), (tg, wGr R C)] := hD
          subst hw_5
          exact W.iret (v := (gBk R C (gGrp R C no we k7))) hx hb hr (fun t ht hW => ⟨⟨(gBk R C (gGrp R C no we k7)), (), rfl, Or.inr ⟨k7, hk7, rfl, by unfold gLook; rw [if_neg (by assumption), if_neg (by decide), if_pos rfl]⟩, by rw [ht]; exact hP, hD⟩, hS.F ht⟩) hS.2.2 dX5_look_53
        · by_cases hw2 : what = nI 2
          · subst hw2
            refine lv_tableIn (off := 39) (tgt := 54) hx hb dX5_look_15 (by decide) (by decide) rfl (by decide) ?_
            refine lv_aload_n hx hb dX5_look_54 rfl (lv_at hl 1 rfl) ?_
            refine va_get (D := D) (ci := 5) (v := .ref tg) (C := RX5) (T := TX5) (N := 9) hx hb hts kiX5_look_X5 hown hK hP 0 rfl rfl 0 (by decide) (hts (.fieldLink RX5 12 "TwoBanks" "grid" "LTwoBanks$Grid;") (List.mem_of_getElem? (i := 1) rfl)) (fun _ h9 => h9) rfl dX5_look_55 ?_
            refine lv_lload_n hx hb dX5_look_58 rfl (lv_at hl 0 rfl) ?_
            refine k_calll (wr := [(t0, wTB tg td tp b0 l0 no we tl un)]) (w2 := (fun _ : Unit => [(t0, wTB tg td tp b0 l0 no we tl un), (tg, wGr R C)])) (va_runV (As := [.long (gGrp R C no we k7)]) (rest := []) ⟨hx, hb, hml, hown, hts⟩ (c_G_beside l D cI cJ cZ tg R C (gGrp R C no we k7) hR1 hR2 hC1 hC2 hRC  H.size) (cwV 1 hts gX5_look_X2_beside rfl rfl rfl (by decide +kernel) ⟨Nat.le_of_ble_eq_true rfl, Nat.le_of_ble_eq_true rfl⟩) (kPV (ci := 2) (q0 := 0) (wc := [(tg, wGr R C)]) hK2 hP hD [1] rfl (by decide) rfl rfl) rfl rfl hl.1 rfl (lv_room (Nat.le_of_ble_eq_true rfl)) dX5_look_59 ⟨Nat.le_of_ble_eq_true rfl, Nat.le_of_ble_eq_true rfl⟩) hP hD hS hA [1] [0] [0, 1] rfl rfl (by decide) (by decide) (fun _ => rfl) (by decide) (fun r_6 u_6 H locs hw_6 hP hD hS => ?_)
            have hP : va_P D vwCl [(t0, wTB tg td tp b0 l0 no we tl un), (tg, wGr R C)] H := hP
            have hD : va_D A [(t0, wTB tg td tp b0 l0 no we tl un), (tg, wGr R C)] := hD
            subst hw_6
            refine lv_aload_n hx hb dX5_look_62 rfl (lv_at hl 1 rfl) ?_
            refine k_calll (wr := []) (w2 := (fun _ : Unit => [(t0, wTB tg td tp b0 l0 no we tl un), (tg, wGr R C)])) (va_runV (As := []) (rest := [.long (gBes R C (gGrp R C no we k7))]) ⟨hx, hb, hml, hown, hts⟩ (c_T_empties l D cI cJ cZ t0 tg td tp b0 l0 no we tl un R C  H.size) (cwV 0 hts gX5_look_X5_empties rfl rfl rfl (by decide +kernel) ⟨Nat.le_of_ble_eq_true rfl, Nat.le_of_ble_eq_true rfl⟩) (kPV (ci := 5) (q0 := 0) (wc := [(t0, wTB tg td tp b0 l0 no we tl un), (tg, wGr R C)]) hK2 hP hD [0, 1] rfl (by decide) rfl rfl) rfl rfl hl.1 rfl (lv_room (Nat.le_of_ble_eq_true rfl)) dX5_look_63 ⟨Nat.le_of_ble_eq_true rfl, Nat.le_of_ble_eq_true rfl⟩) hP hD hS hA [0, 1] [] [0, 1] rfl rfl (by decide) (by decide) (fun _ => rfl) (by decide) (fun r_7 u_7 H locs hw_7 hP hD hS => ?_)
            have hP : va_P D vwCl [(t0, wTB tg td tp b0 l0 no we tl un), (tg, wGr R C)] H := hP
            have hD : va_D A [(t0, wTB tg td tp b0 l0 no we tl un), (tg, wGr R C)] := hD
            subst hw_7
            refine lv_land hx hb dX5_look_66 ?_
            refine k_calli (wr := [(t0, wTB tg td tp b0 l0 no we tl un), (tg, wGr R C)]) (w2 := (fun _ : Unit => [(t0, wTB tg td tp b0 l0 no we tl un), (tg, wGr R C)])) (va_runS (As := [.long ((gBes R C (gGrp R C no we k7)) &&& (gSpots R C no we))]) (rest := []) ⟨hx, hb, hml, hown, hts⟩ (c_bitCount l D cI cJ cZ ((gBes R C (gGrp R C no we k7)) &&& (gSpots R C no we))  H.size) (va_cwS 1 hts gX5_look_J13_bitCount_95d88 rfl rfl rfl (by decide +kernel) ⟨Nat.le_of_ble_eq_true rfl, Nat.le_of_ble_eq_true rfl⟩) (kPS (wc := []) hK2 hP hD [] rfl (by decide)) rfl rfl hl.1 rfl (lv_room (Nat.le_of_ble_eq_true rfl)) dX5_look_67 ⟨Nat.le_of_ble_eq_true rfl, Nat.le_of_ble_eq_true rfl⟩) hP hD hS hA [] [0, 1] [0, 1] rfl rfl (by decide) (by decide) (fun _ => rfl) (by decide) (fun r_8 u_8 H locs hw_8 hP hD hS => ?_)
            have hP : va_P D vwCl [(t0, wTB tg td tp b0 l0 no we tl un), (tg, wGr R C)] H := hP
            have hD : va_D A [(t0, wTB tg td tp b0 l0 no we tl un), (tg, wGr R C)] := hD
            subst hw_8
            exact W.iret (v := (jBC ((gBes R C (gGrp R C no we k7)) &&& (gSpots R C no we)))) hx hb hr (fun t ht hW => ⟨⟨(jBC ((gBes R C (gGrp R C no we k7)) &&& (gSpots R C no we))), (), rfl, Or.inr ⟨k7, hk7, rfl, by unfold gLook; rw [if_neg (by assumption), if_neg (by decide), if_neg (by decide), if_pos rfl]⟩, by rw [ht]; exact hP, hD⟩, hS.F ht⟩) hS.2.2 dX5_look_70
          · have hout : (what).toInt < 0 ∨ (2 : Int) < (what).toInt := k_out (hi := 2) (by decide) (fun j hj => by rcases (show j = 0 ∨ j = 1 ∨ j = 2 by omega) with rfl | rfl | rfl; exact hw0; exact hw1; exact hw2)
            refine lv_tableOut (tgt := 71) hx hb dX5_look_15 hout (by decide) ?_
            refine lv_iconst (v := (-1)) hx hb dX5_look_71 (by decide) ?_
            exact W.iret (v := (-1)) hx hb hr (fun t ht hW => ⟨⟨(-1), (), rfl, Or.inr ⟨k7, hk7, rfl, by unfold gLook; rw [if_neg (by assumption), if_neg hw0, if_neg hw1, if_neg hw2]⟩, by rw [ht]; exact hP, hD⟩, hS.F ht⟩) hS.2.2 dX5_look_72
    · refine lv_iconst (v := (-1)) hx hb dX5_look_12 (by decide) ?_
      exact W.iret (v := (-1)) hx hb hr (fun t ht hW => ⟨⟨(-1), (), rfl, Or.inr ⟨k7, hk7, rfl, by unfold gLook; rw [if_pos (by assumption)]⟩, by rw [ht]; exact hP, hD⟩, hS.F ht⟩) hS.2.2 dX5_look_13

set_option maxHeartbeats 4000000 in
set_option maxRecDepth 100000 in
theorem c_T_joined (l : Launch) (D : va_G) (cI cJ cZ : ClassId) (t0 tg td tp b0 l0 : Nat) (no we : Int64) (tl un : Nat) (R C : Nat) (hR1 : 1 ≤ R) (hR2 : R ≤ 6) (hC1 : 1 ≤ C) (hC2 : C ≤ 6) (hRC : R * C ≤ 36) (sz : Nat) : kMI l yX5_joined wsX5_joined 4 107 D cI cJ cZ [.ref t0] [(t0, wTB tg td tp b0 l0 no we tl un), (tg, wGr R C)] sz (fun r (_ : Unit) => r = nI (gWho R C no we)) (fun _ : Unit => [(t0, wTB tg td tp b0 l0 no we tl un), (tg, wGr R C)]) := by
  refine Met.ofW (cc := cX5_joined) (maxL := 1) (ret := (some .int)) (by decide) rfl ?_
  intro p e s m args below meth c s₁ B hml hv
  obtain ⟨rfl, hsz, hP, ⟨hK, hN⟩, hD0⟩ := hv
  have hx := B.exec
  have hb := B.bytes
  have hr := B.returns
  have hts := atoms_spec (ws := wsX5_joined) B.pre
  have hown : s.vm.findClass RX5 = some m.cls := findClass_of_methodNamed B.named
  have hlocks := B.notSynchronized
  subst hsz
  have hD := hD0.self (sz := s.heap.size)
  generalize hAe : va_A [(t0, wTB tg td tp b0 l0 no we tl un), (tg, wGr R C)] s.heap.size = A at hD ⊢
  have hA : ∀ q : Nat, s.heap.size ≤ q → A q := fun q h => by rw [← hAe]; exact Or.inr h
  have hS : va_S A s.heap s.heap [] := va_S.rf
  have hl := lv_entry ([.ref t0]) (n := 1) (Nat.le_of_ble_eq_true rfl)
  rw [lg_entry_eq]
  generalize (lg_sl ([.ref t0]) ++ List.replicate (1 - (lg_sl ([.ref t0])).length) Slot.unset).toArray = ls at hl ⊢
  have hl : lv_has ls 1 [(0, .ref t0)] := hl
  have hK2 : kK D cI cJ cZ s := ⟨hK, hN⟩
  clear hD0
  refine lv_aload_n hx hb dX5_joined_0 rfl (lv_at hl 0 rfl) ?_
  refine k_calli (wr := []) (w2 := (fun _ : Unit => [(t0, wTB tg td tp b0 l0 no we tl un), (tg, wGr R C)])) (va_runV (As := []) (rest := []) ⟨hx, hb, hml, hown, hts⟩ (c_T_who l D cI cJ cZ t0 tg td tp b0 l0 no we tl un R C hR1 hR2 hC1 hC2 hRC  s.heap.size) (cwV 0 hts gX5_joined_X5_whoJoined rfl rfl rfl (by decide +kernel) ⟨Nat.le_of_ble_eq_true rfl, Nat.le_of_ble_eq_true rfl⟩) (kPV (ci := 5) (q0 := 0) (wc := [(t0, wTB tg td tp b0 l0 no we tl un), (tg, wGr R C)]) hK2 hP hD [0, 1] rfl (by decide) rfl rfl) rfl rfl hl.1 rfl (lv_room (Nat.le_of_ble_eq_true rfl)) dX5_joined_1 ⟨Nat.le_of_ble_eq_true rfl, Nat.le_of_ble_eq_true rfl⟩) hP hD hS hA [0, 1] [] [0, 1] rfl rfl (by decide) (by decide) (fun _ => rfl) (by decide) (fun r_1 u_1 H locs hw_1 hP hD hS => ?_)
  have hP : va_P D vwCl [(t0, wTB tg td tp b0 l0 no we tl un), (tg, wGr R C)] H := hP
  have hD : va_D A [(t0, wTB tg td tp b0 l0 no we tl un), (tg, wGr R C)] := hD
  subst hw_1
  exact W.iret (v := (nI (gWho R C no we))) hx hb hr (fun t ht hW => ⟨⟨(nI (gWho R C no we)), (), rfl, rfl, by rw [ht]; exact hP, hD⟩, hS.F ht⟩) hS.2.2 dX5_joined_4

theorem kiX5_way_X5 : ∀ w ∈ u_ws RX5 TX5 9, w ∈ wsX5_way := fun w h => List.mem_cons_of_mem _ (List.mem_append_left _ (List.mem_append_left _ (List.mem_append_right _ h)))
set_option maxHeartbeats 4000000 in
set_option maxRecDepth 100000 in
theorem c_T_way (l : Launch) (D : va_G) (cI cJ cZ : ClassId) (t0 tg td tp b0 l0 : Nat) (no we : Int64) (tl un : Nat) (R C : Nat) (pl pf ln : Nat) (lay : Nat → Int64) (fs : Nat → Int32) (i : Int32) (hR1 : 1 ≤ R) (hR2 : R ≤ 6) (hC1 : 1 ≤ C) (hC2 : C ≤ 6) (hRC : R * C ≤ 36) (hno : ∀ i, bq no i = true → i < R * C) (hwe : ∀ i, bq we i = true → i < R * C) (sz : Nat) : kMI l yX5_way wsX5_way 5 128 D cI cJ cZ [.ref t0, .int i] [(t0, wTB tg td tp b0 l0 no we tl un), (tg, wGr R C), (tp, .inr (4, [.ref pl, .ref pf, .int (nI ln)])), (pl, .inl (cJ, 36, .inr (.inl lay))), (pf, .inl (cI, 36, .inl fs))] sz (fun r (u : Nat × (Nat → Int64) × (Nat → Int32)) => (wayIs R C no we u.1 u.2.2 ∧ u.1 ≤ 36) ∧ ((∃ k, k < u.1 ∧ i = nI k ∧ r = u.2.2 k) ∨ (¬ fIn u.1 i ∧ r = -1))) (fun u : Nat × (Nat → Int64) × (Nat → Int32) => match u with | (lna, laya, fsa) => [(t0, wTB tg td tp b0 l0 no we tl un), (tg, wGr R C), (tp, .inr (4, [.ref pl, .ref pf, .int (nI lna)])), (pl, .inl (cJ, 36, .inr (.inl laya))), (pf, .inl (cI, 36, .inl fsa))]) := by
  refine Met.ofW (cc := cX5_way) (maxL := 2) (ret := (some .int)) (by decide) rfl ?_
  intro p e s m args below meth c s₁ B hml hv
  obtain ⟨rfl, hsz, hP, ⟨hK, hN⟩, hD0⟩ := hv
  have hx := B.exec
  have hb := B.bytes
  have hr := B.returns
  have hts := atoms_spec (ws := wsX5_way) B.pre
  have hown : s.vm.findClass RX5 = some m.cls := findClass_of_methodNamed B.named
  have hlocks := B.notSynchronized
  subst hsz
  have hD := hD0.self (sz := s.heap.size)
  generalize hAe : va_A [(t0, wTB tg td tp b0 l0 no we tl un), (tg, wGr R C), (tp, .inr (4, [.ref pl, .ref pf, .int (nI ln)])), (pl, .inl (cJ, 36, .inr (.inl lay))), (pf, .inl (cI, 36, .inl fs))] s.heap.size = A at hD ⊢
  have hA : ∀ q : Nat, s.heap.size ≤ q → A q := fun q h => by rw [← hAe]; exact Or.inr h
  have hS : va_S A s.heap s.heap [] := va_S.rf
  have hl := lv_entry ([.ref t0, .int i]) (n := 2) (Nat.le_of_ble_eq_true rfl)
  rw [lg_entry_eq]
  generalize (lg_sl ([.ref t0, .int i]) ++ List.replicate (2 - (lg_sl ([.ref t0, .int i])).length) Slot.unset).toArray = ls at hl ⊢
  have hl : lv_has ls 2 [(0, .ref t0), (1, .int i)] := hl
  have hK2 : kK D cI cJ cZ s := ⟨hK, hN⟩
  clear hD0
  refine lv_aload_n hx hb dX5_way_0 rfl (lv_at hl 0 rfl) ?_
  refine k_callv (wr := []) (w2 := (fun u : Nat × (Nat → Int64) × (Nat → Int32) => match u with | (lna, laya, fsa) => [(t0, wTB tg td tp b0 l0 no we tl un), (tg, wGr R C), (tp, .inr (4, [.ref pl, .ref pf, .int (nI lna)])), (pl, .inl (cJ, 36, .inr (.inl laya))), (pf, .inl (cI, 36, .inl fsa))])) (va_runV (As := []) (rest := []) ⟨hx, hb, hml, hown, hts⟩ (c_T_findPath l D cI cJ cZ t0 tg td tp b0 l0 no we tl un R C pl pf ln lay fs hR1 hR2 hC1 hC2 hRC hno hwe  s.heap.size) (cwV 0 hts gX5_way_X5_findPath rfl rfl rfl (by decide +kernel) ⟨Nat.le_of_ble_eq_true rfl, Nat.le_of_ble_eq_true rfl⟩) (kPV (ci := 5) (q0 := 0) (wc := [(t0, wTB tg td tp b0 l0 no we tl un), (tg, wGr R C), (tp, .inr (4, [.ref pl, .ref pf, .int (nI ln)])), (pl, .inl (cJ, 36, .inr (.inl lay))), (pf, .inl (cI, 36, .inl fs))]) hK2 hP hD [0, 1, 2, 3, 4] rfl (by decide) rfl rfl) rfl rfl hl.1 rfl (lv_room (Nat.le_of_ble_eq_true rfl)) dX5_way_1 ⟨Nat.le_of_ble_eq_true rfl, Nat.le_of_ble_eq_true rfl⟩) hP hD hS hA [0, 1, 2, 3, 4] [] [0, 1, 2, 3, 4] rfl rfl (by decide) (by decide) (fun ⟨_, _, _⟩ => rfl) (by decide) (fun u_4 H locs hw_4 hP hD hS => ?_)
  obtain ⟨lna_1, u_2, fsa_3⟩ := u_4
  have hP : va_P D vwCl [(t0, wTB tg td tp b0 l0 no we tl un), (tg, wGr R C), (tp, .inr (4, [.ref pl, .ref pf, .int (nI lna_1)])), (pl, .inl (cJ, 36, .inr (.inl u_2))), (pf, .inl (cI, 36, .inl fsa_3))] H := hP
  have hD : va_D A [(t0, wTB tg td tp b0 l0 no we tl un), (tg, wGr R C), (tp, .inr (4, [.ref pl, .ref pf, .int (nI lna_1)])), (pl, .inl (cJ, 36, .inr (.inl u_2))), (pf, .inl (cI, 36, .inl fsa_3))] := hD
  have hln9 : lna_1 ≤ 36 := hw_4.2
  refine lv_aload_n hx hb dX5_way_4 rfl (lv_at hl 0 rfl) ?_
  refine va_get (D := D) (ci := 5) (v := .ref tp) (C := RX5) (T := TX5) (N := 9) hx hb hts kiX5_way_X5 hown hK hP 0 rfl rfl 2 (by decide) (hts (.fieldLink RX5 26 "TwoBanks" "path" "LTwoBanks$Path;") (List.mem_of_getElem? (i := 1) rfl)) (fun _ h9 => h9) rfl dX5_way_5 ?_
  refine lv_iload_n hx hb dX5_way_8 rfl (lv_at hl 1 rfl) ?_
  refine k_calli (wr := [(t0, wTB tg td tp b0 l0 no we tl un), (tg, wGr R C)]) (w2 := (fun _ : Unit => [(t0, wTB tg td tp b0 l0 no we tl un), (tg, wGr R C), (tp, .inr (4, [.ref pl, .ref pf, .int (nI lna_1)])), (pl, .inl (cJ, 36, .inr (.inl u_2))), (pf, .inl (cI, 36, .inl fsa_3))])) (va_runV (As := [.int i]) (rest := []) ⟨hx, hb, hml, hown, hts⟩ (c_P_field l D cI cJ cZ tp pl pf lna_1 u_2 fsa_3 i (by omega)  H.size) (cwV 1 hts gX5_way_X4_field rfl rfl rfl (by decide +kernel) ⟨Nat.le_of_ble_eq_true rfl, Nat.le_of_ble_eq_true rfl⟩) (kPV (ci := 4) (q0 := 0) (wc := [(tp, .inr (4, [.ref pl, .ref pf, .int (nI lna_1)])), (pl, .inl (cJ, 36, .inr (.inl u_2))), (pf, .inl (cI, 36, .inl fsa_3))]) hK2 hP hD [2, 3, 4] rfl (by decide) rfl rfl) rfl rfl hl.1 rfl (lv_room (Nat.le_of_ble_eq_true rfl)) dX5_way_9 ⟨Nat.le_of_ble_eq_true rfl, Nat.le_of_ble_eq_true rfl⟩) hP hD hS hA [2, 3, 4] [0, 1] [0, 1, 2, 3, 4] rfl rfl (by decide) (by decide) (fun _ => rfl) (by decide) (fun r_5 u_5 H locs hw_5 hP hD hS => ?_)
  have hP : va_P D vwCl [(t0, wTB tg td tp b0 l0 no we tl un), (tg, wGr R C), (tp, .inr (4, [.ref pl, .ref pf, .int (nI lna_1)])), (pl, .inl (cJ, 36, .inr (.inl u_2))), (pf, .inl (cI, 36, .inl fsa_3))] H := hP
  have hD : va_D A [(t0, wTB tg td tp b0 l0 no we tl un), (tg, wGr R C), (tp, .inr (4, [.ref pl, .ref pf, .int (nI lna_1)])), (pl, .inl (cJ, 36, .inr (.inl u_2))), (pf, .inl (cI, 36, .inl fsa_3))] := hD
  exact W.iret (v := r_5) hx hb hr (fun t ht hW => ⟨⟨r_5, (lna_1, u_2, fsa_3), rfl, ⟨hw_4, hw_5⟩, by rw [ht]; exact hP, hD⟩, hS.F ht⟩) hS.2.2 dX5_way_12

theorem kiX5_winner_X5 : ∀ w ∈ u_ws RX5 TX5 9, w ∈ wsX5_winner := fun w h => List.mem_cons_of_mem _ (List.mem_append_left _ (List.mem_append_left _ (List.mem_append_left _ (List.mem_append_right _ h))))
set_option maxHeartbeats 4000000 in
set_option maxRecDepth 100000 in
theorem c_T_winner (l : Launch) (D : va_G) (cI cJ cZ : ClassId) (t0 tg td tp b0 l0 : Nat) (no we : Int64) (tl un : Nat) (R C : Nat) (b1 b2 b3 b4 b5 b6 : Nat) (BfR BfC : Nat) (Bow Bot Bfr Bto Bsp : Int64) (Bsc Bfu Brn Bdk : Nat) (Bds : Int64) (Brw Bww Blw : Nat → Int64) (who : Int32) (hR1 : 1 ≤ R) (hR2 : R ≤ 6) (hC1 : 1 ≤ C) (hC2 : C ≤ 6) (hRC : R * C ≤ 36) (hno : ∀ i, bq no i = true → i < R * C) (hwe : ∀ i, bq we i = true → i < R * C) (hBin : BfR = 0 ∨ fiOK BfR BfC Bow Bot Bfr Bto Bsp Bsc Bfu Brn Bdk Bds Brw Bww Blw) (sz : Nat) : kMI l yX5_winner wsX5_winner 14 411 D cI cJ cZ [.ref t0, .int who] [(t0, wTB tg td tp b0 l0 no we tl un), (tg, wGr R C), (b0, wFi b1 b3 b5 BfR BfC Bow Bot Bfr Bto Bsp Bsc Bfu Brn Bdk Bds), (b1, .inr (3, [.ref b2])), (b2, .inl (cJ, 16, .inr (.inl Brw))), (b3, .inr (3, [.ref b4])), (b4, .inl (cJ, 1846, .inr (.inl Bww))), (b5, .inr (3, [.ref b6])), (b6, .inl (cJ, 1846, .inr (.inl Blw)))] sz (fun r (u : FS15) => ((r = -1 ∧ ¬ ((who = nI 1 ∨ who = nI 2) ∧ (pcn (gSpots R C no we)) ≤ 10)) ∨ ((pcn (gSpots R C no we)) ≤ 10 ∧ ∃ wn, (wn = 1 ∨ wn = 2) ∧ who = nI wn ∧ r = if gv (bQ R C no we) (pcn (gSpots R C no we)) (pcn (gSpots R C no we)) 0 (decide (wn = 1)) = true then nI 1 else nI 2)) ∧ fiIn u) (fun u : FS15 => match u with | (fRz, fCz, owz, otz, frz, toz, spz, scz, fuz, rnz, dkz, dsz, rwz, wwz, lwz) => [(t0, wTB tg td tp b0 l0 no we tl un), (tg, wGr R C), (b0, wFi b1 b3 b5 fRz fCz owz otz frz toz spz scz fuz rnz dkz dsz), (b1, .inr (3, [.ref b2])), (b2, .inl (cJ, 16, .inr (.inl rwz))), (b3, .inr (3, [.ref b4])), (b4, .inl (cJ, 1846, .inr (.inl wwz))), (b5, .inr (3, [.ref b6])), (b6, .inl (cJ, 1846, .inr (.inl lwz)))]) := by
  refine Met.ofW (cc := cX5_winner) (maxL := 2) (ret := (some .int)) (by decide) rfl ?_
  intro p e s m args below meth c s₁ B hml hv
  obtain ⟨rfl, hsz, hP, ⟨hK, hN⟩, hD0⟩ := hv
  have hx := B.exec
  have hb := B.bytes
  have hr := B.returns
  have hts := atoms_spec (ws := wsX5_winner) B.pre
  have hown : s.vm.findClass RX5 = some m.cls := findClass_of_methodNamed B.named
  have hlocks := B.notSynchronized
  subst hsz
  have hD := hD0.self (sz := s.heap.size)
  generalize hAe : va_A [(t0, wTB tg td tp b0 l0 no we tl un), (tg, wGr R C), (b0, wFi b1 b3 b5 BfR BfC Bow Bot Bfr Bto Bsp Bsc Bfu Brn Bdk Bds), (b1, .inr (3, [.ref b2])), (b2, .inl (cJ, 16, .inr (.inl Brw))), (b3, .inr (3, [.ref b4])), (b4, .inl (cJ, 1846, .inr (.inl Bww))), (b5, .inr (3, [.ref b6])), (b6, .inl (cJ, 1846, .inr (.inl Blw)))] s.heap.size = A at hD ⊢
  have hA : ∀ q : Nat, s.heap.size ≤ q → A q := fun q h => by rw [← hAe]; exact Or.inr h
  have hS : va_S A s.heap s.heap [] := va_S.rf
  have hl := lv_entry ([.ref t0, .int who]) (n := 2) (Nat.le_of_ble_eq_true rfl)
  rw [lg_entry_eq]
  generalize (lg_sl ([.ref t0, .int who]) ++ List.replicate (2 - (lg_sl ([.ref t0, .int who])).length) Slot.unset).toArray = ls at hl ⊢
  have hl : lv_has ls 2 [(0, .ref t0), (1, .int who)] := hl
  have hK2 : kK D cI cJ cZ s := ⟨hK, hN⟩
  clear hD0
  refine lv_iload_n hx hb dX5_winner_0 rfl (lv_at hl 1 rfl) ?_
  refine k_calli (wr := [(t0, wTB tg td tp b0 l0 no we tl un), (tg, wGr R C), (b0, wFi b1 b3 b5 BfR BfC Bow Bot Bfr Bto Bsp Bsc Bfu Brn Bdk Bds), (b1, .inr (3, [.ref b2])), (b2, .inl (cJ, 16, .inr (.inl Brw))), (b3, .inr (3, [.ref b4])), (b4, .inl (cJ, 1846, .inr (.inl Bww))), (b5, .inr (3, [.ref b6])), (b6, .inl (cJ, 1846, .inr (.inl Blw)))]) (w2 := (fun _ : Unit => [(t0, wTB tg td tp b0 l0 no we tl un), (tg, wGr R C), (b0, wFi b1 b3 b5 BfR BfC Bow Bot Bfr Bto Bsp Bsc Bfu Brn Bdk Bds), (b1, .inr (3, [.ref b2])), (b2, .inl (cJ, 16, .inr (.inl Brw))), (b3, .inr (3, [.ref b4])), (b4, .inl (cJ, 1846, .inr (.inl Bww))), (b5, .inr (3, [.ref b6])), (b6, .inl (cJ, 1846, .inr (.inl Blw)))])) (va_runS (As := [.int who]) (rest := []) ⟨hx, hb, hml, hown, hts⟩ (c_isColour l D cI cJ cZ who  s.heap.size) (va_cwS 1 hts gX5_winner_X5_isColour rfl rfl rfl (by decide +kernel) ⟨Nat.le_of_ble_eq_true rfl, Nat.le_of_ble_eq_true rfl⟩) (kPS (wc := []) hK2 hP hD [] rfl (by decide)) rfl rfl hl.1 rfl (lv_room (Nat.le_of_ble_eq_true rfl)) dX5_winner_1 ⟨Nat.le_of_ble_eq_true rfl, Nat.le_of_ble_eq_true rfl⟩) hP hD hS hA [] [0, 1, 2, 3, 4, 5, 6, 7, 8] [0, 1, 2, 3, 4, 5, 6, 7, 8] rfl rfl (by decide) (by decide) (fun _ => rfl) (by decide) (fun r_1 u_1 H locs hw_1 hP hD hS => ?_)
  have hP : va_P D vwCl [(t0, wTB tg td tp b0 l0 no we tl un), (tg, wGr R C), (b0, wFi b1 b3 b5 BfR BfC Bow Bot Bfr Bto Bsp Bsc Bfu Brn Bdk Bds), (b1, .inr (3, [.ref b2])), (b2, .inl (cJ, 16, .inr (.inl Brw))), (b3, .inr (3, [.ref b4])), (b4, .inl (cJ, 1846, .inr (.inl Bww))), (b5, .inr (3, [.ref b6])), (b6, .inl (cJ, 1846, .inr (.inl Blw)))] H := hP
  have hD : va_D A [(t0, wTB tg td tp b0 l0 no we tl un), (tg, wGr R C), (b0, wFi b1 b3 b5 BfR BfC Bow Bot Bfr Bto Bsp Bsc Bfu Brn Bdk Bds), (b1, .inr (3, [.ref b2])), (b2, .inl (cJ, 16, .inr (.inl Brw))), (b3, .inr (3, [.ref b4])), (b4, .inl (cJ, 1846, .inr (.inl Bww))), (b5, .inr (3, [.ref b6])), (b6, .inl (cJ, 1846, .inr (.inl Blw)))] := hD
  rcases hw_1 with ⟨rfl, rfl | rfl⟩ | ⟨rfl, hw_1⟩
  · skip
    refine lv_if_eq (tgt := 14) hx hb dX5_winner_4 (by decide) (fun c_4_2 => absurd c_4_2 (by decide)) (fun c_4_2 => ?_)
    refine lv_aload_n hx hb dX5_winner_7 rfl (lv_at hl 0 rfl) ?_
    refine k_calli (wr := [(b0, wFi b1 b3 b5 BfR BfC Bow Bot Bfr Bto Bsp Bsc Bfu Brn Bdk Bds), (b1, .inr (3, [.ref b2])), (b2, .inl (cJ, 16, .inr (.inl Brw))), (b3, .inr (3, [.ref b4])), (b4, .inl (cJ, 1846, .inr (.inl Bww))), (b5, .inr (3, [.ref b6])), (b6, .inl (cJ, 1846, .inr (.inl Blw)))]) (w2 := (fun _ : Unit => [(t0, wTB tg td tp b0 l0 no we tl un), (tg, wGr R C), (b0, wFi b1 b3 b5 BfR BfC Bow Bot Bfr Bto Bsp Bsc Bfu Brn Bdk Bds), (b1, .inr (3, [.ref b2])), (b2, .inl (cJ, 16, .inr (.inl Brw))), (b3, .inr (3, [.ref b4])), (b4, .inl (cJ, 1846, .inr (.inl Bww))), (b5, .inr (3, [.ref b6])), (b6, .inl (cJ, 1846, .inr (.inl Blw)))])) (va_runV (As := []) (rest := []) ⟨hx, hb, hml, hown, hts⟩ (c_T_tooMany l D cI cJ cZ t0 tg td tp b0 l0 no we tl un R C  H.size) (cwV 0 hts gX5_winner_X5_tooManyEmpty rfl rfl rfl (by decide +kernel) ⟨Nat.le_of_ble_eq_true rfl, Nat.le_of_ble_eq_true rfl⟩) (kPV (ci := 5) (q0 := 0) (wc := [(t0, wTB tg td tp b0 l0 no we tl un), (tg, wGr R C)]) hK2 hP hD [0, 1] rfl (by decide) rfl rfl) rfl rfl hl.1 rfl (lv_room (Nat.le_of_ble_eq_true rfl)) dX5_winner_8 ⟨Nat.le_of_ble_eq_true rfl, Nat.le_of_ble_eq_true rfl⟩) hP hD hS hA [0, 1] [2, 3, 4, 5, 6, 7, 8] [7, 8, 0, 1, 2, 3, 4, 5, 6] rfl rfl (by decide) (by decide) (fun _ => rfl) (by decide) (fun r_3 u_3 H locs hw_3 hP hD hS => ?_)
    have hP : va_P D vwCl [(t0, wTB tg td tp b0 l0 no we tl un), (tg, wGr R C), (b0, wFi b1 b3 b5 BfR BfC Bow Bot Bfr Bto Bsp Bsc Bfu Brn Bdk Bds), (b1, .inr (3, [.ref b2])), (b2, .inl (cJ, 16, .inr (.inl Brw))), (b3, .inr (3, [.ref b4])), (b4, .inl (cJ, 1846, .inr (.inl Bww))), (b5, .inr (3, [.ref b6])), (b6, .inl (cJ, 1846, .inr (.inl Blw)))] H := hP
    have hD : va_D A [(t0, wTB tg td tp b0 l0 no we tl un), (tg, wGr R C), (b0, wFi b1 b3 b5 BfR BfC Bow Bot Bfr Bto Bsp Bsc Bfu Brn Bdk Bds), (b1, .inr (3, [.ref b2])), (b2, .inl (cJ, 16, .inr (.inl Brw))), (b3, .inr (3, [.ref b4])), (b4, .inl (cJ, 1846, .inr (.inl Bww))), (b5, .inr (3, [.ref b6])), (b6, .inl (cJ, 1846, .inr (.inl Blw)))] := hD
    rcases hw_3 with ⟨rfl, hw_3⟩ | ⟨rfl, hw_3⟩
    · skip
      refine lv_if_eq (tgt := 16) hx hb dX5_winner_11 (by decide) (fun c_11_4 => absurd c_11_4 (by decide)) (fun c_11_4 => ?_)
      refine lv_iconst (v := (-1)) hx hb dX5_winner_14 (by decide) ?_
      exact W.iret (v := (-1)) hx hb hr (fun t ht hW => ⟨⟨(-1), (BfR, BfC, Bow, Bot, Bfr, Bto, Bsp, Bsc, Bfu, Brn, Bdk, Bds, Brw, Bww, Blw), rfl, ⟨Or.inl ⟨rfl, fun h9 => by have := hw_3; omega⟩, hBin⟩, by rw [ht]; exact hP, hD⟩, hS.F ht⟩) hS.2.2 dX5_winner_15
    · have hpop := hw_3
      refine lv_if_eq (tgt := 16) hx hb dX5_winner_11 (by decide) (fun c_11_5 => ?_) (fun c_11_5 => absurd c_11_5 (by decide))
      refine lv_aload_n hx hb dX5_winner_16 rfl (lv_at hl 0 rfl) ?_
      refine k_callv (wr := []) (w2 := (fun u : Int64 × Nat × Nat × Nat × Nat × Int64 × (Nat → Int64) × (Nat → Int64) × (Nat → Int64) => match u with | (spa, sca, fua, rna, dka, dsa, rwa, wwa, lwa) => [(t0, wTB tg td tp b0 l0 no we tl un), (tg, wGr R C), (b0, wFi b1 b3 b5 R C no we (gNo C) (gSo R C) spa sca fua rna dka dsa), (b1, .inr (3, [.ref b2])), (b2, .inl (cJ, 16, .inr (.inl rwa))), (b3, .inr (3, [.ref b4])), (b4, .inl (cJ, 1846, .inr (.inl wwa))), (b5, .inr (3, [.ref b6])), (b6, .inl (cJ, 1846, .inr (.inl lwa)))])) (va_runV (As := []) (rest := []) ⟨hx, hb, hml, hown, hts⟩ (c_T_askBanks l D cI cJ cZ t0 tg td tp b0 l0 no we tl un R C b1 b2 b3 b4 b5 b6 BfR BfC Bow Bot Bfr Bto Bsp Bsc Bfu Brn Bdk Bds Brw Bww Blw hR1 hR2 hC1 hC2 hRC hpop hBin  H.size) (cwV 0 hts gX5_winner_X5_askBanks rfl rfl rfl (by decide +kernel) ⟨Nat.le_of_ble_eq_true rfl, Nat.le_of_ble_eq_true rfl⟩) (kPV (ci := 5) (q0 := 0) (wc := [(t0, wTB tg td tp b0 l0 no we tl un), (tg, wGr R C), (b0, wFi b1 b3 b5 BfR BfC Bow Bot Bfr Bto Bsp Bsc Bfu Brn Bdk Bds), (b1, .inr (3, [.ref b2])), (b2, .inl (cJ, 16, .inr (.inl Brw))), (b3, .inr (3, [.ref b4])), (b4, .inl (cJ, 1846, .inr (.inl Bww))), (b5, .inr (3, [.ref b6])), (b6, .inl (cJ, 1846, .inr (.inl Blw)))]) hK2 hP hD [0, 1, 2, 3, 4, 5, 6, 7, 8] rfl (by decide) rfl rfl) rfl rfl hl.1 rfl (lv_room (Nat.le_of_ble_eq_true rfl)) dX5_winner_17 ⟨Nat.le_of_ble_eq_true rfl, Nat.le_of_ble_eq_true rfl⟩) hP hD hS hA [0, 1, 2, 3, 4, 5, 6, 7, 8] [] [0, 1, 2, 3, 4, 5, 6, 7, 8] rfl rfl (by decide) (by decide) (fun ⟨_, _, _, _, _, _, _, _, _⟩ => rfl) (by decide) (fun u_15 H locs hw_15 hP hD hS => ?_)
      obtain ⟨spa_6, sca_7, fua_8, rna_9, dka_10, dsa_11, rwa_12, wwa_13, lwa_14⟩ := u_15
      have hP : va_P D vwCl [(t0, wTB tg td tp b0 l0 no we tl un), (tg, wGr R C), (b0, wFi b1 b3 b5 R C no we (gNo C) (gSo R C) spa_6 sca_7 fua_8 rna_9 dka_10 dsa_11), (b1, .inr (3, [.ref b2])), (b2, .inl (cJ, 16, .inr (.inl rwa_12))), (b3, .inr (3, [.ref b4])), (b4, .inl (cJ, 1846, .inr (.inl wwa_13))), (b5, .inr (3, [.ref b6])), (b6, .inl (cJ, 1846, .inr (.inl lwa_14)))] H := hP
      have hD : va_D A [(t0, wTB tg td tp b0 l0 no we tl un), (tg, wGr R C), (b0, wFi b1 b3 b5 R C no we (gNo C) (gSo R C) spa_6 sca_7 fua_8 rna_9 dka_10 dsa_11), (b1, .inr (3, [.ref b2])), (b2, .inl (cJ, 16, .inr (.inl rwa_12))), (b3, .inr (3, [.ref b4])), (b4, .inl (cJ, 1846, .inr (.inl wwa_13))), (b5, .inr (3, [.ref b6])), (b6, .inl (cJ, 1846, .inr (.inl lwa_14)))] := hD
      obtain ⟨hb9, hsp9, hsc9, hn, hfu, hre, hme, hrn9, hdk9⟩ := hw_15
      have hq : qMono (fQ R C no (gNo C) (gSo R C) spa_6) sca_7 := by rw [hsc9, hsp9]; exact fQ_mono hR1 hR2 hC1 hC2 hno
      have hsp : sca_7 = fb_ct (bq spa_6) 36 := by rw [hsc9]; exact pcn_36 (fun i hi => by rw [hsp9] at hi; have := gSpots_in hR2 hC2 hi; omega)
      have hdk : dka_10 = 0 ∨ (dka_10 = 1 ∧ dsOK (fQ R C no (gNo C) (gSo R C) spa_6) sca_7 spa_6 dsa_11) := hdk9
      refine lv_aload_n hx hb dX5_winner_20 rfl (lv_at hl 0 rfl) ?_
      refine va_get (D := D) (ci := 5) (v := .ref b0) (C := RX5) (T := TX5) (N := 9) hx hb hts kiX5_winner_X5 hown hK hP 0 rfl rfl 3 (by decide) (hts (.fieldLink RX5 33 "TwoBanks" "bankFight" "LTwoBanks$Fight;") (List.mem_of_getElem? (i := 1) rfl)) (fun _ h9 => h9) rfl dX5_winner_21 ?_
      refine lv_iload_n hx hb dX5_winner_24 rfl (lv_at hl 1 rfl) ?_
      refine lv_iconst (v := (nI 1)) hx hb dX5_winner_25 (by decide) ?_
      refine lv_icmp_ne (tgt := 33) hx hb dX5_winner_26 (by decide) (fun c_26_16 => absurd c_26_16 (by decide)) (fun c_26_16 => ?_)
      refine lv_iconst (v := (nI 1)) hx hb dX5_winner_29 (by decide) ?_
      refine lv_goto (tgt := 34) hx hb dX5_winner_30 (by decide) ?_
      refine k_calli (wr := [(t0, wTB tg td tp b0 l0 no we tl un), (tg, wGr R C)]) (w2 := (fun u : MW => match u with | (wa, la) => [(t0, wTB tg td tp b0 l0 no we tl un), (tg, wGr R C), (b0, wFi b1 b3 b5 R C no we (gNo C) (gSo R C) spa_6 sca_7 fua_8 rna_9 dka_10 dsa_11), (b1, .inr (3, [.ref b2])), (b2, .inl (cJ, 16, .inr (.inl rwa_12))), (b3, .inr (3, [.ref b4])), (b4, .inl (cJ, 1846, .inr (.inl wa))), (b5, .inr (3, [.ref b6])), (b6, .inl (cJ, 1846, .inr (.inl la)))])) (va_runV (As := [.int (nI 1)]) (rest := []) ⟨hx, hb, hml, hown, hts⟩ (c_F_makerWins_t l D cI cJ cZ b0 b1 b2 b3 b4 b5 b6 R C no we (gNo C) (gSo R C) spa_6 sca_7 fua_8 rna_9 dka_10 dsa_11 rwa_12 wwa_13 lwa_14 (fQ R C no (gNo C) (gSo R C) spa_6) hn hfu hq hre hme  H.size) (cwV 1 hts gX5_winner_X1_makerWins rfl rfl rfl (by decide +kernel) ⟨Nat.le_of_ble_eq_true rfl, Nat.le_of_ble_eq_true rfl⟩) (kPV (ci := 1) (q0 := 0) (wc := [(b0, wFi b1 b3 b5 R C no we (gNo C) (gSo R C) spa_6 sca_7 fua_8 rna_9 dka_10 dsa_11), (b1, .inr (3, [.ref b2])), (b2, .inl (cJ, 16, .inr (.inl rwa_12))), (b3, .inr (3, [.ref b4])), (b4, .inl (cJ, 1846, .inr (.inl wwa_13))), (b5, .inr (3, [.ref b6])), (b6, .inl (cJ, 1846, .inr (.inl lwa_14)))]) hK2 hP hD [2, 3, 4, 5, 6, 7, 8] rfl (by decide) rfl rfl) rfl rfl hl.1 rfl (lv_room (Nat.le_of_ble_eq_true rfl)) dX5_winner_34 ⟨Nat.le_of_ble_eq_true rfl, Nat.le_of_ble_eq_true rfl⟩) hP hD hS hA [2, 3, 4, 5, 6, 7, 8] [0, 1] [0, 1, 2, 3, 4, 5, 6, 7, 8] rfl rfl (by decide) (by decide) (fun ⟨_, _⟩ => rfl) (by decide) (fun r_19 u_19 H locs hw_19 hP hD hS => ?_)
      obtain ⟨wa_17, la_18⟩ := u_19
      have hP : va_P D vwCl [(t0, wTB tg td tp b0 l0 no we tl un), (tg, wGr R C), (b0, wFi b1 b3 b5 R C no we (gNo C) (gSo R C) spa_6 sca_7 fua_8 rna_9 dka_10 dsa_11), (b1, .inr (3, [.ref b2])), (b2, .inl (cJ, 16, .inr (.inl rwa_12))), (b3, .inr (3, [.ref b4])), (b4, .inl (cJ, 1846, .inr (.inl wa_17))), (b5, .inr (3, [.ref b6])), (b6, .inl (cJ, 1846, .inr (.inl la_18)))] H := hP
      have hD : va_D A [(t0, wTB tg td tp b0 l0 no we tl un), (tg, wGr R C), (b0, wFi b1 b3 b5 R C no we (gNo C) (gSo R C) spa_6 sca_7 fua_8 rna_9 dka_10 dsa_11), (b1, .inr (3, [.ref b2])), (b2, .inl (cJ, 16, .inr (.inl rwa_12))), (b3, .inr (3, [.ref b4])), (b4, .inl (cJ, 1846, .inr (.inl wa_17))), (b5, .inr (3, [.ref b6])), (b6, .inl (cJ, 1846, .inr (.inl la_18)))] := hD
      obtain ⟨hw_19, hm_19⟩ := hw_19
      rcases hw_19 with ⟨rfl, hw_19⟩ | ⟨rfl, hw_19⟩
      · skip
        refine lv_if_eq (tgt := 44) hx hb dX5_winner_37 (by decide) (fun c_37_20 => absurd c_37_20 (by decide)) (fun c_37_20 => ?_)
        refine lv_iconst (v := (nI 1)) hx hb dX5_winner_40 (by decide) ?_
        refine lv_goto (tgt := 45) hx hb dX5_winner_41 (by decide) ?_
        exact W.iret (v := (nI 1)) hx hb hr (fun t ht hW => ⟨⟨(nI 1), (R, C, no, we, (gNo C), (gSo R C), spa_6, sca_7, fua_8, rna_9, dka_10, dsa_11, rwa_12, wa_17, la_18), rfl, ⟨Or.inr ⟨hpop, 1, by decide, rfl, (by rw [if_pos (by have e9 := hw_19; rw [hsc9, hsp9] at e9; exact e9)])⟩, Or.inr ⟨hb9, hsp9, hsc9, hn, hfu, hre, hm_19, hrn9, hdk9⟩⟩, by rw [ht]; exact hP, hD⟩, hS.F ht⟩) hS.2.2 dX5_winner_45
      · skip
        refine lv_if_eq (tgt := 44) hx hb dX5_winner_37 (by decide) (fun c_37_21 => ?_) (fun c_37_21 => absurd c_37_21 (by decide))
        refine lv_iconst (v := (nI 2)) hx hb dX5_winner_44 (by decide) ?_
        exact W.iret (v := (nI 2)) hx hb hr (fun t ht hW => ⟨⟨(nI 2), (R, C, no, we, (gNo C), (gSo R C), spa_6, sca_7, fua_8, rna_9, dka_10, dsa_11, rwa_12, wa_17, la_18), rfl, ⟨Or.inr ⟨hpop, 1, by decide, rfl, (by rw [if_neg (by have e9 := hw_19; rw [hsc9, hsp9] at e9; intro h9; rw [show decide (1 = 1) = true from rfl] at h9; have h8 := h9.symm.trans e9; cases h8)])⟩, Or.inr ⟨hb9, hsp9, hsc9, hn, hfu, hre, hm_19, hrn9, hdk9⟩⟩, by rw [ht]; exact hP, hD⟩, hS.F ht⟩) hS.2.2 dX5_winner_45
  · skip
    refine lv_if_eq (tgt := 14) hx hb dX5_winner_4 (by decide) (fun c_4_22 => absurd c_4_22 (by decide)) (fun c_4_22 => ?_)
    refine lv_aload_n hx hb dX5_winner_7 rfl (lv_at hl 0 rfl) ?_
    refine k_calli (wr := [(b0, wFi b1 b3 b5 BfR BfC Bow Bot Bfr Bto Bsp Bsc Bfu Brn Bdk Bds), (b1, .inr (3, [.ref b2])), (b2, .inl (cJ, 16, .inr (.inl Brw))), (b3, .inr (3, [.ref b4])), (b4, .inl (cJ, 1846, .inr (.inl Bww))), (b5, .inr (3, [.ref b6])), (b6, .inl (cJ, 1846, .inr (.inl Blw)))]) (w2 := (fun _ : Unit => [(t0, wTB tg td tp b0 l0 no we tl un), (tg, wGr R C), (b0, wFi b1 b3 b5 BfR BfC Bow Bot Bfr Bto Bsp Bsc Bfu Brn Bdk Bds), (b1, .inr (3, [.ref b2])), (b2, .inl (cJ, 16, .inr (.inl Brw))), (b3, .inr (3, [.ref b4])), (b4, .inl (cJ, 1846, .inr (.inl Bww))), (b5, .inr (3, [.ref b6])), (b6, .inl (cJ, 1846, .inr (.inl Blw)))])) (va_runV (As := []) (rest := []) ⟨hx, hb, hml, hown, hts⟩ (c_T_tooMany l D cI cJ cZ t0 tg td tp b0 l0 no we tl un R C  H.size) (cwV 0 hts gX5_winner_X5_tooManyEmpty rfl rfl rfl (by decide +kernel) ⟨Nat.le_of_ble_eq_true rfl, Nat.le_of_ble_eq_true rfl⟩) (kPV (ci := 5) (q0 := 0) (wc := [(t0, wTB tg td tp b0 l0 no we tl un), (tg, wGr R C)]) hK2 hP hD [0, 1] rfl (by decide) rfl rfl) rfl rfl hl.1 rfl (lv_room (Nat.le_of_ble_eq_true rfl)) dX5_winner_8 ⟨Nat.le_of_ble_eq_true rfl, Nat.le_of_ble_eq_true rfl⟩) hP hD hS hA [0, 1] [2, 3, 4, 5, 6, 7, 8] [7, 8, 0, 1, 2, 3, 4, 5, 6] rfl rfl (by decide) (by decide) (fun _ => rfl) (by decide) (fun r_23 u_23 H locs hw_23 hP hD hS => ?_)
    have hP : va_P D vwCl [(t0, wTB tg td tp b0 l0 no we tl un), (tg, wGr R C), (b0, wFi b1 b3 b5 BfR BfC Bow Bot Bfr Bto Bsp Bsc Bfu Brn Bdk Bds), (b1, .inr (3, [.ref b2])), (b2, .inl (cJ, 16, .inr (.inl Brw))), (b3, .inr (3, [.ref b4])), (b4, .inl (cJ, 1846, .inr (.inl Bww))), (b5, .inr (3, [.ref b6])), (b6, .inl (cJ, 1846, .inr (.inl Blw)))] H := hP
    have hD : va_D A [(t0, wTB tg td tp b0 l0 no we tl un), (tg, wGr R C), (b0, wFi b1 b3 b5 BfR BfC Bow Bot Bfr Bto Bsp Bsc Bfu Brn Bdk Bds), (b1, .inr (3, [.ref b2])), (b2, .inl (cJ, 16, .inr (.inl Brw))), (b3, .inr (3, [.ref b4])), (b4, .inl (cJ, 1846, .inr (.inl Bww))), (b5, .inr (3, [.ref b6])), (b6, .inl (cJ, 1846, .inr (.inl Blw)))] := hD
    rcases hw_23 with ⟨rfl, hw_23⟩ | ⟨rfl, hw_23⟩
    · skip
      refine lv_if_eq (tgt := 16) hx hb dX5_winner_11 (by decide) (fun c_11_24 => absurd c_11_24 (by decide)) (fun c_11_24 => ?_)
      refine lv_iconst (v := (-1)) hx hb dX5_winner_14 (by decide) ?_
      exact W.iret (v := (-1)) hx hb hr (fun t ht hW => ⟨⟨(-1), (BfR, BfC, Bow, Bot, Bfr, Bto, Bsp, Bsc, Bfu, Brn, Bdk, Bds, Brw, Bww, Blw), rfl, ⟨Or.inl ⟨rfl, fun h9 => by have := hw_23; omega⟩, hBin⟩, by rw [ht]; exact hP, hD⟩, hS.F ht⟩) hS.2.2 dX5_winner_15
    · have hpop := hw_23
      refine lv_if_eq (tgt := 16) hx hb dX5_winner_11 (by decide) (fun c_11_25 => ?_) (fun c_11_25 => absurd c_11_25 (by decide))
      refine lv_aload_n hx hb dX5_winner_16 rfl (lv_at hl 0 rfl) ?_
      refine k_callv (wr := []) (w2 := (fun u : Int64 × Nat × Nat × Nat × Nat × Int64 × (Nat → Int64) × (Nat → Int64) × (Nat → Int64) => match u with | (spa, sca, fua, rna, dka, dsa, rwa, wwa, lwa) => [(t0, wTB tg td tp b0 l0 no we tl un), (tg, wGr R C), (b0, wFi b1 b3 b5 R C no we (gNo C) (gSo R C) spa sca fua rna dka dsa), (b1, .inr (3, [.ref b2])), (b2, .inl (cJ, 16, .inr (.inl rwa))), (b3, .inr (3, [.ref b4])), (b4, .inl (cJ, 1846, .inr (.inl wwa))), (b5, .inr (3, [.ref b6])), (b6, .inl (cJ, 1846, .inr (.inl lwa)))])) (va_runV (As := []) (rest := []) ⟨hx, hb, hml, hown, hts⟩ (c_T_askBanks l D cI cJ cZ t0 tg td tp b0 l0 no we tl un R C b1 b2 b3 b4 b5 b6 BfR BfC Bow Bot Bfr Bto Bsp Bsc Bfu Brn Bdk Bds Brw Bww Blw hR1 hR2 hC1 hC2 hRC hpop hBin  H.size) (cwV 0 hts gX5_winner_X5_askBanks rfl rfl rfl (by decide +kernel) ⟨Nat.le_of_ble_eq_true rfl, Nat.le_of_ble_eq_true rfl⟩) (kPV (ci := 5) (q0 := 0) (wc := [(t0, wTB tg td tp b0 l0 no we tl un), (tg, wGr R C), (b0, wFi b1 b3 b5 BfR BfC Bow Bot Bfr Bto Bsp Bsc Bfu Brn Bdk Bds), (b1, .inr (3, [.ref b2])), (b2, .inl (cJ, 16, .inr (.inl Brw))), (b3, .inr (3, [.ref b4])), (b4, .inl (cJ, 1846, .inr (.inl Bww))), (b5, .inr (3, [.ref b6])), (b6, .inl (cJ, 1846, .inr (.inl Blw)))]) hK2 hP hD [0, 1, 2, 3, 4, 5, 6, 7, 8] rfl (by decide) rfl rfl) rfl rfl hl.1 rfl (lv_room (Nat.le_of_ble_eq_true rfl)) dX5_winner_17 ⟨Nat.le_of_ble_eq_true rfl, Nat.le_of_ble_eq_true rfl⟩) hP hD hS hA [0, 1, 2, 3, 4, 5, 6, 7, 8] [] [0, 1, 2, 3, 4, 5, 6, 7, 8] rfl rfl (by decide) (by decide) (fun ⟨_, _, _, _, _, _, _, _, _⟩ => rfl) (by decide) (fun u_35 H locs hw_35 hP hD hS => ?_)
      obtain ⟨spa_26, sca_27, fua_28, rna_29, dka_30, dsa_31, rwa_32, wwa_33, lwa_34⟩ := u_35
      have hP : va_P D vwCl [(t0, wTB tg td tp b0 l0 no we tl un), (tg, wGr R C), (b0, wFi b1 b3 b5 R C no we (gNo C) (gSo R C) spa_26 sca_27 fua_28 rna_29 dka_30 dsa_31), (b1, .inr (3, [.ref b2])), (b2, .inl (cJ, 16, .inr (.inl rwa_32))), (b3, .inr (3, [.ref b4])), (b4, .inl (cJ, 1846, .inr (.inl wwa_33))), (b5, .inr (3, [.ref b6])), (b6, .inl (cJ, 1846, .inr (.inl lwa_34)))] H := hP
      have hD : va_D A [(t0, wTB tg td tp b0 l0 no we tl un), (tg, wGr R C), (b0, wFi b1 b3 b5 R C no we (gNo C) (gSo R C) spa_26 sca_27 fua_28 rna_29 dka_30 dsa_31), (b1, .inr (3, [.ref b2])), (b2, .inl (cJ, 16, .inr (.inl rwa_32))), (b3, .inr (3, [.ref b4])), (b4, .inl (cJ, 1846, .inr (.inl wwa_33))), (b5, .inr (3, [.ref b6])), (b6, .inl (cJ, 1846, .inr (.inl lwa_34)))] := hD
      obtain ⟨hb9, hsp9, hsc9, hn, hfu, hre, hme, hrn9, hdk9⟩ := hw_35
      have hq : qMono (fQ R C no (gNo C) (gSo R C) spa_26) sca_27 := by rw [hsc9, hsp9]; exact fQ_mono hR1 hR2 hC1 hC2 hno
      have hsp : sca_27 = fb_ct (bq spa_26) 36 := by rw [hsc9]; exact pcn_36 (fun i hi => by rw [hsp9] at hi; have := gSpots_in hR2 hC2 hi; omega)
      have hdk : dka_30 = 0 ∨ (dka_30 = 1 ∧ dsOK (fQ R C no (gNo C) (gSo R C) spa_26) sca_27 spa_26 dsa_31) := hdk9
      refine lv_aload_n hx hb dX5_winner_20 rfl (lv_at hl 0 rfl) ?_
      refine va_get (D := D) (ci := 5) (v := .ref b0) (C := RX5) (T := TX5) (N := 9) hx hb hts kiX5_winner_X5 hown hK hP 0 rfl rfl 3 (by decide) (hts (.fieldLink RX5 33 "TwoBanks" "bankFight" "LTwoBanks$Fight;") (List.mem_of_getElem? (i := 1) rfl)) (fun _ h9 => h9) rfl dX5_winner_21 ?_
      refine lv_iload_n hx hb dX5_winner_24 rfl (lv_at hl 1 rfl) ?_
      refine lv_iconst (v := (nI 1)) hx hb dX5_winner_25 (by decide) ?_
      refine lv_icmp_ne (tgt := 33) hx hb dX5_winner_26 (by decide) (fun c_26_36 => ?_) (fun c_26_36 => absurd c_26_36 (by decide))
      refine lv_iconst (v := (nI 0)) hx hb dX5_winner_33 (by decide) ?_
      refine k_calli (wr := [(t0, wTB tg td tp b0 l0 no we tl un), (tg, wGr R C)]) (w2 := (fun u : MW => match u with | (wa, la) => [(t0, wTB tg td tp b0 l0 no we tl un), (tg, wGr R C), (b0, wFi b1 b3 b5 R C no we (gNo C) (gSo R C) spa_26 sca_27 fua_28 rna_29 dka_30 dsa_31), (b1, .inr (3, [.ref b2])), (b2, .inl (cJ, 16, .inr (.inl rwa_32))), (b3, .inr (3, [.ref b4])), (b4, .inl (cJ, 1846, .inr (.inl wa))), (b5, .inr (3, [.ref b6])), (b6, .inl (cJ, 1846, .inr (.inl la)))])) (va_runV (As := [.int (nI 0)]) (rest := []) ⟨hx, hb, hml, hown, hts⟩ (c_F_makerWins_f l D cI cJ cZ b0 b1 b2 b3 b4 b5 b6 R C no we (gNo C) (gSo R C) spa_26 sca_27 fua_28 rna_29 dka_30 dsa_31 rwa_32 wwa_33 lwa_34 (fQ R C no (gNo C) (gSo R C) spa_26) hn hfu hq hre hme  H.size) (cwV 1 hts gX5_winner_X1_makerWins rfl rfl rfl (by decide +kernel) ⟨Nat.le_of_ble_eq_true rfl, Nat.le_of_ble_eq_true rfl⟩) (kPV (ci := 1) (q0 := 0) (wc := [(b0, wFi b1 b3 b5 R C no we (gNo C) (gSo R C) spa_26 sca_27 fua_28 rna_29 dka_30 dsa_31), (b1, .inr (3, [.ref b2])), (b2, .inl (cJ, 16, .inr (.inl rwa_32))), (b3, .inr (3, [.ref b4])), (b4, .inl (cJ, 1846, .inr (.inl wwa_33))), (b5, .inr (3, [.ref b6])), (b6, .inl (cJ, 1846, .inr (.inl lwa_34)))]) hK2 hP hD [2, 3, 4, 5, 6, 7, 8] rfl (by decide) rfl rfl) rfl rfl hl.1 rfl (lv_room (Nat.le_of_ble_eq_true rfl)) dX5_winner_34 ⟨Nat.le_of_ble_eq_true rfl, Nat.le_of_ble_eq_true rfl⟩) hP hD hS hA [2, 3, 4, 5, 6, 7, 8] [0, 1] [0, 1, 2, 3, 4, 5, 6, 7, 8] rfl rfl (by decide) (by decide) (fun ⟨_, _⟩ => rfl) (by decide) (fun r_39 u_39 H locs hw_39 hP hD hS => ?_)
      obtain ⟨wa_37, la_38⟩ := u_39
      have hP : va_P D vwCl [(t0, wTB tg td tp b0 l0 no we tl un), (tg, wGr R C), (b0, wFi b1 b3 b5 R C no we (gNo C) (gSo R C) spa_26 sca_27 fua_28 rna_29 dka_30 dsa_31), (b1, .inr (3, [.ref b2])), (b2, .inl (cJ, 16, .inr (.inl rwa_32))), (b3, .inr (3, [.ref b4])), (b4, .inl (cJ, 1846, .inr (.inl wa_37))), (b5, .inr (3, [.ref b6])), (b6, .inl (cJ, 1846, .inr (.inl la_38)))] H := hP
      have hD : va_D A [(t0, wTB tg td tp b0 l0 no we tl un), (tg, wGr R C), (b0, wFi b1 b3 b5 R C no we (gNo C) (gSo R C) spa_26 sca_27 fua_28 rna_29 dka_30 dsa_31), (b1, .inr (3, [.ref b2])), (b2, .inl (cJ, 16, .inr (.inl rwa_32))), (b3, .inr (3, [.ref b4])), (b4, .inl (cJ, 1846, .inr (.inl wa_37))), (b5, .inr (3, [.ref b6])), (b6, .inl (cJ, 1846, .inr (.inl la_38)))] := hD
      obtain ⟨hw_39, hm_39⟩ := hw_39
      rcases hw_39 with ⟨rfl, hw_39⟩ | ⟨rfl, hw_39⟩
      · skip
        refine lv_if_eq (tgt := 44) hx hb dX5_winner_37 (by decide) (fun c_37_40 => absurd c_37_40 (by decide)) (fun c_37_40 => ?_)
        refine lv_iconst (v := (nI 1)) hx hb dX5_winner_40 (by decide) ?_
        refine lv_goto (tgt := 45) hx hb dX5_winner_41 (by decide) ?_
        exact W.iret (v := (nI 1)) hx hb hr (fun t ht hW => ⟨⟨(nI 1), (R, C, no, we, (gNo C), (gSo R C), spa_26, sca_27, fua_28, rna_29, dka_30, dsa_31, rwa_32, wa_37, la_38), rfl, ⟨Or.inr ⟨hpop, 2, by decide, rfl, (by rw [if_pos (by have e9 := hw_39; rw [hsc9, hsp9] at e9; exact e9)])⟩, Or.inr ⟨hb9, hsp9, hsc9, hn, hfu, hre, hm_39, hrn9, hdk9⟩⟩, by rw [ht]; exact hP, hD⟩, hS.F ht⟩) hS.2.2 dX5_winner_45
      · skip
        refine lv_if_eq (tgt := 44) hx hb dX5_winner_37 (by decide) (fun c_37_41 => ?_) (fun c_37_41 => absurd c_37_41 (by decide))
        refine lv_iconst (v := (nI 2)) hx hb dX5_winner_44 (by decide) ?_
        exact W.iret (v := (nI 2)) hx hb hr (fun t ht hW => ⟨⟨(nI 2), (R, C, no, we, (gNo C), (gSo R C), spa_26, sca_27, fua_28, rna_29, dka_30, dsa_31, rwa_32, wa_37, la_38), rfl, ⟨Or.inr ⟨hpop, 2, by decide, rfl, (by rw [if_neg (by have e9 := hw_39; rw [hsc9, hsp9] at e9; intro h9; rw [show decide (2 = 1) = false from rfl] at h9; have h8 := h9.symm.trans e9; cases h8)])⟩, Or.inr ⟨hb9, hsp9, hsc9, hn, hfu, hre, hm_39, hrn9, hdk9⟩⟩, by rw [ht]; exact hP, hD⟩, hS.F ht⟩) hS.2.2 dX5_winner_45
  · skip
    refine lv_if_eq (tgt := 14) hx hb dX5_winner_4 (by decide) (fun c_4_42 => ?_) (fun c_4_42 => absurd c_4_42 (by decide))
    refine lv_iconst (v := (-1)) hx hb dX5_winner_14 (by decide) ?_
    exact W.iret (v := (-1)) hx hb hr (fun t ht hW => ⟨⟨(-1), (BfR, BfC, Bow, Bot, Bfr, Bto, Bsp, Bsc, Bfu, Brn, Bdk, Bds, Brw, Bww, Blw), rfl, ⟨Or.inl ⟨rfl, fun h9 => by rcases h9.1 with q9 | q9; exact hw_1.1 q9; exact hw_1.2 q9⟩, hBin⟩, by rw [ht]; exact hP, hD⟩, hS.F ht⟩) hS.2.2 dX5_winner_15
