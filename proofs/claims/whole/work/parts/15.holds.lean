
abbrev wFi (f1 f3 f5 fR fC : Nat) (ow ot fr to sp : Int64) (sc fu rn dk : Nat) (ds : Int64) : va_E := .inr (1, [.ref f1, .ref f3, .ref f5, .int (nI fR), .int (nI fC), .long ow, .long ot, .long fr, .long to, .long sp, .int (nI sc), .int (nI fu), .int (nI rn), .int (nI dk), .long ds])
abbrev MW : Type := (Nat → Int64) × (Nat → Int64)
theorem kiX1_holds_X1 : ∀ w ∈ u_ws RX1 TX1 15, w ∈ wsX1_holds := fun w h => List.mem_cons_of_mem _ (List.mem_append_left _ (List.mem_append_right _ h))
set_option maxHeartbeats 8000000 in
set_option maxRecDepth 100000 in
theorem c_F_holds (l : Launch) (D : va_G) (cI cJ cZ : ClassId) : ∀ (d : Nat) (h0 h1 h2 h3 h4 h5 h6 : Nat) (fR fC : Nat) (ow ot fr to sp : Int64) (sc fu rn dk : Nat) (ds : Int64) (rw ww lw : Nat → Int64) (q : Nat → Bool) (kc mi th : Nat) (b : Bool) (hn : sc ≤ 10) (hfu : fu = 2 ^ sc - 1) (hq : qMono q sc) (hre : reOK q sc rw) (hme : memoOK q sc (ww, lw)) (hmi : mi = mkD 1 kc sc) (hth : th = mkD 2 kc sc) (hz : zs kc sc = d) (hc : kc < 3 ^ sc) (sz : Nat), kMI l yX1_holds wsX1_holds (d + 2) (30 * d + 60) D cI cJ cZ [.ref h0, .int (nI mi), .int (nI th), .int (nI kc), .int (nI b.toNat), .int (nI d)] [(h0, wFi h1 h3 h5 fR fC ow ot fr to sp sc fu rn dk ds), (h1, .inr (3, [.ref h2])), (h2, .inl (cJ, 16, .inr (.inl rw))), (h3, .inr (3, [.ref h4])), (h4, .inl (cJ, 1846, .inr (.inl ww))), (h5, .inr (3, [.ref h6])), (h6, .inl (cJ, 1846, .inr (.inl lw)))] sz (fun r (u : MW) => ((r = nI 1 ∧ gv q sc d kc b = true) ∨ (r = nI 0 ∧ gv q sc d kc b = false)) ∧ memoOK q sc u) (fun u : MW => match u with | (wa, la) => [(h0, wFi h1 h3 h5 fR fC ow ot fr to sp sc fu rn dk ds), (h1, .inr (3, [.ref h2])), (h2, .inl (cJ, 16, .inr (.inl rw))), (h3, .inr (3, [.ref h4])), (h4, .inl (cJ, 1846, .inr (.inl wa))), (h5, .inr (3, [.ref h6])), (h6, .inl (cJ, 1846, .inr (.inl la)))]) := by
  intro d
  induction d using Nat.strongRecOn with
  | _ d ih =>
    intro h0 h1 h2 h3 h4 h5 h6 fR fC ow ot fr to sp sc fu rn dk ds rw ww lw q kc mi th b hn hfu hq hre hme hmi hth hz hc sz
    subst hmi hth hz
    cases b with
    | false =>
      rw [Bool.toNat_false]
      refine Met.ofW (cc := cX1_holds) (maxL := 11) (ret := (some .boolean)) (by decide) rfl ?_
      intro p e s m args below meth c s₁ B hml hv
      obtain ⟨rfl, hsz, hP, ⟨hK, hN⟩, hD0⟩ := hv
      have hx := B.exec
      have hb := B.bytes
      have hr := B.returns
      have hts := atoms_spec (ws := wsX1_holds) B.pre
      have hown : s.vm.findClass RX1 = some m.cls := findClass_of_methodNamed B.named
      have hlocks := B.notSynchronized
      subst hsz
      have hD := hD0.self (sz := s.heap.size)
      generalize hAe : va_A [(h0, wFi h1 h3 h5 fR fC ow ot fr to sp sc fu rn dk ds), (h1, .inr (3, [.ref h2])), (h2, .inl (cJ, 16, .inr (.inl rw))), (h3, .inr (3, [.ref h4])), (h4, .inl (cJ, 1846, .inr (.inl ww))), (h5, .inr (3, [.ref h6])), (h6, .inl (cJ, 1846, .inr (.inl lw)))] s.heap.size = A at hD ⊢
      have hA : ∀ q : Nat, s.heap.size ≤ q → A q := fun q h => by rw [← hAe]; exact Or.inr h
      have hS : va_S A s.heap s.heap [] := va_S.rf
      have hl := lv_entry ([.ref h0, .int (nI (mkD 1 kc sc)), .int (nI (mkD 2 kc sc)), .int (nI kc), .int (nI 0), .int (nI (zs kc sc))]) (n := 11) (Nat.le_of_ble_eq_true rfl)
      rw [lg_entry_eq]
      generalize (lg_sl ([.ref h0, .int (nI (mkD 1 kc sc)), .int (nI (mkD 2 kc sc)), .int (nI kc), .int (nI 0), .int (nI (zs kc sc))]) ++ List.replicate (11 - (lg_sl ([.ref h0, .int (nI (mkD 1 kc sc)), .int (nI (mkD 2 kc sc)), .int (nI kc), .int (nI 0), .int (nI (zs kc sc))])).length) Slot.unset).toArray = ls at hl ⊢
      have hl : lv_has ls 11 [(0, .ref h0), (1, .int (nI (mkD 1 kc sc))), (2, .int (nI (mkD 2 kc sc))), (3, .int (nI kc)), (4, .int (nI 0)), (5, .int (nI (zs kc sc)))] := hl
      have hK2 : kK D cI cJ cZ s := ⟨hK, hN⟩
      clear hD0
      have hmi0 := mkD_lt 1 kc sc
      have hth0 := mkD_lt 2 kc sc
      have hmn0 := mkN_lt kc sc
      have h2n := p2_le hn
      have h3n := p3_le hn
      have hzn := zs_le kc sc
      refine lv_aload_n hx hb dX1_holds_0 rfl (lv_at hl 0 rfl) ?_
      refine va_get (D := D) (ci := 1) (v := .ref h1) (C := RX1) (T := TX1) (N := 15) hx hb hts kiX1_holds_X1 hown hK hP 0 rfl rfl 0 (by decide) (hts (.fieldLink RX1 14 "TwoBanks$Fight" "reached" "LTwoBanks$Marks;") (List.mem_of_getElem? (i := 1) rfl)) (fun _ h9 => h9) rfl dX1_holds_1 ?_
      refine lv_iload_n hx hb dX1_holds_4 rfl (lv_at hl 1 rfl) ?_
      refine k_calli (wr := [(h0, wFi h1 h3 h5 fR fC ow ot fr to sp sc fu rn dk ds), (h3, .inr (3, [.ref h4])), (h4, .inl (cJ, 1846, .inr (.inl ww))), (h5, .inr (3, [.ref h6])), (h6, .inl (cJ, 1846, .inr (.inl lw)))]) (w2 := (fun _ : Unit => [(h0, wFi h1 h3 h5 fR fC ow ot fr to sp sc fu rn dk ds), (h1, .inr (3, [.ref h2])), (h2, .inl (cJ, 16, .inr (.inl rw))), (h3, .inr (3, [.ref h4])), (h4, .inl (cJ, 1846, .inr (.inl ww))), (h5, .inr (3, [.ref h6])), (h6, .inl (cJ, 1846, .inr (.inl lw)))])) (va_runV (As := [.int (nI (mkD 1 kc sc))]) (rest := []) ⟨hx, hb, hml, hown, hts⟩ (c_M_has l D cI cJ cZ h1 h2 16 rw (mkD 1 kc sc) (by omega) (by omega)  s.heap.size) (cwV 1 hts gX1_holds_X3_has rfl rfl rfl (by decide +kernel) ⟨by show 1 + 1 ≤ zs kc sc + 2; omega, by show 8 + (3 + 11) + 20 ≤ 30 * zs kc sc + 60; omega⟩) (kPV (ci := 3) (q0 := 0) (wc := [(h1, .inr (3, [.ref h2])), (h2, .inl (cJ, 16, .inr (.inl rw)))]) hK2 hP hD [1, 2] rfl (by decide) rfl rfl) rfl rfl hl.1 rfl (lv_room (Nat.le_of_ble_eq_true rfl)) dX1_holds_5 ⟨Nat.le_of_ble_eq_true rfl, Nat.le_of_ble_eq_true rfl⟩) hP hD hS hA [1, 2] [0, 3, 4, 5, 6] [0, 5, 6, 1, 2, 3, 4] rfl rfl (by decide) (by decide) (fun _ => rfl) (by decide) (fun r_1 u_1 H locs hw_1 hP hD hS => ?_)
      have hP : va_P D vwCl [(h0, wFi h1 h3 h5 fR fC ow ot fr to sp sc fu rn dk ds), (h1, .inr (3, [.ref h2])), (h2, .inl (cJ, 16, .inr (.inl rw))), (h3, .inr (3, [.ref h4])), (h4, .inl (cJ, 1846, .inr (.inl ww))), (h5, .inr (3, [.ref h6])), (h6, .inl (cJ, 1846, .inr (.inl lw)))] H := hP
      have hD : va_D A [(h0, wFi h1 h3 h5 fR fC ow ot fr to sp sc fu rn dk ds), (h1, .inr (3, [.ref h2])), (h2, .inl (cJ, 16, .inr (.inl rw))), (h3, .inr (3, [.ref h4])), (h4, .inl (cJ, 1846, .inr (.inl ww))), (h5, .inr (3, [.ref h6])), (h6, .inl (cJ, 1846, .inr (.inl lw)))] := hD
      rcases hw_1 with ⟨rfl, hw_1⟩ | ⟨rfl, hw_1⟩
      · skip
        refine lv_if_eq (tgt := 13) hx hb dX1_holds_8 (by decide) (fun c_8_2 => absurd c_8_2 (by decide)) (fun c_8_2 => ?_)
        refine lv_iconst (v := (nI 1)) hx hb dX1_holds_11 (by decide) ?_
        exact W.zret (v := (nI 1)) hx hb hr (by first | decide +kernel | assumption | exact kz_narr (by first | assumption | omega)) (fun t ht hW => ⟨⟨(nI 1), (ww, lw), rfl, ⟨Or.inl ⟨rfl, gv_won hq _ _ _ rfl ((hre _ hmi0).mp hw_1)⟩, hme⟩, by rw [ht]; exact hP, hD⟩, hS.F ht⟩) hS.2.2 dX1_holds_12
      · skip
        refine lv_if_eq (tgt := 13) hx hb dX1_holds_8 (by decide) (fun c_8_3 => ?_) (fun c_8_3 => absurd c_8_3 (by decide))
        refine lv_iload hx hb dX1_holds_13 (lv_at hl 5 rfl) ?_
        refine kw_if_le (tgt := 36) hx hb dX1_holds_15 (by decide) (by omega) (fun c_15_4 => ?_) (fun c_15_4 => ?_)
        · refine lv_iconst (v := (nI 0)) hx hb dX1_holds_36 (by decide) ?_
          exact W.zret (v := (nI 0)) hx hb hr (by first | decide +kernel | assumption | exact kz_narr (by first | assumption | omega)) (fun t ht hW => ⟨⟨(nI 0), (ww, lw), rfl, ⟨Or.inr ⟨rfl, gv_end (by omega) (mt (hre _ hmi0).mpr hw_1)⟩, hme⟩, by rw [ht]; exact hP, hD⟩, hS.F ht⟩) hS.2.2 dX1_holds_37
        · have hz0 : 0 < zs kc sc := c_15_4
          refine lv_aload_n hx hb dX1_holds_18 rfl (lv_at hl 0 rfl) ?_
          refine va_get (D := D) (ci := 1) (v := .ref h1) (C := RX1) (T := TX1) (N := 15) hx hb hts kiX1_holds_X1 hown hK hP 0 rfl rfl 0 (by decide) (hts (.fieldLink RX1 14 "TwoBanks$Fight" "reached" "LTwoBanks$Marks;") (List.mem_of_getElem? (i := 1) rfl)) (fun _ h9 => h9) rfl dX1_holds_19 ?_
          refine lv_aload_n hx hb dX1_holds_22 rfl (lv_at hl 0 rfl) ?_
          refine va_get (D := D) (ci := 1) (v := .int (nI fu)) (C := RX1) (T := TX1) (N := 15) hx hb hts kiX1_holds_X1 hown hK hP 0 rfl rfl 11 (by decide) (hts (.fieldLink RX1 82 "TwoBanks$Fight" "full" "I") (List.mem_of_getElem? (i := 2) rfl)) (fun _ h9 => h9) rfl dX1_holds_23 ?_
          refine lv_iload_n hx hb dX1_holds_26 rfl (lv_at hl 2 rfl) ?_
          refine lv_iconst (v := (-1)) hx hb dX1_holds_27 (by decide) ?_
          refine lv_ixor hx hb dX1_holds_28 ?_
          refine lv_iand hx hb dX1_holds_29 ?_
          refine k_toi (y := nI (mkN kc sc)) (by rw [hfu]; exact kf_mkN hn) ?_
          refine k_calli (wr := [(h0, wFi h1 h3 h5 fR fC ow ot fr to sp sc fu rn dk ds), (h3, .inr (3, [.ref h4])), (h4, .inl (cJ, 1846, .inr (.inl ww))), (h5, .inr (3, [.ref h6])), (h6, .inl (cJ, 1846, .inr (.inl lw)))]) (w2 := (fun _ : Unit => [(h0, wFi h1 h3 h5 fR fC ow ot fr to sp sc fu rn dk ds), (h1, .inr (3, [.ref h2])), (h2, .inl (cJ, 16, .inr (.inl rw))), (h3, .inr (3, [.ref h4])), (h4, .inl (cJ, 1846, .inr (.inl ww))), (h5, .inr (3, [.ref h6])), (h6, .inl (cJ, 1846, .inr (.inl lw)))])) (va_runV (As := [.int (nI (mkN kc sc))]) (rest := []) ⟨hx, hb, hml, hown, hts⟩ (c_M_has l D cI cJ cZ h1 h2 16 rw (mkN kc sc) (by omega) (by omega)  H.size) (cwV 1 hts gX1_holds_X3_has rfl rfl rfl (by decide +kernel) ⟨by show 1 + 1 ≤ zs kc sc + 2; omega, by show 8 + (3 + 11) + 20 ≤ 30 * zs kc sc + 60; omega⟩) (kPV (ci := 3) (q0 := 0) (wc := [(h1, .inr (3, [.ref h2])), (h2, .inl (cJ, 16, .inr (.inl rw)))]) hK2 hP hD [1, 2] rfl (by decide) rfl rfl) rfl rfl hl.1 rfl (lv_room (Nat.le_of_ble_eq_true rfl)) dX1_holds_30 ⟨Nat.le_of_ble_eq_true rfl, Nat.le_of_ble_eq_true rfl⟩) hP hD hS hA [1, 2] [0, 3, 4, 5, 6] [0, 5, 6, 1, 2, 3, 4] rfl rfl (by decide) (by decide) (fun _ => rfl) (by decide) (fun r_5 u_5 H locs hw_5 hP hD hS => ?_)
          have hP : va_P D vwCl [(h0, wFi h1 h3 h5 fR fC ow ot fr to sp sc fu rn dk ds), (h1, .inr (3, [.ref h2])), (h2, .inl (cJ, 16, .inr (.inl rw))), (h3, .inr (3, [.ref h4])), (h4, .inl (cJ, 1846, .inr (.inl ww))), (h5, .inr (3, [.ref h6])), (h6, .inl (cJ, 1846, .inr (.inl lw)))] H := hP
          have hD : va_D A [(h0, wFi h1 h3 h5 fR fC ow ot fr to sp sc fu rn dk ds), (h1, .inr (3, [.ref h2])), (h2, .inl (cJ, 16, .inr (.inl rw))), (h3, .inr (3, [.ref h4])), (h4, .inl (cJ, 1846, .inr (.inl ww))), (h5, .inr (3, [.ref h6])), (h6, .inl (cJ, 1846, .inr (.inl lw)))] := hD
          rcases hw_5 with ⟨rfl, hw_5⟩ | ⟨rfl, hw_5⟩
          · skip
            refine lv_if_ne (tgt := 38) hx hb dX1_holds_33 (by decide) (fun c_33_6 => ?_) (fun c_33_6 => absurd c_33_6 (by decide))
            refine lv_iconst (v := (nI 2)) hx hb dX1_holds_38 (by decide) ?_
            refine lv_iload_n hx hb dX1_holds_39 rfl (lv_at hl 3 rfl) ?_
            refine lv_imul hx hb dX1_holds_40 ?_
            refine k_toi (y := nI (2 * kc)) (pk_mul _ _) ?_
            refine lv_iload hx hb dX1_holds_41 (lv_at hl 4 rfl) ?_
            refine lv_if_eq (tgt := 50) hx hb dX1_holds_43 (by decide) (fun c_43_7 => ?_) (fun c_43_7 => absurd c_43_7 (by decide))
            refine lv_iconst (v := (nI 0)) hx hb dX1_holds_50 (by decide) ?_
            refine lv_iadd hx hb dX1_holds_51 ?_
            refine k_toi (y := nI ((2 * kc) + 0)) (nI_add _ _) ?_
            refine lv_istore (lv' := [(6, .int (nI ((2 * kc) + 0))), (0, .ref h0), (1, .int (nI (mkD 1 kc sc))), (2, .int (nI (mkD 2 kc sc))), (3, .int (nI kc)), (4, .int (nI 0)), (5, .int (nI (zs kc sc)))]) hx hb dX1_holds_52 hl (by decide) rfl (fun ls hl => ?_)
            refine lv_aload_n hx hb dX1_holds_54 rfl (lv_at hl 1 rfl) ?_
            refine va_get (D := D) (ci := 1) (v := .ref h3) (C := RX1) (T := TX1) (N := 15) hx hb hts kiX1_holds_X1 hown hK hP 0 rfl rfl 1 (by decide) (hts (.fieldLink RX1 21 "TwoBanks$Fight" "won" "LTwoBanks$Marks;") (List.mem_of_getElem? (i := 3) rfl)) (fun _ h9 => h9) rfl dX1_holds_55 ?_
            refine lv_iload hx hb dX1_holds_58 (lv_at hl 0 rfl) ?_
            refine k_calli (wr := [(h0, wFi h1 h3 h5 fR fC ow ot fr to sp sc fu rn dk ds), (h1, .inr (3, [.ref h2])), (h2, .inl (cJ, 16, .inr (.inl rw))), (h5, .inr (3, [.ref h6])), (h6, .inl (cJ, 1846, .inr (.inl lw)))]) (w2 := (fun _ : Unit => [(h0, wFi h1 h3 h5 fR fC ow ot fr to sp sc fu rn dk ds), (h1, .inr (3, [.ref h2])), (h2, .inl (cJ, 16, .inr (.inl rw))), (h3, .inr (3, [.ref h4])), (h4, .inl (cJ, 1846, .inr (.inl ww))), (h5, .inr (3, [.ref h6])), (h6, .inl (cJ, 1846, .inr (.inl lw)))])) (va_runV (As := [.int (nI ((2 * kc) + 0))]) (rest := []) ⟨hx, hb, hml, hown, hts⟩ (c_M_has l D cI cJ cZ h3 h4 1846 ww ((2 * kc) + 0) (by omega) (by omega)  H.size) (cwV 1 hts gX1_holds_X3_has rfl rfl rfl (by decide +kernel) ⟨by show 1 + 1 ≤ zs kc sc + 2; omega, by show 8 + (3 + 11) + 20 ≤ 30 * zs kc sc + 60; omega⟩) (kPV (ci := 3) (q0 := 0) (wc := [(h3, .inr (3, [.ref h4])), (h4, .inl (cJ, 1846, .inr (.inl ww)))]) hK2 hP hD [3, 4] rfl (by decide) rfl rfl) rfl rfl hl.1 rfl (lv_room (Nat.le_of_ble_eq_true rfl)) dX1_holds_60 ⟨Nat.le_of_ble_eq_true rfl, Nat.le_of_ble_eq_true rfl⟩) hP hD hS hA [3, 4] [0, 1, 2, 5, 6] [0, 1, 2, 5, 6, 3, 4] rfl rfl (by decide) (by decide) (fun _ => rfl) (by decide) (fun r_8 u_8 H locs hw_8 hP hD hS => ?_)
            have hP : va_P D vwCl [(h0, wFi h1 h3 h5 fR fC ow ot fr to sp sc fu rn dk ds), (h1, .inr (3, [.ref h2])), (h2, .inl (cJ, 16, .inr (.inl rw))), (h3, .inr (3, [.ref h4])), (h4, .inl (cJ, 1846, .inr (.inl ww))), (h5, .inr (3, [.ref h6])), (h6, .inl (cJ, 1846, .inr (.inl lw)))] H := hP
            have hD : va_D A [(h0, wFi h1 h3 h5 fR fC ow ot fr to sp sc fu rn dk ds), (h1, .inr (3, [.ref h2])), (h2, .inl (cJ, 16, .inr (.inl rw))), (h3, .inr (3, [.ref h4])), (h4, .inl (cJ, 1846, .inr (.inl ww))), (h5, .inr (3, [.ref h6])), (h6, .inl (cJ, 1846, .inr (.inl lw)))] := hD
            rcases hw_8 with ⟨rfl, hw_8⟩ | ⟨rfl, hw_8⟩
            · skip
              refine lv_if_ne (tgt := 78) hx hb dX1_holds_63 (by decide) (fun c_63_9 => ?_) (fun c_63_9 => absurd c_63_9 (by decide))
              refine lv_aload_n hx hb dX1_holds_78 rfl (lv_at hl 1 rfl) ?_
              refine va_get (D := D) (ci := 1) (v := .ref h3) (C := RX1) (T := TX1) (N := 15) hx hb hts kiX1_holds_X1 hown hK hP 0 rfl rfl 1 (by decide) (hts (.fieldLink RX1 21 "TwoBanks$Fight" "won" "LTwoBanks$Marks;") (List.mem_of_getElem? (i := 3) rfl)) (fun _ h9 => h9) rfl dX1_holds_79 ?_
              refine lv_iload hx hb dX1_holds_82 (lv_at hl 0 rfl) ?_
              refine k_calli (wr := [(h0, wFi h1 h3 h5 fR fC ow ot fr to sp sc fu rn dk ds), (h1, .inr (3, [.ref h2])), (h2, .inl (cJ, 16, .inr (.inl rw))), (h5, .inr (3, [.ref h6])), (h6, .inl (cJ, 1846, .inr (.inl lw)))]) (w2 := (fun _ : Unit => [(h0, wFi h1 h3 h5 fR fC ow ot fr to sp sc fu rn dk ds), (h1, .inr (3, [.ref h2])), (h2, .inl (cJ, 16, .inr (.inl rw))), (h3, .inr (3, [.ref h4])), (h4, .inl (cJ, 1846, .inr (.inl ww))), (h5, .inr (3, [.ref h6])), (h6, .inl (cJ, 1846, .inr (.inl lw)))])) (va_runV (As := [.int (nI ((2 * kc) + 0))]) (rest := []) ⟨hx, hb, hml, hown, hts⟩ (c_M_has l D cI cJ cZ h3 h4 1846 ww ((2 * kc) + 0) (by omega) (by omega)  H.size) (cwV 1 hts gX1_holds_X3_has rfl rfl rfl (by decide +kernel) ⟨by show 1 + 1 ≤ zs kc sc + 2; omega, by show 8 + (3 + 11) + 20 ≤ 30 * zs kc sc + 60; omega⟩) (kPV (ci := 3) (q0 := 0) (wc := [(h3, .inr (3, [.ref h4])), (h4, .inl (cJ, 1846, .inr (.inl ww)))]) hK2 hP hD [3, 4] rfl (by decide) rfl rfl) rfl rfl hl.1 rfl (lv_room (Nat.le_of_ble_eq_true rfl)) dX1_holds_84 ⟨Nat.le_of_ble_eq_true rfl, Nat.le_of_ble_eq_true rfl⟩) hP hD hS hA [3, 4] [0, 1, 2, 5, 6] [0, 1, 2, 5, 6, 3, 4] rfl rfl (by decide) (by decide) (fun _ => rfl) (by decide) (fun r_10 u_10 H locs hw_10 hP hD hS => ?_)
              have hP : va_P D vwCl [(h0, wFi h1 h3 h5 fR fC ow ot fr to sp sc fu rn dk ds), (h1, .inr (3, [.ref h2])), (h2, .inl (cJ, 16, .inr (.inl rw))), (h3, .inr (3, [.ref h4])), (h4, .inl (cJ, 1846, .inr (.inl ww))), (h5, .inr (3, [.ref h6])), (h6, .inl (cJ, 1846, .inr (.inl lw)))] H := hP
              have hD : va_D A [(h0, wFi h1 h3 h5 fR fC ow ot fr to sp sc fu rn dk ds), (h1, .inr (3, [.ref h2])), (h2, .inl (cJ, 16, .inr (.inl rw))), (h3, .inr (3, [.ref h4])), (h4, .inl (cJ, 1846, .inr (.inl ww))), (h5, .inr (3, [.ref h6])), (h6, .inl (cJ, 1846, .inr (.inl lw)))] := hD
              rcases hw_10 with ⟨rfl, hw_10⟩ | ⟨rfl, hw_10⟩
              · skip
                exact W.zret (v := (nI 1)) hx hb hr (by first | decide +kernel | assumption | exact kz_narr (by first | assumption | omega)) (fun t ht hW => ⟨⟨(nI 1), (ww, lw), rfl, ⟨Or.inl ⟨rfl, (hme kc false hc).1 hw_10⟩, hme⟩, by rw [ht]; exact hP, hD⟩, hS.F ht⟩) hS.2.2 dX1_holds_87
              · skip
                exact W.zret (v := (nI 0)) hx hb hr (by first | decide +kernel | assumption | exact kz_narr (by first | assumption | omega)) (fun t ht hW => ⟨⟨(nI 0), (ww, lw), rfl, absurd hw_8 hw_10, by rw [ht]; exact hP, hD⟩, hS.F ht⟩) hS.2.2 dX1_holds_87
            · skip
              refine lv_if_ne (tgt := 78) hx hb dX1_holds_63 (by decide) (fun c_63_11 => absurd c_63_11 (by decide)) (fun c_63_11 => ?_)
              refine lv_aload_n hx hb dX1_holds_66 rfl (lv_at hl 1 rfl) ?_
              refine va_get (D := D) (ci := 1) (v := .ref h5) (C := RX1) (T := TX1) (N := 15) hx hb hts kiX1_holds_X1 hown hK hP 0 rfl rfl 2 (by decide) (hts (.fieldLink RX1 24 "TwoBanks$Fight" "lost" "LTwoBanks$Marks;") (List.mem_of_getElem? (i := 4) rfl)) (fun _ h9 => h9) rfl dX1_holds_67 ?_
              refine lv_iload hx hb dX1_holds_70 (lv_at hl 0 rfl) ?_
              refine k_calli (wr := [(h0, wFi h1 h3 h5 fR fC ow ot fr to sp sc fu rn dk ds), (h1, .inr (3, [.ref h2])), (h2, .inl (cJ, 16, .inr (.inl rw))), (h3, .inr (3, [.ref h4])), (h4, .inl (cJ, 1846, .inr (.inl ww)))]) (w2 := (fun _ : Unit => [(h0, wFi h1 h3 h5 fR fC ow ot fr to sp sc fu rn dk ds), (h1, .inr (3, [.ref h2])), (h2, .inl (cJ, 16, .inr (.inl rw))), (h3, .inr (3, [.ref h4])), (h4, .inl (cJ, 1846, .inr (.inl ww))), (h5, .inr (3, [.ref h6])), (h6, .inl (cJ, 1846, .inr (.inl lw)))])) (va_runV (As := [.int (nI ((2 * kc) + 0))]) (rest := []) ⟨hx, hb, hml, hown, hts⟩ (c_M_has l D cI cJ cZ h5 h6 1846 lw ((2 * kc) + 0) (by omega) (by omega)  H.size) (cwV 1 hts gX1_holds_X3_has rfl rfl rfl (by decide +kernel) ⟨by show 1 + 1 ≤ zs kc sc + 2; omega, by show 8 + (3 + 11) + 20 ≤ 30 * zs kc sc + 60; omega⟩) (kPV (ci := 3) (q0 := 0) (wc := [(h5, .inr (3, [.ref h6])), (h6, .inl (cJ, 1846, .inr (.inl lw)))]) hK2 hP hD [5, 6] rfl (by decide) rfl rfl) rfl rfl hl.1 rfl (lv_room (Nat.le_of_ble_eq_true rfl)) dX1_holds_72 ⟨Nat.le_of_ble_eq_true rfl, Nat.le_of_ble_eq_true rfl⟩) hP hD hS hA [5, 6] [0, 1, 2, 3, 4] [0, 1, 2, 3, 4, 5, 6] rfl rfl (by decide) (by decide) (fun _ => rfl) (by decide) (fun r_12 u_12 H locs hw_12 hP hD hS => ?_)
              have hP : va_P D vwCl [(h0, wFi h1 h3 h5 fR fC ow ot fr to sp sc fu rn dk ds), (h1, .inr (3, [.ref h2])), (h2, .inl (cJ, 16, .inr (.inl rw))), (h3, .inr (3, [.ref h4])), (h4, .inl (cJ, 1846, .inr (.inl ww))), (h5, .inr (3, [.ref h6])), (h6, .inl (cJ, 1846, .inr (.inl lw)))] H := hP
              have hD : va_D A [(h0, wFi h1 h3 h5 fR fC ow ot fr to sp sc fu rn dk ds), (h1, .inr (3, [.ref h2])), (h2, .inl (cJ, 16, .inr (.inl rw))), (h3, .inr (3, [.ref h4])), (h4, .inl (cJ, 1846, .inr (.inl ww))), (h5, .inr (3, [.ref h6])), (h6, .inl (cJ, 1846, .inr (.inl lw)))] := hD
              rcases hw_12 with ⟨rfl, hw_12⟩ | ⟨rfl, hw_12⟩
              · skip
                refine lv_if_eq (tgt := 88) hx hb dX1_holds_75 (by decide) (fun c_75_13 => absurd c_75_13 (by decide)) (fun c_75_13 => ?_)
                refine lv_aload_n hx hb dX1_holds_78 rfl (lv_at hl 1 rfl) ?_
                refine va_get (D := D) (ci := 1) (v := .ref h3) (C := RX1) (T := TX1) (N := 15) hx hb hts kiX1_holds_X1 hown hK hP 0 rfl rfl 1 (by decide) (hts (.fieldLink RX1 21 "TwoBanks$Fight" "won" "LTwoBanks$Marks;") (List.mem_of_getElem? (i := 3) rfl)) (fun _ h9 => h9) rfl dX1_holds_79 ?_
                refine lv_iload hx hb dX1_holds_82 (lv_at hl 0 rfl) ?_
                refine k_calli (wr := [(h0, wFi h1 h3 h5 fR fC ow ot fr to sp sc fu rn dk ds), (h1, .inr (3, [.ref h2])), (h2, .inl (cJ, 16, .inr (.inl rw))), (h5, .inr (3, [.ref h6])), (h6, .inl (cJ, 1846, .inr (.inl lw)))]) (w2 := (fun _ : Unit => [(h0, wFi h1 h3 h5 fR fC ow ot fr to sp sc fu rn dk ds), (h1, .inr (3, [.ref h2])), (h2, .inl (cJ, 16, .inr (.inl rw))), (h3, .inr (3, [.ref h4])), (h4, .inl (cJ, 1846, .inr (.inl ww))), (h5, .inr (3, [.ref h6])), (h6, .inl (cJ, 1846, .inr (.inl lw)))])) (va_runV (As := [.int (nI ((2 * kc) + 0))]) (rest := []) ⟨hx, hb, hml, hown, hts⟩ (c_M_has l D cI cJ cZ h3 h4 1846 ww ((2 * kc) + 0) (by omega) (by omega)  H.size) (cwV 1 hts gX1_holds_X3_has rfl rfl rfl (by decide +kernel) ⟨by show 1 + 1 ≤ zs kc sc + 2; omega, by show 8 + (3 + 11) + 20 ≤ 30 * zs kc sc + 60; omega⟩) (kPV (ci := 3) (q0 := 0) (wc := [(h3, .inr (3, [.ref h4])), (h4, .inl (cJ, 1846, .inr (.inl ww)))]) hK2 hP hD [3, 4] rfl (by decide) rfl rfl) rfl rfl hl.1 rfl (lv_room (Nat.le_of_ble_eq_true rfl)) dX1_holds_84 ⟨Nat.le_of_ble_eq_true rfl, Nat.le_of_ble_eq_true rfl⟩) hP hD hS hA [3, 4] [0, 1, 2, 5, 6] [0, 1, 2, 5, 6, 3, 4] rfl rfl (by decide) (by decide) (fun _ => rfl) (by decide) (fun r_14 u_14 H locs hw_14 hP hD hS => ?_)
                have hP : va_P D vwCl [(h0, wFi h1 h3 h5 fR fC ow ot fr to sp sc fu rn dk ds), (h1, .inr (3, [.ref h2])), (h2, .inl (cJ, 16, .inr (.inl rw))), (h3, .inr (3, [.ref h4])), (h4, .inl (cJ, 1846, .inr (.inl ww))), (h5, .inr (3, [.ref h6])), (h6, .inl (cJ, 1846, .inr (.inl lw)))] H := hP
                have hD : va_D A [(h0, wFi h1 h3 h5 fR fC ow ot fr to sp sc fu rn dk ds), (h1, .inr (3, [.ref h2])), (h2, .inl (cJ, 16, .inr (.inl rw))), (h3, .inr (3, [.ref h4])), (h4, .inl (cJ, 1846, .inr (.inl ww))), (h5, .inr (3, [.ref h6])), (h6, .inl (cJ, 1846, .inr (.inl lw)))] := hD
                rcases hw_14 with ⟨rfl, hw_14⟩ | ⟨rfl, hw_14⟩
                · skip
                  exact W.zret (v := (nI 1)) hx hb hr (by first | decide +kernel | assumption | exact kz_narr (by first | assumption | omega)) (fun t ht hW => ⟨⟨(nI 1), (ww, lw), rfl, absurd hw_14 hw_8, by rw [ht]; exact hP, hD⟩, hS.F ht⟩) hS.2.2 dX1_holds_87
                · skip
                  exact W.zret (v := (nI 0)) hx hb hr (by first | decide +kernel | assumption | exact kz_narr (by first | assumption | omega)) (fun t ht hW => ⟨⟨(nI 0), (ww, lw), rfl, ⟨Or.inr ⟨rfl, (hme kc false hc).2 hw_12⟩, hme⟩, by rw [ht]; exact hP, hD⟩, hS.F ht⟩) hS.2.2 dX1_holds_87
              · skip
                refine lv_if_eq (tgt := 88) hx hb dX1_holds_75 (by decide) (fun c_75_15 => ?_) (fun c_75_15 => absurd c_75_15 (by decide))
                refine lv_iload hx hb dX1_holds_88 (lv_at hl 5 rfl) ?_
                refine lv_if_ne (tgt := 97) hx hb dX1_holds_90 (by decide) (fun c_90_16 => absurd c_90_16 (by decide)) (fun c_90_16 => ?_)
                refine lv_iconst (v := (nI 1)) hx hb dX1_holds_93 (by decide) ?_
                refine lv_goto (tgt := 98) hx hb dX1_holds_94 (by decide) ?_
                refine lv_istore (lv' := [(7, .int (nI 1)), (6, .int (nI ((2 * kc) + 0))), (0, .ref h0), (1, .int (nI (mkD 1 kc sc))), (2, .int (nI (mkD 2 kc sc))), (3, .int (nI kc)), (4, .int (nI 0)), (5, .int (nI (zs kc sc)))]) hx hb dX1_holds_98 hl (by decide) rfl (fun ls hl => ?_)
                refine lv_iconst (v := (nI 1)) hx hb dX1_holds_100 (by decide) ?_
                refine lv_istore (lv' := [(8, .int (nI 1)), (7, .int (nI 1)), (6, .int (nI ((2 * kc) + 0))), (0, .ref h0), (1, .int (nI (mkD 1 kc sc))), (2, .int (nI (mkD 2 kc sc))), (3, .int (nI kc)), (4, .int (nI 0)), (5, .int (nI (zs kc sc)))]) hx hb dX1_holds_101 hl (by decide) rfl (fun ls hl => ?_)
                refine lv_iconst (v := (nI 0)) hx hb dX1_holds_103 (by decide) ?_
                refine lv_istore (lv' := [(9, .int (nI 0)), (8, .int (nI 1)), (7, .int (nI 1)), (6, .int (nI ((2 * kc) + 0))), (0, .ref h0), (1, .int (nI (mkD 1 kc sc))), (2, .int (nI (mkD 2 kc sc))), (3, .int (nI kc)), (4, .int (nI 0)), (5, .int (nI (zs kc sc)))]) hx hb dX1_holds_104 hl (by decide) rfl (fun ls hl => ?_)
                refine kw_loop (σ := Nat × Bool × (Nat → Int64) × (Nat → Int64)) (fun zz H locs ls => match zz with | (k, w8, wa, la) => va_P D vwCl [(h0, wFi h1 h3 h5 fR fC ow ot fr to sp sc fu rn dk ds), (h1, .inr (3, [.ref h2])), (h2, .inl (cJ, 16, .inr (.inl rw))), (h3, .inr (3, [.ref h4])), (h4, .inl (cJ, 1846, .inr (.inl wa))), (h5, .inr (3, [.ref h6])), (h6, .inl (cJ, 1846, .inr (.inl la)))] H ∧ va_D A [(h0, wFi h1 h3 h5 fR fC ow ot fr to sp sc fu rn dk ds), (h1, .inr (3, [.ref h2])), (h2, .inl (cJ, 16, .inr (.inl rw))), (h3, .inr (3, [.ref h4])), (h4, .inl (cJ, 1846, .inr (.inl wa))), (h5, .inr (3, [.ref h6])), (h6, .inl (cJ, 1846, .inr (.inl la)))] ∧ va_S A s.heap H locs ∧ lv_has ls 11 [(0, .ref h0), (1, .int (nI (mkD 1 kc sc))), (2, .int (nI (mkD 2 kc sc))), (3, .int (nI kc)), (4, .int (nI 0)), (5, .int (nI (zs kc sc))), (6, .int (nI (2 * kc + 0))), (7, .int (nI (w8.toNat))), (8, .int (nI (3 ^ k))), (9, .int (nI k))] ∧ (k ≤ sc) ∧ (w8 = allU (gvP2 q sc (zs kc sc - 1) kc) k) ∧ (memoOK q sc (wa, la))) (fun zz => match zz with | (k, w8, wa, la) => sc - k) (0, true, ww, lw) ⟨hP, hD, hS, lv_sub hl [4, 5, 6, 7, 8, 9, 3, 2, 1, 0] rfl, Nat.zero_le _, rfl, hme⟩ ?_
                clear hP hD hS hl
                rintro ⟨k, w8, wa, la⟩ H locs ls ⟨hP, hD, hS, hl, hk8, hw8, hm8⟩ ih_106
                have hP : va_P D vwCl [(h0, wFi h1 h3 h5 fR fC ow ot fr to sp sc fu rn dk ds), (h1, .inr (3, [.ref h2])), (h2, .inl (cJ, 16, .inr (.inl rw))), (h3, .inr (3, [.ref h4])), (h4, .inl (cJ, 1846, .inr (.inl wa))), (h5, .inr (3, [.ref h6])), (h6, .inl (cJ, 1846, .inr (.inl la)))] H := hP
                have hD : va_D A [(h0, wFi h1 h3 h5 fR fC ow ot fr to sp sc fu rn dk ds), (h1, .inr (3, [.ref h2])), (h2, .inl (cJ, 16, .inr (.inl rw))), (h3, .inr (3, [.ref h4])), (h4, .inl (cJ, 1846, .inr (.inl wa))), (h5, .inr (3, [.ref h6])), (h6, .inl (cJ, 1846, .inr (.inl la)))] := hD
                have hl : lv_has ls 11 [(0, .ref h0), (1, .int (nI (mkD 1 kc sc))), (2, .int (nI (mkD 2 kc sc))), (3, .int (nI kc)), (4, .int (nI 0)), (5, .int (nI (zs kc sc))), (6, .int (nI (2 * kc + 0))), (7, .int (nI (w8.toNat))), (8, .int (nI (3 ^ k))), (9, .int (nI k))] := hl
                have hk8 : k ≤ sc := hk8
                have hw8 : w8 = allU (gvP2 q sc (zs kc sc - 1) kc) k := hw8
                have hm8 : memoOK q sc (wa, la) := hm8
                cases w8
                · have hl : lv_has ls 11 [(0, .ref h0), (1, .int (nI (mkD 1 kc sc))), (2, .int (nI (mkD 2 kc sc))), (3, .int (nI kc)), (4, .int (nI 0)), (5, .int (nI (zs kc sc))), (6, .int (nI (2 * kc + 0))), (7, .int (nI 0)), (8, .int (nI (3 ^ k))), (9, .int (nI k))] := hl
                  refine lv_iload hx hb dX1_holds_106 (lv_at hl 9 rfl) ?_
                  refine lv_aload_n hx hb dX1_holds_108 rfl (lv_at hl 0 rfl) ?_
                  refine va_get (D := D) (ci := 1) (v := .int (nI sc)) (C := RX1) (T := TX1) (N := 15) hx hb hts kiX1_holds_X1 hown hK hP 0 rfl rfl 10 (by decide) (hts (.fieldLink RX1 79 "TwoBanks$Fight" "spotCount" "I") (List.mem_of_getElem? (i := 5) rfl)) (fun _ h9 => h9) rfl dX1_holds_109 ?_
                  refine kw_icmp_ge (tgt := 197) hx hb dX1_holds_112 (by decide) (by omega) (by omega) (fun c_112_17 => ?_) (fun c_112_17 => ?_)
                  · refine lv_iload hx hb dX1_holds_197 (lv_at hl 7 rfl) ?_
                    refine lv_if_eq (tgt := 214) hx hb dX1_holds_199 (by decide) (fun c_199_18 => ?_) (fun c_199_18 => absurd c_199_18 (by decide))
                    refine lv_aload_n hx hb dX1_holds_214 rfl (lv_at hl 0 rfl) ?_
                    refine va_get (D := D) (ci := 1) (v := .ref h5) (C := RX1) (T := TX1) (N := 15) hx hb hts kiX1_holds_X1 hown hK hP 0 rfl rfl 2 (by decide) (hts (.fieldLink RX1 24 "TwoBanks$Fight" "lost" "LTwoBanks$Marks;") (List.mem_of_getElem? (i := 4) rfl)) (fun _ h9 => h9) rfl dX1_holds_215 ?_
                    refine lv_iload hx hb dX1_holds_218 (lv_at hl 6 rfl) ?_
                    refine k_callv (wr := [(h0, wFi h1 h3 h5 fR fC ow ot fr to sp sc fu rn dk ds), (h1, .inr (3, [.ref h2])), (h2, .inl (cJ, 16, .inr (.inl rw))), (h3, .inr (3, [.ref h4])), (h4, .inl (cJ, 1846, .inr (.inl wa)))]) (w2 := (fun _ : Unit => [(h0, wFi h1 h3 h5 fR fC ow ot fr to sp sc fu rn dk ds), (h1, .inr (3, [.ref h2])), (h2, .inl (cJ, 16, .inr (.inl rw))), (h3, .inr (3, [.ref h4])), (h4, .inl (cJ, 1846, .inr (.inl wa))), (h5, .inr (3, [.ref h6])), (h6, .inl (cJ, 1846, .inr (.inl (mSet la (2 * kc + 0)))))])) (va_runV (As := [.int (nI (2 * kc + 0))]) (rest := []) ⟨hx, hb, hml, hown, hts⟩ (c_M_mark l D cI cJ cZ h5 h6 1846 la (2 * kc + 0) (by omega) (by omega) (by omega)  H.size) (cwV 1 hts gX1_holds_X3_mark rfl rfl rfl (by decide +kernel) ⟨by show 1 + 1 ≤ zs kc sc + 2; omega, by show 8 + (3 + 11) + 20 ≤ 30 * zs kc sc + 60; omega⟩) (kPV (ci := 3) (q0 := 0) (wc := [(h5, .inr (3, [.ref h6])), (h6, .inl (cJ, 1846, .inr (.inl la)))]) hK2 hP hD [5, 6] rfl (by decide) rfl rfl) rfl rfl hl.1 rfl (lv_room (Nat.le_of_ble_eq_true rfl)) dX1_holds_220 ⟨Nat.le_of_ble_eq_true rfl, Nat.le_of_ble_eq_true rfl⟩) hP hD hS hA [5, 6] [0, 1, 2, 3, 4] [0, 1, 2, 3, 4, 5, 6] rfl rfl (by decide) (by decide) (fun _ => rfl) (by decide) (fun u_19 H locs hw_19 hP hD hS => ?_)
                    have hP : va_P D vwCl [(h0, wFi h1 h3 h5 fR fC ow ot fr to sp sc fu rn dk ds), (h1, .inr (3, [.ref h2])), (h2, .inl (cJ, 16, .inr (.inl rw))), (h3, .inr (3, [.ref h4])), (h4, .inl (cJ, 1846, .inr (.inl wa))), (h5, .inr (3, [.ref h6])), (h6, .inl (cJ, 1846, .inr (.inl (mSet la (2 * kc + 0)))))] H := hP
                    have hD : va_D A [(h0, wFi h1 h3 h5 fR fC ow ot fr to sp sc fu rn dk ds), (h1, .inr (3, [.ref h2])), (h2, .inl (cJ, 16, .inr (.inl rw))), (h3, .inr (3, [.ref h4])), (h4, .inl (cJ, 1846, .inr (.inl wa))), (h5, .inr (3, [.ref h6])), (h6, .inl (cJ, 1846, .inr (.inl (mSet la (2 * kc + 0)))))] := hD
                    refine lv_iload hx hb dX1_holds_223 (lv_at hl 7 rfl) ?_
                    exact W.zret (v := (nI 0)) hx hb hr (by first | decide +kernel | assumption | exact kz_narr (by first | assumption | omega)) (fun t ht hW => ⟨⟨(nI 0), (wa, mSet la (2 * kc + 0)), rfl, ⟨Or.inr ⟨rfl, (by rw [gv_2 hz0]; exact allU_up hk8 hw8.symm)⟩, memo_lost (l := false) hn hc hm8 (by rw [gv_2 hz0]; exact allU_up hk8 hw8.symm)⟩, by rw [ht]; exact hP, hD⟩, hS.F ht⟩) hS.2.2 dX1_holds_225
                  · refine lv_iload hx hb dX1_holds_115 (lv_at hl 7 rfl) ?_
                    refine lv_iload hx hb dX1_holds_117 (lv_at hl 4 rfl) ?_
                    refine lv_icmp_eq (tgt := 197) hx hb dX1_holds_119 (by decide) (fun c_119_20 => ?_) (fun c_119_20 => absurd c_119_20 (by decide))
                    refine lv_iload hx hb dX1_holds_197 (lv_at hl 7 rfl) ?_
                    refine lv_if_eq (tgt := 214) hx hb dX1_holds_199 (by decide) (fun c_199_21 => ?_) (fun c_199_21 => absurd c_199_21 (by decide))
                    refine lv_aload_n hx hb dX1_holds_214 rfl (lv_at hl 0 rfl) ?_
                    refine va_get (D := D) (ci := 1) (v := .ref h5) (C := RX1) (T := TX1) (N := 15) hx hb hts kiX1_holds_X1 hown hK hP 0 rfl rfl 2 (by decide) (hts (.fieldLink RX1 24 "TwoBanks$Fight" "lost" "LTwoBanks$Marks;") (List.mem_of_getElem? (i := 4) rfl)) (fun _ h9 => h9) rfl dX1_holds_215 ?_
                    refine lv_iload hx hb dX1_holds_218 (lv_at hl 6 rfl) ?_
                    refine k_callv (wr := [(h0, wFi h1 h3 h5 fR fC ow ot fr to sp sc fu rn dk ds), (h1, .inr (3, [.ref h2])), (h2, .inl (cJ, 16, .inr (.inl rw))), (h3, .inr (3, [.ref h4])), (h4, .inl (cJ, 1846, .inr (.inl wa)))]) (w2 := (fun _ : Unit => [(h0, wFi h1 h3 h5 fR fC ow ot fr to sp sc fu rn dk ds), (h1, .inr (3, [.ref h2])), (h2, .inl (cJ, 16, .inr (.inl rw))), (h3, .inr (3, [.ref h4])), (h4, .inl (cJ, 1846, .inr (.inl wa))), (h5, .inr (3, [.ref h6])), (h6, .inl (cJ, 1846, .inr (.inl (mSet la (2 * kc + 0)))))])) (va_runV (As := [.int (nI (2 * kc + 0))]) (rest := []) ⟨hx, hb, hml, hown, hts⟩ (c_M_mark l D cI cJ cZ h5 h6 1846 la (2 * kc + 0) (by omega) (by omega) (by omega)  H.size) (cwV 1 hts gX1_holds_X3_mark rfl rfl rfl (by decide +kernel) ⟨by show 1 + 1 ≤ zs kc sc + 2; omega, by show 8 + (3 + 11) + 20 ≤ 30 * zs kc sc + 60; omega⟩) (kPV (ci := 3) (q0 := 0) (wc := [(h5, .inr (3, [.ref h6])), (h6, .inl (cJ, 1846, .inr (.inl la)))]) hK2 hP hD [5, 6] rfl (by decide) rfl rfl) rfl rfl hl.1 rfl (lv_room (Nat.le_of_ble_eq_true rfl)) dX1_holds_220 ⟨Nat.le_of_ble_eq_true rfl, Nat.le_of_ble_eq_true rfl⟩) hP hD hS hA [5, 6] [0, 1, 2, 3, 4] [0, 1, 2, 3, 4, 5, 6] rfl rfl (by decide) (by decide) (fun _ => rfl) (by decide) (fun u_22 H locs hw_22 hP hD hS => ?_)
                    have hP : va_P D vwCl [(h0, wFi h1 h3 h5 fR fC ow ot fr to sp sc fu rn dk ds), (h1, .inr (3, [.ref h2])), (h2, .inl (cJ, 16, .inr (.inl rw))), (h3, .inr (3, [.ref h4])), (h4, .inl (cJ, 1846, .inr (.inl wa))), (h5, .inr (3, [.ref h6])), (h6, .inl (cJ, 1846, .inr (.inl (mSet la (2 * kc + 0)))))] H := hP
                    have hD : va_D A [(h0, wFi h1 h3 h5 fR fC ow ot fr to sp sc fu rn dk ds), (h1, .inr (3, [.ref h2])), (h2, .inl (cJ, 16, .inr (.inl rw))), (h3, .inr (3, [.ref h4])), (h4, .inl (cJ, 1846, .inr (.inl wa))), (h5, .inr (3, [.ref h6])), (h6, .inl (cJ, 1846, .inr (.inl (mSet la (2 * kc + 0)))))] := hD
                    refine lv_iload hx hb dX1_holds_223 (lv_at hl 7 rfl) ?_
                    exact W.zret (v := (nI 0)) hx hb hr (by first | decide +kernel | assumption | exact kz_narr (by first | assumption | omega)) (fun t ht hW => ⟨⟨(nI 0), (wa, mSet la (2 * kc + 0)), rfl, ⟨Or.inr ⟨rfl, (by rw [gv_2 hz0]; exact allU_up hk8 hw8.symm)⟩, memo_lost (l := false) hn hc hm8 (by rw [gv_2 hz0]; exact allU_up hk8 hw8.symm)⟩, by rw [ht]; exact hP, hD⟩, hS.F ht⟩) hS.2.2 dX1_holds_225
                · have hl : lv_has ls 11 [(0, .ref h0), (1, .int (nI (mkD 1 kc sc))), (2, .int (nI (mkD 2 kc sc))), (3, .int (nI kc)), (4, .int (nI 0)), (5, .int (nI (zs kc sc))), (6, .int (nI (2 * kc + 0))), (7, .int (nI 1)), (8, .int (nI (3 ^ k))), (9, .int (nI k))] := hl
                  refine lv_iload hx hb dX1_holds_106 (lv_at hl 9 rfl) ?_
                  refine lv_aload_n hx hb dX1_holds_108 rfl (lv_at hl 0 rfl) ?_
                  refine va_get (D := D) (ci := 1) (v := .int (nI sc)) (C := RX1) (T := TX1) (N := 15) hx hb hts kiX1_holds_X1 hown hK hP 0 rfl rfl 10 (by decide) (hts (.fieldLink RX1 79 "TwoBanks$Fight" "spotCount" "I") (List.mem_of_getElem? (i := 5) rfl)) (fun _ h9 => h9) rfl dX1_holds_109 ?_
                  refine kw_icmp_ge (tgt := 197) hx hb dX1_holds_112 (by decide) (by omega) (by omega) (fun c_112_23 => ?_) (fun c_112_23 => ?_)
                  · refine lv_iload hx hb dX1_holds_197 (lv_at hl 7 rfl) ?_
                    refine lv_if_eq (tgt := 214) hx hb dX1_holds_199 (by decide) (fun c_199_24 => absurd c_199_24 (by decide)) (fun c_199_24 => ?_)
                    refine lv_aload_n hx hb dX1_holds_202 rfl (lv_at hl 0 rfl) ?_
                    refine va_get (D := D) (ci := 1) (v := .ref h3) (C := RX1) (T := TX1) (N := 15) hx hb hts kiX1_holds_X1 hown hK hP 0 rfl rfl 1 (by decide) (hts (.fieldLink RX1 21 "TwoBanks$Fight" "won" "LTwoBanks$Marks;") (List.mem_of_getElem? (i := 3) rfl)) (fun _ h9 => h9) rfl dX1_holds_203 ?_
                    refine lv_iload hx hb dX1_holds_206 (lv_at hl 6 rfl) ?_
                    refine k_callv (wr := [(h0, wFi h1 h3 h5 fR fC ow ot fr to sp sc fu rn dk ds), (h1, .inr (3, [.ref h2])), (h2, .inl (cJ, 16, .inr (.inl rw))), (h5, .inr (3, [.ref h6])), (h6, .inl (cJ, 1846, .inr (.inl la)))]) (w2 := (fun _ : Unit => [(h0, wFi h1 h3 h5 fR fC ow ot fr to sp sc fu rn dk ds), (h1, .inr (3, [.ref h2])), (h2, .inl (cJ, 16, .inr (.inl rw))), (h3, .inr (3, [.ref h4])), (h4, .inl (cJ, 1846, .inr (.inl (mSet wa (2 * kc + 0))))), (h5, .inr (3, [.ref h6])), (h6, .inl (cJ, 1846, .inr (.inl la)))])) (va_runV (As := [.int (nI (2 * kc + 0))]) (rest := []) ⟨hx, hb, hml, hown, hts⟩ (c_M_mark l D cI cJ cZ h3 h4 1846 wa (2 * kc + 0) (by omega) (by omega) (by omega)  H.size) (cwV 1 hts gX1_holds_X3_mark rfl rfl rfl (by decide +kernel) ⟨by show 1 + 1 ≤ zs kc sc + 2; omega, by show 8 + (3 + 11) + 20 ≤ 30 * zs kc sc + 60; omega⟩) (kPV (ci := 3) (q0 := 0) (wc := [(h3, .inr (3, [.ref h4])), (h4, .inl (cJ, 1846, .inr (.inl wa)))]) hK2 hP hD [3, 4] rfl (by decide) rfl rfl) rfl rfl hl.1 rfl (lv_room (Nat.le_of_ble_eq_true rfl)) dX1_holds_208 ⟨Nat.le_of_ble_eq_true rfl, Nat.le_of_ble_eq_true rfl⟩) hP hD hS hA [3, 4] [0, 1, 2, 5, 6] [0, 1, 2, 5, 6, 3, 4] rfl rfl (by decide) (by decide) (fun _ => rfl) (by decide) (fun u_25 H locs hw_25 hP hD hS => ?_)
                    have hP : va_P D vwCl [(h0, wFi h1 h3 h5 fR fC ow ot fr to sp sc fu rn dk ds), (h1, .inr (3, [.ref h2])), (h2, .inl (cJ, 16, .inr (.inl rw))), (h3, .inr (3, [.ref h4])), (h4, .inl (cJ, 1846, .inr (.inl (mSet wa (2 * kc + 0))))), (h5, .inr (3, [.ref h6])), (h6, .inl (cJ, 1846, .inr (.inl la)))] H := hP
                    have hD : va_D A [(h0, wFi h1 h3 h5 fR fC ow ot fr to sp sc fu rn dk ds), (h1, .inr (3, [.ref h2])), (h2, .inl (cJ, 16, .inr (.inl rw))), (h3, .inr (3, [.ref h4])), (h4, .inl (cJ, 1846, .inr (.inl (mSet wa (2 * kc + 0))))), (h5, .inr (3, [.ref h6])), (h6, .inl (cJ, 1846, .inr (.inl la)))] := hD
                    refine lv_goto (tgt := 223) hx hb dX1_holds_211 (by decide) ?_
                    refine lv_iload hx hb dX1_holds_223 (lv_at hl 7 rfl) ?_
                    exact W.zret (v := (nI 1)) hx hb hr (by first | decide +kernel | assumption | exact kz_narr (by first | assumption | omega)) (fun t ht hW => ⟨⟨(nI 1), (mSet wa (2 * kc + 0), la), rfl, ⟨Or.inl ⟨rfl, (by rw [gv_2 hz0]; have e9 : k = sc := (by omega); rw [← e9]; rw [e9]; rw [e9] at hw8; exact hw8.symm)⟩, memo_won (l := false) hn hc hm8 (by rw [gv_2 hz0]; have e9 : k = sc := (by omega); rw [← e9]; rw [e9]; rw [e9] at hw8; exact hw8.symm)⟩, by rw [ht]; exact hP, hD⟩, hS.F ht⟩) hS.2.2 dX1_holds_225
                  · refine lv_iload hx hb dX1_holds_115 (lv_at hl 7 rfl) ?_
                    refine lv_iload hx hb dX1_holds_117 (lv_at hl 4 rfl) ?_
                    refine lv_icmp_eq (tgt := 197) hx hb dX1_holds_119 (by decide) (fun c_119_26 => absurd c_119_26 (by decide)) (fun c_119_26 => ?_)
                    refine lv_iconst (v := (nI 1)) hx hb dX1_holds_122 (by decide) ?_
                    refine lv_iload hx hb dX1_holds_123 (lv_at hl 9 rfl) ?_
                    refine lv_ishl hx hb dX1_holds_125 ?_
                    refine k_toi (y := nI (2 ^ k)) (kf_shl1 (by omega)) ?_
                    refine lv_istore (lv' := [(10, .int (nI (2 ^ k))), (0, .ref h0), (1, .int (nI (mkD 1 kc sc))), (2, .int (nI (mkD 2 kc sc))), (3, .int (nI kc)), (4, .int (nI 0)), (5, .int (nI (zs kc sc))), (6, .int (nI (2 * kc + 0))), (7, .int (nI 1)), (8, .int (nI (3 ^ k))), (9, .int (nI k))]) hx hb dX1_holds_126 hl (by decide) rfl (fun ls hl => ?_)
                    refine lv_iload_n hx hb dX1_holds_128 rfl (lv_at hl 2 rfl) ?_
                    refine lv_iload_n hx hb dX1_holds_129 rfl (lv_at hl 3 rfl) ?_
                    refine lv_ior hx hb dX1_holds_130 ?_
                    refine k_toi (y := nI ((mkD 1 kc sc) ||| (mkD 2 kc sc))) (fa_or _ _) ?_
                    refine lv_iload hx hb dX1_holds_131 (lv_at hl 0 rfl) ?_
                    refine lv_iand hx hb dX1_holds_133 ?_
                    refine lv_if_ne (tgt := 185) hx hb dX1_holds_134 (by decide) (fun c_134_27 => ?_) (fun c_134_27 => ?_)
                    · have hd0 : ¬ dg kc k = 0 := fun h => c_134_27 ((kf_free hn (by omega)).mpr h)
                      refine lv_iload hx hb dX1_holds_185 (lv_at hl 9 rfl) ?_
                      refine lv_iconst (v := (nI 3)) hx hb dX1_holds_187 (by decide) ?_
                      refine lv_imul hx hb dX1_holds_188 ?_
                      refine k_toi (y := nI ((3 ^ k) * 3)) (pk_mul _ _) ?_
                      refine lv_istore (lv' := [(8, .int (nI ((3 ^ k) * 3))), (10, .int (nI (2 ^ k))), (0, .ref h0), (1, .int (nI (mkD 1 kc sc))), (2, .int (nI (mkD 2 kc sc))), (3, .int (nI kc)), (4, .int (nI 0)), (5, .int (nI (zs kc sc))), (6, .int (nI (2 * kc + 0))), (7, .int (nI 1)), (9, .int (nI k))]) hx hb dX1_holds_189 hl (by decide) rfl (fun ls hl => ?_)
                      refine lv_iinc (v := (nI (k + 1))) (lv' := [(9, .int (nI (k + 1))), (8, .int (nI ((3 ^ k) * 3))), (10, .int (nI (2 ^ k))), (0, .ref h0), (1, .int (nI (mkD 1 kc sc))), (2, .int (nI (mkD 2 kc sc))), (3, .int (nI kc)), (4, .int (nI 0)), (5, .int (nI (zs kc sc))), (6, .int (nI (2 * kc + 0))), (7, .int (nI 1))]) hx hb dX1_holds_191 hl (k := 10) rfl (k_inc _ 1) (by decide) rfl (fun ls hl => ?_)
                      refine lv_goto (tgt := 106) hx hb dX1_holds_194 (by decide) ?_
                      exact ih_106 ((k + 1), true, wa, la) _ _ _ (by show sc - (k + 1) < sc - k; omega) ⟨hP, hD, hS, lv_sub hl [3, 4, 5, 6, 7, 8, 9, 10, 1, 0] rfl, by omega, all_t hw8 (P2_no hd0), hm8⟩
                    · have hd0 : dg kc k = 0 := (kf_free hn (by omega)).mp c_134_27
                      have hz9 := zs_less (a := 2) rfl hd0 (show k < sc by omega) (by decide)
                      have hc9 : kc + 2 * 3 ^ k < 3 ^ sc := dg_bound hc hd0 (by decide) (by omega)
                      refine lv_iload hx hb dX1_holds_137 (lv_at hl 5 rfl) ?_
                      refine lv_if_eq (tgt := 163) hx hb dX1_holds_139 (by decide) (fun c_139_28 => ?_) (fun c_139_28 => absurd c_139_28 (by decide))
                      refine lv_aload_n hx hb dX1_holds_163 rfl (lv_at hl 1 rfl) ?_
                      refine lv_iload_n hx hb dX1_holds_164 rfl (lv_at hl 2 rfl) ?_
                      refine lv_iload_n hx hb dX1_holds_165 rfl (lv_at hl 3 rfl) ?_
                      refine lv_iload hx hb dX1_holds_166 (lv_at hl 0 rfl) ?_
                      refine lv_ior hx hb dX1_holds_168 ?_
                      refine k_toi (y := nI ((mkD 2 kc sc) ||| (2 ^ k))) (fa_or _ _) ?_
                      refine lv_iload_n hx hb dX1_holds_169 rfl (lv_at hl 4 rfl) ?_
                      refine lv_iconst (v := (nI 2)) hx hb dX1_holds_170 (by decide) ?_
                      refine lv_iload hx hb dX1_holds_171 (lv_at hl 9 rfl) ?_
                      refine lv_imul hx hb dX1_holds_173 ?_
                      refine k_toi (y := nI (2 * (3 ^ k))) (pk_mul _ _) ?_
                      refine lv_iadd hx hb dX1_holds_174 ?_
                      refine k_toi (y := nI (kc + (2 * (3 ^ k)))) (nI_add _ _) ?_
                      refine lv_iconst (v := (nI 1)) hx hb dX1_holds_175 (by decide) ?_
                      refine lv_iload hx hb dX1_holds_176 (lv_at hl 6 rfl) ?_
                      refine lv_iconst (v := (nI 1)) hx hb dX1_holds_178 (by decide) ?_
                      refine lv_isub hx hb dX1_holds_179 ?_
                      refine k_toi (y := nI ((zs kc sc) - 1)) (pk_sub (by omega)) ?_
                      refine k_calli (wr := []) (w2 := (fun u : MW => match u with | (wa, la) => [(h0, wFi h1 h3 h5 fR fC ow ot fr to sp sc fu rn dk ds), (h1, .inr (3, [.ref h2])), (h2, .inl (cJ, 16, .inr (.inl rw))), (h3, .inr (3, [.ref h4])), (h4, .inl (cJ, 1846, .inr (.inl wa))), (h5, .inr (3, [.ref h6])), (h6, .inl (cJ, 1846, .inr (.inl la)))])) (va_runS (As := [.ref h0, .int (nI (mkD 1 kc sc)), .int (nI ((mkD 2 kc sc) ||| (2 ^ k))), .int (nI (kc + (2 * (3 ^ k)))), .int (nI 1), .int (nI ((zs kc sc) - 1))]) (rest := []) ⟨hx, hb, hml, hown, hts⟩ (ih (zs kc sc - 1) (by omega) h0 h1 h2 h3 h4 h5 h6 fR fC ow ot fr to sp sc fu rn dk ds rw wa la q (kc + 2 * 3 ^ k) (mkD 1 kc sc) ((mkD 2 kc sc) ||| (2 ^ k)) true hn hfu hq hre hm8 ((mkD_keep hd0 (by decide) (by decide) (by decide)).symm) ((mkD_put hd0 (Or.inr rfl) (by omega)).symm) hz9.1 hc9 H.size) (va_cwS 6 hts gX1_holds_X1_holds rfl rfl rfl (by decide +kernel) ⟨by show (zs kc sc - 1) + 2 + 1 ≤ zs kc sc + 2; omega, by show 8 + (11 + 11) + (30 * (zs kc sc - 1) + 60) ≤ 30 * zs kc sc + 60; omega⟩) (kPS (wc := [(h0, wFi h1 h3 h5 fR fC ow ot fr to sp sc fu rn dk ds), (h1, .inr (3, [.ref h2])), (h2, .inl (cJ, 16, .inr (.inl rw))), (h3, .inr (3, [.ref h4])), (h4, .inl (cJ, 1846, .inr (.inl wa))), (h5, .inr (3, [.ref h6])), (h6, .inl (cJ, 1846, .inr (.inl la)))]) hK2 hP hD [0, 1, 2, 3, 4, 5, 6] rfl (by decide)) rfl rfl hl.1 rfl (lv_room (Nat.le_of_ble_eq_true rfl)) dX1_holds_180 ⟨Nat.le_of_ble_eq_true rfl, Nat.le_of_ble_eq_true rfl⟩) hP hD hS hA [0, 1, 2, 3, 4, 5, 6] [] [0, 1, 2, 3, 4, 5, 6] rfl rfl (by decide) (by decide) (fun ⟨_, _⟩ => rfl) (by decide) (fun r_31 u_31 H locs hw_31 hP hD hS => ?_)
                      obtain ⟨wa_29, la_30⟩ := u_31
                      have hP : va_P D vwCl [(h0, wFi h1 h3 h5 fR fC ow ot fr to sp sc fu rn dk ds), (h1, .inr (3, [.ref h2])), (h2, .inl (cJ, 16, .inr (.inl rw))), (h3, .inr (3, [.ref h4])), (h4, .inl (cJ, 1846, .inr (.inl wa_29))), (h5, .inr (3, [.ref h6])), (h6, .inl (cJ, 1846, .inr (.inl la_30)))] H := hP
                      have hD : va_D A [(h0, wFi h1 h3 h5 fR fC ow ot fr to sp sc fu rn dk ds), (h1, .inr (3, [.ref h2])), (h2, .inl (cJ, 16, .inr (.inl rw))), (h3, .inr (3, [.ref h4])), (h4, .inl (cJ, 1846, .inr (.inl wa_29))), (h5, .inr (3, [.ref h6])), (h6, .inl (cJ, 1846, .inr (.inl la_30)))] := hD
                      obtain ⟨hw_31, hm2⟩ := hw_31
                      rcases hw_31 with ⟨rfl, hw_31⟩ | ⟨rfl, hw_31⟩
                      · have hp := P2_is (q := q) (n := sc) (d := zs kc sc - 1) hd0 hw_31
                        refine lv_istore (lv' := [(7, .int (nI 1)), (10, .int (nI (2 ^ k))), (0, .ref h0), (1, .int (nI (mkD 1 kc sc))), (2, .int (nI (mkD 2 kc sc))), (3, .int (nI kc)), (4, .int (nI 0)), (5, .int (nI (zs kc sc))), (6, .int (nI (2 * kc + 0))), (8, .int (nI (3 ^ k))), (9, .int (nI k))]) hx hb dX1_holds_183 hl (by decide) rfl (fun ls hl => ?_)
                        refine lv_iload hx hb dX1_holds_185 (lv_at hl 9 rfl) ?_
                        refine lv_iconst (v := (nI 3)) hx hb dX1_holds_187 (by decide) ?_
                        refine lv_imul hx hb dX1_holds_188 ?_
                        refine k_toi (y := nI ((3 ^ k) * 3)) (pk_mul _ _) ?_
                        refine lv_istore (lv' := [(8, .int (nI ((3 ^ k) * 3))), (7, .int (nI 1)), (10, .int (nI (2 ^ k))), (0, .ref h0), (1, .int (nI (mkD 1 kc sc))), (2, .int (nI (mkD 2 kc sc))), (3, .int (nI kc)), (4, .int (nI 0)), (5, .int (nI (zs kc sc))), (6, .int (nI (2 * kc + 0))), (9, .int (nI k))]) hx hb dX1_holds_189 hl (by decide) rfl (fun ls hl => ?_)
                        refine lv_iinc (v := (nI (k + 1))) (lv' := [(9, .int (nI (k + 1))), (8, .int (nI ((3 ^ k) * 3))), (7, .int (nI 1)), (10, .int (nI (2 ^ k))), (0, .ref h0), (1, .int (nI (mkD 1 kc sc))), (2, .int (nI (mkD 2 kc sc))), (3, .int (nI kc)), (4, .int (nI 0)), (5, .int (nI (zs kc sc))), (6, .int (nI (2 * kc + 0)))]) hx hb dX1_holds_191 hl (k := 10) rfl (k_inc _ 1) (by decide) rfl (fun ls hl => ?_)
                        refine lv_goto (tgt := 106) hx hb dX1_holds_194 (by decide) ?_
                        exact ih_106 ((k + 1), true, wa_29, la_30) _ _ _ (by show sc - (k + 1) < sc - k; omega) ⟨hP, hD, hS, lv_sub hl [4, 5, 6, 7, 8, 9, 10, 2, 1, 0] rfl, by omega, all_t hw8 hp, hm2⟩
                      · have hp := P2_is (q := q) (n := sc) (d := zs kc sc - 1) hd0 hw_31
                        refine lv_istore (lv' := [(7, .int (nI 0)), (10, .int (nI (2 ^ k))), (0, .ref h0), (1, .int (nI (mkD 1 kc sc))), (2, .int (nI (mkD 2 kc sc))), (3, .int (nI kc)), (4, .int (nI 0)), (5, .int (nI (zs kc sc))), (6, .int (nI (2 * kc + 0))), (8, .int (nI (3 ^ k))), (9, .int (nI k))]) hx hb dX1_holds_183 hl (by decide) rfl (fun ls hl => ?_)
                        refine lv_iload hx hb dX1_holds_185 (lv_at hl 9 rfl) ?_
                        refine lv_iconst (v := (nI 3)) hx hb dX1_holds_187 (by decide) ?_
                        refine lv_imul hx hb dX1_holds_188 ?_
                        refine k_toi (y := nI ((3 ^ k) * 3)) (pk_mul _ _) ?_
                        refine lv_istore (lv' := [(8, .int (nI ((3 ^ k) * 3))), (7, .int (nI 0)), (10, .int (nI (2 ^ k))), (0, .ref h0), (1, .int (nI (mkD 1 kc sc))), (2, .int (nI (mkD 2 kc sc))), (3, .int (nI kc)), (4, .int (nI 0)), (5, .int (nI (zs kc sc))), (6, .int (nI (2 * kc + 0))), (9, .int (nI k))]) hx hb dX1_holds_189 hl (by decide) rfl (fun ls hl => ?_)
                        refine lv_iinc (v := (nI (k + 1))) (lv' := [(9, .int (nI (k + 1))), (8, .int (nI ((3 ^ k) * 3))), (7, .int (nI 0)), (10, .int (nI (2 ^ k))), (0, .ref h0), (1, .int (nI (mkD 1 kc sc))), (2, .int (nI (mkD 2 kc sc))), (3, .int (nI kc)), (4, .int (nI 0)), (5, .int (nI (zs kc sc))), (6, .int (nI (2 * kc + 0)))]) hx hb dX1_holds_191 hl (k := 10) rfl (k_inc _ 1) (by decide) rfl (fun ls hl => ?_)
                        refine lv_goto (tgt := 106) hx hb dX1_holds_194 (by decide) ?_
                        exact ih_106 ((k + 1), false, wa_29, la_30) _ _ _ (by show sc - (k + 1) < sc - k; omega) ⟨hP, hD, hS, lv_sub hl [4, 5, 6, 7, 8, 9, 10, 2, 1, 0] rfl, by omega, all_f hp, hm2⟩
          · skip
            refine lv_if_ne (tgt := 38) hx hb dX1_holds_33 (by decide) (fun c_33_32 => absurd c_33_32 (by decide)) (fun c_33_32 => ?_)
            refine lv_iconst (v := (nI 0)) hx hb dX1_holds_36 (by decide) ?_
            exact W.zret (v := (nI 0)) hx hb hr (by first | decide +kernel | assumption | exact kz_narr (by first | assumption | omega)) (fun t ht hW => ⟨⟨(nI 0), (ww, lw), rfl, ⟨Or.inr ⟨rfl, gv_lost hq _ _ _ rfl (by have := mt (hre _ hmn0).mpr hw_5; simpa using this)⟩, hme⟩, by rw [ht]; exact hP, hD⟩, hS.F ht⟩) hS.2.2 dX1_holds_37
    | true =>
      rw [Bool.toNat_true]
      refine Met.ofW (cc := cX1_holds) (maxL := 11) (ret := (some .boolean)) (by decide) rfl ?_
      intro p e s m args below meth c s₁ B hml hv
      obtain ⟨rfl, hsz, hP, ⟨hK, hN⟩, hD0⟩ := hv
      have hx := B.exec
      have hb := B.bytes
      have hr := B.returns
      have hts := atoms_spec (ws := wsX1_holds) B.pre
      have hown : s.vm.findClass RX1 = some m.cls := findClass_of_methodNamed B.named
      have hlocks := B.notSynchronized
      subst hsz
      have hD := hD0.self (sz := s.heap.size)
      generalize hAe : va_A [(h0, wFi h1 h3 h5 fR fC ow ot fr to sp sc fu rn dk ds), (h1, .inr (3, [.ref h2])), (h2, .inl (cJ, 16, .inr (.inl rw))), (h3, .inr (3, [.ref h4])), (h4, .inl (cJ, 1846, .inr (.inl ww))), (h5, .inr (3, [.ref h6])), (h6, .inl (cJ, 1846, .inr (.inl lw)))] s.heap.size = A at hD ⊢
      have hA : ∀ q : Nat, s.heap.size ≤ q → A q := fun q h => by rw [← hAe]; exact Or.inr h
      have hS : va_S A s.heap s.heap [] := va_S.rf
      have hl := lv_entry ([.ref h0, .int (nI (mkD 1 kc sc)), .int (nI (mkD 2 kc sc)), .int (nI kc), .int (nI 1), .int (nI (zs kc sc))]) (n := 11) (Nat.le_of_ble_eq_true rfl)
      rw [lg_entry_eq]
      generalize (lg_sl ([.ref h0, .int (nI (mkD 1 kc sc)), .int (nI (mkD 2 kc sc)), .int (nI kc), .int (nI 1), .int (nI (zs kc sc))]) ++ List.replicate (11 - (lg_sl ([.ref h0, .int (nI (mkD 1 kc sc)), .int (nI (mkD 2 kc sc)), .int (nI kc), .int (nI 1), .int (nI (zs kc sc))])).length) Slot.unset).toArray = ls at hl ⊢
      have hl : lv_has ls 11 [(0, .ref h0), (1, .int (nI (mkD 1 kc sc))), (2, .int (nI (mkD 2 kc sc))), (3, .int (nI kc)), (4, .int (nI 1)), (5, .int (nI (zs kc sc)))] := hl
      have hK2 : kK D cI cJ cZ s := ⟨hK, hN⟩
      clear hD0
      have hmi0 := mkD_lt 1 kc sc
      have hth0 := mkD_lt 2 kc sc
      have hmn0 := mkN_lt kc sc
      have h2n := p2_le hn
      have h3n := p3_le hn
      have hzn := zs_le kc sc
      refine lv_aload_n hx hb dX1_holds_0 rfl (lv_at hl 0 rfl) ?_
      refine va_get (D := D) (ci := 1) (v := .ref h1) (C := RX1) (T := TX1) (N := 15) hx hb hts kiX1_holds_X1 hown hK hP 0 rfl rfl 0 (by decide) (hts (.fieldLink RX1 14 "TwoBanks$Fight" "reached" "LTwoBanks$Marks;") (List.mem_of_getElem? (i := 1) rfl)) (fun _ h9 => h9) rfl dX1_holds_1 ?_
      refine lv_iload_n hx hb dX1_holds_4 rfl (lv_at hl 1 rfl) ?_
      refine k_calli (wr := [(h0, wFi h1 h3 h5 fR fC ow ot fr to sp sc fu rn dk ds), (h3, .inr (3, [.ref h4])), (h4, .inl (cJ, 1846, .inr (.inl ww))), (h5, .inr (3, [.ref h6])), (h6, .inl (cJ, 1846, .inr (.inl lw)))]) (w2 := (fun _ : Unit => [(h0, wFi h1 h3 h5 fR fC ow ot fr to sp sc fu rn dk ds), (h1, .inr (3, [.ref h2])), (h2, .inl (cJ, 16, .inr (.inl rw))), (h3, .inr (3, [.ref h4])), (h4, .inl (cJ, 1846, .inr (.inl ww))), (h5, .inr (3, [.ref h6])), (h6, .inl (cJ, 1846, .inr (.inl lw)))])) (va_runV (As := [.int (nI (mkD 1 kc sc))]) (rest := []) ⟨hx, hb, hml, hown, hts⟩ (c_M_has l D cI cJ cZ h1 h2 16 rw (mkD 1 kc sc) (by omega) (by omega)  s.heap.size) (cwV 1 hts gX1_holds_X3_has rfl rfl rfl (by decide +kernel) ⟨by show 1 + 1 ≤ zs kc sc + 2; omega, by show 8 + (3 + 11) + 20 ≤ 30 * zs kc sc + 60; omega⟩) (kPV (ci := 3) (q0 := 0) (wc := [(h1, .inr (3, [.ref h2])), (h2, .inl (cJ, 16, .inr (.inl rw)))]) hK2 hP hD [1, 2] rfl (by decide) rfl rfl) rfl rfl hl.1 rfl (lv_room (Nat.le_of_ble_eq_true rfl)) dX1_holds_5 ⟨Nat.le_of_ble_eq_true rfl, Nat.le_of_ble_eq_true rfl⟩) hP hD hS hA [1, 2] [0, 3, 4, 5, 6] [0, 5, 6, 1, 2, 3, 4] rfl rfl (by decide) (by decide) (fun _ => rfl) (by decide) (fun r_1 u_1 H locs hw_1 hP hD hS => ?_)
      have hP : va_P D vwCl [(h0, wFi h1 h3 h5 fR fC ow ot fr to sp sc fu rn dk ds), (h1, .inr (3, [.ref h2])), (h2, .inl (cJ, 16, .inr (.inl rw))), (h3, .inr (3, [.ref h4])), (h4, .inl (cJ, 1846, .inr (.inl ww))), (h5, .inr (3, [.ref h6])), (h6, .inl (cJ, 1846, .inr (.inl lw)))] H := hP
      have hD : va_D A [(h0, wFi h1 h3 h5 fR fC ow ot fr to sp sc fu rn dk ds), (h1, .inr (3, [.ref h2])), (h2, .inl (cJ, 16, .inr (.inl rw))), (h3, .inr (3, [.ref h4])), (h4, .inl (cJ, 1846, .inr (.inl ww))), (h5, .inr (3, [.ref h6])), (h6, .inl (cJ, 1846, .inr (.inl lw)))] := hD
      rcases hw_1 with ⟨rfl, hw_1⟩ | ⟨rfl, hw_1⟩
      · skip
        refine lv_if_eq (tgt := 13) hx hb dX1_holds_8 (by decide) (fun c_8_2 => absurd c_8_2 (by decide)) (fun c_8_2 => ?_)
        refine lv_iconst (v := (nI 1)) hx hb dX1_holds_11 (by decide) ?_
        exact W.zret (v := (nI 1)) hx hb hr (by first | decide +kernel | assumption | exact kz_narr (by first | assumption | omega)) (fun t ht hW => ⟨⟨(nI 1), (ww, lw), rfl, ⟨Or.inl ⟨rfl, gv_won hq _ _ _ rfl ((hre _ hmi0).mp hw_1)⟩, hme⟩, by rw [ht]; exact hP, hD⟩, hS.F ht⟩) hS.2.2 dX1_holds_12
      · skip
        refine lv_if_eq (tgt := 13) hx hb dX1_holds_8 (by decide) (fun c_8_3 => ?_) (fun c_8_3 => absurd c_8_3 (by decide))
        refine lv_iload hx hb dX1_holds_13 (lv_at hl 5 rfl) ?_
        refine kw_if_le (tgt := 36) hx hb dX1_holds_15 (by decide) (by omega) (fun c_15_4 => ?_) (fun c_15_4 => ?_)
        · refine lv_iconst (v := (nI 0)) hx hb dX1_holds_36 (by decide) ?_
          exact W.zret (v := (nI 0)) hx hb hr (by first | decide +kernel | assumption | exact kz_narr (by first | assumption | omega)) (fun t ht hW => ⟨⟨(nI 0), (ww, lw), rfl, ⟨Or.inr ⟨rfl, gv_end (by omega) (mt (hre _ hmi0).mpr hw_1)⟩, hme⟩, by rw [ht]; exact hP, hD⟩, hS.F ht⟩) hS.2.2 dX1_holds_37
        · have hz0 : 0 < zs kc sc := c_15_4
          refine lv_aload_n hx hb dX1_holds_18 rfl (lv_at hl 0 rfl) ?_
          refine va_get (D := D) (ci := 1) (v := .ref h1) (C := RX1) (T := TX1) (N := 15) hx hb hts kiX1_holds_X1 hown hK hP 0 rfl rfl 0 (by decide) (hts (.fieldLink RX1 14 "TwoBanks$Fight" "reached" "LTwoBanks$Marks;") (List.mem_of_getElem? (i := 1) rfl)) (fun _ h9 => h9) rfl dX1_holds_19 ?_
          refine lv_aload_n hx hb dX1_holds_22 rfl (lv_at hl 0 rfl) ?_
          refine va_get (D := D) (ci := 1) (v := .int (nI fu)) (C := RX1) (T := TX1) (N := 15) hx hb hts kiX1_holds_X1 hown hK hP 0 rfl rfl 11 (by decide) (hts (.fieldLink RX1 82 "TwoBanks$Fight" "full" "I") (List.mem_of_getElem? (i := 2) rfl)) (fun _ h9 => h9) rfl dX1_holds_23 ?_
          refine lv_iload_n hx hb dX1_holds_26 rfl (lv_at hl 2 rfl) ?_
          refine lv_iconst (v := (-1)) hx hb dX1_holds_27 (by decide) ?_
          refine lv_ixor hx hb dX1_holds_28 ?_
          refine lv_iand hx hb dX1_holds_29 ?_
          refine k_toi (y := nI (mkN kc sc)) (by rw [hfu]; exact kf_mkN hn) ?_
          refine k_calli (wr := [(h0, wFi h1 h3 h5 fR fC ow ot fr to sp sc fu rn dk ds), (h3, .inr (3, [.ref h4])), (h4, .inl (cJ, 1846, .inr (.inl ww))), (h5, .inr (3, [.ref h6])), (h6, .inl (cJ, 1846, .inr (.inl lw)))]) (w2 := (fun _ : Unit => [(h0, wFi h1 h3 h5 fR fC ow ot fr to sp sc fu rn dk ds), (h1, .inr (3, [.ref h2])), (h2, .inl (cJ, 16, .inr (.inl rw))), (h3, .inr (3, [.ref h4])), (h4, .inl (cJ, 1846, .inr (.inl ww))), (h5, .inr (3, [.ref h6])), (h6, .inl (cJ, 1846, .inr (.inl lw)))])) (va_runV (As := [.int (nI (mkN kc sc))]) (rest := []) ⟨hx, hb, hml, hown, hts⟩ (c_M_has l D cI cJ cZ h1 h2 16 rw (mkN kc sc) (by omega) (by omega)  H.size) (cwV 1 hts gX1_holds_X3_has rfl rfl rfl (by decide +kernel) ⟨by show 1 + 1 ≤ zs kc sc + 2; omega, by show 8 + (3 + 11) + 20 ≤ 30 * zs kc sc + 60; omega⟩) (kPV (ci := 3) (q0 := 0) (wc := [(h1, .inr (3, [.ref h2])), (h2, .inl (cJ, 16, .inr (.inl rw)))]) hK2 hP hD [1, 2] rfl (by decide) rfl rfl) rfl rfl hl.1 rfl (lv_room (Nat.le_of_ble_eq_true rfl)) dX1_holds_30 ⟨Nat.le_of_ble_eq_true rfl, Nat.le_of_ble_eq_true rfl⟩) hP hD hS hA [1, 2] [0, 3, 4, 5, 6] [0, 5, 6, 1, 2, 3, 4] rfl rfl (by decide) (by decide) (fun _ => rfl) (by decide) (fun r_5 u_5 H locs hw_5 hP hD hS => ?_)
          have hP : va_P D vwCl [(h0, wFi h1 h3 h5 fR fC ow ot fr to sp sc fu rn dk ds), (h1, .inr (3, [.ref h2])), (h2, .inl (cJ, 16, .inr (.inl rw))), (h3, .inr (3, [.ref h4])), (h4, .inl (cJ, 1846, .inr (.inl ww))), (h5, .inr (3, [.ref h6])), (h6, .inl (cJ, 1846, .inr (.inl lw)))] H := hP
          have hD : va_D A [(h0, wFi h1 h3 h5 fR fC ow ot fr to sp sc fu rn dk ds), (h1, .inr (3, [.ref h2])), (h2, .inl (cJ, 16, .inr (.inl rw))), (h3, .inr (3, [.ref h4])), (h4, .inl (cJ, 1846, .inr (.inl ww))), (h5, .inr (3, [.ref h6])), (h6, .inl (cJ, 1846, .inr (.inl lw)))] := hD
          rcases hw_5 with ⟨rfl, hw_5⟩ | ⟨rfl, hw_5⟩
          · skip
            refine lv_if_ne (tgt := 38) hx hb dX1_holds_33 (by decide) (fun c_33_6 => ?_) (fun c_33_6 => absurd c_33_6 (by decide))
            refine lv_iconst (v := (nI 2)) hx hb dX1_holds_38 (by decide) ?_
            refine lv_iload_n hx hb dX1_holds_39 rfl (lv_at hl 3 rfl) ?_
            refine lv_imul hx hb dX1_holds_40 ?_
            refine k_toi (y := nI (2 * kc)) (pk_mul _ _) ?_
            refine lv_iload hx hb dX1_holds_41 (lv_at hl 4 rfl) ?_
            refine lv_if_eq (tgt := 50) hx hb dX1_holds_43 (by decide) (fun c_43_7 => absurd c_43_7 (by decide)) (fun c_43_7 => ?_)
            refine lv_iconst (v := (nI 1)) hx hb dX1_holds_46 (by decide) ?_
            refine lv_goto (tgt := 51) hx hb dX1_holds_47 (by decide) ?_
            refine lv_iadd hx hb dX1_holds_51 ?_
            refine k_toi (y := nI ((2 * kc) + 1)) (nI_add _ _) ?_
            refine lv_istore (lv' := [(6, .int (nI ((2 * kc) + 1))), (0, .ref h0), (1, .int (nI (mkD 1 kc sc))), (2, .int (nI (mkD 2 kc sc))), (3, .int (nI kc)), (4, .int (nI 1)), (5, .int (nI (zs kc sc)))]) hx hb dX1_holds_52 hl (by decide) rfl (fun ls hl => ?_)
            refine lv_aload_n hx hb dX1_holds_54 rfl (lv_at hl 1 rfl) ?_
            refine va_get (D := D) (ci := 1) (v := .ref h3) (C := RX1) (T := TX1) (N := 15) hx hb hts kiX1_holds_X1 hown hK hP 0 rfl rfl 1 (by decide) (hts (.fieldLink RX1 21 "TwoBanks$Fight" "won" "LTwoBanks$Marks;") (List.mem_of_getElem? (i := 3) rfl)) (fun _ h9 => h9) rfl dX1_holds_55 ?_
            refine lv_iload hx hb dX1_holds_58 (lv_at hl 0 rfl) ?_
            refine k_calli (wr := [(h0, wFi h1 h3 h5 fR fC ow ot fr to sp sc fu rn dk ds), (h1, .inr (3, [.ref h2])), (h2, .inl (cJ, 16, .inr (.inl rw))), (h5, .inr (3, [.ref h6])), (h6, .inl (cJ, 1846, .inr (.inl lw)))]) (w2 := (fun _ : Unit => [(h0, wFi h1 h3 h5 fR fC ow ot fr to sp sc fu rn dk ds), (h1, .inr (3, [.ref h2])), (h2, .inl (cJ, 16, .inr (.inl rw))), (h3, .inr (3, [.ref h4])), (h4, .inl (cJ, 1846, .inr (.inl ww))), (h5, .inr (3, [.ref h6])), (h6, .inl (cJ, 1846, .inr (.inl lw)))])) (va_runV (As := [.int (nI ((2 * kc) + 1))]) (rest := []) ⟨hx, hb, hml, hown, hts⟩ (c_M_has l D cI cJ cZ h3 h4 1846 ww ((2 * kc) + 1) (by omega) (by omega)  H.size) (cwV 1 hts gX1_holds_X3_has rfl rfl rfl (by decide +kernel) ⟨by show 1 + 1 ≤ zs kc sc + 2; omega, by show 8 + (3 + 11) + 20 ≤ 30 * zs kc sc + 60; omega⟩) (kPV (ci := 3) (q0 := 0) (wc := [(h3, .inr (3, [.ref h4])), (h4, .inl (cJ, 1846, .inr (.inl ww)))]) hK2 hP hD [3, 4] rfl (by decide) rfl rfl) rfl rfl hl.1 rfl (lv_room (Nat.le_of_ble_eq_true rfl)) dX1_holds_60 ⟨Nat.le_of_ble_eq_true rfl, Nat.le_of_ble_eq_true rfl⟩) hP hD hS hA [3, 4] [0, 1, 2, 5, 6] [0, 1, 2, 5, 6, 3, 4] rfl rfl (by decide) (by decide) (fun _ => rfl) (by decide) (fun r_8 u_8 H locs hw_8 hP hD hS => ?_)
            have hP : va_P D vwCl [(h0, wFi h1 h3 h5 fR fC ow ot fr to sp sc fu rn dk ds), (h1, .inr (3, [.ref h2])), (h2, .inl (cJ, 16, .inr (.inl rw))), (h3, .inr (3, [.ref h4])), (h4, .inl (cJ, 1846, .inr (.inl ww))), (h5, .inr (3, [.ref h6])), (h6, .inl (cJ, 1846, .inr (.inl lw)))] H := hP
            have hD : va_D A [(h0, wFi h1 h3 h5 fR fC ow ot fr to sp sc fu rn dk ds), (h1, .inr (3, [.ref h2])), (h2, .inl (cJ, 16, .inr (.inl rw))), (h3, .inr (3, [.ref h4])), (h4, .inl (cJ, 1846, .inr (.inl ww))), (h5, .inr (3, [.ref h6])), (h6, .inl (cJ, 1846, .inr (.inl lw)))] := hD
            rcases hw_8 with ⟨rfl, hw_8⟩ | ⟨rfl, hw_8⟩
            · skip
              refine lv_if_ne (tgt := 78) hx hb dX1_holds_63 (by decide) (fun c_63_9 => ?_) (fun c_63_9 => absurd c_63_9 (by decide))
              refine lv_aload_n hx hb dX1_holds_78 rfl (lv_at hl 1 rfl) ?_
              refine va_get (D := D) (ci := 1) (v := .ref h3) (C := RX1) (T := TX1) (N := 15) hx hb hts kiX1_holds_X1 hown hK hP 0 rfl rfl 1 (by decide) (hts (.fieldLink RX1 21 "TwoBanks$Fight" "won" "LTwoBanks$Marks;") (List.mem_of_getElem? (i := 3) rfl)) (fun _ h9 => h9) rfl dX1_holds_79 ?_
              refine lv_iload hx hb dX1_holds_82 (lv_at hl 0 rfl) ?_
              refine k_calli (wr := [(h0, wFi h1 h3 h5 fR fC ow ot fr to sp sc fu rn dk ds), (h1, .inr (3, [.ref h2])), (h2, .inl (cJ, 16, .inr (.inl rw))), (h5, .inr (3, [.ref h6])), (h6, .inl (cJ, 1846, .inr (.inl lw)))]) (w2 := (fun _ : Unit => [(h0, wFi h1 h3 h5 fR fC ow ot fr to sp sc fu rn dk ds), (h1, .inr (3, [.ref h2])), (h2, .inl (cJ, 16, .inr (.inl rw))), (h3, .inr (3, [.ref h4])), (h4, .inl (cJ, 1846, .inr (.inl ww))), (h5, .inr (3, [.ref h6])), (h6, .inl (cJ, 1846, .inr (.inl lw)))])) (va_runV (As := [.int (nI ((2 * kc) + 1))]) (rest := []) ⟨hx, hb, hml, hown, hts⟩ (c_M_has l D cI cJ cZ h3 h4 1846 ww ((2 * kc) + 1) (by omega) (by omega)  H.size) (cwV 1 hts gX1_holds_X3_has rfl rfl rfl (by decide +kernel) ⟨by show 1 + 1 ≤ zs kc sc + 2; omega, by show 8 + (3 + 11) + 20 ≤ 30 * zs kc sc + 60; omega⟩) (kPV (ci := 3) (q0 := 0) (wc := [(h3, .inr (3, [.ref h4])), (h4, .inl (cJ, 1846, .inr (.inl ww)))]) hK2 hP hD [3, 4] rfl (by decide) rfl rfl) rfl rfl hl.1 rfl (lv_room (Nat.le_of_ble_eq_true rfl)) dX1_holds_84 ⟨Nat.le_of_ble_eq_true rfl, Nat.le_of_ble_eq_true rfl⟩) hP hD hS hA [3, 4] [0, 1, 2, 5, 6] [0, 1, 2, 5, 6, 3, 4] rfl rfl (by decide) (by decide) (fun _ => rfl) (by decide) (fun r_10 u_10 H locs hw_10 hP hD hS => ?_)
              have hP : va_P D vwCl [(h0, wFi h1 h3 h5 fR fC ow ot fr to sp sc fu rn dk ds), (h1, .inr (3, [.ref h2])), (h2, .inl (cJ, 16, .inr (.inl rw))), (h3, .inr (3, [.ref h4])), (h4, .inl (cJ, 1846, .inr (.inl ww))), (h5, .inr (3, [.ref h6])), (h6, .inl (cJ, 1846, .inr (.inl lw)))] H := hP
              have hD : va_D A [(h0, wFi h1 h3 h5 fR fC ow ot fr to sp sc fu rn dk ds), (h1, .inr (3, [.ref h2])), (h2, .inl (cJ, 16, .inr (.inl rw))), (h3, .inr (3, [.ref h4])), (h4, .inl (cJ, 1846, .inr (.inl ww))), (h5, .inr (3, [.ref h6])), (h6, .inl (cJ, 1846, .inr (.inl lw)))] := hD
              rcases hw_10 with ⟨rfl, hw_10⟩ | ⟨rfl, hw_10⟩
              · skip
                exact W.zret (v := (nI 1)) hx hb hr (by first | decide +kernel | assumption | exact kz_narr (by first | assumption | omega)) (fun t ht hW => ⟨⟨(nI 1), (ww, lw), rfl, ⟨Or.inl ⟨rfl, (hme kc true hc).1 hw_10⟩, hme⟩, by rw [ht]; exact hP, hD⟩, hS.F ht⟩) hS.2.2 dX1_holds_87
              · skip
                exact W.zret (v := (nI 0)) hx hb hr (by first | decide +kernel | assumption | exact kz_narr (by first | assumption | omega)) (fun t ht hW => ⟨⟨(nI 0), (ww, lw), rfl, absurd hw_8 hw_10, by rw [ht]; exact hP, hD⟩, hS.F ht⟩) hS.2.2 dX1_holds_87
            · skip
              refine lv_if_ne (tgt := 78) hx hb dX1_holds_63 (by decide) (fun c_63_11 => absurd c_63_11 (by decide)) (fun c_63_11 => ?_)
              refine lv_aload_n hx hb dX1_holds_66 rfl (lv_at hl 1 rfl) ?_
              refine va_get (D := D) (ci := 1) (v := .ref h5) (C := RX1) (T := TX1) (N := 15) hx hb hts kiX1_holds_X1 hown hK hP 0 rfl rfl 2 (by decide) (hts (.fieldLink RX1 24 "TwoBanks$Fight" "lost" "LTwoBanks$Marks;") (List.mem_of_getElem? (i := 4) rfl)) (fun _ h9 => h9) rfl dX1_holds_67 ?_
              refine lv_iload hx hb dX1_holds_70 (lv_at hl 0 rfl) ?_
              refine k_calli (wr := [(h0, wFi h1 h3 h5 fR fC ow ot fr to sp sc fu rn dk ds), (h1, .inr (3, [.ref h2])), (h2, .inl (cJ, 16, .inr (.inl rw))), (h3, .inr (3, [.ref h4])), (h4, .inl (cJ, 1846, .inr (.inl ww)))]) (w2 := (fun _ : Unit => [(h0, wFi h1 h3 h5 fR fC ow ot fr to sp sc fu rn dk ds), (h1, .inr (3, [.ref h2])), (h2, .inl (cJ, 16, .inr (.inl rw))), (h3, .inr (3, [.ref h4])), (h4, .inl (cJ, 1846, .inr (.inl ww))), (h5, .inr (3, [.ref h6])), (h6, .inl (cJ, 1846, .inr (.inl lw)))])) (va_runV (As := [.int (nI ((2 * kc) + 1))]) (rest := []) ⟨hx, hb, hml, hown, hts⟩ (c_M_has l D cI cJ cZ h5 h6 1846 lw ((2 * kc) + 1) (by omega) (by omega)  H.size) (cwV 1 hts gX1_holds_X3_has rfl rfl rfl (by decide +kernel) ⟨by show 1 + 1 ≤ zs kc sc + 2; omega, by show 8 + (3 + 11) + 20 ≤ 30 * zs kc sc + 60; omega⟩) (kPV (ci := 3) (q0 := 0) (wc := [(h5, .inr (3, [.ref h6])), (h6, .inl (cJ, 1846, .inr (.inl lw)))]) hK2 hP hD [5, 6] rfl (by decide) rfl rfl) rfl rfl hl.1 rfl (lv_room (Nat.le_of_ble_eq_true rfl)) dX1_holds_72 ⟨Nat.le_of_ble_eq_true rfl, Nat.le_of_ble_eq_true rfl⟩) hP hD hS hA [5, 6] [0, 1, 2, 3, 4] [0, 1, 2, 3, 4, 5, 6] rfl rfl (by decide) (by decide) (fun _ => rfl) (by decide) (fun r_12 u_12 H locs hw_12 hP hD hS => ?_)
              have hP : va_P D vwCl [(h0, wFi h1 h3 h5 fR fC ow ot fr to sp sc fu rn dk ds), (h1, .inr (3, [.ref h2])), (h2, .inl (cJ, 16, .inr (.inl rw))), (h3, .inr (3, [.ref h4])), (h4, .inl (cJ, 1846, .inr (.inl ww))), (h5, .inr (3, [.ref h6])), (h6, .inl (cJ, 1846, .inr (.inl lw)))] H := hP
              have hD : va_D A [(h0, wFi h1 h3 h5 fR fC ow ot fr to sp sc fu rn dk ds), (h1, .inr (3, [.ref h2])), (h2, .inl (cJ, 16, .inr (.inl rw))), (h3, .inr (3, [.ref h4])), (h4, .inl (cJ, 1846, .inr (.inl ww))), (h5, .inr (3, [.ref h6])), (h6, .inl (cJ, 1846, .inr (.inl lw)))] := hD
              rcases hw_12 with ⟨rfl, hw_12⟩ | ⟨rfl, hw_12⟩
              · skip
                refine lv_if_eq (tgt := 88) hx hb dX1_holds_75 (by decide) (fun c_75_13 => absurd c_75_13 (by decide)) (fun c_75_13 => ?_)
                refine lv_aload_n hx hb dX1_holds_78 rfl (lv_at hl 1 rfl) ?_
                refine va_get (D := D) (ci := 1) (v := .ref h3) (C := RX1) (T := TX1) (N := 15) hx hb hts kiX1_holds_X1 hown hK hP 0 rfl rfl 1 (by decide) (hts (.fieldLink RX1 21 "TwoBanks$Fight" "won" "LTwoBanks$Marks;") (List.mem_of_getElem? (i := 3) rfl)) (fun _ h9 => h9) rfl dX1_holds_79 ?_
                refine lv_iload hx hb dX1_holds_82 (lv_at hl 0 rfl) ?_
                refine k_calli (wr := [(h0, wFi h1 h3 h5 fR fC ow ot fr to sp sc fu rn dk ds), (h1, .inr (3, [.ref h2])), (h2, .inl (cJ, 16, .inr (.inl rw))), (h5, .inr (3, [.ref h6])), (h6, .inl (cJ, 1846, .inr (.inl lw)))]) (w2 := (fun _ : Unit => [(h0, wFi h1 h3 h5 fR fC ow ot fr to sp sc fu rn dk ds), (h1, .inr (3, [.ref h2])), (h2, .inl (cJ, 16, .inr (.inl rw))), (h3, .inr (3, [.ref h4])), (h4, .inl (cJ, 1846, .inr (.inl ww))), (h5, .inr (3, [.ref h6])), (h6, .inl (cJ, 1846, .inr (.inl lw)))])) (va_runV (As := [.int (nI ((2 * kc) + 1))]) (rest := []) ⟨hx, hb, hml, hown, hts⟩ (c_M_has l D cI cJ cZ h3 h4 1846 ww ((2 * kc) + 1) (by omega) (by omega)  H.size) (cwV 1 hts gX1_holds_X3_has rfl rfl rfl (by decide +kernel) ⟨by show 1 + 1 ≤ zs kc sc + 2; omega, by show 8 + (3 + 11) + 20 ≤ 30 * zs kc sc + 60; omega⟩) (kPV (ci := 3) (q0 := 0) (wc := [(h3, .inr (3, [.ref h4])), (h4, .inl (cJ, 1846, .inr (.inl ww)))]) hK2 hP hD [3, 4] rfl (by decide) rfl rfl) rfl rfl hl.1 rfl (lv_room (Nat.le_of_ble_eq_true rfl)) dX1_holds_84 ⟨Nat.le_of_ble_eq_true rfl, Nat.le_of_ble_eq_true rfl⟩) hP hD hS hA [3, 4] [0, 1, 2, 5, 6] [0, 1, 2, 5, 6, 3, 4] rfl rfl (by decide) (by decide) (fun _ => rfl) (by decide) (fun r_14 u_14 H locs hw_14 hP hD hS => ?_)
                have hP : va_P D vwCl [(h0, wFi h1 h3 h5 fR fC ow ot fr to sp sc fu rn dk ds), (h1, .inr (3, [.ref h2])), (h2, .inl (cJ, 16, .inr (.inl rw))), (h3, .inr (3, [.ref h4])), (h4, .inl (cJ, 1846, .inr (.inl ww))), (h5, .inr (3, [.ref h6])), (h6, .inl (cJ, 1846, .inr (.inl lw)))] H := hP
                have hD : va_D A [(h0, wFi h1 h3 h5 fR fC ow ot fr to sp sc fu rn dk ds), (h1, .inr (3, [.ref h2])), (h2, .inl (cJ, 16, .inr (.inl rw))), (h3, .inr (3, [.ref h4])), (h4, .inl (cJ, 1846, .inr (.inl ww))), (h5, .inr (3, [.ref h6])), (h6, .inl (cJ, 1846, .inr (.inl lw)))] := hD
                rcases hw_14 with ⟨rfl, hw_14⟩ | ⟨rfl, hw_14⟩
                · skip
                  exact W.zret (v := (nI 1)) hx hb hr (by first | decide +kernel | assumption | exact kz_narr (by first | assumption | omega)) (fun t ht hW => ⟨⟨(nI 1), (ww, lw), rfl, absurd hw_14 hw_8, by rw [ht]; exact hP, hD⟩, hS.F ht⟩) hS.2.2 dX1_holds_87
                · skip
                  exact W.zret (v := (nI 0)) hx hb hr (by first | decide +kernel | assumption | exact kz_narr (by first | assumption | omega)) (fun t ht hW => ⟨⟨(nI 0), (ww, lw), rfl, ⟨Or.inr ⟨rfl, (hme kc true hc).2 hw_12⟩, hme⟩, by rw [ht]; exact hP, hD⟩, hS.F ht⟩) hS.2.2 dX1_holds_87
              · skip
                refine lv_if_eq (tgt := 88) hx hb dX1_holds_75 (by decide) (fun c_75_15 => ?_) (fun c_75_15 => absurd c_75_15 (by decide))
                refine lv_iload hx hb dX1_holds_88 (lv_at hl 5 rfl) ?_
                refine lv_if_ne (tgt := 97) hx hb dX1_holds_90 (by decide) (fun c_90_16 => ?_) (fun c_90_16 => absurd c_90_16 (by decide))
                refine lv_iconst (v := (nI 0)) hx hb dX1_holds_97 (by decide) ?_
                refine lv_istore (lv' := [(7, .int (nI 0)), (6, .int (nI ((2 * kc) + 1))), (0, .ref h0), (1, .int (nI (mkD 1 kc sc))), (2, .int (nI (mkD 2 kc sc))), (3, .int (nI kc)), (4, .int (nI 1)), (5, .int (nI (zs kc sc)))]) hx hb dX1_holds_98 hl (by decide) rfl (fun ls hl => ?_)
                refine lv_iconst (v := (nI 1)) hx hb dX1_holds_100 (by decide) ?_
                refine lv_istore (lv' := [(8, .int (nI 1)), (7, .int (nI 0)), (6, .int (nI ((2 * kc) + 1))), (0, .ref h0), (1, .int (nI (mkD 1 kc sc))), (2, .int (nI (mkD 2 kc sc))), (3, .int (nI kc)), (4, .int (nI 1)), (5, .int (nI (zs kc sc)))]) hx hb dX1_holds_101 hl (by decide) rfl (fun ls hl => ?_)
                refine lv_iconst (v := (nI 0)) hx hb dX1_holds_103 (by decide) ?_
                refine lv_istore (lv' := [(9, .int (nI 0)), (8, .int (nI 1)), (7, .int (nI 0)), (6, .int (nI ((2 * kc) + 1))), (0, .ref h0), (1, .int (nI (mkD 1 kc sc))), (2, .int (nI (mkD 2 kc sc))), (3, .int (nI kc)), (4, .int (nI 1)), (5, .int (nI (zs kc sc)))]) hx hb dX1_holds_104 hl (by decide) rfl (fun ls hl => ?_)
                refine kw_loop (σ := Nat × Bool × (Nat → Int64) × (Nat → Int64)) (fun zz H locs ls => match zz with | (k, w8, wa, la) => va_P D vwCl [(h0, wFi h1 h3 h5 fR fC ow ot fr to sp sc fu rn dk ds), (h1, .inr (3, [.ref h2])), (h2, .inl (cJ, 16, .inr (.inl rw))), (h3, .inr (3, [.ref h4])), (h4, .inl (cJ, 1846, .inr (.inl wa))), (h5, .inr (3, [.ref h6])), (h6, .inl (cJ, 1846, .inr (.inl la)))] H ∧ va_D A [(h0, wFi h1 h3 h5 fR fC ow ot fr to sp sc fu rn dk ds), (h1, .inr (3, [.ref h2])), (h2, .inl (cJ, 16, .inr (.inl rw))), (h3, .inr (3, [.ref h4])), (h4, .inl (cJ, 1846, .inr (.inl wa))), (h5, .inr (3, [.ref h6])), (h6, .inl (cJ, 1846, .inr (.inl la)))] ∧ va_S A s.heap H locs ∧ lv_has ls 11 [(0, .ref h0), (1, .int (nI (mkD 1 kc sc))), (2, .int (nI (mkD 2 kc sc))), (3, .int (nI kc)), (4, .int (nI 1)), (5, .int (nI (zs kc sc))), (6, .int (nI (2 * kc + 1))), (7, .int (nI (w8.toNat))), (8, .int (nI (3 ^ k))), (9, .int (nI k))] ∧ (k ≤ sc) ∧ (w8 = anyU (gvP1 q sc (zs kc sc - 1) kc) k) ∧ (memoOK q sc (wa, la))) (fun zz => match zz with | (k, w8, wa, la) => sc - k) (0, false, ww, lw) ⟨hP, hD, hS, lv_sub hl [4, 5, 6, 7, 8, 9, 3, 2, 1, 0] rfl, Nat.zero_le _, rfl, hme⟩ ?_
                clear hP hD hS hl
                rintro ⟨k, w8, wa, la⟩ H locs ls ⟨hP, hD, hS, hl, hk8, hw8, hm8⟩ ih_106
                have hP : va_P D vwCl [(h0, wFi h1 h3 h5 fR fC ow ot fr to sp sc fu rn dk ds), (h1, .inr (3, [.ref h2])), (h2, .inl (cJ, 16, .inr (.inl rw))), (h3, .inr (3, [.ref h4])), (h4, .inl (cJ, 1846, .inr (.inl wa))), (h5, .inr (3, [.ref h6])), (h6, .inl (cJ, 1846, .inr (.inl la)))] H := hP
                have hD : va_D A [(h0, wFi h1 h3 h5 fR fC ow ot fr to sp sc fu rn dk ds), (h1, .inr (3, [.ref h2])), (h2, .inl (cJ, 16, .inr (.inl rw))), (h3, .inr (3, [.ref h4])), (h4, .inl (cJ, 1846, .inr (.inl wa))), (h5, .inr (3, [.ref h6])), (h6, .inl (cJ, 1846, .inr (.inl la)))] := hD
                have hl : lv_has ls 11 [(0, .ref h0), (1, .int (nI (mkD 1 kc sc))), (2, .int (nI (mkD 2 kc sc))), (3, .int (nI kc)), (4, .int (nI 1)), (5, .int (nI (zs kc sc))), (6, .int (nI (2 * kc + 1))), (7, .int (nI (w8.toNat))), (8, .int (nI (3 ^ k))), (9, .int (nI k))] := hl
                have hk8 : k ≤ sc := hk8
                have hw8 : w8 = anyU (gvP1 q sc (zs kc sc - 1) kc) k := hw8
                have hm8 : memoOK q sc (wa, la) := hm8
                cases w8
                · have hl : lv_has ls 11 [(0, .ref h0), (1, .int (nI (mkD 1 kc sc))), (2, .int (nI (mkD 2 kc sc))), (3, .int (nI kc)), (4, .int (nI 1)), (5, .int (nI (zs kc sc))), (6, .int (nI (2 * kc + 1))), (7, .int (nI 0)), (8, .int (nI (3 ^ k))), (9, .int (nI k))] := hl
                  refine lv_iload hx hb dX1_holds_106 (lv_at hl 9 rfl) ?_
                  refine lv_aload_n hx hb dX1_holds_108 rfl (lv_at hl 0 rfl) ?_
                  refine va_get (D := D) (ci := 1) (v := .int (nI sc)) (C := RX1) (T := TX1) (N := 15) hx hb hts kiX1_holds_X1 hown hK hP 0 rfl rfl 10 (by decide) (hts (.fieldLink RX1 79 "TwoBanks$Fight" "spotCount" "I") (List.mem_of_getElem? (i := 5) rfl)) (fun _ h9 => h9) rfl dX1_holds_109 ?_
                  refine kw_icmp_ge (tgt := 197) hx hb dX1_holds_112 (by decide) (by omega) (by omega) (fun c_112_17 => ?_) (fun c_112_17 => ?_)
                  · refine lv_iload hx hb dX1_holds_197 (lv_at hl 7 rfl) ?_
                    refine lv_if_eq (tgt := 214) hx hb dX1_holds_199 (by decide) (fun c_199_18 => ?_) (fun c_199_18 => absurd c_199_18 (by decide))
                    refine lv_aload_n hx hb dX1_holds_214 rfl (lv_at hl 0 rfl) ?_
                    refine va_get (D := D) (ci := 1) (v := .ref h5) (C := RX1) (T := TX1) (N := 15) hx hb hts kiX1_holds_X1 hown hK hP 0 rfl rfl 2 (by decide) (hts (.fieldLink RX1 24 "TwoBanks$Fight" "lost" "LTwoBanks$Marks;") (List.mem_of_getElem? (i := 4) rfl)) (fun _ h9 => h9) rfl dX1_holds_215 ?_
                    refine lv_iload hx hb dX1_holds_218 (lv_at hl 6 rfl) ?_
                    refine k_callv (wr := [(h0, wFi h1 h3 h5 fR fC ow ot fr to sp sc fu rn dk ds), (h1, .inr (3, [.ref h2])), (h2, .inl (cJ, 16, .inr (.inl rw))), (h3, .inr (3, [.ref h4])), (h4, .inl (cJ, 1846, .inr (.inl wa)))]) (w2 := (fun _ : Unit => [(h0, wFi h1 h3 h5 fR fC ow ot fr to sp sc fu rn dk ds), (h1, .inr (3, [.ref h2])), (h2, .inl (cJ, 16, .inr (.inl rw))), (h3, .inr (3, [.ref h4])), (h4, .inl (cJ, 1846, .inr (.inl wa))), (h5, .inr (3, [.ref h6])), (h6, .inl (cJ, 1846, .inr (.inl (mSet la (2 * kc + 1)))))])) (va_runV (As := [.int (nI (2 * kc + 1))]) (rest := []) ⟨hx, hb, hml, hown, hts⟩ (c_M_mark l D cI cJ cZ h5 h6 1846 la (2 * kc + 1) (by omega) (by omega) (by omega)  H.size) (cwV 1 hts gX1_holds_X3_mark rfl rfl rfl (by decide +kernel) ⟨by show 1 + 1 ≤ zs kc sc + 2; omega, by show 8 + (3 + 11) + 20 ≤ 30 * zs kc sc + 60; omega⟩) (kPV (ci := 3) (q0 := 0) (wc := [(h5, .inr (3, [.ref h6])), (h6, .inl (cJ, 1846, .inr (.inl la)))]) hK2 hP hD [5, 6] rfl (by decide) rfl rfl) rfl rfl hl.1 rfl (lv_room (Nat.le_of_ble_eq_true rfl)) dX1_holds_220 ⟨Nat.le_of_ble_eq_true rfl, Nat.le_of_ble_eq_true rfl⟩) hP hD hS hA [5, 6] [0, 1, 2, 3, 4] [0, 1, 2, 3, 4, 5, 6] rfl rfl (by decide) (by decide) (fun _ => rfl) (by decide) (fun u_19 H locs hw_19 hP hD hS => ?_)
                    have hP : va_P D vwCl [(h0, wFi h1 h3 h5 fR fC ow ot fr to sp sc fu rn dk ds), (h1, .inr (3, [.ref h2])), (h2, .inl (cJ, 16, .inr (.inl rw))), (h3, .inr (3, [.ref h4])), (h4, .inl (cJ, 1846, .inr (.inl wa))), (h5, .inr (3, [.ref h6])), (h6, .inl (cJ, 1846, .inr (.inl (mSet la (2 * kc + 1)))))] H := hP
                    have hD : va_D A [(h0, wFi h1 h3 h5 fR fC ow ot fr to sp sc fu rn dk ds), (h1, .inr (3, [.ref h2])), (h2, .inl (cJ, 16, .inr (.inl rw))), (h3, .inr (3, [.ref h4])), (h4, .inl (cJ, 1846, .inr (.inl wa))), (h5, .inr (3, [.ref h6])), (h6, .inl (cJ, 1846, .inr (.inl (mSet la (2 * kc + 1)))))] := hD
                    refine lv_iload hx hb dX1_holds_223 (lv_at hl 7 rfl) ?_
                    exact W.zret (v := (nI 0)) hx hb hr (by first | decide +kernel | assumption | exact kz_narr (by first | assumption | omega)) (fun t ht hW => ⟨⟨(nI 0), (wa, mSet la (2 * kc + 1)), rfl, ⟨Or.inr ⟨rfl, (by rw [gv_1 hz0]; have e9 : k = sc := (by omega); rw [e9] at hw8; exact hw8.symm)⟩, memo_lost (l := true) hn hc hm8 (by rw [gv_1 hz0]; have e9 : k = sc := (by omega); rw [e9] at hw8; exact hw8.symm)⟩, by rw [ht]; exact hP, hD⟩, hS.F ht⟩) hS.2.2 dX1_holds_225
                  · refine lv_iload hx hb dX1_holds_115 (lv_at hl 7 rfl) ?_
                    refine lv_iload hx hb dX1_holds_117 (lv_at hl 4 rfl) ?_
                    refine lv_icmp_eq (tgt := 197) hx hb dX1_holds_119 (by decide) (fun c_119_20 => absurd c_119_20 (by decide)) (fun c_119_20 => ?_)
                    refine lv_iconst (v := (nI 1)) hx hb dX1_holds_122 (by decide) ?_
                    refine lv_iload hx hb dX1_holds_123 (lv_at hl 9 rfl) ?_
                    refine lv_ishl hx hb dX1_holds_125 ?_
                    refine k_toi (y := nI (2 ^ k)) (kf_shl1 (by omega)) ?_
                    refine lv_istore (lv' := [(10, .int (nI (2 ^ k))), (0, .ref h0), (1, .int (nI (mkD 1 kc sc))), (2, .int (nI (mkD 2 kc sc))), (3, .int (nI kc)), (4, .int (nI 1)), (5, .int (nI (zs kc sc))), (6, .int (nI (2 * kc + 1))), (7, .int (nI 0)), (8, .int (nI (3 ^ k))), (9, .int (nI k))]) hx hb dX1_holds_126 hl (by decide) rfl (fun ls hl => ?_)
                    refine lv_iload_n hx hb dX1_holds_128 rfl (lv_at hl 2 rfl) ?_
                    refine lv_iload_n hx hb dX1_holds_129 rfl (lv_at hl 3 rfl) ?_
                    refine lv_ior hx hb dX1_holds_130 ?_
                    refine k_toi (y := nI ((mkD 1 kc sc) ||| (mkD 2 kc sc))) (fa_or _ _) ?_
                    refine lv_iload hx hb dX1_holds_131 (lv_at hl 0 rfl) ?_
                    refine lv_iand hx hb dX1_holds_133 ?_
                    refine lv_if_ne (tgt := 185) hx hb dX1_holds_134 (by decide) (fun c_134_21 => ?_) (fun c_134_21 => ?_)
                    · have hd0 : ¬ dg kc k = 0 := fun h => c_134_21 ((kf_free hn (by omega)).mpr h)
                      refine lv_iload hx hb dX1_holds_185 (lv_at hl 9 rfl) ?_
                      refine lv_iconst (v := (nI 3)) hx hb dX1_holds_187 (by decide) ?_
                      refine lv_imul hx hb dX1_holds_188 ?_
                      refine k_toi (y := nI ((3 ^ k) * 3)) (pk_mul _ _) ?_
                      refine lv_istore (lv' := [(8, .int (nI ((3 ^ k) * 3))), (10, .int (nI (2 ^ k))), (0, .ref h0), (1, .int (nI (mkD 1 kc sc))), (2, .int (nI (mkD 2 kc sc))), (3, .int (nI kc)), (4, .int (nI 1)), (5, .int (nI (zs kc sc))), (6, .int (nI (2 * kc + 1))), (7, .int (nI 0)), (9, .int (nI k))]) hx hb dX1_holds_189 hl (by decide) rfl (fun ls hl => ?_)
                      refine lv_iinc (v := (nI (k + 1))) (lv' := [(9, .int (nI (k + 1))), (8, .int (nI ((3 ^ k) * 3))), (10, .int (nI (2 ^ k))), (0, .ref h0), (1, .int (nI (mkD 1 kc sc))), (2, .int (nI (mkD 2 kc sc))), (3, .int (nI kc)), (4, .int (nI 1)), (5, .int (nI (zs kc sc))), (6, .int (nI (2 * kc + 1))), (7, .int (nI 0))]) hx hb dX1_holds_191 hl (k := 10) rfl (k_inc _ 1) (by decide) rfl (fun ls hl => ?_)
                      refine lv_goto (tgt := 106) hx hb dX1_holds_194 (by decide) ?_
                      exact ih_106 ((k + 1), false, wa, la) _ _ _ (by show sc - (k + 1) < sc - k; omega) ⟨hP, hD, hS, lv_sub hl [3, 4, 5, 6, 7, 8, 9, 10, 1, 0] rfl, by omega, any_f hw8 (P1_no hd0), hm8⟩
                    · have hd0 : dg kc k = 0 := (kf_free hn (by omega)).mp c_134_21
                      have hz9 := zs_less (a := 1) rfl hd0 (show k < sc by omega) (by decide)
                      have hc9 : kc + 1 * 3 ^ k < 3 ^ sc := dg_bound hc hd0 (by decide) (by omega)
                      refine lv_iload hx hb dX1_holds_137 (lv_at hl 5 rfl) ?_
                      refine lv_if_eq (tgt := 163) hx hb dX1_holds_139 (by decide) (fun c_139_22 => absurd c_139_22 (by decide)) (fun c_139_22 => ?_)
                      refine lv_aload_n hx hb dX1_holds_142 rfl (lv_at hl 1 rfl) ?_
                      refine lv_iload_n hx hb dX1_holds_143 rfl (lv_at hl 2 rfl) ?_
                      refine lv_iload hx hb dX1_holds_144 (lv_at hl 0 rfl) ?_
                      refine lv_ior hx hb dX1_holds_146 ?_
                      refine k_toi (y := nI ((mkD 1 kc sc) ||| (2 ^ k))) (fa_or _ _) ?_
                      refine lv_iload_n hx hb dX1_holds_147 rfl (lv_at hl 3 rfl) ?_
                      refine lv_iload_n hx hb dX1_holds_148 rfl (lv_at hl 4 rfl) ?_
                      refine lv_iload hx hb dX1_holds_149 (lv_at hl 9 rfl) ?_
                      refine lv_iadd hx hb dX1_holds_151 ?_
                      refine k_toi (y := nI (kc + 1 * (3 ^ k))) (by rw [nI_add, Nat.one_mul]) ?_
                      refine lv_iconst (v := (nI 0)) hx hb dX1_holds_152 (by decide) ?_
                      refine lv_iload hx hb dX1_holds_153 (lv_at hl 6 rfl) ?_
                      refine lv_iconst (v := (nI 1)) hx hb dX1_holds_155 (by decide) ?_
                      refine lv_isub hx hb dX1_holds_156 ?_
                      refine k_toi (y := nI ((zs kc sc) - 1)) (pk_sub (by omega)) ?_
                      refine k_calli (wr := []) (w2 := (fun u : MW => match u with | (wa, la) => [(h0, wFi h1 h3 h5 fR fC ow ot fr to sp sc fu rn dk ds), (h1, .inr (3, [.ref h2])), (h2, .inl (cJ, 16, .inr (.inl rw))), (h3, .inr (3, [.ref h4])), (h4, .inl (cJ, 1846, .inr (.inl wa))), (h5, .inr (3, [.ref h6])), (h6, .inl (cJ, 1846, .inr (.inl la)))])) (va_runS (As := [.ref h0, .int (nI ((mkD 1 kc sc) ||| (2 ^ k))), .int (nI (mkD 2 kc sc)), .int (nI (kc + 1 * (3 ^ k))), .int (nI 0), .int (nI ((zs kc sc) - 1))]) (rest := []) ⟨hx, hb, hml, hown, hts⟩ (ih (zs kc sc - 1) (by omega) h0 h1 h2 h3 h4 h5 h6 fR fC ow ot fr to sp sc fu rn dk ds rw wa la q (kc + 1 * 3 ^ k) ((mkD 1 kc sc) ||| (2 ^ k)) (mkD 2 kc sc) false hn hfu hq hre hm8 ((mkD_put hd0 (Or.inl rfl) (by omega)).symm) ((mkD_keep hd0 (by decide) (by decide) (by decide)).symm) hz9.1 hc9 H.size) (va_cwS 6 hts gX1_holds_X1_holds rfl rfl rfl (by decide +kernel) ⟨by show (zs kc sc - 1) + 2 + 1 ≤ zs kc sc + 2; omega, by show 8 + (11 + 11) + (30 * (zs kc sc - 1) + 60) ≤ 30 * zs kc sc + 60; omega⟩) (kPS (wc := [(h0, wFi h1 h3 h5 fR fC ow ot fr to sp sc fu rn dk ds), (h1, .inr (3, [.ref h2])), (h2, .inl (cJ, 16, .inr (.inl rw))), (h3, .inr (3, [.ref h4])), (h4, .inl (cJ, 1846, .inr (.inl wa))), (h5, .inr (3, [.ref h6])), (h6, .inl (cJ, 1846, .inr (.inl la)))]) hK2 hP hD [0, 1, 2, 3, 4, 5, 6] rfl (by decide)) rfl rfl hl.1 rfl (lv_room (Nat.le_of_ble_eq_true rfl)) dX1_holds_157 ⟨Nat.le_of_ble_eq_true rfl, Nat.le_of_ble_eq_true rfl⟩) hP hD hS hA [0, 1, 2, 3, 4, 5, 6] [] [0, 1, 2, 3, 4, 5, 6] rfl rfl (by decide) (by decide) (fun ⟨_, _⟩ => rfl) (by decide) (fun r_25 u_25 H locs hw_25 hP hD hS => ?_)
                      obtain ⟨wa_23, la_24⟩ := u_25
                      have hP : va_P D vwCl [(h0, wFi h1 h3 h5 fR fC ow ot fr to sp sc fu rn dk ds), (h1, .inr (3, [.ref h2])), (h2, .inl (cJ, 16, .inr (.inl rw))), (h3, .inr (3, [.ref h4])), (h4, .inl (cJ, 1846, .inr (.inl wa_23))), (h5, .inr (3, [.ref h6])), (h6, .inl (cJ, 1846, .inr (.inl la_24)))] H := hP
                      have hD : va_D A [(h0, wFi h1 h3 h5 fR fC ow ot fr to sp sc fu rn dk ds), (h1, .inr (3, [.ref h2])), (h2, .inl (cJ, 16, .inr (.inl rw))), (h3, .inr (3, [.ref h4])), (h4, .inl (cJ, 1846, .inr (.inl wa_23))), (h5, .inr (3, [.ref h6])), (h6, .inl (cJ, 1846, .inr (.inl la_24)))] := hD
                      obtain ⟨hw_25, hm2⟩ := hw_25
                      rcases hw_25 with ⟨rfl, hw_25⟩ | ⟨rfl, hw_25⟩
                      · have hp := P1_is (q := q) (n := sc) (d := zs kc sc - 1) hd0 hw_25
                        refine lv_goto (tgt := 183) hx hb dX1_holds_160 (by decide) ?_
                        refine lv_istore (lv' := [(7, .int (nI 1)), (10, .int (nI (2 ^ k))), (0, .ref h0), (1, .int (nI (mkD 1 kc sc))), (2, .int (nI (mkD 2 kc sc))), (3, .int (nI kc)), (4, .int (nI 1)), (5, .int (nI (zs kc sc))), (6, .int (nI (2 * kc + 1))), (8, .int (nI (3 ^ k))), (9, .int (nI k))]) hx hb dX1_holds_183 hl (by decide) rfl (fun ls hl => ?_)
                        refine lv_iload hx hb dX1_holds_185 (lv_at hl 9 rfl) ?_
                        refine lv_iconst (v := (nI 3)) hx hb dX1_holds_187 (by decide) ?_
                        refine lv_imul hx hb dX1_holds_188 ?_
                        refine k_toi (y := nI ((3 ^ k) * 3)) (pk_mul _ _) ?_
                        refine lv_istore (lv' := [(8, .int (nI ((3 ^ k) * 3))), (7, .int (nI 1)), (10, .int (nI (2 ^ k))), (0, .ref h0), (1, .int (nI (mkD 1 kc sc))), (2, .int (nI (mkD 2 kc sc))), (3, .int (nI kc)), (4, .int (nI 1)), (5, .int (nI (zs kc sc))), (6, .int (nI (2 * kc + 1))), (9, .int (nI k))]) hx hb dX1_holds_189 hl (by decide) rfl (fun ls hl => ?_)
                        refine lv_iinc (v := (nI (k + 1))) (lv' := [(9, .int (nI (k + 1))), (8, .int (nI ((3 ^ k) * 3))), (7, .int (nI 1)), (10, .int (nI (2 ^ k))), (0, .ref h0), (1, .int (nI (mkD 1 kc sc))), (2, .int (nI (mkD 2 kc sc))), (3, .int (nI kc)), (4, .int (nI 1)), (5, .int (nI (zs kc sc))), (6, .int (nI (2 * kc + 1)))]) hx hb dX1_holds_191 hl (k := 10) rfl (k_inc _ 1) (by decide) rfl (fun ls hl => ?_)
                        refine lv_goto (tgt := 106) hx hb dX1_holds_194 (by decide) ?_
                        exact ih_106 ((k + 1), true, wa_23, la_24) _ _ _ (by show sc - (k + 1) < sc - k; omega) ⟨hP, hD, hS, lv_sub hl [4, 5, 6, 7, 8, 9, 10, 2, 1, 0] rfl, by omega, any_t hp, hm2⟩
                      · have hp := P1_is (q := q) (n := sc) (d := zs kc sc - 1) hd0 hw_25
                        refine lv_goto (tgt := 183) hx hb dX1_holds_160 (by decide) ?_
                        refine lv_istore (lv' := [(7, .int (nI 0)), (10, .int (nI (2 ^ k))), (0, .ref h0), (1, .int (nI (mkD 1 kc sc))), (2, .int (nI (mkD 2 kc sc))), (3, .int (nI kc)), (4, .int (nI 1)), (5, .int (nI (zs kc sc))), (6, .int (nI (2 * kc + 1))), (8, .int (nI (3 ^ k))), (9, .int (nI k))]) hx hb dX1_holds_183 hl (by decide) rfl (fun ls hl => ?_)
                        refine lv_iload hx hb dX1_holds_185 (lv_at hl 9 rfl) ?_
                        refine lv_iconst (v := (nI 3)) hx hb dX1_holds_187 (by decide) ?_
                        refine lv_imul hx hb dX1_holds_188 ?_
                        refine k_toi (y := nI ((3 ^ k) * 3)) (pk_mul _ _) ?_
                        refine lv_istore (lv' := [(8, .int (nI ((3 ^ k) * 3))), (7, .int (nI 0)), (10, .int (nI (2 ^ k))), (0, .ref h0), (1, .int (nI (mkD 1 kc sc))), (2, .int (nI (mkD 2 kc sc))), (3, .int (nI kc)), (4, .int (nI 1)), (5, .int (nI (zs kc sc))), (6, .int (nI (2 * kc + 1))), (9, .int (nI k))]) hx hb dX1_holds_189 hl (by decide) rfl (fun ls hl => ?_)
                        refine lv_iinc (v := (nI (k + 1))) (lv' := [(9, .int (nI (k + 1))), (8, .int (nI ((3 ^ k) * 3))), (7, .int (nI 0)), (10, .int (nI (2 ^ k))), (0, .ref h0), (1, .int (nI (mkD 1 kc sc))), (2, .int (nI (mkD 2 kc sc))), (3, .int (nI kc)), (4, .int (nI 1)), (5, .int (nI (zs kc sc))), (6, .int (nI (2 * kc + 1)))]) hx hb dX1_holds_191 hl (k := 10) rfl (k_inc _ 1) (by decide) rfl (fun ls hl => ?_)
                        refine lv_goto (tgt := 106) hx hb dX1_holds_194 (by decide) ?_
                        exact ih_106 ((k + 1), false, wa_23, la_24) _ _ _ (by show sc - (k + 1) < sc - k; omega) ⟨hP, hD, hS, lv_sub hl [4, 5, 6, 7, 8, 9, 10, 2, 1, 0] rfl, by omega, any_f hw8 hp, hm2⟩
                · have hl : lv_has ls 11 [(0, .ref h0), (1, .int (nI (mkD 1 kc sc))), (2, .int (nI (mkD 2 kc sc))), (3, .int (nI kc)), (4, .int (nI 1)), (5, .int (nI (zs kc sc))), (6, .int (nI (2 * kc + 1))), (7, .int (nI 1)), (8, .int (nI (3 ^ k))), (9, .int (nI k))] := hl
                  refine lv_iload hx hb dX1_holds_106 (lv_at hl 9 rfl) ?_
                  refine lv_aload_n hx hb dX1_holds_108 rfl (lv_at hl 0 rfl) ?_
                  refine va_get (D := D) (ci := 1) (v := .int (nI sc)) (C := RX1) (T := TX1) (N := 15) hx hb hts kiX1_holds_X1 hown hK hP 0 rfl rfl 10 (by decide) (hts (.fieldLink RX1 79 "TwoBanks$Fight" "spotCount" "I") (List.mem_of_getElem? (i := 5) rfl)) (fun _ h9 => h9) rfl dX1_holds_109 ?_
                  refine kw_icmp_ge (tgt := 197) hx hb dX1_holds_112 (by decide) (by omega) (by omega) (fun c_112_26 => ?_) (fun c_112_26 => ?_)
                  · refine lv_iload hx hb dX1_holds_197 (lv_at hl 7 rfl) ?_
                    refine lv_if_eq (tgt := 214) hx hb dX1_holds_199 (by decide) (fun c_199_27 => absurd c_199_27 (by decide)) (fun c_199_27 => ?_)
                    refine lv_aload_n hx hb dX1_holds_202 rfl (lv_at hl 0 rfl) ?_
                    refine va_get (D := D) (ci := 1) (v := .ref h3) (C := RX1) (T := TX1) (N := 15) hx hb hts kiX1_holds_X1 hown hK hP 0 rfl rfl 1 (by decide) (hts (.fieldLink RX1 21 "TwoBanks$Fight" "won" "LTwoBanks$Marks;") (List.mem_of_getElem? (i := 3) rfl)) (fun _ h9 => h9) rfl dX1_holds_203 ?_
                    refine lv_iload hx hb dX1_holds_206 (lv_at hl 6 rfl) ?_
                    refine k_callv (wr := [(h0, wFi h1 h3 h5 fR fC ow ot fr to sp sc fu rn dk ds), (h1, .inr (3, [.ref h2])), (h2, .inl (cJ, 16, .inr (.inl rw))), (h5, .inr (3, [.ref h6])), (h6, .inl (cJ, 1846, .inr (.inl la)))]) (w2 := (fun _ : Unit => [(h0, wFi h1 h3 h5 fR fC ow ot fr to sp sc fu rn dk ds), (h1, .inr (3, [.ref h2])), (h2, .inl (cJ, 16, .inr (.inl rw))), (h3, .inr (3, [.ref h4])), (h4, .inl (cJ, 1846, .inr (.inl (mSet wa (2 * kc + 1))))), (h5, .inr (3, [.ref h6])), (h6, .inl (cJ, 1846, .inr (.inl la)))])) (va_runV (As := [.int (nI (2 * kc + 1))]) (rest := []) ⟨hx, hb, hml, hown, hts⟩ (c_M_mark l D cI cJ cZ h3 h4 1846 wa (2 * kc + 1) (by omega) (by omega) (by omega)  H.size) (cwV 1 hts gX1_holds_X3_mark rfl rfl rfl (by decide +kernel) ⟨by show 1 + 1 ≤ zs kc sc + 2; omega, by show 8 + (3 + 11) + 20 ≤ 30 * zs kc sc + 60; omega⟩) (kPV (ci := 3) (q0 := 0) (wc := [(h3, .inr (3, [.ref h4])), (h4, .inl (cJ, 1846, .inr (.inl wa)))]) hK2 hP hD [3, 4] rfl (by decide) rfl rfl) rfl rfl hl.1 rfl (lv_room (Nat.le_of_ble_eq_true rfl)) dX1_holds_208 ⟨Nat.le_of_ble_eq_true rfl, Nat.le_of_ble_eq_true rfl⟩) hP hD hS hA [3, 4] [0, 1, 2, 5, 6] [0, 1, 2, 5, 6, 3, 4] rfl rfl (by decide) (by decide) (fun _ => rfl) (by decide) (fun u_28 H locs hw_28 hP hD hS => ?_)
                    have hP : va_P D vwCl [(h0, wFi h1 h3 h5 fR fC ow ot fr to sp sc fu rn dk ds), (h1, .inr (3, [.ref h2])), (h2, .inl (cJ, 16, .inr (.inl rw))), (h3, .inr (3, [.ref h4])), (h4, .inl (cJ, 1846, .inr (.inl (mSet wa (2 * kc + 1))))), (h5, .inr (3, [.ref h6])), (h6, .inl (cJ, 1846, .inr (.inl la)))] H := hP
                    have hD : va_D A [(h0, wFi h1 h3 h5 fR fC ow ot fr to sp sc fu rn dk ds), (h1, .inr (3, [.ref h2])), (h2, .inl (cJ, 16, .inr (.inl rw))), (h3, .inr (3, [.ref h4])), (h4, .inl (cJ, 1846, .inr (.inl (mSet wa (2 * kc + 1))))), (h5, .inr (3, [.ref h6])), (h6, .inl (cJ, 1846, .inr (.inl la)))] := hD
                    refine lv_goto (tgt := 223) hx hb dX1_holds_211 (by decide) ?_
                    refine lv_iload hx hb dX1_holds_223 (lv_at hl 7 rfl) ?_
                    exact W.zret (v := (nI 1)) hx hb hr (by first | decide +kernel | assumption | exact kz_narr (by first | assumption | omega)) (fun t ht hW => ⟨⟨(nI 1), (mSet wa (2 * kc + 1), la), rfl, ⟨Or.inl ⟨rfl, (by rw [gv_1 hz0]; exact anyU_up hk8 hw8.symm)⟩, memo_won (l := true) hn hc hm8 (by rw [gv_1 hz0]; exact anyU_up hk8 hw8.symm)⟩, by rw [ht]; exact hP, hD⟩, hS.F ht⟩) hS.2.2 dX1_holds_225
                  · refine lv_iload hx hb dX1_holds_115 (lv_at hl 7 rfl) ?_
                    refine lv_iload hx hb dX1_holds_117 (lv_at hl 4 rfl) ?_
                    refine lv_icmp_eq (tgt := 197) hx hb dX1_holds_119 (by decide) (fun c_119_29 => ?_) (fun c_119_29 => absurd c_119_29 (by decide))
                    refine lv_iload hx hb dX1_holds_197 (lv_at hl 7 rfl) ?_
                    refine lv_if_eq (tgt := 214) hx hb dX1_holds_199 (by decide) (fun c_199_30 => absurd c_199_30 (by decide)) (fun c_199_30 => ?_)
                    refine lv_aload_n hx hb dX1_holds_202 rfl (lv_at hl 0 rfl) ?_
                    refine va_get (D := D) (ci := 1) (v := .ref h3) (C := RX1) (T := TX1) (N := 15) hx hb hts kiX1_holds_X1 hown hK hP 0 rfl rfl 1 (by decide) (hts (.fieldLink RX1 21 "TwoBanks$Fight" "won" "LTwoBanks$Marks;") (List.mem_of_getElem? (i := 3) rfl)) (fun _ h9 => h9) rfl dX1_holds_203 ?_
                    refine lv_iload hx hb dX1_holds_206 (lv_at hl 6 rfl) ?_
                    refine k_callv (wr := [(h0, wFi h1 h3 h5 fR fC ow ot fr to sp sc fu rn dk ds), (h1, .inr (3, [.ref h2])), (h2, .inl (cJ, 16, .inr (.inl rw))), (h5, .inr (3, [.ref h6])), (h6, .inl (cJ, 1846, .inr (.inl la)))]) (w2 := (fun _ : Unit => [(h0, wFi h1 h3 h5 fR fC ow ot fr to sp sc fu rn dk ds), (h1, .inr (3, [.ref h2])), (h2, .inl (cJ, 16, .inr (.inl rw))), (h3, .inr (3, [.ref h4])), (h4, .inl (cJ, 1846, .inr (.inl (mSet wa (2 * kc + 1))))), (h5, .inr (3, [.ref h6])), (h6, .inl (cJ, 1846, .inr (.inl la)))])) (va_runV (As := [.int (nI (2 * kc + 1))]) (rest := []) ⟨hx, hb, hml, hown, hts⟩ (c_M_mark l D cI cJ cZ h3 h4 1846 wa (2 * kc + 1) (by omega) (by omega) (by omega)  H.size) (cwV 1 hts gX1_holds_X3_mark rfl rfl rfl (by decide +kernel) ⟨by show 1 + 1 ≤ zs kc sc + 2; omega, by show 8 + (3 + 11) + 20 ≤ 30 * zs kc sc + 60; omega⟩) (kPV (ci := 3) (q0 := 0) (wc := [(h3, .inr (3, [.ref h4])), (h4, .inl (cJ, 1846, .inr (.inl wa)))]) hK2 hP hD [3, 4] rfl (by decide) rfl rfl) rfl rfl hl.1 rfl (lv_room (Nat.le_of_ble_eq_true rfl)) dX1_holds_208 ⟨Nat.le_of_ble_eq_true rfl, Nat.le_of_ble_eq_true rfl⟩) hP hD hS hA [3, 4] [0, 1, 2, 5, 6] [0, 1, 2, 5, 6, 3, 4] rfl rfl (by decide) (by decide) (fun _ => rfl) (by decide) (fun u_31 H locs hw_31 hP hD hS => ?_)
                    have hP : va_P D vwCl [(h0, wFi h1 h3 h5 fR fC ow ot fr to sp sc fu rn dk ds), (h1, .inr (3, [.ref h2])), (h2, .inl (cJ, 16, .inr (.inl rw))), (h3, .inr (3, [.ref h4])), (h4, .inl (cJ, 1846, .inr (.inl (mSet wa (2 * kc + 1))))), (h5, .inr (3, [.ref h6])), (h6, .inl (cJ, 1846, .inr (.inl la)))] H := hP
                    have hD : va_D A [(h0, wFi h1 h3 h5 fR fC ow ot fr to sp sc fu rn dk ds), (h1, .inr (3, [.ref h2])), (h2, .inl (cJ, 16, .inr (.inl rw))), (h3, .inr (3, [.ref h4])), (h4, .inl (cJ, 1846, .inr (.inl (mSet wa (2 * kc + 1))))), (h5, .inr (3, [.ref h6])), (h6, .inl (cJ, 1846, .inr (.inl la)))] := hD
                    refine lv_goto (tgt := 223) hx hb dX1_holds_211 (by decide) ?_
                    refine lv_iload hx hb dX1_holds_223 (lv_at hl 7 rfl) ?_
                    exact W.zret (v := (nI 1)) hx hb hr (by first | decide +kernel | assumption | exact kz_narr (by first | assumption | omega)) (fun t ht hW => ⟨⟨(nI 1), (mSet wa (2 * kc + 1), la), rfl, ⟨Or.inl ⟨rfl, (by rw [gv_1 hz0]; exact anyU_up hk8 hw8.symm)⟩, memo_won (l := true) hn hc hm8 (by rw [gv_1 hz0]; exact anyU_up hk8 hw8.symm)⟩, by rw [ht]; exact hP, hD⟩, hS.F ht⟩) hS.2.2 dX1_holds_225
          · skip
            refine lv_if_ne (tgt := 38) hx hb dX1_holds_33 (by decide) (fun c_33_32 => absurd c_33_32 (by decide)) (fun c_33_32 => ?_)
            refine lv_iconst (v := (nI 0)) hx hb dX1_holds_36 (by decide) ?_
            exact W.zret (v := (nI 0)) hx hb hr (by first | decide +kernel | assumption | exact kz_narr (by first | assumption | omega)) (fun t ht hW => ⟨⟨(nI 0), (ww, lw), rfl, ⟨Or.inr ⟨rfl, gv_lost hq _ _ _ rfl (by have := mt (hre _ hmn0).mpr hw_5; simpa using this)⟩, hme⟩, by rw [ht]; exact hP, hD⟩, hS.F ht⟩) hS.2.2 dX1_holds_37
