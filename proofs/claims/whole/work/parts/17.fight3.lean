theorem kiX1_reachedFillings_X1 : ∀ w ∈ u_ws RX1 TX1 15, w ∈ wsX1_reachedFillings := fun w h => List.mem_cons_of_mem _ (List.mem_append_right _ h)
set_option maxHeartbeats 4000000 in
set_option maxRecDepth 100000 in
theorem c_F_reached (l : Launch) (D : va_G) (cI cJ cZ : ClassId) (h0 h1 h2 h3 h4 h5 h6 : Nat) (fR fC : Nat) (ow ot fr to sp : Int64) (sc fu rn dk : Nat) (ds : Int64) (rw ww lw : Nat → Int64) (sz : Nat) : kMI l yX1_reachedFillings wsX1_reachedFillings 0 0 D cI cJ cZ [.ref h0] [(h0, wFi h1 h3 h5 fR fC ow ot fr to sp sc fu rn dk ds), (h1, .inr (3, [.ref h2])), (h2, .inl (cJ, 16, .inr (.inl rw))), (h3, .inr (3, [.ref h4])), (h4, .inl (cJ, 1846, .inr (.inl ww))), (h5, .inr (3, [.ref h6])), (h6, .inl (cJ, 1846, .inr (.inl lw)))] sz (fun r (_ : Unit) => r = nI rn) (fun _ : Unit => [(h0, wFi h1 h3 h5 fR fC ow ot fr to sp sc fu rn dk ds), (h1, .inr (3, [.ref h2])), (h2, .inl (cJ, 16, .inr (.inl rw))), (h3, .inr (3, [.ref h4])), (h4, .inl (cJ, 1846, .inr (.inl ww))), (h5, .inr (3, [.ref h6])), (h6, .inl (cJ, 1846, .inr (.inl lw)))]) := by
  refine Met.ofW (cc := cX1_reachedFillings) (maxL := 1) (ret := (some .int)) (by decide) rfl ?_
  intro p e s m args below meth c s₁ B hml hv
  obtain ⟨rfl, hsz, hP, ⟨hK, hN⟩, hD0⟩ := hv
  have hx := B.exec
  have hb := B.bytes
  have hr := B.returns
  have hts := atoms_spec (ws := wsX1_reachedFillings) B.pre
  have hown : s.vm.findClass RX1 = some m.cls := findClass_of_methodNamed B.named
  have hlocks := B.notSynchronized
  subst hsz
  have hD := hD0.self (sz := s.heap.size)
  generalize hAe : va_A [(h0, wFi h1 h3 h5 fR fC ow ot fr to sp sc fu rn dk ds), (h1, .inr (3, [.ref h2])), (h2, .inl (cJ, 16, .inr (.inl rw))), (h3, .inr (3, [.ref h4])), (h4, .inl (cJ, 1846, .inr (.inl ww))), (h5, .inr (3, [.ref h6])), (h6, .inl (cJ, 1846, .inr (.inl lw)))] s.heap.size = A at hD ⊢
  have hA : ∀ q : Nat, s.heap.size ≤ q → A q := fun q h => by rw [← hAe]; exact Or.inr h
  have hS : va_S A s.heap s.heap [] := va_S.rf
  have hl := lv_entry ([.ref h0]) (n := 1) (Nat.le_of_ble_eq_true rfl)
  rw [lg_entry_eq]
  generalize (lg_sl ([.ref h0]) ++ List.replicate (1 - (lg_sl ([.ref h0])).length) Slot.unset).toArray = ls at hl ⊢
  have hl : lv_has ls 1 [(0, .ref h0)] := hl
  have hK2 : kK D cI cJ cZ s := ⟨hK, hN⟩
  clear hD0
  refine lv_aload_n hx hb dX1_reachedFillings_0 rfl (lv_at hl 0 rfl) ?_
  refine va_get (D := D) (ci := 1) (v := .int (nI rn)) (C := RX1) (T := TX1) (N := 15) hx hb hts kiX1_reachedFillings_X1 hown hK hP 0 rfl rfl 12 (by decide) (hts (.fieldLink RX1 85 "TwoBanks$Fight" "reachedCount" "I") (List.mem_of_getElem? (i := 1) rfl)) (fun _ h9 => h9) rfl dX1_reachedFillings_1 ?_
  exact W.iret (v := (nI rn)) hx hb hr (fun t ht hW => ⟨⟨(nI rn), (), rfl, rfl, by rw [ht]; exact hP, hD⟩, hS.F ht⟩) hS.2.2 dX1_reachedFillings_4

theorem kiX1_makerWins_X1 : ∀ w ∈ u_ws RX1 TX1 15, w ∈ wsX1_makerWins := fun w h => List.mem_cons_of_mem _ (List.mem_append_left _ (List.mem_append_right _ h))
set_option maxHeartbeats 4000000 in
set_option maxRecDepth 100000 in
theorem c_F_makerWins_f (l : Launch) (D : va_G) (cI cJ cZ : ClassId) (h0 h1 h2 h3 h4 h5 h6 : Nat) (fR fC : Nat) (ow ot fr to sp : Int64) (sc fu rn dk : Nat) (ds : Int64) (rw ww lw : Nat → Int64) (q : Nat → Bool) (hn : sc ≤ 10) (hfu : fu = 2 ^ sc - 1) (hq : qMono q sc) (hre : reOK q sc rw) (hme : memoOK q sc (ww, lw)) (sz : Nat) : kMI l yX1_makerWins wsX1_makerWins 13 390 D cI cJ cZ [.ref h0, .int (nI 0)] [(h0, wFi h1 h3 h5 fR fC ow ot fr to sp sc fu rn dk ds), (h1, .inr (3, [.ref h2])), (h2, .inl (cJ, 16, .inr (.inl rw))), (h3, .inr (3, [.ref h4])), (h4, .inl (cJ, 1846, .inr (.inl ww))), (h5, .inr (3, [.ref h6])), (h6, .inl (cJ, 1846, .inr (.inl lw)))] sz (fun r (u : MW) => ((r = nI 1 ∧ gv q sc sc 0 false = true) ∨ (r = nI 0 ∧ gv q sc sc 0 false = false)) ∧ memoOK q sc u) (fun u : MW => match u with | (wa, la) => [(h0, wFi h1 h3 h5 fR fC ow ot fr to sp sc fu rn dk ds), (h1, .inr (3, [.ref h2])), (h2, .inl (cJ, 16, .inr (.inl rw))), (h3, .inr (3, [.ref h4])), (h4, .inl (cJ, 1846, .inr (.inl wa))), (h5, .inr (3, [.ref h6])), (h6, .inl (cJ, 1846, .inr (.inl la)))]) := by
  refine Met.ofW (cc := cX1_makerWins) (maxL := 2) (ret := (some .boolean)) (by decide) rfl ?_
  intro p e s m args below meth c s₁ B hml hv
  obtain ⟨rfl, hsz, hP, ⟨hK, hN⟩, hD0⟩ := hv
  have hx := B.exec
  have hb := B.bytes
  have hr := B.returns
  have hts := atoms_spec (ws := wsX1_makerWins) B.pre
  have hown : s.vm.findClass RX1 = some m.cls := findClass_of_methodNamed B.named
  have hlocks := B.notSynchronized
  subst hsz
  have hD := hD0.self (sz := s.heap.size)
  generalize hAe : va_A [(h0, wFi h1 h3 h5 fR fC ow ot fr to sp sc fu rn dk ds), (h1, .inr (3, [.ref h2])), (h2, .inl (cJ, 16, .inr (.inl rw))), (h3, .inr (3, [.ref h4])), (h4, .inl (cJ, 1846, .inr (.inl ww))), (h5, .inr (3, [.ref h6])), (h6, .inl (cJ, 1846, .inr (.inl lw)))] s.heap.size = A at hD ⊢
  have hA : ∀ q : Nat, s.heap.size ≤ q → A q := fun q h => by rw [← hAe]; exact Or.inr h
  have hS : va_S A s.heap s.heap [] := va_S.rf
  have hl := lv_entry ([.ref h0, .int (nI 0)]) (n := 2) (Nat.le_of_ble_eq_true rfl)
  rw [lg_entry_eq]
  generalize (lg_sl ([.ref h0, .int (nI 0)]) ++ List.replicate (2 - (lg_sl ([.ref h0, .int (nI 0)])).length) Slot.unset).toArray = ls at hl ⊢
  have hl : lv_has ls 2 [(0, .ref h0), (1, .int (nI 0))] := hl
  have hK2 : kK D cI cJ cZ s := ⟨hK, hN⟩
  clear hD0
  refine lv_aload_n hx hb dX1_makerWins_0 rfl (lv_at hl 0 rfl) ?_
  refine lv_iconst (v := (nI 0)) hx hb dX1_makerWins_1 (by decide) ?_
  refine lv_iconst (v := (nI 0)) hx hb dX1_makerWins_2 (by decide) ?_
  refine lv_iconst (v := (nI 0)) hx hb dX1_makerWins_3 (by decide) ?_
  refine lv_iload_n hx hb dX1_makerWins_4 rfl (lv_at hl 1 rfl) ?_
  refine lv_aload_n hx hb dX1_makerWins_5 rfl (lv_at hl 0 rfl) ?_
  refine va_get (D := D) (ci := 1) (v := .int (nI sc)) (C := RX1) (T := TX1) (N := 15) hx hb hts kiX1_makerWins_X1 hown hK hP 0 rfl rfl 10 (by decide) (hts (.fieldLink RX1 79 "TwoBanks$Fight" "spotCount" "I") (List.mem_of_getElem? (i := 1) rfl)) (fun _ h9 => h9) rfl dX1_makerWins_6 ?_
  refine k_calli (wr := []) (w2 := (fun u : MW => match u with | (wa, la) => [(h0, wFi h1 h3 h5 fR fC ow ot fr to sp sc fu rn dk ds), (h1, .inr (3, [.ref h2])), (h2, .inl (cJ, 16, .inr (.inl rw))), (h3, .inr (3, [.ref h4])), (h4, .inl (cJ, 1846, .inr (.inl wa))), (h5, .inr (3, [.ref h6])), (h6, .inl (cJ, 1846, .inr (.inl la)))])) (va_runS (As := [.ref h0, .int (nI 0), .int (nI 0), .int (nI 0), .int (nI 0), .int (nI sc)]) (rest := []) ⟨hx, hb, hml, hown, hts⟩ (c_F_holds l D cI cJ cZ sc h0 h1 h2 h3 h4 h5 h6 fR fC ow ot fr to sp sc fu rn dk ds rw ww lw q 0 0 0 false hn hfu hq hre hme (mkD_00 (by decide) _).symm (mkD_00 (by decide) _).symm (zs_0 _) (Nat.pow_pos (by decide)) s.heap.size) (va_cwS 6 hts gX1_makerWins_X1_holds rfl rfl rfl (by decide +kernel) ⟨by show sc + 2 + 1 ≤ 13; omega, by show 8 + (11 + 11) + (30 * sc + 60) ≤ 390; omega⟩) (kPS (wc := [(h0, wFi h1 h3 h5 fR fC ow ot fr to sp sc fu rn dk ds), (h1, .inr (3, [.ref h2])), (h2, .inl (cJ, 16, .inr (.inl rw))), (h3, .inr (3, [.ref h4])), (h4, .inl (cJ, 1846, .inr (.inl ww))), (h5, .inr (3, [.ref h6])), (h6, .inl (cJ, 1846, .inr (.inl lw)))]) hK2 hP hD [0, 1, 2, 3, 4, 5, 6] rfl (by decide)) rfl rfl hl.1 rfl (lv_room (Nat.le_of_ble_eq_true rfl)) dX1_makerWins_9 ⟨Nat.le_of_ble_eq_true rfl, Nat.le_of_ble_eq_true rfl⟩) hP hD hS hA [0, 1, 2, 3, 4, 5, 6] [] [0, 1, 2, 3, 4, 5, 6] rfl rfl (by decide) (by decide) (fun ⟨_, _⟩ => rfl) (by decide) (fun r_3 u_3 H locs hw_3 hP hD hS => ?_)
  obtain ⟨wa_1, la_2⟩ := u_3
  have hP : va_P D vwCl [(h0, wFi h1 h3 h5 fR fC ow ot fr to sp sc fu rn dk ds), (h1, .inr (3, [.ref h2])), (h2, .inl (cJ, 16, .inr (.inl rw))), (h3, .inr (3, [.ref h4])), (h4, .inl (cJ, 1846, .inr (.inl wa_1))), (h5, .inr (3, [.ref h6])), (h6, .inl (cJ, 1846, .inr (.inl la_2)))] H := hP
  have hD : va_D A [(h0, wFi h1 h3 h5 fR fC ow ot fr to sp sc fu rn dk ds), (h1, .inr (3, [.ref h2])), (h2, .inl (cJ, 16, .inr (.inl rw))), (h3, .inr (3, [.ref h4])), (h4, .inl (cJ, 1846, .inr (.inl wa_1))), (h5, .inr (3, [.ref h6])), (h6, .inl (cJ, 1846, .inr (.inl la_2)))] := hD
  obtain ⟨hw_3, hm_3⟩ := hw_3
  rcases hw_3 with ⟨rfl, hw_3⟩ | ⟨rfl, hw_3⟩
  · skip
    exact W.zret (v := (nI 1)) hx hb hr (by first | decide +kernel | assumption | exact kz_narr (by first | assumption | omega)) (fun t ht hW => ⟨⟨(nI 1), (wa_1, la_2), rfl, ⟨Or.inl ⟨rfl, hw_3⟩, hm_3⟩, by rw [ht]; exact hP, hD⟩, hS.F ht⟩) hS.2.2 dX1_makerWins_12
  · skip
    exact W.zret (v := (nI 0)) hx hb hr (by first | decide +kernel | assumption | exact kz_narr (by first | assumption | omega)) (fun t ht hW => ⟨⟨(nI 0), (wa_1, la_2), rfl, ⟨Or.inr ⟨rfl, hw_3⟩, hm_3⟩, by rw [ht]; exact hP, hD⟩, hS.F ht⟩) hS.2.2 dX1_makerWins_12

set_option maxHeartbeats 4000000 in
set_option maxRecDepth 100000 in
theorem c_F_makerWins_t (l : Launch) (D : va_G) (cI cJ cZ : ClassId) (h0 h1 h2 h3 h4 h5 h6 : Nat) (fR fC : Nat) (ow ot fr to sp : Int64) (sc fu rn dk : Nat) (ds : Int64) (rw ww lw : Nat → Int64) (q : Nat → Bool) (hn : sc ≤ 10) (hfu : fu = 2 ^ sc - 1) (hq : qMono q sc) (hre : reOK q sc rw) (hme : memoOK q sc (ww, lw)) (sz : Nat) : kMI l yX1_makerWins wsX1_makerWins 13 390 D cI cJ cZ [.ref h0, .int (nI 1)] [(h0, wFi h1 h3 h5 fR fC ow ot fr to sp sc fu rn dk ds), (h1, .inr (3, [.ref h2])), (h2, .inl (cJ, 16, .inr (.inl rw))), (h3, .inr (3, [.ref h4])), (h4, .inl (cJ, 1846, .inr (.inl ww))), (h5, .inr (3, [.ref h6])), (h6, .inl (cJ, 1846, .inr (.inl lw)))] sz (fun r (u : MW) => ((r = nI 1 ∧ gv q sc sc 0 true = true) ∨ (r = nI 0 ∧ gv q sc sc 0 true = false)) ∧ memoOK q sc u) (fun u : MW => match u with | (wa, la) => [(h0, wFi h1 h3 h5 fR fC ow ot fr to sp sc fu rn dk ds), (h1, .inr (3, [.ref h2])), (h2, .inl (cJ, 16, .inr (.inl rw))), (h3, .inr (3, [.ref h4])), (h4, .inl (cJ, 1846, .inr (.inl wa))), (h5, .inr (3, [.ref h6])), (h6, .inl (cJ, 1846, .inr (.inl la)))]) := by
  refine Met.ofW (cc := cX1_makerWins) (maxL := 2) (ret := (some .boolean)) (by decide) rfl ?_
  intro p e s m args below meth c s₁ B hml hv
  obtain ⟨rfl, hsz, hP, ⟨hK, hN⟩, hD0⟩ := hv
  have hx := B.exec
  have hb := B.bytes
  have hr := B.returns
  have hts := atoms_spec (ws := wsX1_makerWins) B.pre
  have hown : s.vm.findClass RX1 = some m.cls := findClass_of_methodNamed B.named
  have hlocks := B.notSynchronized
  subst hsz
  have hD := hD0.self (sz := s.heap.size)
  generalize hAe : va_A [(h0, wFi h1 h3 h5 fR fC ow ot fr to sp sc fu rn dk ds), (h1, .inr (3, [.ref h2])), (h2, .inl (cJ, 16, .inr (.inl rw))), (h3, .inr (3, [.ref h4])), (h4, .inl (cJ, 1846, .inr (.inl ww))), (h5, .inr (3, [.ref h6])), (h6, .inl (cJ, 1846, .inr (.inl lw)))] s.heap.size = A at hD ⊢
  have hA : ∀ q : Nat, s.heap.size ≤ q → A q := fun q h => by rw [← hAe]; exact Or.inr h
  have hS : va_S A s.heap s.heap [] := va_S.rf
  have hl := lv_entry ([.ref h0, .int (nI 1)]) (n := 2) (Nat.le_of_ble_eq_true rfl)
  rw [lg_entry_eq]
  generalize (lg_sl ([.ref h0, .int (nI 1)]) ++ List.replicate (2 - (lg_sl ([.ref h0, .int (nI 1)])).length) Slot.unset).toArray = ls at hl ⊢
  have hl : lv_has ls 2 [(0, .ref h0), (1, .int (nI 1))] := hl
  have hK2 : kK D cI cJ cZ s := ⟨hK, hN⟩
  clear hD0
  refine lv_aload_n hx hb dX1_makerWins_0 rfl (lv_at hl 0 rfl) ?_
  refine lv_iconst (v := (nI 0)) hx hb dX1_makerWins_1 (by decide) ?_
  refine lv_iconst (v := (nI 0)) hx hb dX1_makerWins_2 (by decide) ?_
  refine lv_iconst (v := (nI 0)) hx hb dX1_makerWins_3 (by decide) ?_
  refine lv_iload_n hx hb dX1_makerWins_4 rfl (lv_at hl 1 rfl) ?_
  refine lv_aload_n hx hb dX1_makerWins_5 rfl (lv_at hl 0 rfl) ?_
  refine va_get (D := D) (ci := 1) (v := .int (nI sc)) (C := RX1) (T := TX1) (N := 15) hx hb hts kiX1_makerWins_X1 hown hK hP 0 rfl rfl 10 (by decide) (hts (.fieldLink RX1 79 "TwoBanks$Fight" "spotCount" "I") (List.mem_of_getElem? (i := 1) rfl)) (fun _ h9 => h9) rfl dX1_makerWins_6 ?_
  refine k_calli (wr := []) (w2 := (fun u : MW => match u with | (wa, la) => [(h0, wFi h1 h3 h5 fR fC ow ot fr to sp sc fu rn dk ds), (h1, .inr (3, [.ref h2])), (h2, .inl (cJ, 16, .inr (.inl rw))), (h3, .inr (3, [.ref h4])), (h4, .inl (cJ, 1846, .inr (.inl wa))), (h5, .inr (3, [.ref h6])), (h6, .inl (cJ, 1846, .inr (.inl la)))])) (va_runS (As := [.ref h0, .int (nI 0), .int (nI 0), .int (nI 0), .int (nI 1), .int (nI sc)]) (rest := []) ⟨hx, hb, hml, hown, hts⟩ (c_F_holds l D cI cJ cZ sc h0 h1 h2 h3 h4 h5 h6 fR fC ow ot fr to sp sc fu rn dk ds rw ww lw q 0 0 0 true hn hfu hq hre hme (mkD_00 (by decide) _).symm (mkD_00 (by decide) _).symm (zs_0 _) (Nat.pow_pos (by decide)) s.heap.size) (va_cwS 6 hts gX1_makerWins_X1_holds rfl rfl rfl (by decide +kernel) ⟨by show sc + 2 + 1 ≤ 13; omega, by show 8 + (11 + 11) + (30 * sc + 60) ≤ 390; omega⟩) (kPS (wc := [(h0, wFi h1 h3 h5 fR fC ow ot fr to sp sc fu rn dk ds), (h1, .inr (3, [.ref h2])), (h2, .inl (cJ, 16, .inr (.inl rw))), (h3, .inr (3, [.ref h4])), (h4, .inl (cJ, 1846, .inr (.inl ww))), (h5, .inr (3, [.ref h6])), (h6, .inl (cJ, 1846, .inr (.inl lw)))]) hK2 hP hD [0, 1, 2, 3, 4, 5, 6] rfl (by decide)) rfl rfl hl.1 rfl (lv_room (Nat.le_of_ble_eq_true rfl)) dX1_makerWins_9 ⟨Nat.le_of_ble_eq_true rfl, Nat.le_of_ble_eq_true rfl⟩) hP hD hS hA [0, 1, 2, 3, 4, 5, 6] [] [0, 1, 2, 3, 4, 5, 6] rfl rfl (by decide) (by decide) (fun ⟨_, _⟩ => rfl) (by decide) (fun r_3 u_3 H locs hw_3 hP hD hS => ?_)
  obtain ⟨wa_1, la_2⟩ := u_3
  have hP : va_P D vwCl [(h0, wFi h1 h3 h5 fR fC ow ot fr to sp sc fu rn dk ds), (h1, .inr (3, [.ref h2])), (h2, .inl (cJ, 16, .inr (.inl rw))), (h3, .inr (3, [.ref h4])), (h4, .inl (cJ, 1846, .inr (.inl wa_1))), (h5, .inr (3, [.ref h6])), (h6, .inl (cJ, 1846, .inr (.inl la_2)))] H := hP
  have hD : va_D A [(h0, wFi h1 h3 h5 fR fC ow ot fr to sp sc fu rn dk ds), (h1, .inr (3, [.ref h2])), (h2, .inl (cJ, 16, .inr (.inl rw))), (h3, .inr (3, [.ref h4])), (h4, .inl (cJ, 1846, .inr (.inl wa_1))), (h5, .inr (3, [.ref h6])), (h6, .inl (cJ, 1846, .inr (.inl la_2)))] := hD
  obtain ⟨hw_3, hm_3⟩ := hw_3
  rcases hw_3 with ⟨rfl, hw_3⟩ | ⟨rfl, hw_3⟩
  · skip
    exact W.zret (v := (nI 1)) hx hb hr (by first | decide +kernel | assumption | exact kz_narr (by first | assumption | omega)) (fun t ht hW => ⟨⟨(nI 1), (wa_1, la_2), rfl, ⟨Or.inl ⟨rfl, hw_3⟩, hm_3⟩, by rw [ht]; exact hP, hD⟩, hS.F ht⟩) hS.2.2 dX1_makerWins_12
  · skip
    exact W.zret (v := (nI 0)) hx hb hr (by first | decide +kernel | assumption | exact kz_narr (by first | assumption | omega)) (fun t ht hW => ⟨⟨(nI 0), (wa_1, la_2), rfl, ⟨Or.inr ⟨rfl, hw_3⟩, hm_3⟩, by rw [ht]; exact hP, hD⟩, hS.F ht⟩) hS.2.2 dX1_makerWins_12

set_option maxHeartbeats 4000000 in
set_option maxRecDepth 100000 in
theorem c_F_strength (l : Launch) (D : va_G) (cI cJ cZ : ClassId) (h0 h1 h2 h3 h4 h5 h6 : Nat) (fR fC : Nat) (ow ot fr to sp : Int64) (sc fu rn dk : Nat) (ds : Int64) (rw ww lw : Nat → Int64) (q : Nat → Bool) (hn : sc ≤ 10) (hfu : fu = 2 ^ sc - 1) (hq : qMono q sc) (hre : reOK q sc rw) (hme : memoOK q sc (ww, lw)) (sz : Nat) : kMI l yX1_strength wsX1_strength 14 411 D cI cJ cZ [.ref h0] [(h0, wFi h1 h3 h5 fR fC ow ot fr to sp sc fu rn dk ds), (h1, .inr (3, [.ref h2])), (h2, .inl (cJ, 16, .inr (.inl rw))), (h3, .inr (3, [.ref h4])), (h4, .inl (cJ, 1846, .inr (.inl ww))), (h5, .inr (3, [.ref h6])), (h6, .inl (cJ, 1846, .inr (.inl lw)))] sz (fun r (u : MW) => r = (if gv q sc sc 0 false = true then nI 2 else if gv q sc sc 0 true = true then nI 1 else nI 0) ∧ memoOK q sc u) (fun u : MW => match u with | (wa, la) => [(h0, wFi h1 h3 h5 fR fC ow ot fr to sp sc fu rn dk ds), (h1, .inr (3, [.ref h2])), (h2, .inl (cJ, 16, .inr (.inl rw))), (h3, .inr (3, [.ref h4])), (h4, .inl (cJ, 1846, .inr (.inl wa))), (h5, .inr (3, [.ref h6])), (h6, .inl (cJ, 1846, .inr (.inl la)))]) := by
  refine Met.ofW (cc := cX1_strength) (maxL := 1) (ret := (some .int)) (by decide) rfl ?_
  intro p e s m args below meth c s₁ B hml hv
  obtain ⟨rfl, hsz, hP, ⟨hK, hN⟩, hD0⟩ := hv
  have hx := B.exec
  have hb := B.bytes
  have hr := B.returns
  have hts := atoms_spec (ws := wsX1_strength) B.pre
  have hown : s.vm.findClass RX1 = some m.cls := findClass_of_methodNamed B.named
  have hlocks := B.notSynchronized
  subst hsz
  have hD := hD0.self (sz := s.heap.size)
  generalize hAe : va_A [(h0, wFi h1 h3 h5 fR fC ow ot fr to sp sc fu rn dk ds), (h1, .inr (3, [.ref h2])), (h2, .inl (cJ, 16, .inr (.inl rw))), (h3, .inr (3, [.ref h4])), (h4, .inl (cJ, 1846, .inr (.inl ww))), (h5, .inr (3, [.ref h6])), (h6, .inl (cJ, 1846, .inr (.inl lw)))] s.heap.size = A at hD ⊢
  have hA : ∀ q : Nat, s.heap.size ≤ q → A q := fun q h => by rw [← hAe]; exact Or.inr h
  have hS : va_S A s.heap s.heap [] := va_S.rf
  have hl := lv_entry ([.ref h0]) (n := 1) (Nat.le_of_ble_eq_true rfl)
  rw [lg_entry_eq]
  generalize (lg_sl ([.ref h0]) ++ List.replicate (1 - (lg_sl ([.ref h0])).length) Slot.unset).toArray = ls at hl ⊢
  have hl : lv_has ls 1 [(0, .ref h0)] := hl
  have hK2 : kK D cI cJ cZ s := ⟨hK, hN⟩
  clear hD0
  refine lv_aload_n hx hb dX1_strength_0 rfl (lv_at hl 0 rfl) ?_
  refine lv_iconst (v := (nI 0)) hx hb dX1_strength_1 (by decide) ?_
  refine k_calli (wr := []) (w2 := (fun u : MW => match u with | (wa, la) => [(h0, wFi h1 h3 h5 fR fC ow ot fr to sp sc fu rn dk ds), (h1, .inr (3, [.ref h2])), (h2, .inl (cJ, 16, .inr (.inl rw))), (h3, .inr (3, [.ref h4])), (h4, .inl (cJ, 1846, .inr (.inl wa))), (h5, .inr (3, [.ref h6])), (h6, .inl (cJ, 1846, .inr (.inl la)))])) (va_runV (As := [.int (nI 0)]) (rest := []) ⟨hx, hb, hml, hown, hts⟩ (c_F_makerWins_f l D cI cJ cZ h0 h1 h2 h3 h4 h5 h6 fR fC ow ot fr to sp sc fu rn dk ds rw ww lw (by omega) hn hfu hq hre hme  s.heap.size) (cwV 1 hts gX1_strength_X1_makerWins rfl rfl rfl (by decide +kernel) ⟨Nat.le_of_ble_eq_true rfl, Nat.le_of_ble_eq_true rfl⟩) (kPV (ci := 1) (q0 := 0) (wc := [(h0, wFi h1 h3 h5 fR fC ow ot fr to sp sc fu rn dk ds), (h1, .inr (3, [.ref h2])), (h2, .inl (cJ, 16, .inr (.inl rw))), (h3, .inr (3, [.ref h4])), (h4, .inl (cJ, 1846, .inr (.inl ww))), (h5, .inr (3, [.ref h6])), (h6, .inl (cJ, 1846, .inr (.inl lw)))]) hK2 hP hD [0, 1, 2, 3, 4, 5, 6] rfl (by decide) rfl rfl) rfl rfl hl.1 rfl (lv_room (Nat.le_of_ble_eq_true rfl)) dX1_strength_2 ⟨Nat.le_of_ble_eq_true rfl, Nat.le_of_ble_eq_true rfl⟩) hP hD hS hA [0, 1, 2, 3, 4, 5, 6] [] [0, 1, 2, 3, 4, 5, 6] rfl rfl (by decide) (by decide) (fun ⟨_, _⟩ => rfl) (by decide) (fun r_3 u_3 H locs hw_3 hP hD hS => ?_)
  obtain ⟨wa_1, la_2⟩ := u_3
  have hP : va_P D vwCl [(h0, wFi h1 h3 h5 fR fC ow ot fr to sp sc fu rn dk ds), (h1, .inr (3, [.ref h2])), (h2, .inl (cJ, 16, .inr (.inl rw))), (h3, .inr (3, [.ref h4])), (h4, .inl (cJ, 1846, .inr (.inl wa_1))), (h5, .inr (3, [.ref h6])), (h6, .inl (cJ, 1846, .inr (.inl la_2)))] H := hP
  have hD : va_D A [(h0, wFi h1 h3 h5 fR fC ow ot fr to sp sc fu rn dk ds), (h1, .inr (3, [.ref h2])), (h2, .inl (cJ, 16, .inr (.inl rw))), (h3, .inr (3, [.ref h4])), (h4, .inl (cJ, 1846, .inr (.inl wa_1))), (h5, .inr (3, [.ref h6])), (h6, .inl (cJ, 1846, .inr (.inl la_2)))] := hD
  obtain ⟨hw_3, hm_3⟩ := hw_3
  rcases hw_3 with ⟨rfl, hw_3⟩ | ⟨rfl, hw_3⟩
  · skip
    refine lv_if_eq (tgt := 10) hx hb dX1_strength_5 (by decide) (fun c_5_4 => absurd c_5_4 (by decide)) (fun c_5_4 => ?_)
    refine lv_iconst (v := (nI 2)) hx hb dX1_strength_8 (by decide) ?_
    exact W.iret (v := (nI 2)) hx hb hr (fun t ht hW => ⟨⟨(nI 2), (wa_1, la_2), rfl, ⟨by rw [if_pos hw_3], hm_3⟩, by rw [ht]; exact hP, hD⟩, hS.F ht⟩) hS.2.2 dX1_strength_9
  · skip
    refine lv_if_eq (tgt := 10) hx hb dX1_strength_5 (by decide) (fun c_5_5 => ?_) (fun c_5_5 => absurd c_5_5 (by decide))
    refine lv_aload_n hx hb dX1_strength_10 rfl (lv_at hl 0 rfl) ?_
    refine lv_iconst (v := (nI 1)) hx hb dX1_strength_11 (by decide) ?_
    refine k_calli (wr := []) (w2 := (fun u : MW => match u with | (wa, la) => [(h0, wFi h1 h3 h5 fR fC ow ot fr to sp sc fu rn dk ds), (h1, .inr (3, [.ref h2])), (h2, .inl (cJ, 16, .inr (.inl rw))), (h3, .inr (3, [.ref h4])), (h4, .inl (cJ, 1846, .inr (.inl wa))), (h5, .inr (3, [.ref h6])), (h6, .inl (cJ, 1846, .inr (.inl la)))])) (va_runV (As := [.int (nI 1)]) (rest := []) ⟨hx, hb, hml, hown, hts⟩ (c_F_makerWins_t l D cI cJ cZ h0 h1 h2 h3 h4 h5 h6 fR fC ow ot fr to sp sc fu rn dk ds rw wa_1 la_2 (by omega) hn hfu hq hre hm_3  H.size) (cwV 1 hts gX1_strength_X1_makerWins rfl rfl rfl (by decide +kernel) ⟨Nat.le_of_ble_eq_true rfl, Nat.le_of_ble_eq_true rfl⟩) (kPV (ci := 1) (q0 := 0) (wc := [(h0, wFi h1 h3 h5 fR fC ow ot fr to sp sc fu rn dk ds), (h1, .inr (3, [.ref h2])), (h2, .inl (cJ, 16, .inr (.inl rw))), (h3, .inr (3, [.ref h4])), (h4, .inl (cJ, 1846, .inr (.inl wa_1))), (h5, .inr (3, [.ref h6])), (h6, .inl (cJ, 1846, .inr (.inl la_2)))]) hK2 hP hD [0, 1, 2, 3, 4, 5, 6] rfl (by decide) rfl rfl) rfl rfl hl.1 rfl (lv_room (Nat.le_of_ble_eq_true rfl)) dX1_strength_12 ⟨Nat.le_of_ble_eq_true rfl, Nat.le_of_ble_eq_true rfl⟩) hP hD hS hA [0, 1, 2, 3, 4, 5, 6] [] [0, 1, 2, 3, 4, 5, 6] rfl rfl (by decide) (by decide) (fun ⟨_, _⟩ => rfl) (by decide) (fun r_8 u_8 H locs hw_8 hP hD hS => ?_)
    obtain ⟨wa_6, la_7⟩ := u_8
    have hP : va_P D vwCl [(h0, wFi h1 h3 h5 fR fC ow ot fr to sp sc fu rn dk ds), (h1, .inr (3, [.ref h2])), (h2, .inl (cJ, 16, .inr (.inl rw))), (h3, .inr (3, [.ref h4])), (h4, .inl (cJ, 1846, .inr (.inl wa_6))), (h5, .inr (3, [.ref h6])), (h6, .inl (cJ, 1846, .inr (.inl la_7)))] H := hP
    have hD : va_D A [(h0, wFi h1 h3 h5 fR fC ow ot fr to sp sc fu rn dk ds), (h1, .inr (3, [.ref h2])), (h2, .inl (cJ, 16, .inr (.inl rw))), (h3, .inr (3, [.ref h4])), (h4, .inl (cJ, 1846, .inr (.inl wa_6))), (h5, .inr (3, [.ref h6])), (h6, .inl (cJ, 1846, .inr (.inl la_7)))] := hD
    obtain ⟨hw_8, hm_8⟩ := hw_8
    rcases hw_8 with ⟨rfl, hw_8⟩ | ⟨rfl, hw_8⟩
    · skip
      refine lv_if_eq (tgt := 22) hx hb dX1_strength_15 (by decide) (fun c_15_9 => absurd c_15_9 (by decide)) (fun c_15_9 => ?_)
      refine lv_iconst (v := (nI 1)) hx hb dX1_strength_18 (by decide) ?_
      refine lv_goto (tgt := 23) hx hb dX1_strength_19 (by decide) ?_
      exact W.iret (v := (nI 1)) hx hb hr (fun t ht hW => ⟨⟨(nI 1), (wa_6, la_7), rfl, ⟨by rw [if_neg (by rw [hw_3]; decide), if_pos hw_8], hm_8⟩, by rw [ht]; exact hP, hD⟩, hS.F ht⟩) hS.2.2 dX1_strength_23
    · skip
      refine lv_if_eq (tgt := 22) hx hb dX1_strength_15 (by decide) (fun c_15_10 => ?_) (fun c_15_10 => absurd c_15_10 (by decide))
      refine lv_iconst (v := (nI 0)) hx hb dX1_strength_22 (by decide) ?_
      exact W.iret (v := (nI 0)) hx hb hr (fun t ht hW => ⟨⟨(nI 0), (wa_6, la_7), rfl, ⟨by rw [if_neg (by rw [hw_3]; decide), if_neg (by rw [hw_8]; decide)], hm_8⟩, by rw [ht]; exact hP, hD⟩, hS.F ht⟩) hS.2.2 dX1_strength_23

theorem kiX1_winsAt_X1 : ∀ w ∈ u_ws RX1 TX1 15, w ∈ wsX1_winsAt := fun w h => List.mem_cons_of_mem _ (List.mem_append_left _ (List.mem_append_right _ h))
set_option maxHeartbeats 4000000 in
set_option maxRecDepth 100000 in
theorem c_F_winsAt_f (l : Launch) (D : va_G) (cI cJ cZ : ClassId) (h0 h1 h2 h3 h4 h5 h6 : Nat) (fR fC : Nat) (ow ot fr to sp : Int64) (sc fu rn dk : Nat) (ds : Int64) (rw ww lw : Nat → Int64) (q : Nat → Bool) (k : Nat) (hn : sc ≤ 10) (hfu : fu = 2 ^ sc - 1) (hq : qMono q sc) (hre : reOK q sc rw) (hme : memoOK q sc (ww, lw)) (qk : k < sc) (sz : Nat) : kMI l yX1_winsAt wsX1_winsAt 13 390 D cI cJ cZ [.ref h0, .int (nI 0), .int (nI (2 ^ k)), .int (nI (3 ^ k))] [(h0, wFi h1 h3 h5 fR fC ow ot fr to sp sc fu rn dk ds), (h1, .inr (3, [.ref h2])), (h2, .inl (cJ, 16, .inr (.inl rw))), (h3, .inr (3, [.ref h4])), (h4, .inl (cJ, 1846, .inr (.inl ww))), (h5, .inr (3, [.ref h6])), (h6, .inl (cJ, 1846, .inr (.inl lw)))] sz (fun r (u : MW) => ((r = nI 1 ∧ gW q sc false k = true) ∨ (r = nI 0 ∧ gW q sc false k = false)) ∧ memoOK q sc u) (fun u : MW => match u with | (wa, la) => [(h0, wFi h1 h3 h5 fR fC ow ot fr to sp sc fu rn dk ds), (h1, .inr (3, [.ref h2])), (h2, .inl (cJ, 16, .inr (.inl rw))), (h3, .inr (3, [.ref h4])), (h4, .inl (cJ, 1846, .inr (.inl wa))), (h5, .inr (3, [.ref h6])), (h6, .inl (cJ, 1846, .inr (.inl la)))]) := by
  refine Met.ofW (cc := cX1_winsAt) (maxL := 4) (ret := (some .boolean)) (by decide) rfl ?_
  intro p e s m args below meth c s₁ B hml hv
  obtain ⟨rfl, hsz, hP, ⟨hK, hN⟩, hD0⟩ := hv
  have hx := B.exec
  have hb := B.bytes
  have hr := B.returns
  have hts := atoms_spec (ws := wsX1_winsAt) B.pre
  have hown : s.vm.findClass RX1 = some m.cls := findClass_of_methodNamed B.named
  have hlocks := B.notSynchronized
  subst hsz
  have hD := hD0.self (sz := s.heap.size)
  generalize hAe : va_A [(h0, wFi h1 h3 h5 fR fC ow ot fr to sp sc fu rn dk ds), (h1, .inr (3, [.ref h2])), (h2, .inl (cJ, 16, .inr (.inl rw))), (h3, .inr (3, [.ref h4])), (h4, .inl (cJ, 1846, .inr (.inl ww))), (h5, .inr (3, [.ref h6])), (h6, .inl (cJ, 1846, .inr (.inl lw)))] s.heap.size = A at hD ⊢
  have hA : ∀ q : Nat, s.heap.size ≤ q → A q := fun q h => by rw [← hAe]; exact Or.inr h
  have hS : va_S A s.heap s.heap [] := va_S.rf
  have hl := lv_entry ([.ref h0, .int (nI 0), .int (nI (2 ^ k)), .int (nI (3 ^ k))]) (n := 4) (Nat.le_of_ble_eq_true rfl)
  rw [lg_entry_eq]
  generalize (lg_sl ([.ref h0, .int (nI 0), .int (nI (2 ^ k)), .int (nI (3 ^ k))]) ++ List.replicate (4 - (lg_sl ([.ref h0, .int (nI 0), .int (nI (2 ^ k)), .int (nI (3 ^ k))])).length) Slot.unset).toArray = ls at hl ⊢
  have hl : lv_has ls 4 [(0, .ref h0), (1, .int (nI 0)), (2, .int (nI (2 ^ k))), (3, .int (nI (3 ^ k)))] := hl
  have hK2 : kK D cI cJ cZ s := ⟨hK, hN⟩
  clear hD0
  have h3n := b3_p1 qk
  have h3m := p3_le hn
  refine lv_iload_n hx hb dX1_winsAt_0 rfl (lv_at hl 1 rfl) ?_
  refine lv_if_eq (tgt := 19) hx hb dX1_winsAt_1 (by decide) (fun c_1_1 => ?_) (fun c_1_1 => absurd c_1_1 (by decide))
  refine lv_aload_n hx hb dX1_winsAt_19 rfl (lv_at hl 0 rfl) ?_
  refine lv_iconst (v := (nI 0)) hx hb dX1_winsAt_20 (by decide) ?_
  refine lv_iload_n hx hb dX1_winsAt_21 rfl (lv_at hl 2 rfl) ?_
  refine lv_iconst (v := (nI 2)) hx hb dX1_winsAt_22 (by decide) ?_
  refine lv_iload_n hx hb dX1_winsAt_23 rfl (lv_at hl 3 rfl) ?_
  refine lv_imul hx hb dX1_winsAt_24 ?_
  refine k_toi (y := nI (2 * (3 ^ k))) (pk_mul _ _) ?_
  refine lv_iconst (v := (nI 1)) hx hb dX1_winsAt_25 (by decide) ?_
  refine lv_aload_n hx hb dX1_winsAt_26 rfl (lv_at hl 0 rfl) ?_
  refine va_get (D := D) (ci := 1) (v := .int (nI sc)) (C := RX1) (T := TX1) (N := 15) hx hb hts kiX1_winsAt_X1 hown hK hP 0 rfl rfl 10 (by decide) (hts (.fieldLink RX1 79 "TwoBanks$Fight" "spotCount" "I") (List.mem_of_getElem? (i := 1) rfl)) (fun _ h9 => h9) rfl dX1_winsAt_27 ?_
  refine lv_iconst (v := (nI 1)) hx hb dX1_winsAt_30 (by decide) ?_
  refine lv_isub hx hb dX1_winsAt_31 ?_
  refine k_toi (y := nI (sc - 1)) (pk_sub (by omega)) ?_
  refine k_calli (wr := []) (w2 := (fun u : MW => match u with | (wa, la) => [(h0, wFi h1 h3 h5 fR fC ow ot fr to sp sc fu rn dk ds), (h1, .inr (3, [.ref h2])), (h2, .inl (cJ, 16, .inr (.inl rw))), (h3, .inr (3, [.ref h4])), (h4, .inl (cJ, 1846, .inr (.inl wa))), (h5, .inr (3, [.ref h6])), (h6, .inl (cJ, 1846, .inr (.inl la)))])) (va_runS (As := [.ref h0, .int (nI 0), .int (nI (2 ^ k)), .int (nI (2 * (3 ^ k))), .int (nI 1), .int (nI (sc - 1))]) (rest := []) ⟨hx, hb, hml, hown, hts⟩ (c_F_holds l D cI cJ cZ (sc - 1) h0 h1 h2 h3 h4 h5 h6 fR fC ow ot fr to sp sc fu rn dk ds rw ww lw q (2 * 3 ^ k) 0 (2 ^ k) true hn hfu hq hre hme mkD_p21.symm (mkD_p22 qk).symm (zs_p2 qk) (b3_p2 qk) s.heap.size) (va_cwS 6 hts gX1_winsAt_X1_holds rfl rfl rfl (by decide +kernel) ⟨by show (sc - 1) + 2 + 1 ≤ 13; omega, by show 8 + (11 + 11) + (30 * (sc - 1) + 60) ≤ 390; omega⟩) (kPS (wc := [(h0, wFi h1 h3 h5 fR fC ow ot fr to sp sc fu rn dk ds), (h1, .inr (3, [.ref h2])), (h2, .inl (cJ, 16, .inr (.inl rw))), (h3, .inr (3, [.ref h4])), (h4, .inl (cJ, 1846, .inr (.inl ww))), (h5, .inr (3, [.ref h6])), (h6, .inl (cJ, 1846, .inr (.inl lw)))]) hK2 hP hD [0, 1, 2, 3, 4, 5, 6] rfl (by decide)) rfl rfl hl.1 rfl (lv_room (Nat.le_of_ble_eq_true rfl)) dX1_winsAt_32 ⟨Nat.le_of_ble_eq_true rfl, Nat.le_of_ble_eq_true rfl⟩) hP hD hS hA [0, 1, 2, 3, 4, 5, 6] [] [0, 1, 2, 3, 4, 5, 6] rfl rfl (by decide) (by decide) (fun ⟨_, _⟩ => rfl) (by decide) (fun r_4 u_4 H locs hw_4 hP hD hS => ?_)
  obtain ⟨wa_2, la_3⟩ := u_4
  have hP : va_P D vwCl [(h0, wFi h1 h3 h5 fR fC ow ot fr to sp sc fu rn dk ds), (h1, .inr (3, [.ref h2])), (h2, .inl (cJ, 16, .inr (.inl rw))), (h3, .inr (3, [.ref h4])), (h4, .inl (cJ, 1846, .inr (.inl wa_2))), (h5, .inr (3, [.ref h6])), (h6, .inl (cJ, 1846, .inr (.inl la_3)))] H := hP
  have hD : va_D A [(h0, wFi h1 h3 h5 fR fC ow ot fr to sp sc fu rn dk ds), (h1, .inr (3, [.ref h2])), (h2, .inl (cJ, 16, .inr (.inl rw))), (h3, .inr (3, [.ref h4])), (h4, .inl (cJ, 1846, .inr (.inl wa_2))), (h5, .inr (3, [.ref h6])), (h6, .inl (cJ, 1846, .inr (.inl la_3)))] := hD
  obtain ⟨hw_4, hm_4⟩ := hw_4
  rcases hw_4 with ⟨rfl, hw_4⟩ | ⟨rfl, hw_4⟩
  · skip
    refine lv_if_ne (tgt := 42) hx hb dX1_winsAt_35 (by decide) (fun c_35_5 => ?_) (fun c_35_5 => absurd c_35_5 (by decide))
    refine lv_iconst (v := (nI 0)) hx hb dX1_winsAt_42 (by decide) ?_
    exact W.zret (v := (nI 0)) hx hb hr (by first | decide +kernel | assumption | exact kz_narr (by first | assumption | omega)) (fun t ht hW => ⟨⟨(nI 0), (wa_2, la_3), rfl, ⟨Or.inr ⟨rfl, gW_f hw_4⟩, hm_4⟩, by rw [ht]; exact hP, hD⟩, hS.F ht⟩) hS.2.2 dX1_winsAt_43
  · skip
    refine lv_if_ne (tgt := 42) hx hb dX1_winsAt_35 (by decide) (fun c_35_6 => absurd c_35_6 (by decide)) (fun c_35_6 => ?_)
    refine lv_iconst (v := (nI 1)) hx hb dX1_winsAt_38 (by decide) ?_
    refine lv_goto (tgt := 43) hx hb dX1_winsAt_39 (by decide) ?_
    exact W.zret (v := (nI 1)) hx hb hr (by first | decide +kernel | assumption | exact kz_narr (by first | assumption | omega)) (fun t ht hW => ⟨⟨(nI 1), (wa_2, la_3), rfl, ⟨Or.inl ⟨rfl, gW_f hw_4⟩, hm_4⟩, by rw [ht]; exact hP, hD⟩, hS.F ht⟩) hS.2.2 dX1_winsAt_43

set_option maxHeartbeats 4000000 in
set_option maxRecDepth 100000 in
theorem c_F_winsAt_t (l : Launch) (D : va_G) (cI cJ cZ : ClassId) (h0 h1 h2 h3 h4 h5 h6 : Nat) (fR fC : Nat) (ow ot fr to sp : Int64) (sc fu rn dk : Nat) (ds : Int64) (rw ww lw : Nat → Int64) (q : Nat → Bool) (k : Nat) (hn : sc ≤ 10) (hfu : fu = 2 ^ sc - 1) (hq : qMono q sc) (hre : reOK q sc rw) (hme : memoOK q sc (ww, lw)) (qk : k < sc) (sz : Nat) : kMI l yX1_winsAt wsX1_winsAt 13 390 D cI cJ cZ [.ref h0, .int (nI 1), .int (nI (2 ^ k)), .int (nI (3 ^ k))] [(h0, wFi h1 h3 h5 fR fC ow ot fr to sp sc fu rn dk ds), (h1, .inr (3, [.ref h2])), (h2, .inl (cJ, 16, .inr (.inl rw))), (h3, .inr (3, [.ref h4])), (h4, .inl (cJ, 1846, .inr (.inl ww))), (h5, .inr (3, [.ref h6])), (h6, .inl (cJ, 1846, .inr (.inl lw)))] sz (fun r (u : MW) => ((r = nI 1 ∧ gW q sc true k = true) ∨ (r = nI 0 ∧ gW q sc true k = false)) ∧ memoOK q sc u) (fun u : MW => match u with | (wa, la) => [(h0, wFi h1 h3 h5 fR fC ow ot fr to sp sc fu rn dk ds), (h1, .inr (3, [.ref h2])), (h2, .inl (cJ, 16, .inr (.inl rw))), (h3, .inr (3, [.ref h4])), (h4, .inl (cJ, 1846, .inr (.inl wa))), (h5, .inr (3, [.ref h6])), (h6, .inl (cJ, 1846, .inr (.inl la)))]) := by
  refine Met.ofW (cc := cX1_winsAt) (maxL := 4) (ret := (some .boolean)) (by decide) rfl ?_
  intro p e s m args below meth c s₁ B hml hv
  obtain ⟨rfl, hsz, hP, ⟨hK, hN⟩, hD0⟩ := hv
  have hx := B.exec
  have hb := B.bytes
  have hr := B.returns
  have hts := atoms_spec (ws := wsX1_winsAt) B.pre
  have hown : s.vm.findClass RX1 = some m.cls := findClass_of_methodNamed B.named
  have hlocks := B.notSynchronized
  subst hsz
  have hD := hD0.self (sz := s.heap.size)
  generalize hAe : va_A [(h0, wFi h1 h3 h5 fR fC ow ot fr to sp sc fu rn dk ds), (h1, .inr (3, [.ref h2])), (h2, .inl (cJ, 16, .inr (.inl rw))), (h3, .inr (3, [.ref h4])), (h4, .inl (cJ, 1846, .inr (.inl ww))), (h5, .inr (3, [.ref h6])), (h6, .inl (cJ, 1846, .inr (.inl lw)))] s.heap.size = A at hD ⊢
  have hA : ∀ q : Nat, s.heap.size ≤ q → A q := fun q h => by rw [← hAe]; exact Or.inr h
  have hS : va_S A s.heap s.heap [] := va_S.rf
  have hl := lv_entry ([.ref h0, .int (nI 1), .int (nI (2 ^ k)), .int (nI (3 ^ k))]) (n := 4) (Nat.le_of_ble_eq_true rfl)
  rw [lg_entry_eq]
  generalize (lg_sl ([.ref h0, .int (nI 1), .int (nI (2 ^ k)), .int (nI (3 ^ k))]) ++ List.replicate (4 - (lg_sl ([.ref h0, .int (nI 1), .int (nI (2 ^ k)), .int (nI (3 ^ k))])).length) Slot.unset).toArray = ls at hl ⊢
  have hl : lv_has ls 4 [(0, .ref h0), (1, .int (nI 1)), (2, .int (nI (2 ^ k))), (3, .int (nI (3 ^ k)))] := hl
  have hK2 : kK D cI cJ cZ s := ⟨hK, hN⟩
  clear hD0
  have h3n := b3_p1 qk
  have h3m := p3_le hn
  refine lv_iload_n hx hb dX1_winsAt_0 rfl (lv_at hl 1 rfl) ?_
  refine lv_if_eq (tgt := 19) hx hb dX1_winsAt_1 (by decide) (fun c_1_1 => absurd c_1_1 (by decide)) (fun c_1_1 => ?_)
  refine lv_aload_n hx hb dX1_winsAt_4 rfl (lv_at hl 0 rfl) ?_
  refine lv_iload_n hx hb dX1_winsAt_5 rfl (lv_at hl 2 rfl) ?_
  refine lv_iconst (v := (nI 0)) hx hb dX1_winsAt_6 (by decide) ?_
  refine lv_iload_n hx hb dX1_winsAt_7 rfl (lv_at hl 3 rfl) ?_
  refine lv_iconst (v := (nI 0)) hx hb dX1_winsAt_8 (by decide) ?_
  refine lv_aload_n hx hb dX1_winsAt_9 rfl (lv_at hl 0 rfl) ?_
  refine va_get (D := D) (ci := 1) (v := .int (nI sc)) (C := RX1) (T := TX1) (N := 15) hx hb hts kiX1_winsAt_X1 hown hK hP 0 rfl rfl 10 (by decide) (hts (.fieldLink RX1 79 "TwoBanks$Fight" "spotCount" "I") (List.mem_of_getElem? (i := 1) rfl)) (fun _ h9 => h9) rfl dX1_winsAt_10 ?_
  refine lv_iconst (v := (nI 1)) hx hb dX1_winsAt_13 (by decide) ?_
  refine lv_isub hx hb dX1_winsAt_14 ?_
  refine k_toi (y := nI (sc - 1)) (pk_sub (by omega)) ?_
  refine k_calli (wr := []) (w2 := (fun u : MW => match u with | (wa, la) => [(h0, wFi h1 h3 h5 fR fC ow ot fr to sp sc fu rn dk ds), (h1, .inr (3, [.ref h2])), (h2, .inl (cJ, 16, .inr (.inl rw))), (h3, .inr (3, [.ref h4])), (h4, .inl (cJ, 1846, .inr (.inl wa))), (h5, .inr (3, [.ref h6])), (h6, .inl (cJ, 1846, .inr (.inl la)))])) (va_runS (As := [.ref h0, .int (nI (2 ^ k)), .int (nI 0), .int (nI (3 ^ k)), .int (nI 0), .int (nI (sc - 1))]) (rest := []) ⟨hx, hb, hml, hown, hts⟩ (c_F_holds l D cI cJ cZ (sc - 1) h0 h1 h2 h3 h4 h5 h6 fR fC ow ot fr to sp sc fu rn dk ds rw ww lw q (3 ^ k) (2 ^ k) 0 false hn hfu hq hre hme (mkD_p11 qk).symm mkD_p12.symm (zs_p1 qk) (b3_p1 qk) s.heap.size) (va_cwS 6 hts gX1_winsAt_X1_holds rfl rfl rfl (by decide +kernel) ⟨by show (sc - 1) + 2 + 1 ≤ 13; omega, by show 8 + (11 + 11) + (30 * (sc - 1) + 60) ≤ 390; omega⟩) (kPS (wc := [(h0, wFi h1 h3 h5 fR fC ow ot fr to sp sc fu rn dk ds), (h1, .inr (3, [.ref h2])), (h2, .inl (cJ, 16, .inr (.inl rw))), (h3, .inr (3, [.ref h4])), (h4, .inl (cJ, 1846, .inr (.inl ww))), (h5, .inr (3, [.ref h6])), (h6, .inl (cJ, 1846, .inr (.inl lw)))]) hK2 hP hD [0, 1, 2, 3, 4, 5, 6] rfl (by decide)) rfl rfl hl.1 rfl (lv_room (Nat.le_of_ble_eq_true rfl)) dX1_winsAt_15 ⟨Nat.le_of_ble_eq_true rfl, Nat.le_of_ble_eq_true rfl⟩) hP hD hS hA [0, 1, 2, 3, 4, 5, 6] [] [0, 1, 2, 3, 4, 5, 6] rfl rfl (by decide) (by decide) (fun ⟨_, _⟩ => rfl) (by decide) (fun r_4 u_4 H locs hw_4 hP hD hS => ?_)
  obtain ⟨wa_2, la_3⟩ := u_4
  have hP : va_P D vwCl [(h0, wFi h1 h3 h5 fR fC ow ot fr to sp sc fu rn dk ds), (h1, .inr (3, [.ref h2])), (h2, .inl (cJ, 16, .inr (.inl rw))), (h3, .inr (3, [.ref h4])), (h4, .inl (cJ, 1846, .inr (.inl wa_2))), (h5, .inr (3, [.ref h6])), (h6, .inl (cJ, 1846, .inr (.inl la_3)))] H := hP
  have hD : va_D A [(h0, wFi h1 h3 h5 fR fC ow ot fr to sp sc fu rn dk ds), (h1, .inr (3, [.ref h2])), (h2, .inl (cJ, 16, .inr (.inl rw))), (h3, .inr (3, [.ref h4])), (h4, .inl (cJ, 1846, .inr (.inl wa_2))), (h5, .inr (3, [.ref h6])), (h6, .inl (cJ, 1846, .inr (.inl la_3)))] := hD
  obtain ⟨hw_4, hm_4⟩ := hw_4
  rcases hw_4 with ⟨rfl, hw_4⟩ | ⟨rfl, hw_4⟩
  · skip
    exact W.zret (v := (nI 1)) hx hb hr (by first | decide +kernel | assumption | exact kz_narr (by first | assumption | omega)) (fun t ht hW => ⟨⟨(nI 1), (wa_2, la_3), rfl, ⟨Or.inl ⟨rfl, gW_t hw_4⟩, hm_4⟩, by rw [ht]; exact hP, hD⟩, hS.F ht⟩) hS.2.2 dX1_winsAt_18
  · skip
    exact W.zret (v := (nI 0)) hx hb hr (by first | decide +kernel | assumption | exact kz_narr (by first | assumption | omega)) (fun t ht hW => ⟨⟨(nI 0), (wa_2, la_3), rfl, ⟨Or.inr ⟨rfl, gW_t hw_4⟩, hm_4⟩, by rw [ht]; exact hP, hD⟩, hS.F ht⟩) hS.2.2 dX1_winsAt_18

theorem kiX1_winningField_X1 : ∀ w ∈ u_ws RX1 TX1 15, w ∈ wsX1_winningField := fun w h => List.mem_cons_of_mem _ (List.mem_append_left _ (List.mem_append_right _ h))
set_option maxHeartbeats 4000000 in
set_option maxRecDepth 100000 in
theorem c_F_wField_f (l : Launch) (D : va_G) (cI cJ cZ : ClassId) (h0 h1 h2 h3 h4 h5 h6 : Nat) (fR fC : Nat) (ow ot fr to sp : Int64) (sc fu rn dk : Nat) (ds : Int64) (rw ww lw : Nat → Int64) (q : Nat → Bool) (i : Int32) (hn : sc ≤ 10) (hfu : fu = 2 ^ sc - 1) (hq : qMono q sc) (hre : reOK q sc rw) (hme : memoOK q sc (ww, lw)) (hsp : sc = fb_ct (bq sp) 36) (sz : Nat) : kMI l yX1_winningField wsX1_winningField 14 413 D cI cJ cZ [.ref h0, .int (nI 0), .int i] [(h0, wFi h1 h3 h5 fR fC ow ot fr to sp sc fu rn dk ds), (h1, .inr (3, [.ref h2])), (h2, .inl (cJ, 16, .inr (.inl rw))), (h3, .inr (3, [.ref h4])), (h4, .inl (cJ, 1846, .inr (.inl ww))), (h5, .inr (3, [.ref h6])), (h6, .inl (cJ, 1846, .inr (.inl lw)))] sz (fun r (u : MW) => wfA sp sc (gW q sc false) i r ∧ memoOK q sc u) (fun u : MW => match u with | (wa, la) => [(h0, wFi h1 h3 h5 fR fC ow ot fr to sp sc fu rn dk ds), (h1, .inr (3, [.ref h2])), (h2, .inl (cJ, 16, .inr (.inl rw))), (h3, .inr (3, [.ref h4])), (h4, .inl (cJ, 1846, .inr (.inl wa))), (h5, .inr (3, [.ref h6])), (h6, .inl (cJ, 1846, .inr (.inl la)))]) := by
  refine Met.ofW (cc := cX1_winningField) (maxL := 7) (ret := (some .int)) (by decide) rfl ?_
  intro p e s m args below meth c s₁ B hml hv
  obtain ⟨rfl, hsz, hP, ⟨hK, hN⟩, hD0⟩ := hv
  have hx := B.exec
  have hb := B.bytes
  have hr := B.returns
  have hts := atoms_spec (ws := wsX1_winningField) B.pre
  have hown : s.vm.findClass RX1 = some m.cls := findClass_of_methodNamed B.named
  have hlocks := B.notSynchronized
  subst hsz
  have hD := hD0.self (sz := s.heap.size)
  generalize hAe : va_A [(h0, wFi h1 h3 h5 fR fC ow ot fr to sp sc fu rn dk ds), (h1, .inr (3, [.ref h2])), (h2, .inl (cJ, 16, .inr (.inl rw))), (h3, .inr (3, [.ref h4])), (h4, .inl (cJ, 1846, .inr (.inl ww))), (h5, .inr (3, [.ref h6])), (h6, .inl (cJ, 1846, .inr (.inl lw)))] s.heap.size = A at hD ⊢
  have hA : ∀ q : Nat, s.heap.size ≤ q → A q := fun q h => by rw [← hAe]; exact Or.inr h
  have hS : va_S A s.heap s.heap [] := va_S.rf
  have hl := lv_entry ([.ref h0, .int (nI 0), .int i]) (n := 7) (Nat.le_of_ble_eq_true rfl)
  rw [lg_entry_eq]
  generalize (lg_sl ([.ref h0, .int (nI 0), .int i]) ++ List.replicate (7 - (lg_sl ([.ref h0, .int (nI 0), .int i])).length) Slot.unset).toArray = ls at hl ⊢
  have hl : lv_has ls 7 [(0, .ref h0), (1, .int (nI 0)), (2, .int i)] := hl
  have hK2 : kK D cI cJ cZ s := ⟨hK, hN⟩
  clear hD0
  have hm36 := fb_ct_le (bq sp) 36
  by_cases hi0 : i < 0
  · skip
    refine lv_iload_n hx hb dX1_winningField_0 rfl (lv_at hl 2 rfl) ?_
    refine lv_istore_n (lv' := [(3, .int i), (0, .ref h0), (1, .int (nI 0)), (2, .int i)]) hx hb dX1_winningField_1 rfl hl (by decide) rfl (fun ls hl => ?_)
    refine lv_iconst (v := (nI 0)) hx hb dX1_winningField_2 (by decide) ?_
    refine lv_istore (lv' := [(4, .int (nI 0)), (3, .int i), (0, .ref h0), (1, .int (nI 0)), (2, .int i)]) hx hb dX1_winningField_3 hl (by decide) rfl (fun ls hl => ?_)
    refine lv_iconst (v := (nI 1)) hx hb dX1_winningField_5 (by decide) ?_
    refine lv_istore (lv' := [(5, .int (nI 1)), (4, .int (nI 0)), (3, .int i), (0, .ref h0), (1, .int (nI 0)), (2, .int i)]) hx hb dX1_winningField_6 hl (by decide) rfl (fun ls hl => ?_)
    refine lv_iconst (v := (nI 0)) hx hb dX1_winningField_8 (by decide) ?_
    refine lv_istore (lv' := [(6, .int (nI 0)), (5, .int (nI 1)), (4, .int (nI 0)), (3, .int i), (0, .ref h0), (1, .int (nI 0)), (2, .int i)]) hx hb dX1_winningField_9 hl (by decide) rfl (fun ls hl => ?_)
    refine lv_iload hx hb dX1_winningField_11 (lv_at hl 0 rfl) ?_
    refine lv_bipush (v := (nI 36)) hx hb dX1_winningField_13 (by decide) ?_
    refine lv_icmp_ge (tgt := 85) hx hb dX1_winningField_15 (by decide) (fun c_15_1 => absurd c_15_1 (by decide)) (fun c_15_1 => ?_)
    refine lv_iload_n hx hb dX1_winningField_18 rfl (lv_at hl 3 rfl) ?_
    refine lv_if_lt (tgt := 85) hx hb dX1_winningField_19 (by decide) (fun c_19_2 => ?_) (fun c_19_2 => absurd hi0 c_19_2)
    refine lv_iconst (v := (-1)) hx hb dX1_winningField_85 (by decide) ?_
    exact W.iret (v := (-1)) hx hb hr (fun t ht hW => ⟨⟨(-1), (ww, lw), rfl, ⟨wfA_neg (by omega) hi0, hme⟩, by rw [ht]; exact hP, hD⟩, hS.F ht⟩) hS.2.2 dX1_winningField_86
  · obtain ⟨ii, hii, rfl⟩ := nI_of hi0
    refine lv_iload_n hx hb dX1_winningField_0 rfl (lv_at hl 2 rfl) ?_
    refine lv_istore_n (lv' := [(3, .int (nI ii)), (0, .ref h0), (1, .int (nI 0)), (2, .int (nI ii))]) hx hb dX1_winningField_1 rfl hl (by decide) rfl (fun ls hl => ?_)
    refine lv_iconst (v := (nI 0)) hx hb dX1_winningField_2 (by decide) ?_
    refine lv_istore (lv' := [(4, .int (nI 0)), (3, .int (nI ii)), (0, .ref h0), (1, .int (nI 0)), (2, .int (nI ii))]) hx hb dX1_winningField_3 hl (by decide) rfl (fun ls hl => ?_)
    refine lv_iconst (v := (nI 1)) hx hb dX1_winningField_5 (by decide) ?_
    refine lv_istore (lv' := [(5, .int (nI 1)), (4, .int (nI 0)), (3, .int (nI ii)), (0, .ref h0), (1, .int (nI 0)), (2, .int (nI ii))]) hx hb dX1_winningField_6 hl (by decide) rfl (fun ls hl => ?_)
    refine lv_iconst (v := (nI 0)) hx hb dX1_winningField_8 (by decide) ?_
    refine lv_istore (lv' := [(6, .int (nI 0)), (5, .int (nI 1)), (4, .int (nI 0)), (3, .int (nI ii)), (0, .ref h0), (1, .int (nI 0)), (2, .int (nI ii))]) hx hb dX1_winningField_9 hl (by decide) rfl (fun ls hl => ?_)
    refine kw_loop (σ := Nat × Nat × Nat × (Nat → Int64) × (Nat → Int64)) (fun zz H locs ls => match zz with | (f, k, left, wa, la) => va_P D vwCl [(h0, wFi h1 h3 h5 fR fC ow ot fr to sp sc fu rn dk ds), (h1, .inr (3, [.ref h2])), (h2, .inl (cJ, 16, .inr (.inl rw))), (h3, .inr (3, [.ref h4])), (h4, .inl (cJ, 1846, .inr (.inl wa))), (h5, .inr (3, [.ref h6])), (h6, .inl (cJ, 1846, .inr (.inl la)))] H ∧ va_D A [(h0, wFi h1 h3 h5 fR fC ow ot fr to sp sc fu rn dk ds), (h1, .inr (3, [.ref h2])), (h2, .inl (cJ, 16, .inr (.inl rw))), (h3, .inr (3, [.ref h4])), (h4, .inl (cJ, 1846, .inr (.inl wa))), (h5, .inr (3, [.ref h6])), (h6, .inl (cJ, 1846, .inr (.inl la)))] ∧ va_S A s.heap H locs ∧ lv_has ls 7 [(0, .ref h0), (1, .int (nI 0)), (3, .int (nI left)), (4, .int (nI k)), (5, .int (nI (3 ^ k))), (6, .int (nI f))] ∧ (f ≤ 36) ∧ (k = fb_ct (bq sp) f) ∧ (left + fb_ct (gW q sc false) k = ii) ∧ (memoOK q sc (wa, la))) (fun zz => match zz with | (f, k, left, wa, la) => 36 - f) (0, 0, ii, ww, lw) ⟨hP, hD, hS, lv_sub hl [4, 5, 3, 2, 1, 0] rfl, by omega, rfl, Nat.add_zero _, hme⟩ ?_
    clear hP hD hS hl
    rintro ⟨f, k, left, wa, la⟩ H locs ls ⟨hP, hD, hS, hl, hf6, hk6, hl6, hm6⟩ ih_11
    have hP : va_P D vwCl [(h0, wFi h1 h3 h5 fR fC ow ot fr to sp sc fu rn dk ds), (h1, .inr (3, [.ref h2])), (h2, .inl (cJ, 16, .inr (.inl rw))), (h3, .inr (3, [.ref h4])), (h4, .inl (cJ, 1846, .inr (.inl wa))), (h5, .inr (3, [.ref h6])), (h6, .inl (cJ, 1846, .inr (.inl la)))] H := hP
    have hD : va_D A [(h0, wFi h1 h3 h5 fR fC ow ot fr to sp sc fu rn dk ds), (h1, .inr (3, [.ref h2])), (h2, .inl (cJ, 16, .inr (.inl rw))), (h3, .inr (3, [.ref h4])), (h4, .inl (cJ, 1846, .inr (.inl wa))), (h5, .inr (3, [.ref h6])), (h6, .inl (cJ, 1846, .inr (.inl la)))] := hD
    have hl : lv_has ls 7 [(0, .ref h0), (1, .int (nI 0)), (3, .int (nI left)), (4, .int (nI k)), (5, .int (nI (3 ^ k))), (6, .int (nI f))] := hl
    have hkb := fb_ct_mono (bq sp) hf6
    have hf6 : f ≤ 36 := hf6
    have hk6 : k = fb_ct (bq sp) f := hk6
    have hl6 : left + fb_ct (gW q sc false) k = ii := hl6
    have hm6 : memoOK q sc (wa, la) := hm6
    refine lv_iload hx hb dX1_winningField_11 (lv_at hl 5 rfl) ?_
    refine lv_bipush (v := (nI 36)) hx hb dX1_winningField_13 (by decide) ?_
    refine kw_icmp_ge (tgt := 85) hx hb dX1_winningField_15 (by decide) (by omega) (by omega) (fun c_15_3 => ?_) (fun c_15_3 => ?_)
    · refine lv_iconst (v := (-1)) hx hb dX1_winningField_85 (by decide) ?_
      exact W.iret (v := (-1)) hx hb hr (fun t ht hW => ⟨⟨(-1), (wa, la), rfl, ⟨wfA_none (by omega) hii (by have e9 : k = sc := (by have := fb_ct_mono (bq sp) hf6; rcases Nat.lt_or_ge f 36 with q9 | q9; omega; rw [show f = 36 by omega] at hk6; omega); have h9 := hl6; rw [e9] at h9; omega), hm6⟩, by rw [ht]; exact hP, hD⟩, hS.F ht⟩) hS.2.2 dX1_winningField_86
    · refine lv_iload_n hx hb dX1_winningField_18 rfl (lv_at hl 2 rfl) ?_
      refine kw_if_lt (tgt := 85) hx hb dX1_winningField_19 (by decide) (by omega) (fun c_19_4 => False.elim c_19_4) (fun c_19_4 => ?_)
      refine lv_iload hx hb dX1_winningField_22 (lv_at hl 3 rfl) ?_
      refine lv_aload_n hx hb dX1_winningField_24 rfl (lv_at hl 0 rfl) ?_
      refine va_get (D := D) (ci := 1) (v := .int (nI sc)) (C := RX1) (T := TX1) (N := 15) hx hb hts kiX1_winningField_X1 hown hK hP 0 rfl rfl 10 (by decide) (hts (.fieldLink RX1 79 "TwoBanks$Fight" "spotCount" "I") (List.mem_of_getElem? (i := 1) rfl)) (fun _ h9 => h9) rfl dX1_winningField_25 ?_
      refine kw_icmp_ge (tgt := 85) hx hb dX1_winningField_28 (by decide) (by omega) (by omega) (fun c_28_5 => ?_) (fun c_28_5 => ?_)
      · refine lv_iconst (v := (-1)) hx hb dX1_winningField_85 (by decide) ?_
        exact W.iret (v := (-1)) hx hb hr (fun t ht hW => ⟨⟨(-1), (wa, la), rfl, ⟨wfA_none (by omega) hii (by have e9 : k = sc := (by have := fb_ct_mono (bq sp) hf6; rcases Nat.lt_or_ge f 36 with q9 | q9; omega; rw [show f = 36 by omega] at hk6; omega); have h9 := hl6; rw [e9] at h9; omega), hm6⟩, by rw [ht]; exact hP, hD⟩, hS.F ht⟩) hS.2.2 dX1_winningField_86
      · refine lv_aload_n hx hb dX1_winningField_31 rfl (lv_at hl 0 rfl) ?_
        refine va_get (D := D) (ci := 1) (v := .long sp) (C := RX1) (T := TX1) (N := 15) hx hb hts kiX1_winningField_X1 hown hK hP 0 rfl rfl 9 (by decide) (hts (.fieldLink RX1 64 "TwoBanks$Fight" "spots" "J") (List.mem_of_getElem? (i := 2) rfl)) (fun _ h9 => h9) rfl dX1_winningField_32 ?_
        refine lv_iload hx hb dX1_winningField_35 (lv_at hl 5 rfl) ?_
        refine k_calll (wr := [(h0, wFi h1 h3 h5 fR fC ow ot fr to sp sc fu rn dk ds), (h1, .inr (3, [.ref h2])), (h2, .inl (cJ, 16, .inr (.inl rw))), (h3, .inr (3, [.ref h4])), (h4, .inl (cJ, 1846, .inr (.inl wa))), (h5, .inr (3, [.ref h6])), (h6, .inl (cJ, 1846, .inr (.inl la)))]) (w2 := (fun _ : Unit => [(h0, wFi h1 h3 h5 fR fC ow ot fr to sp sc fu rn dk ds), (h1, .inr (3, [.ref h2])), (h2, .inl (cJ, 16, .inr (.inl rw))), (h3, .inr (3, [.ref h4])), (h4, .inl (cJ, 1846, .inr (.inl wa))), (h5, .inr (3, [.ref h6])), (h6, .inl (cJ, 1846, .inr (.inl la)))])) (va_runSN (As := [.int (nI f)]) (rest := [.long sp]) ⟨hx, hb, hml, hown, hts⟩ (c_bit l D cI cJ cZ (nI f)  H.size) ⟨va_cnB 1 hts gX1_winningField_X5_bit_n110 rfl rfl rfl (kN_X1_110 hN) (hts (.initialized RX5) (List.mem_of_getElem? (i := 4) rfl)) (by decide +kernel) ⟨Nat.le_of_ble_eq_true rfl, Nat.le_of_ble_eq_true rfl⟩, (hts (.static yX5_bit) (List.mem_of_getElem? (i := 3) rfl)), trivial⟩ (kPS (wc := []) hK2 hP hD [] rfl (by decide)) rfl rfl hl.1 rfl (lv_room (Nat.le_of_ble_eq_true rfl)) dX1_winningField_37 ⟨Nat.le_of_ble_eq_true rfl, Nat.le_of_ble_eq_true rfl⟩) hP hD hS hA [] [0, 1, 2, 3, 4, 5, 6] [0, 1, 2, 3, 4, 5, 6] rfl rfl (by decide) (by decide) (fun _ => rfl) (by decide) (fun r_6 u_6 H locs hw_6 hP hD hS => ?_)
        have hP : va_P D vwCl [(h0, wFi h1 h3 h5 fR fC ow ot fr to sp sc fu rn dk ds), (h1, .inr (3, [.ref h2])), (h2, .inl (cJ, 16, .inr (.inl rw))), (h3, .inr (3, [.ref h4])), (h4, .inl (cJ, 1846, .inr (.inl wa))), (h5, .inr (3, [.ref h6])), (h6, .inl (cJ, 1846, .inr (.inl la)))] H := hP
        have hD : va_D A [(h0, wFi h1 h3 h5 fR fC ow ot fr to sp sc fu rn dk ds), (h1, .inr (3, [.ref h2])), (h2, .inl (cJ, 16, .inr (.inl rw))), (h3, .inr (3, [.ref h4])), (h4, .inl (cJ, 1846, .inr (.inl wa))), (h5, .inr (3, [.ref h6])), (h6, .inl (cJ, 1846, .inr (.inl la)))] := hD
        subst hw_6
        refine lv_land hx hb dX1_winningField_40 ?_
        refine lv_lconst (v := 0) hx hb dX1_winningField_41 (by decide) ?_
        refine W.lcmp hx hb dX1_winningField_42 ?_
        refine kw_cmp_eq (tgt := 79) hx hb dX1_winningField_43 (by decide) (fun c_43_7 => ?_) (fun c_43_7 => ?_)
        · have hb6 := bit_off (by omega) c_43_7
          refine lv_iinc (v := (nI (f + 1))) (lv' := [(6, .int (nI (f + 1))), (0, .ref h0), (1, .int (nI 0)), (3, .int (nI left)), (4, .int (nI k)), (5, .int (nI (3 ^ k)))]) hx hb dX1_winningField_79 hl (k := 5) rfl (k_inc _ 1) (by decide) rfl (fun ls hl => ?_)
          refine lv_goto (tgt := 11) hx hb dX1_winningField_82 (by decide) ?_
          exact ih_11 ((f + 1), k, left, wa, la) _ _ _ (by show 36 - (f + 1) < 36 - f; omega) ⟨hP, hD, hS, lv_sub hl [1, 2, 3, 4, 5, 0] rfl, by omega, (ct_bit hk6).2 hb6, hl6, hm6⟩
        · have hb6 := bit_on (by omega) c_43_7
          refine lv_aload_n hx hb dX1_winningField_46 rfl (lv_at hl 0 rfl) ?_
          refine lv_iload_n hx hb dX1_winningField_47 rfl (lv_at hl 1 rfl) ?_
          refine lv_iconst (v := (nI 1)) hx hb dX1_winningField_48 (by decide) ?_
          refine lv_iload hx hb dX1_winningField_49 (lv_at hl 3 rfl) ?_
          refine lv_ishl hx hb dX1_winningField_51 ?_
          refine k_toi (y := nI (2 ^ k)) (kf_shl1 (by have := fb_ct_mono (bq sp) hf6; omega)) ?_
          refine lv_iload hx hb dX1_winningField_52 (lv_at hl 4 rfl) ?_
          refine k_calli (wr := []) (w2 := (fun u : MW => match u with | (wa, la) => [(h0, wFi h1 h3 h5 fR fC ow ot fr to sp sc fu rn dk ds), (h1, .inr (3, [.ref h2])), (h2, .inl (cJ, 16, .inr (.inl rw))), (h3, .inr (3, [.ref h4])), (h4, .inl (cJ, 1846, .inr (.inl wa))), (h5, .inr (3, [.ref h6])), (h6, .inl (cJ, 1846, .inr (.inl la)))])) (va_runV (As := [.int (nI 0), .int (nI (2 ^ k)), .int (nI (3 ^ k))]) (rest := []) ⟨hx, hb, hml, hown, hts⟩ (c_F_winsAt_f l D cI cJ cZ h0 h1 h2 h3 h4 h5 h6 fR fC ow ot fr to sp sc fu rn dk ds rw wa la (by omega) k hn hfu hq hre hm6 (by omega)  H.size) (cwV 3 hts gX1_winningField_X1_winsAt rfl rfl rfl (by decide +kernel) ⟨Nat.le_of_ble_eq_true rfl, Nat.le_of_ble_eq_true rfl⟩) (kPV (ci := 1) (q0 := 0) (wc := [(h0, wFi h1 h3 h5 fR fC ow ot fr to sp sc fu rn dk ds), (h1, .inr (3, [.ref h2])), (h2, .inl (cJ, 16, .inr (.inl rw))), (h3, .inr (3, [.ref h4])), (h4, .inl (cJ, 1846, .inr (.inl wa))), (h5, .inr (3, [.ref h6])), (h6, .inl (cJ, 1846, .inr (.inl la)))]) hK2 hP hD [0, 1, 2, 3, 4, 5, 6] rfl (by decide) rfl rfl) rfl rfl hl.1 rfl (lv_room (Nat.le_of_ble_eq_true rfl)) dX1_winningField_54 ⟨Nat.le_of_ble_eq_true rfl, Nat.le_of_ble_eq_true rfl⟩) hP hD hS hA [0, 1, 2, 3, 4, 5, 6] [] [0, 1, 2, 3, 4, 5, 6] rfl rfl (by decide) (by decide) (fun ⟨_, _⟩ => rfl) (by decide) (fun r_10 u_10 H locs hw_10 hP hD hS => ?_)
          obtain ⟨wa_8, la_9⟩ := u_10
          have hP : va_P D vwCl [(h0, wFi h1 h3 h5 fR fC ow ot fr to sp sc fu rn dk ds), (h1, .inr (3, [.ref h2])), (h2, .inl (cJ, 16, .inr (.inl rw))), (h3, .inr (3, [.ref h4])), (h4, .inl (cJ, 1846, .inr (.inl wa_8))), (h5, .inr (3, [.ref h6])), (h6, .inl (cJ, 1846, .inr (.inl la_9)))] H := hP
          have hD : va_D A [(h0, wFi h1 h3 h5 fR fC ow ot fr to sp sc fu rn dk ds), (h1, .inr (3, [.ref h2])), (h2, .inl (cJ, 16, .inr (.inl rw))), (h3, .inr (3, [.ref h4])), (h4, .inl (cJ, 1846, .inr (.inl wa_8))), (h5, .inr (3, [.ref h6])), (h6, .inl (cJ, 1846, .inr (.inl la_9)))] := hD
          obtain ⟨hw_10, hm_10⟩ := hw_10
          rcases hw_10 with ⟨rfl, hw_10⟩ | ⟨rfl, hw_10⟩
          · skip
            refine lv_if_eq (tgt := 70) hx hb dX1_winningField_57 (by decide) (fun c_57_11 => absurd c_57_11 (by decide)) (fun c_57_11 => ?_)
            refine lv_iload_n hx hb dX1_winningField_60 rfl (lv_at hl 2 rfl) ?_
            refine kw_if_ne (tgt := 67) hx hb dX1_winningField_61 (by decide) (by omega) (fun c_61_12 => ?_) (fun c_61_12 => ?_)
            · refine lv_iinc (v := (nI (left - 1))) (lv' := [(3, .int (nI (left - 1))), (0, .ref h0), (1, .int (nI 0)), (4, .int (nI k)), (5, .int (nI (3 ^ k))), (6, .int (nI f))]) hx hb dX1_winningField_67 hl (k := 2) rfl (by have := pk_m1 (left - 1); rw [show left - 1 + 1 = left by omega] at this; exact this) (by decide) rfl (fun ls hl => ?_)
              refine lv_iinc (v := (nI (k + 1))) (lv' := [(4, .int (nI (k + 1))), (3, .int (nI (left - 1))), (0, .ref h0), (1, .int (nI 0)), (5, .int (nI (3 ^ k))), (6, .int (nI f))]) hx hb dX1_winningField_70 hl (k := 3) rfl (k_inc _ 1) (by decide) rfl (fun ls hl => ?_)
              refine lv_iload hx hb dX1_winningField_73 (lv_at hl 4 rfl) ?_
              refine lv_iconst (v := (nI 3)) hx hb dX1_winningField_75 (by decide) ?_
              refine lv_imul hx hb dX1_winningField_76 ?_
              refine k_toi (y := nI ((3 ^ k) * 3)) (pk_mul _ _) ?_
              refine lv_istore (lv' := [(5, .int (nI ((3 ^ k) * 3))), (4, .int (nI (k + 1))), (3, .int (nI (left - 1))), (0, .ref h0), (1, .int (nI 0)), (6, .int (nI f))]) hx hb dX1_winningField_77 hl (by decide) rfl (fun ls hl => ?_)
              refine lv_iinc (v := (nI (f + 1))) (lv' := [(6, .int (nI (f + 1))), (5, .int (nI ((3 ^ k) * 3))), (4, .int (nI (k + 1))), (3, .int (nI (left - 1))), (0, .ref h0), (1, .int (nI 0))]) hx hb dX1_winningField_79 hl (k := 5) rfl (k_inc _ 1) (by decide) rfl (fun ls hl => ?_)
              refine lv_goto (tgt := 11) hx hb dX1_winningField_82 (by decide) ?_
              exact ih_11 ((f + 1), (k + 1), (left - 1), wa_8, la_9) _ _ _ (by show 36 - (f + 1) < 36 - f; omega) ⟨hP, hD, hS, lv_sub hl [4, 5, 3, 2, 1, 0] rfl, by omega, (ct_bit hk6).1 hb6, by rw [fb_ct_succ, hw_10, if_pos rfl]; omega, hm_10⟩
            · refine lv_iload hx hb dX1_winningField_64 (lv_at hl 5 rfl) ?_
              exact W.iret (v := (nI f)) hx hb hr (fun t ht hW => ⟨⟨(nI f), (wa_8, la_9), rfl, ⟨Or.inl ⟨f, rfl, by omega, hb6, by rw [← hk6]; exact hw_10, by rw [← hk6, ← hl6]; congr 1; omega⟩, hm_10⟩, by rw [ht]; exact hP, hD⟩, hS.F ht⟩) hS.2.2 dX1_winningField_66
          · skip
            refine lv_if_eq (tgt := 70) hx hb dX1_winningField_57 (by decide) (fun c_57_13 => ?_) (fun c_57_13 => absurd c_57_13 (by decide))
            refine lv_iinc (v := (nI (k + 1))) (lv' := [(4, .int (nI (k + 1))), (0, .ref h0), (1, .int (nI 0)), (3, .int (nI left)), (5, .int (nI (3 ^ k))), (6, .int (nI f))]) hx hb dX1_winningField_70 hl (k := 3) rfl (k_inc _ 1) (by decide) rfl (fun ls hl => ?_)
            refine lv_iload hx hb dX1_winningField_73 (lv_at hl 4 rfl) ?_
            refine lv_iconst (v := (nI 3)) hx hb dX1_winningField_75 (by decide) ?_
            refine lv_imul hx hb dX1_winningField_76 ?_
            refine k_toi (y := nI ((3 ^ k) * 3)) (pk_mul _ _) ?_
            refine lv_istore (lv' := [(5, .int (nI ((3 ^ k) * 3))), (4, .int (nI (k + 1))), (0, .ref h0), (1, .int (nI 0)), (3, .int (nI left)), (6, .int (nI f))]) hx hb dX1_winningField_77 hl (by decide) rfl (fun ls hl => ?_)
            refine lv_iinc (v := (nI (f + 1))) (lv' := [(6, .int (nI (f + 1))), (5, .int (nI ((3 ^ k) * 3))), (4, .int (nI (k + 1))), (0, .ref h0), (1, .int (nI 0)), (3, .int (nI left))]) hx hb dX1_winningField_79 hl (k := 5) rfl (k_inc _ 1) (by decide) rfl (fun ls hl => ?_)
            refine lv_goto (tgt := 11) hx hb dX1_winningField_82 (by decide) ?_
            exact ih_11 ((f + 1), (k + 1), left, wa_8, la_9) _ _ _ (by show 36 - (f + 1) < 36 - f; omega) ⟨hP, hD, hS, lv_sub hl [3, 4, 5, 2, 1, 0] rfl, by omega, (ct_bit hk6).1 hb6, by rw [fb_ct_succ, hw_10, if_neg (by decide)]; omega, hm_10⟩

set_option maxHeartbeats 4000000 in
set_option maxRecDepth 100000 in
theorem c_F_wField_t (l : Launch) (D : va_G) (cI cJ cZ : ClassId) (h0 h1 h2 h3 h4 h5 h6 : Nat) (fR fC : Nat) (ow ot fr to sp : Int64) (sc fu rn dk : Nat) (ds : Int64) (rw ww lw : Nat → Int64) (q : Nat → Bool) (i : Int32) (hn : sc ≤ 10) (hfu : fu = 2 ^ sc - 1) (hq : qMono q sc) (hre : reOK q sc rw) (hme : memoOK q sc (ww, lw)) (hsp : sc = fb_ct (bq sp) 36) (sz : Nat) : kMI l yX1_winningField wsX1_winningField 14 413 D cI cJ cZ [.ref h0, .int (nI 1), .int i] [(h0, wFi h1 h3 h5 fR fC ow ot fr to sp sc fu rn dk ds), (h1, .inr (3, [.ref h2])), (h2, .inl (cJ, 16, .inr (.inl rw))), (h3, .inr (3, [.ref h4])), (h4, .inl (cJ, 1846, .inr (.inl ww))), (h5, .inr (3, [.ref h6])), (h6, .inl (cJ, 1846, .inr (.inl lw)))] sz (fun r (u : MW) => wfA sp sc (gW q sc true) i r ∧ memoOK q sc u) (fun u : MW => match u with | (wa, la) => [(h0, wFi h1 h3 h5 fR fC ow ot fr to sp sc fu rn dk ds), (h1, .inr (3, [.ref h2])), (h2, .inl (cJ, 16, .inr (.inl rw))), (h3, .inr (3, [.ref h4])), (h4, .inl (cJ, 1846, .inr (.inl wa))), (h5, .inr (3, [.ref h6])), (h6, .inl (cJ, 1846, .inr (.inl la)))]) := by
  refine Met.ofW (cc := cX1_winningField) (maxL := 7) (ret := (some .int)) (by decide) rfl ?_
  intro p e s m args below meth c s₁ B hml hv
  obtain ⟨rfl, hsz, hP, ⟨hK, hN⟩, hD0⟩ := hv
  have hx := B.exec
  have hb := B.bytes
  have hr := B.returns
  have hts := atoms_spec (ws := wsX1_winningField) B.pre
  have hown : s.vm.findClass RX1 = some m.cls := findClass_of_methodNamed B.named
  have hlocks := B.notSynchronized
  subst hsz
  have hD := hD0.self (sz := s.heap.size)
  generalize hAe : va_A [(h0, wFi h1 h3 h5 fR fC ow ot fr to sp sc fu rn dk ds), (h1, .inr (3, [.ref h2])), (h2, .inl (cJ, 16, .inr (.inl rw))), (h3, .inr (3, [.ref h4])), (h4, .inl (cJ, 1846, .inr (.inl ww))), (h5, .inr (3, [.ref h6])), (h6, .inl (cJ, 1846, .inr (.inl lw)))] s.heap.size = A at hD ⊢
  have hA : ∀ q : Nat, s.heap.size ≤ q → A q := fun q h => by rw [← hAe]; exact Or.inr h
  have hS : va_S A s.heap s.heap [] := va_S.rf
  have hl := lv_entry ([.ref h0, .int (nI 1), .int i]) (n := 7) (Nat.le_of_ble_eq_true rfl)
  rw [lg_entry_eq]
  generalize (lg_sl ([.ref h0, .int (nI 1), .int i]) ++ List.replicate (7 - (lg_sl ([.ref h0, .int (nI 1), .int i])).length) Slot.unset).toArray = ls at hl ⊢
  have hl : lv_has ls 7 [(0, .ref h0), (1, .int (nI 1)), (2, .int i)] := hl
  have hK2 : kK D cI cJ cZ s := ⟨hK, hN⟩
  clear hD0
  have hm36 := fb_ct_le (bq sp) 36
  by_cases hi0 : i < 0
  · skip
    refine lv_iload_n hx hb dX1_winningField_0 rfl (lv_at hl 2 rfl) ?_
    refine lv_istore_n (lv' := [(3, .int i), (0, .ref h0), (1, .int (nI 1)), (2, .int i)]) hx hb dX1_winningField_1 rfl hl (by decide) rfl (fun ls hl => ?_)
    refine lv_iconst (v := (nI 0)) hx hb dX1_winningField_2 (by decide) ?_
    refine lv_istore (lv' := [(4, .int (nI 0)), (3, .int i), (0, .ref h0), (1, .int (nI 1)), (2, .int i)]) hx hb dX1_winningField_3 hl (by decide) rfl (fun ls hl => ?_)
    refine lv_iconst (v := (nI 1)) hx hb dX1_winningField_5 (by decide) ?_
    refine lv_istore (lv' := [(5, .int (nI 1)), (4, .int (nI 0)), (3, .int i), (0, .ref h0), (1, .int (nI 1)), (2, .int i)]) hx hb dX1_winningField_6 hl (by decide) rfl (fun ls hl => ?_)
    refine lv_iconst (v := (nI 0)) hx hb dX1_winningField_8 (by decide) ?_
    refine lv_istore (lv' := [(6, .int (nI 0)), (5, .int (nI 1)), (4, .int (nI 0)), (3, .int i), (0, .ref h0), (1, .int (nI 1)), (2, .int i)]) hx hb dX1_winningField_9 hl (by decide) rfl (fun ls hl => ?_)
    refine lv_iload hx hb dX1_winningField_11 (lv_at hl 0 rfl) ?_
    refine lv_bipush (v := (nI 36)) hx hb dX1_winningField_13 (by decide) ?_
    refine lv_icmp_ge (tgt := 85) hx hb dX1_winningField_15 (by decide) (fun c_15_1 => absurd c_15_1 (by decide)) (fun c_15_1 => ?_)
    refine lv_iload_n hx hb dX1_winningField_18 rfl (lv_at hl 3 rfl) ?_
    refine lv_if_lt (tgt := 85) hx hb dX1_winningField_19 (by decide) (fun c_19_2 => ?_) (fun c_19_2 => absurd hi0 c_19_2)
    refine lv_iconst (v := (-1)) hx hb dX1_winningField_85 (by decide) ?_
    exact W.iret (v := (-1)) hx hb hr (fun t ht hW => ⟨⟨(-1), (ww, lw), rfl, ⟨wfA_neg (by omega) hi0, hme⟩, by rw [ht]; exact hP, hD⟩, hS.F ht⟩) hS.2.2 dX1_winningField_86
  · obtain ⟨ii, hii, rfl⟩ := nI_of hi0
    refine lv_iload_n hx hb dX1_winningField_0 rfl (lv_at hl 2 rfl) ?_
    refine lv_istore_n (lv' := [(3, .int (nI ii)), (0, .ref h0), (1, .int (nI 1)), (2, .int (nI ii))]) hx hb dX1_winningField_1 rfl hl (by decide) rfl (fun ls hl => ?_)
    refine lv_iconst (v := (nI 0)) hx hb dX1_winningField_2 (by decide) ?_
    refine lv_istore (lv' := [(4, .int (nI 0)), (3, .int (nI ii)), (0, .ref h0), (1, .int (nI 1)), (2, .int (nI ii))]) hx hb dX1_winningField_3 hl (by decide) rfl (fun ls hl => ?_)
    refine lv_iconst (v := (nI 1)) hx hb dX1_winningField_5 (by decide) ?_
    refine lv_istore (lv' := [(5, .int (nI 1)), (4, .int (nI 0)), (3, .int (nI ii)), (0, .ref h0), (1, .int (nI 1)), (2, .int (nI ii))]) hx hb dX1_winningField_6 hl (by decide) rfl (fun ls hl => ?_)
    refine lv_iconst (v := (nI 0)) hx hb dX1_winningField_8 (by decide) ?_
    refine lv_istore (lv' := [(6, .int (nI 0)), (5, .int (nI 1)), (4, .int (nI 0)), (3, .int (nI ii)), (0, .ref h0), (1, .int (nI 1)), (2, .int (nI ii))]) hx hb dX1_winningField_9 hl (by decide) rfl (fun ls hl => ?_)
    refine kw_loop (σ := Nat × Nat × Nat × (Nat → Int64) × (Nat → Int64)) (fun zz H locs ls => match zz with | (f, k, left, wa, la) => va_P D vwCl [(h0, wFi h1 h3 h5 fR fC ow ot fr to sp sc fu rn dk ds), (h1, .inr (3, [.ref h2])), (h2, .inl (cJ, 16, .inr (.inl rw))), (h3, .inr (3, [.ref h4])), (h4, .inl (cJ, 1846, .inr (.inl wa))), (h5, .inr (3, [.ref h6])), (h6, .inl (cJ, 1846, .inr (.inl la)))] H ∧ va_D A [(h0, wFi h1 h3 h5 fR fC ow ot fr to sp sc fu rn dk ds), (h1, .inr (3, [.ref h2])), (h2, .inl (cJ, 16, .inr (.inl rw))), (h3, .inr (3, [.ref h4])), (h4, .inl (cJ, 1846, .inr (.inl wa))), (h5, .inr (3, [.ref h6])), (h6, .inl (cJ, 1846, .inr (.inl la)))] ∧ va_S A s.heap H locs ∧ lv_has ls 7 [(0, .ref h0), (1, .int (nI 1)), (3, .int (nI left)), (4, .int (nI k)), (5, .int (nI (3 ^ k))), (6, .int (nI f))] ∧ (f ≤ 36) ∧ (k = fb_ct (bq sp) f) ∧ (left + fb_ct (gW q sc true) k = ii) ∧ (memoOK q sc (wa, la))) (fun zz => match zz with | (f, k, left, wa, la) => 36 - f) (0, 0, ii, ww, lw) ⟨hP, hD, hS, lv_sub hl [4, 5, 3, 2, 1, 0] rfl, by omega, rfl, Nat.add_zero _, hme⟩ ?_
    clear hP hD hS hl
    rintro ⟨f, k, left, wa, la⟩ H locs ls ⟨hP, hD, hS, hl, hf6, hk6, hl6, hm6⟩ ih_11
    have hP : va_P D vwCl [(h0, wFi h1 h3 h5 fR fC ow ot fr to sp sc fu rn dk ds), (h1, .inr (3, [.ref h2])), (h2, .inl (cJ, 16, .inr (.inl rw))), (h3, .inr (3, [.ref h4])), (h4, .inl (cJ, 1846, .inr (.inl wa))), (h5, .inr (3, [.ref h6])), (h6, .inl (cJ, 1846, .inr (.inl la)))] H := hP
    have hD : va_D A [(h0, wFi h1 h3 h5 fR fC ow ot fr to sp sc fu rn dk ds), (h1, .inr (3, [.ref h2])), (h2, .inl (cJ, 16, .inr (.inl rw))), (h3, .inr (3, [.ref h4])), (h4, .inl (cJ, 1846, .inr (.inl wa))), (h5, .inr (3, [.ref h6])), (h6, .inl (cJ, 1846, .inr (.inl la)))] := hD
    have hl : lv_has ls 7 [(0, .ref h0), (1, .int (nI 1)), (3, .int (nI left)), (4, .int (nI k)), (5, .int (nI (3 ^ k))), (6, .int (nI f))] := hl
    have hkb := fb_ct_mono (bq sp) hf6
    have hf6 : f ≤ 36 := hf6
    have hk6 : k = fb_ct (bq sp) f := hk6
    have hl6 : left + fb_ct (gW q sc true) k = ii := hl6
    have hm6 : memoOK q sc (wa, la) := hm6
    refine lv_iload hx hb dX1_winningField_11 (lv_at hl 5 rfl) ?_
    refine lv_bipush (v := (nI 36)) hx hb dX1_winningField_13 (by decide) ?_
    refine kw_icmp_ge (tgt := 85) hx hb dX1_winningField_15 (by decide) (by omega) (by omega) (fun c_15_3 => ?_) (fun c_15_3 => ?_)
    · refine lv_iconst (v := (-1)) hx hb dX1_winningField_85 (by decide) ?_
      exact W.iret (v := (-1)) hx hb hr (fun t ht hW => ⟨⟨(-1), (wa, la), rfl, ⟨wfA_none (by omega) hii (by have e9 : k = sc := (by have := fb_ct_mono (bq sp) hf6; rcases Nat.lt_or_ge f 36 with q9 | q9; omega; rw [show f = 36 by omega] at hk6; omega); have h9 := hl6; rw [e9] at h9; omega), hm6⟩, by rw [ht]; exact hP, hD⟩, hS.F ht⟩) hS.2.2 dX1_winningField_86
    · refine lv_iload_n hx hb dX1_winningField_18 rfl (lv_at hl 2 rfl) ?_
      refine kw_if_lt (tgt := 85) hx hb dX1_winningField_19 (by decide) (by omega) (fun c_19_4 => False.elim c_19_4) (fun c_19_4 => ?_)
      refine lv_iload hx hb dX1_winningField_22 (lv_at hl 3 rfl) ?_
      refine lv_aload_n hx hb dX1_winningField_24 rfl (lv_at hl 0 rfl) ?_
      refine va_get (D := D) (ci := 1) (v := .int (nI sc)) (C := RX1) (T := TX1) (N := 15) hx hb hts kiX1_winningField_X1 hown hK hP 0 rfl rfl 10 (by decide) (hts (.fieldLink RX1 79 "TwoBanks$Fight" "spotCount" "I") (List.mem_of_getElem? (i := 1) rfl)) (fun _ h9 => h9) rfl dX1_winningField_25 ?_
      refine kw_icmp_ge (tgt := 85) hx hb dX1_winningField_28 (by decide) (by omega) (by omega) (fun c_28_5 => ?_) (fun c_28_5 => ?_)
      · refine lv_iconst (v := (-1)) hx hb dX1_winningField_85 (by decide) ?_
        exact W.iret (v := (-1)) hx hb hr (fun t ht hW => ⟨⟨(-1), (wa, la), rfl, ⟨wfA_none (by omega) hii (by have e9 : k = sc := (by have := fb_ct_mono (bq sp) hf6; rcases Nat.lt_or_ge f 36 with q9 | q9; omega; rw [show f = 36 by omega] at hk6; omega); have h9 := hl6; rw [e9] at h9; omega), hm6⟩, by rw [ht]; exact hP, hD⟩, hS.F ht⟩) hS.2.2 dX1_winningField_86
      · refine lv_aload_n hx hb dX1_winningField_31 rfl (lv_at hl 0 rfl) ?_
        refine va_get (D := D) (ci := 1) (v := .long sp) (C := RX1) (T := TX1) (N := 15) hx hb hts kiX1_winningField_X1 hown hK hP 0 rfl rfl 9 (by decide) (hts (.fieldLink RX1 64 "TwoBanks$Fight" "spots" "J") (List.mem_of_getElem? (i := 2) rfl)) (fun _ h9 => h9) rfl dX1_winningField_32 ?_
        refine lv_iload hx hb dX1_winningField_35 (lv_at hl 5 rfl) ?_
        refine k_calll (wr := [(h0, wFi h1 h3 h5 fR fC ow ot fr to sp sc fu rn dk ds), (h1, .inr (3, [.ref h2])), (h2, .inl (cJ, 16, .inr (.inl rw))), (h3, .inr (3, [.ref h4])), (h4, .inl (cJ, 1846, .inr (.inl wa))), (h5, .inr (3, [.ref h6])), (h6, .inl (cJ, 1846, .inr (.inl la)))]) (w2 := (fun _ : Unit => [(h0, wFi h1 h3 h5 fR fC ow ot fr to sp sc fu rn dk ds), (h1, .inr (3, [.ref h2])), (h2, .inl (cJ, 16, .inr (.inl rw))), (h3, .inr (3, [.ref h4])), (h4, .inl (cJ, 1846, .inr (.inl wa))), (h5, .inr (3, [.ref h6])), (h6, .inl (cJ, 1846, .inr (.inl la)))])) (va_runSN (As := [.int (nI f)]) (rest := [.long sp]) ⟨hx, hb, hml, hown, hts⟩ (c_bit l D cI cJ cZ (nI f)  H.size) ⟨va_cnB 1 hts gX1_winningField_X5_bit_n110 rfl rfl rfl (kN_X1_110 hN) (hts (.initialized RX5) (List.mem_of_getElem? (i := 4) rfl)) (by decide +kernel) ⟨Nat.le_of_ble_eq_true rfl, Nat.le_of_ble_eq_true rfl⟩, (hts (.static yX5_bit) (List.mem_of_getElem? (i := 3) rfl)), trivial⟩ (kPS (wc := []) hK2 hP hD [] rfl (by decide)) rfl rfl hl.1 rfl (lv_room (Nat.le_of_ble_eq_true rfl)) dX1_winningField_37 ⟨Nat.le_of_ble_eq_true rfl, Nat.le_of_ble_eq_true rfl⟩) hP hD hS hA [] [0, 1, 2, 3, 4, 5, 6] [0, 1, 2, 3, 4, 5, 6] rfl rfl (by decide) (by decide) (fun _ => rfl) (by decide) (fun r_6 u_6 H locs hw_6 hP hD hS => ?_)
        have hP : va_P D vwCl [(h0, wFi h1 h3 h5 fR fC ow ot fr to sp sc fu rn dk ds), (h1, .inr (3, [.ref h2])), (h2, .inl (cJ, 16, .inr (.inl rw))), (h3, .inr (3, [.ref h4])), (h4, .inl (cJ, 1846, .inr (.inl wa))), (h5, .inr (3, [.ref h6])), (h6, .inl (cJ, 1846, .inr (.inl la)))] H := hP
        have hD : va_D A [(h0, wFi h1 h3 h5 fR fC ow ot fr to sp sc fu rn dk ds), (h1, .inr (3, [.ref h2])), (h2, .inl (cJ, 16, .inr (.inl rw))), (h3, .inr (3, [.ref h4])), (h4, .inl (cJ, 1846, .inr (.inl wa))), (h5, .inr (3, [.ref h6])), (h6, .inl (cJ, 1846, .inr (.inl la)))] := hD
        subst hw_6
        refine lv_land hx hb dX1_winningField_40 ?_
        refine lv_lconst (v := 0) hx hb dX1_winningField_41 (by decide) ?_
        refine W.lcmp hx hb dX1_winningField_42 ?_
        refine kw_cmp_eq (tgt := 79) hx hb dX1_winningField_43 (by decide) (fun c_43_7 => ?_) (fun c_43_7 => ?_)
        · have hb6 := bit_off (by omega) c_43_7
          refine lv_iinc (v := (nI (f + 1))) (lv' := [(6, .int (nI (f + 1))), (0, .ref h0), (1, .int (nI 1)), (3, .int (nI left)), (4, .int (nI k)), (5, .int (nI (3 ^ k)))]) hx hb dX1_winningField_79 hl (k := 5) rfl (k_inc _ 1) (by decide) rfl (fun ls hl => ?_)
          refine lv_goto (tgt := 11) hx hb dX1_winningField_82 (by decide) ?_
          exact ih_11 ((f + 1), k, left, wa, la) _ _ _ (by show 36 - (f + 1) < 36 - f; omega) ⟨hP, hD, hS, lv_sub hl [1, 2, 3, 4, 5, 0] rfl, by omega, (ct_bit hk6).2 hb6, hl6, hm6⟩
        · have hb6 := bit_on (by omega) c_43_7
          refine lv_aload_n hx hb dX1_winningField_46 rfl (lv_at hl 0 rfl) ?_
          refine lv_iload_n hx hb dX1_winningField_47 rfl (lv_at hl 1 rfl) ?_
          refine lv_iconst (v := (nI 1)) hx hb dX1_winningField_48 (by decide) ?_
          refine lv_iload hx hb dX1_winningField_49 (lv_at hl 3 rfl) ?_
          refine lv_ishl hx hb dX1_winningField_51 ?_
          refine k_toi (y := nI (2 ^ k)) (kf_shl1 (by have := fb_ct_mono (bq sp) hf6; omega)) ?_
          refine lv_iload hx hb dX1_winningField_52 (lv_at hl 4 rfl) ?_
          refine k_calli (wr := []) (w2 := (fun u : MW => match u with | (wa, la) => [(h0, wFi h1 h3 h5 fR fC ow ot fr to sp sc fu rn dk ds), (h1, .inr (3, [.ref h2])), (h2, .inl (cJ, 16, .inr (.inl rw))), (h3, .inr (3, [.ref h4])), (h4, .inl (cJ, 1846, .inr (.inl wa))), (h5, .inr (3, [.ref h6])), (h6, .inl (cJ, 1846, .inr (.inl la)))])) (va_runV (As := [.int (nI 1), .int (nI (2 ^ k)), .int (nI (3 ^ k))]) (rest := []) ⟨hx, hb, hml, hown, hts⟩ (c_F_winsAt_t l D cI cJ cZ h0 h1 h2 h3 h4 h5 h6 fR fC ow ot fr to sp sc fu rn dk ds rw wa la (by omega) k hn hfu hq hre hm6 (by omega)  H.size) (cwV 3 hts gX1_winningField_X1_winsAt rfl rfl rfl (by decide +kernel) ⟨Nat.le_of_ble_eq_true rfl, Nat.le_of_ble_eq_true rfl⟩) (kPV (ci := 1) (q0 := 0) (wc := [(h0, wFi h1 h3 h5 fR fC ow ot fr to sp sc fu rn dk ds), (h1, .inr (3, [.ref h2])), (h2, .inl (cJ, 16, .inr (.inl rw))), (h3, .inr (3, [.ref h4])), (h4, .inl (cJ, 1846, .inr (.inl wa))), (h5, .inr (3, [.ref h6])), (h6, .inl (cJ, 1846, .inr (.inl la)))]) hK2 hP hD [0, 1, 2, 3, 4, 5, 6] rfl (by decide) rfl rfl) rfl rfl hl.1 rfl (lv_room (Nat.le_of_ble_eq_true rfl)) dX1_winningField_54 ⟨Nat.le_of_ble_eq_true rfl, Nat.le_of_ble_eq_true rfl⟩) hP hD hS hA [0, 1, 2, 3, 4, 5, 6] [] [0, 1, 2, 3, 4, 5, 6] rfl rfl (by decide) (by decide) (fun ⟨_, _⟩ => rfl) (by decide) (fun r_10 u_10 H locs hw_10 hP hD hS => ?_)
          obtain ⟨wa_8, la_9⟩ := u_10
          have hP : va_P D vwCl [(h0, wFi h1 h3 h5 fR fC ow ot fr to sp sc fu rn dk ds), (h1, .inr (3, [.ref h2])), (h2, .inl (cJ, 16, .inr (.inl rw))), (h3, .inr (3, [.ref h4])), (h4, .inl (cJ, 1846, .inr (.inl wa_8))), (h5, .inr (3, [.ref h6])), (h6, .inl (cJ, 1846, .inr (.inl la_9)))] H := hP
          have hD : va_D A [(h0, wFi h1 h3 h5 fR fC ow ot fr to sp sc fu rn dk ds), (h1, .inr (3, [.ref h2])), (h2, .inl (cJ, 16, .inr (.inl rw))), (h3, .inr (3, [.ref h4])), (h4, .inl (cJ, 1846, .inr (.inl wa_8))), (h5, .inr (3, [.ref h6])), (h6, .inl (cJ, 1846, .inr (.inl la_9)))] := hD
          obtain ⟨hw_10, hm_10⟩ := hw_10
          rcases hw_10 with ⟨rfl, hw_10⟩ | ⟨rfl, hw_10⟩
          · skip
            refine lv_if_eq (tgt := 70) hx hb dX1_winningField_57 (by decide) (fun c_57_11 => absurd c_57_11 (by decide)) (fun c_57_11 => ?_)
            refine lv_iload_n hx hb dX1_winningField_60 rfl (lv_at hl 2 rfl) ?_
            refine kw_if_ne (tgt := 67) hx hb dX1_winningField_61 (by decide) (by omega) (fun c_61_12 => ?_) (fun c_61_12 => ?_)
            · refine lv_iinc (v := (nI (left - 1))) (lv' := [(3, .int (nI (left - 1))), (0, .ref h0), (1, .int (nI 1)), (4, .int (nI k)), (5, .int (nI (3 ^ k))), (6, .int (nI f))]) hx hb dX1_winningField_67 hl (k := 2) rfl (by have := pk_m1 (left - 1); rw [show left - 1 + 1 = left by omega] at this; exact this) (by decide) rfl (fun ls hl => ?_)
              refine lv_iinc (v := (nI (k + 1))) (lv' := [(4, .int (nI (k + 1))), (3, .int (nI (left - 1))), (0, .ref h0), (1, .int (nI 1)), (5, .int (nI (3 ^ k))), (6, .int (nI f))]) hx hb dX1_winningField_70 hl (k := 3) rfl (k_inc _ 1) (by decide) rfl (fun ls hl => ?_)
              refine lv_iload hx hb dX1_winningField_73 (lv_at hl 4 rfl) ?_
              refine lv_iconst (v := (nI 3)) hx hb dX1_winningField_75 (by decide) ?_
              refine lv_imul hx hb dX1_winningField_76 ?_
              refine k_toi (y := nI ((3 ^ k) * 3)) (pk_mul _ _) ?_
              refine lv_istore (lv' := [(5, .int (nI ((3 ^ k) * 3))), (4, .int (nI (k + 1))), (3, .int (nI (left - 1))), (0, .ref h0), (1, .int (nI 1)), (6, .int (nI f))]) hx hb dX1_winningField_77 hl (by decide) rfl (fun ls hl => ?_)
              refine lv_iinc (v := (nI (f + 1))) (lv' := [(6, .int (nI (f + 1))), (5, .int (nI ((3 ^ k) * 3))), (4, .int (nI (k + 1))), (3, .int (nI (left - 1))), (0, .ref h0), (1, .int (nI 1))]) hx hb dX1_winningField_79 hl (k := 5) rfl (k_inc _ 1) (by decide) rfl (fun ls hl => ?_)
              refine lv_goto (tgt := 11) hx hb dX1_winningField_82 (by decide) ?_
              exact ih_11 ((f + 1), (k + 1), (left - 1), wa_8, la_9) _ _ _ (by show 36 - (f + 1) < 36 - f; omega) ⟨hP, hD, hS, lv_sub hl [4, 5, 3, 2, 1, 0] rfl, by omega, (ct_bit hk6).1 hb6, by rw [fb_ct_succ, hw_10, if_pos rfl]; omega, hm_10⟩
            · refine lv_iload hx hb dX1_winningField_64 (lv_at hl 5 rfl) ?_
              exact W.iret (v := (nI f)) hx hb hr (fun t ht hW => ⟨⟨(nI f), (wa_8, la_9), rfl, ⟨Or.inl ⟨f, rfl, by omega, hb6, by rw [← hk6]; exact hw_10, by rw [← hk6, ← hl6]; congr 1; omega⟩, hm_10⟩, by rw [ht]; exact hP, hD⟩, hS.F ht⟩) hS.2.2 dX1_winningField_66
          · skip
            refine lv_if_eq (tgt := 70) hx hb dX1_winningField_57 (by decide) (fun c_57_13 => ?_) (fun c_57_13 => absurd c_57_13 (by decide))
            refine lv_iinc (v := (nI (k + 1))) (lv' := [(4, .int (nI (k + 1))), (0, .ref h0), (1, .int (nI 1)), (3, .int (nI left)), (5, .int (nI (3 ^ k))), (6, .int (nI f))]) hx hb dX1_winningField_70 hl (k := 3) rfl (k_inc _ 1) (by decide) rfl (fun ls hl => ?_)
            refine lv_iload hx hb dX1_winningField_73 (lv_at hl 4 rfl) ?_
            refine lv_iconst (v := (nI 3)) hx hb dX1_winningField_75 (by decide) ?_
            refine lv_imul hx hb dX1_winningField_76 ?_
            refine k_toi (y := nI ((3 ^ k) * 3)) (pk_mul _ _) ?_
            refine lv_istore (lv' := [(5, .int (nI ((3 ^ k) * 3))), (4, .int (nI (k + 1))), (0, .ref h0), (1, .int (nI 1)), (3, .int (nI left)), (6, .int (nI f))]) hx hb dX1_winningField_77 hl (by decide) rfl (fun ls hl => ?_)
            refine lv_iinc (v := (nI (f + 1))) (lv' := [(6, .int (nI (f + 1))), (5, .int (nI ((3 ^ k) * 3))), (4, .int (nI (k + 1))), (0, .ref h0), (1, .int (nI 1)), (3, .int (nI left))]) hx hb dX1_winningField_79 hl (k := 5) rfl (k_inc _ 1) (by decide) rfl (fun ls hl => ?_)
            refine lv_goto (tgt := 11) hx hb dX1_winningField_82 (by decide) ?_
            exact ih_11 ((f + 1), (k + 1), left, wa_8, la_9) _ _ _ (by show 36 - (f + 1) < 36 - f; omega) ⟨hP, hD, hS, lv_sub hl [3, 4, 5, 2, 1, 0] rfl, by omega, (ct_bit hk6).1 hb6, by rw [fb_ct_succ, hw_10, if_neg (by decide)]; omega, hm_10⟩

theorem kiX1_neverMatters_X1 : ∀ w ∈ u_ws RX1 TX1 15, w ∈ wsX1_neverMatters := fun w h => List.mem_cons_of_mem _ (List.mem_append_left _ (List.mem_append_right _ h))
set_option maxHeartbeats 4000000 in
set_option maxRecDepth 100000 in
theorem c_F_never (l : Launch) (D : va_G) (cI cJ cZ : ClassId) (h0 h1 h2 h3 h4 h5 h6 : Nat) (fR fC : Nat) (ow ot fr to sp : Int64) (sc fu rn dk : Nat) (ds : Int64) (rw ww lw : Nat → Int64) (q : Nat → Bool) (k : Nat) (hn : sc ≤ 10) (hfu : fu = 2 ^ sc - 1) (hre : reOK q sc rw) (qk : k < sc) (sz : Nat) : kMI l yX1_neverMatters wsX1_neverMatters 2 42 D cI cJ cZ [.ref h0, .int (nI (2 ^ k))] [(h0, wFi h1 h3 h5 fR fC ow ot fr to sp sc fu rn dk ds), (h1, .inr (3, [.ref h2])), (h2, .inl (cJ, 16, .inr (.inl rw))), (h3, .inr (3, [.ref h4])), (h4, .inl (cJ, 1846, .inr (.inl ww))), (h5, .inr (3, [.ref h6])), (h6, .inl (cJ, 1846, .inr (.inl lw)))] sz (fun r (_ : Unit) => (r = nI 1 ∧ nvm q sc k) ∨ (r = nI 0 ∧ ¬ nvm q sc k)) (fun _ : Unit => [(h0, wFi h1 h3 h5 fR fC ow ot fr to sp sc fu rn dk ds), (h1, .inr (3, [.ref h2])), (h2, .inl (cJ, 16, .inr (.inl rw))), (h3, .inr (3, [.ref h4])), (h4, .inl (cJ, 1846, .inr (.inl ww))), (h5, .inr (3, [.ref h6])), (h6, .inl (cJ, 1846, .inr (.inl lw)))]) := by
  refine Met.ofW (cc := cX1_neverMatters) (maxL := 3) (ret := (some .boolean)) (by decide) rfl ?_
  intro p e s m args below meth c s₁ B hml hv
  obtain ⟨rfl, hsz, hP, ⟨hK, hN⟩, hD0⟩ := hv
  have hx := B.exec
  have hb := B.bytes
  have hr := B.returns
  have hts := atoms_spec (ws := wsX1_neverMatters) B.pre
  have hown : s.vm.findClass RX1 = some m.cls := findClass_of_methodNamed B.named
  have hlocks := B.notSynchronized
  subst hsz
  have hD := hD0.self (sz := s.heap.size)
  generalize hAe : va_A [(h0, wFi h1 h3 h5 fR fC ow ot fr to sp sc fu rn dk ds), (h1, .inr (3, [.ref h2])), (h2, .inl (cJ, 16, .inr (.inl rw))), (h3, .inr (3, [.ref h4])), (h4, .inl (cJ, 1846, .inr (.inl ww))), (h5, .inr (3, [.ref h6])), (h6, .inl (cJ, 1846, .inr (.inl lw)))] s.heap.size = A at hD ⊢
  have hA : ∀ q : Nat, s.heap.size ≤ q → A q := fun q h => by rw [← hAe]; exact Or.inr h
  have hS : va_S A s.heap s.heap [] := va_S.rf
  have hl := lv_entry ([.ref h0, .int (nI (2 ^ k))]) (n := 3) (Nat.le_of_ble_eq_true rfl)
  rw [lg_entry_eq]
  generalize (lg_sl ([.ref h0, .int (nI (2 ^ k))]) ++ List.replicate (3 - (lg_sl ([.ref h0, .int (nI (2 ^ k))])).length) Slot.unset).toArray = ls at hl ⊢
  have hl : lv_has ls 3 [(0, .ref h0), (1, .int (nI (2 ^ k)))] := hl
  have hK2 : kK D cI cJ cZ s := ⟨hK, hN⟩
  clear hD0
  have h2n := p2_le hn
  have hpk := Nat.pow_lt_pow_right (show 1 < 2 by decide) qk
  have hp0 := Nat.pow_pos (n := sc) (show 0 < 2 by decide)
  refine lv_iconst (v := (nI 0)) hx hb dX1_neverMatters_0 (by decide) ?_
  refine lv_istore_n (lv' := [(2, .int (nI 0)), (0, .ref h0), (1, .int (nI (2 ^ k)))]) hx hb dX1_neverMatters_1 rfl hl (by decide) rfl (fun ls hl => ?_)
  refine kw_loop (σ := Nat) (fun (m9 : Nat) H locs ls => va_P D vwCl [(h0, wFi h1 h3 h5 fR fC ow ot fr to sp sc fu rn dk ds), (h1, .inr (3, [.ref h2])), (h2, .inl (cJ, 16, .inr (.inl rw))), (h3, .inr (3, [.ref h4])), (h4, .inl (cJ, 1846, .inr (.inl ww))), (h5, .inr (3, [.ref h6])), (h6, .inl (cJ, 1846, .inr (.inl lw)))] H ∧ va_D A [(h0, wFi h1 h3 h5 fR fC ow ot fr to sp sc fu rn dk ds), (h1, .inr (3, [.ref h2])), (h2, .inl (cJ, 16, .inr (.inl rw))), (h3, .inr (3, [.ref h4])), (h4, .inl (cJ, 1846, .inr (.inl ww))), (h5, .inr (3, [.ref h6])), (h6, .inl (cJ, 1846, .inr (.inl lw)))] ∧ va_S A s.heap H locs ∧ lv_has ls 3 [(0, .ref h0), (1, .int (nI (2 ^ k))), (2, .int (nI m9))] ∧ (m9 ≤ 2 ^ sc) ∧ (∀ x, x < m9 → x.testBit k = false → q x = q (x ||| 2 ^ k))) (fun (m9 : Nat) => 2 ^ sc - m9) 0 ⟨hP, hD, hS, lv_sub hl [1, 2, 0] rfl, Nat.zero_le _, fun x hx => absurd hx (Nat.not_lt_zero x)⟩ ?_
  clear hP hD hS hl
  rintro m9 H locs ls ⟨hP, hD, hS, hl, hm9, hm2⟩ ih_2
  have hP : va_P D vwCl [(h0, wFi h1 h3 h5 fR fC ow ot fr to sp sc fu rn dk ds), (h1, .inr (3, [.ref h2])), (h2, .inl (cJ, 16, .inr (.inl rw))), (h3, .inr (3, [.ref h4])), (h4, .inl (cJ, 1846, .inr (.inl ww))), (h5, .inr (3, [.ref h6])), (h6, .inl (cJ, 1846, .inr (.inl lw)))] H := hP
  have hD : va_D A [(h0, wFi h1 h3 h5 fR fC ow ot fr to sp sc fu rn dk ds), (h1, .inr (3, [.ref h2])), (h2, .inl (cJ, 16, .inr (.inl rw))), (h3, .inr (3, [.ref h4])), (h4, .inl (cJ, 1846, .inr (.inl ww))), (h5, .inr (3, [.ref h6])), (h6, .inl (cJ, 1846, .inr (.inl lw)))] := hD
  have hl : lv_has ls 3 [(0, .ref h0), (1, .int (nI (2 ^ k))), (2, .int (nI m9))] := hl
  have hal : m9 &&& 2 ^ k ≤ m9 := Nat.and_le_left
  have hm9 : m9 ≤ 2 ^ sc := hm9
  have hm2 : ∀ x, x < m9 → x.testBit k = false → q x = q (x ||| 2 ^ k) := hm2
  refine lv_iload_n hx hb dX1_neverMatters_2 rfl (lv_at hl 2 rfl) ?_
  refine lv_aload_n hx hb dX1_neverMatters_3 rfl (lv_at hl 0 rfl) ?_
  refine va_get (D := D) (ci := 1) (v := .int (nI fu)) (C := RX1) (T := TX1) (N := 15) hx hb hts kiX1_neverMatters_X1 hown hK hP 0 rfl rfl 11 (by decide) (hts (.fieldLink RX1 82 "TwoBanks$Fight" "full" "I") (List.mem_of_getElem? (i := 1) rfl)) (fun _ h9 => h9) rfl dX1_neverMatters_4 ?_
  refine kw_icmp_gt (tgt := 45) hx hb dX1_neverMatters_7 (by decide) (by omega) (by omega) (fun c_7_1 => ?_) (fun c_7_1 => ?_)
  · refine lv_iconst (v := (nI 1)) hx hb dX1_neverMatters_45 (by decide) ?_
    exact W.zret (v := (nI 1)) hx hb hr (by first | decide +kernel | assumption | exact kz_narr (by first | assumption | omega)) (fun t ht hW => ⟨⟨(nI 1), (), rfl, Or.inl ⟨rfl, fun m9 h9 => hm2 m9 (by omega)⟩, by rw [ht]; exact hP, hD⟩, hS.F ht⟩) hS.2.2 dX1_neverMatters_46
  · refine lv_iload_n hx hb dX1_neverMatters_10 rfl (lv_at hl 2 rfl) ?_
    refine lv_iload_n hx hb dX1_neverMatters_11 rfl (lv_at hl 1 rfl) ?_
    refine lv_iand hx hb dX1_neverMatters_12 ?_
    refine k_toi (y := nI (m9 &&& (2 ^ k))) (fa_and _ _) ?_
    refine kw_if_ne (tgt := 39) hx hb dX1_neverMatters_13 (by decide) (by omega) (fun c_13_2 => ?_) (fun c_13_2 => ?_)
    · have hb9 : 0 < m9 &&& 2 ^ k := c_13_2
      refine lv_iinc (v := (nI (m9 + 1))) (lv' := [(2, .int (nI (m9 + 1))), (0, .ref h0), (1, .int (nI (2 ^ k)))]) hx hb dX1_neverMatters_39 hl (k := 2) rfl (k_inc _ 1) (by decide) rfl (fun ls hl => ?_)
      refine lv_goto (tgt := 2) hx hb dX1_neverMatters_42 (by decide) ?_
      exact ih_2 (m9 + 1) _ _ _ (by show 2 ^ sc - (m9 + 1) < 2 ^ sc - m9; omega) ⟨hP, hD, hS, lv_sub hl [1, 2, 0] rfl, by omega, fun x hx hb => by rcases Nat.lt_or_ge x m9 with q9 | q9; exact hm2 x q9 hb; rw [show x = m9 by omega]; rw [show x = m9 by omega] at hb; rw [and_p2.mpr hb] at hb9; exact absurd hb9 (by decide)⟩
    · have hb9 : m9 &&& 2 ^ k = 0 := c_13_2
      have hmm : m9 < 2 ^ sc := by omega
      have hmo := or_lt hmm qk
      refine lv_aload_n hx hb dX1_neverMatters_16 rfl (lv_at hl 0 rfl) ?_
      refine va_get (D := D) (ci := 1) (v := .ref h1) (C := RX1) (T := TX1) (N := 15) hx hb hts kiX1_neverMatters_X1 hown hK hP 0 rfl rfl 0 (by decide) (hts (.fieldLink RX1 14 "TwoBanks$Fight" "reached" "LTwoBanks$Marks;") (List.mem_of_getElem? (i := 2) rfl)) (fun _ h9 => h9) rfl dX1_neverMatters_17 ?_
      refine lv_iload_n hx hb dX1_neverMatters_20 rfl (lv_at hl 2 rfl) ?_
      refine k_calli (wr := [(h0, wFi h1 h3 h5 fR fC ow ot fr to sp sc fu rn dk ds), (h3, .inr (3, [.ref h4])), (h4, .inl (cJ, 1846, .inr (.inl ww))), (h5, .inr (3, [.ref h6])), (h6, .inl (cJ, 1846, .inr (.inl lw)))]) (w2 := (fun _ : Unit => [(h0, wFi h1 h3 h5 fR fC ow ot fr to sp sc fu rn dk ds), (h1, .inr (3, [.ref h2])), (h2, .inl (cJ, 16, .inr (.inl rw))), (h3, .inr (3, [.ref h4])), (h4, .inl (cJ, 1846, .inr (.inl ww))), (h5, .inr (3, [.ref h6])), (h6, .inl (cJ, 1846, .inr (.inl lw)))])) (va_runV (As := [.int (nI m9)]) (rest := []) ⟨hx, hb, hml, hown, hts⟩ (c_M_has l D cI cJ cZ h1 h2 16 rw m9 (by omega) (by omega)  H.size) (cwV 1 hts gX1_neverMatters_X3_has rfl rfl rfl (by decide +kernel) ⟨Nat.le_of_ble_eq_true rfl, Nat.le_of_ble_eq_true rfl⟩) (kPV (ci := 3) (q0 := 0) (wc := [(h1, .inr (3, [.ref h2])), (h2, .inl (cJ, 16, .inr (.inl rw)))]) hK2 hP hD [1, 2] rfl (by decide) rfl rfl) rfl rfl hl.1 rfl (lv_room (Nat.le_of_ble_eq_true rfl)) dX1_neverMatters_21 ⟨Nat.le_of_ble_eq_true rfl, Nat.le_of_ble_eq_true rfl⟩) hP hD hS hA [1, 2] [0, 3, 4, 5, 6] [0, 5, 6, 1, 2, 3, 4] rfl rfl (by decide) (by decide) (fun _ => rfl) (by decide) (fun r_3 u_3 H locs hw_3 hP hD hS => ?_)
      have hP : va_P D vwCl [(h0, wFi h1 h3 h5 fR fC ow ot fr to sp sc fu rn dk ds), (h1, .inr (3, [.ref h2])), (h2, .inl (cJ, 16, .inr (.inl rw))), (h3, .inr (3, [.ref h4])), (h4, .inl (cJ, 1846, .inr (.inl ww))), (h5, .inr (3, [.ref h6])), (h6, .inl (cJ, 1846, .inr (.inl lw)))] H := hP
      have hD : va_D A [(h0, wFi h1 h3 h5 fR fC ow ot fr to sp sc fu rn dk ds), (h1, .inr (3, [.ref h2])), (h2, .inl (cJ, 16, .inr (.inl rw))), (h3, .inr (3, [.ref h4])), (h4, .inl (cJ, 1846, .inr (.inl ww))), (h5, .inr (3, [.ref h6])), (h6, .inl (cJ, 1846, .inr (.inl lw)))] := hD
      rcases hw_3 with ⟨rfl, hw_3⟩ | ⟨rfl, hw_3⟩
      · skip
        refine lv_aload_n hx hb dX1_neverMatters_24 rfl (lv_at hl 0 rfl) ?_
        refine va_get (D := D) (ci := 1) (v := .ref h1) (C := RX1) (T := TX1) (N := 15) hx hb hts kiX1_neverMatters_X1 hown hK hP 0 rfl rfl 0 (by decide) (hts (.fieldLink RX1 14 "TwoBanks$Fight" "reached" "LTwoBanks$Marks;") (List.mem_of_getElem? (i := 2) rfl)) (fun _ h9 => h9) rfl dX1_neverMatters_25 ?_
        refine lv_iload_n hx hb dX1_neverMatters_28 rfl (lv_at hl 2 rfl) ?_
        refine lv_iload_n hx hb dX1_neverMatters_29 rfl (lv_at hl 1 rfl) ?_
        refine lv_ior hx hb dX1_neverMatters_30 ?_
        refine k_toi (y := nI (m9 ||| (2 ^ k))) (fa_or _ _) ?_
        refine k_calli (wr := [(h0, wFi h1 h3 h5 fR fC ow ot fr to sp sc fu rn dk ds), (h3, .inr (3, [.ref h4])), (h4, .inl (cJ, 1846, .inr (.inl ww))), (h5, .inr (3, [.ref h6])), (h6, .inl (cJ, 1846, .inr (.inl lw)))]) (w2 := (fun _ : Unit => [(h0, wFi h1 h3 h5 fR fC ow ot fr to sp sc fu rn dk ds), (h1, .inr (3, [.ref h2])), (h2, .inl (cJ, 16, .inr (.inl rw))), (h3, .inr (3, [.ref h4])), (h4, .inl (cJ, 1846, .inr (.inl ww))), (h5, .inr (3, [.ref h6])), (h6, .inl (cJ, 1846, .inr (.inl lw)))])) (va_runV (As := [.int (nI (m9 ||| (2 ^ k)))]) (rest := [.int (nI 1)]) ⟨hx, hb, hml, hown, hts⟩ (c_M_has l D cI cJ cZ h1 h2 16 rw (m9 ||| (2 ^ k)) (by omega) (by omega)  H.size) (cwV 1 hts gX1_neverMatters_X3_has rfl rfl rfl (by decide +kernel) ⟨Nat.le_of_ble_eq_true rfl, Nat.le_of_ble_eq_true rfl⟩) (kPV (ci := 3) (q0 := 0) (wc := [(h1, .inr (3, [.ref h2])), (h2, .inl (cJ, 16, .inr (.inl rw)))]) hK2 hP hD [1, 2] rfl (by decide) rfl rfl) rfl rfl hl.1 rfl (lv_room (Nat.le_of_ble_eq_true rfl)) dX1_neverMatters_31 ⟨Nat.le_of_ble_eq_true rfl, Nat.le_of_ble_eq_true rfl⟩) hP hD hS hA [1, 2] [0, 3, 4, 5, 6] [0, 5, 6, 1, 2, 3, 4] rfl rfl (by decide) (by decide) (fun _ => rfl) (by decide) (fun r_4 u_4 H locs hw_4 hP hD hS => ?_)
        have hP : va_P D vwCl [(h0, wFi h1 h3 h5 fR fC ow ot fr to sp sc fu rn dk ds), (h1, .inr (3, [.ref h2])), (h2, .inl (cJ, 16, .inr (.inl rw))), (h3, .inr (3, [.ref h4])), (h4, .inl (cJ, 1846, .inr (.inl ww))), (h5, .inr (3, [.ref h6])), (h6, .inl (cJ, 1846, .inr (.inl lw)))] H := hP
        have hD : va_D A [(h0, wFi h1 h3 h5 fR fC ow ot fr to sp sc fu rn dk ds), (h1, .inr (3, [.ref h2])), (h2, .inl (cJ, 16, .inr (.inl rw))), (h3, .inr (3, [.ref h4])), (h4, .inl (cJ, 1846, .inr (.inl ww))), (h5, .inr (3, [.ref h6])), (h6, .inl (cJ, 1846, .inr (.inl lw)))] := hD
        rcases hw_4 with ⟨rfl, hw_4⟩ | ⟨rfl, hw_4⟩
        · skip
          refine lv_icmp_eq (tgt := 39) hx hb dX1_neverMatters_34 (by decide) (fun c_34_5 => ?_) (fun c_34_5 => absurd c_34_5 (by decide))
          refine lv_iinc (v := (nI (m9 + 1))) (lv' := [(2, .int (nI (m9 + 1))), (0, .ref h0), (1, .int (nI (2 ^ k)))]) hx hb dX1_neverMatters_39 hl (k := 2) rfl (k_inc _ 1) (by decide) rfl (fun ls hl => ?_)
          refine lv_goto (tgt := 2) hx hb dX1_neverMatters_42 (by decide) ?_
          exact ih_2 (m9 + 1) _ _ _ (by show 2 ^ sc - (m9 + 1) < 2 ^ sc - m9; omega) ⟨hP, hD, hS, lv_sub hl [1, 2, 0] rfl, by omega, fun x hx hb => by rcases Nat.lt_or_ge x m9 with q9 | q9; exact hm2 x q9 hb; rw [show x = m9 by omega]; rw [((re_b hre hmm).1 hw_3), ((re_b hre hmo).1 hw_4)]⟩
        · skip
          refine lv_icmp_eq (tgt := 39) hx hb dX1_neverMatters_34 (by decide) (fun c_34_6 => absurd c_34_6 (by decide)) (fun c_34_6 => ?_)
          refine lv_iconst (v := (nI 0)) hx hb dX1_neverMatters_37 (by decide) ?_
          exact W.zret (v := (nI 0)) hx hb hr (by first | decide +kernel | assumption | exact kz_narr (by first | assumption | omega)) (fun t ht hW => ⟨⟨(nI 0), (), rfl, Or.inr ⟨rfl, fun h9 => by have := h9 m9 hmm ((and_p2).mp hb9); rw [((re_b hre hmm).1 hw_3), ((re_b hre hmo).2 hw_4)] at this; cases this⟩, by rw [ht]; exact hP, hD⟩, hS.F ht⟩) hS.2.2 dX1_neverMatters_38
      · skip
        refine lv_aload_n hx hb dX1_neverMatters_24 rfl (lv_at hl 0 rfl) ?_
        refine va_get (D := D) (ci := 1) (v := .ref h1) (C := RX1) (T := TX1) (N := 15) hx hb hts kiX1_neverMatters_X1 hown hK hP 0 rfl rfl 0 (by decide) (hts (.fieldLink RX1 14 "TwoBanks$Fight" "reached" "LTwoBanks$Marks;") (List.mem_of_getElem? (i := 2) rfl)) (fun _ h9 => h9) rfl dX1_neverMatters_25 ?_
        refine lv_iload_n hx hb dX1_neverMatters_28 rfl (lv_at hl 2 rfl) ?_
        refine lv_iload_n hx hb dX1_neverMatters_29 rfl (lv_at hl 1 rfl) ?_
        refine lv_ior hx hb dX1_neverMatters_30 ?_
        refine k_toi (y := nI (m9 ||| (2 ^ k))) (fa_or _ _) ?_
        refine k_calli (wr := [(h0, wFi h1 h3 h5 fR fC ow ot fr to sp sc fu rn dk ds), (h3, .inr (3, [.ref h4])), (h4, .inl (cJ, 1846, .inr (.inl ww))), (h5, .inr (3, [.ref h6])), (h6, .inl (cJ, 1846, .inr (.inl lw)))]) (w2 := (fun _ : Unit => [(h0, wFi h1 h3 h5 fR fC ow ot fr to sp sc fu rn dk ds), (h1, .inr (3, [.ref h2])), (h2, .inl (cJ, 16, .inr (.inl rw))), (h3, .inr (3, [.ref h4])), (h4, .inl (cJ, 1846, .inr (.inl ww))), (h5, .inr (3, [.ref h6])), (h6, .inl (cJ, 1846, .inr (.inl lw)))])) (va_runV (As := [.int (nI (m9 ||| (2 ^ k)))]) (rest := [.int (nI 0)]) ⟨hx, hb, hml, hown, hts⟩ (c_M_has l D cI cJ cZ h1 h2 16 rw (m9 ||| (2 ^ k)) (by omega) (by omega)  H.size) (cwV 1 hts gX1_neverMatters_X3_has rfl rfl rfl (by decide +kernel) ⟨Nat.le_of_ble_eq_true rfl, Nat.le_of_ble_eq_true rfl⟩) (kPV (ci := 3) (q0 := 0) (wc := [(h1, .inr (3, [.ref h2])), (h2, .inl (cJ, 16, .inr (.inl rw)))]) hK2 hP hD [1, 2] rfl (by decide) rfl rfl) rfl rfl hl.1 rfl (lv_room (Nat.le_of_ble_eq_true rfl)) dX1_neverMatters_31 ⟨Nat.le_of_ble_eq_true rfl, Nat.le_of_ble_eq_true rfl⟩) hP hD hS hA [1, 2] [0, 3, 4, 5, 6] [0, 5, 6, 1, 2, 3, 4] rfl rfl (by decide) (by decide) (fun _ => rfl) (by decide) (fun r_7 u_7 H locs hw_7 hP hD hS => ?_)
        have hP : va_P D vwCl [(h0, wFi h1 h3 h5 fR fC ow ot fr to sp sc fu rn dk ds), (h1, .inr (3, [.ref h2])), (h2, .inl (cJ, 16, .inr (.inl rw))), (h3, .inr (3, [.ref h4])), (h4, .inl (cJ, 1846, .inr (.inl ww))), (h5, .inr (3, [.ref h6])), (h6, .inl (cJ, 1846, .inr (.inl lw)))] H := hP
        have hD : va_D A [(h0, wFi h1 h3 h5 fR fC ow ot fr to sp sc fu rn dk ds), (h1, .inr (3, [.ref h2])), (h2, .inl (cJ, 16, .inr (.inl rw))), (h3, .inr (3, [.ref h4])), (h4, .inl (cJ, 1846, .inr (.inl ww))), (h5, .inr (3, [.ref h6])), (h6, .inl (cJ, 1846, .inr (.inl lw)))] := hD
        rcases hw_7 with ⟨rfl, hw_7⟩ | ⟨rfl, hw_7⟩
        · skip
          refine lv_icmp_eq (tgt := 39) hx hb dX1_neverMatters_34 (by decide) (fun c_34_8 => absurd c_34_8 (by decide)) (fun c_34_8 => ?_)
          refine lv_iconst (v := (nI 0)) hx hb dX1_neverMatters_37 (by decide) ?_
          exact W.zret (v := (nI 0)) hx hb hr (by first | decide +kernel | assumption | exact kz_narr (by first | assumption | omega)) (fun t ht hW => ⟨⟨(nI 0), (), rfl, Or.inr ⟨rfl, fun h9 => by have := h9 m9 hmm ((and_p2).mp hb9); rw [((re_b hre hmm).2 hw_3), ((re_b hre hmo).1 hw_7)] at this; cases this⟩, by rw [ht]; exact hP, hD⟩, hS.F ht⟩) hS.2.2 dX1_neverMatters_38
        · skip
          refine lv_icmp_eq (tgt := 39) hx hb dX1_neverMatters_34 (by decide) (fun c_34_9 => ?_) (fun c_34_9 => absurd c_34_9 (by decide))
          refine lv_iinc (v := (nI (m9 + 1))) (lv' := [(2, .int (nI (m9 + 1))), (0, .ref h0), (1, .int (nI (2 ^ k)))]) hx hb dX1_neverMatters_39 hl (k := 2) rfl (k_inc _ 1) (by decide) rfl (fun ls hl => ?_)
          refine lv_goto (tgt := 2) hx hb dX1_neverMatters_42 (by decide) ?_
          exact ih_2 (m9 + 1) _ _ _ (by show 2 ^ sc - (m9 + 1) < 2 ^ sc - m9; omega) ⟨hP, hD, hS, lv_sub hl [1, 2, 0] rfl, by omega, fun x hx hb => by rcases Nat.lt_or_ge x m9 with q9 | q9; exact hm2 x q9 hb; rw [show x = m9 by omega]; rw [((re_b hre hmm).2 hw_3), ((re_b hre hmo).2 hw_7)]⟩

theorem kiX1_findDead_X1 : ∀ w ∈ u_ws RX1 TX1 15, w ∈ wsX1_findDead := fun w h => List.mem_cons_of_mem _ (List.mem_append_left _ (List.mem_append_right _ h))
set_option maxHeartbeats 4000000 in
set_option maxRecDepth 100000 in
theorem c_F_findDead (l : Launch) (D : va_G) (cI cJ cZ : ClassId) (h0 h1 h2 h3 h4 h5 h6 : Nat) (fR fC : Nat) (ow ot fr to sp : Int64) (sc fu rn dk : Nat) (ds : Int64) (rw ww lw : Nat → Int64) (q : Nat → Bool) (hn : sc ≤ 10) (hfu : fu = 2 ^ sc - 1) (hre : reOK q sc rw) (hsp : sc = fb_ct (bq sp) 36) (sz : Nat) : kMV l yX1_findDead wsX1_findDead 3 64 D cI cJ cZ [.ref h0] [(h0, wFi h1 h3 h5 fR fC ow ot fr to sp sc fu rn dk ds), (h1, .inr (3, [.ref h2])), (h2, .inl (cJ, 16, .inr (.inl rw))), (h3, .inr (3, [.ref h4])), (h4, .inl (cJ, 1846, .inr (.inl ww))), (h5, .inr (3, [.ref h6])), (h6, .inl (cJ, 1846, .inr (.inl lw)))] sz (fun (da : Int64) => dsOK q sc sp da) (fun da : Int64 => [(h0, wFi h1 h3 h5 fR fC ow ot fr to sp sc fu rn 1 da), (h1, .inr (3, [.ref h2])), (h2, .inl (cJ, 16, .inr (.inl rw))), (h3, .inr (3, [.ref h4])), (h4, .inl (cJ, 1846, .inr (.inl ww))), (h5, .inr (3, [.ref h6])), (h6, .inl (cJ, 1846, .inr (.inl lw)))]) := by
  refine Met.ofW (cc := cX1_findDead) (maxL := 3) (ret := none) (by decide) rfl ?_
  intro p e s m args below meth c s₁ B hml hv
  obtain ⟨rfl, hsz, hP, ⟨hK, hN⟩, hD0⟩ := hv
  have hx := B.exec
  have hb := B.bytes
  have hr := B.returns
  have hts := atoms_spec (ws := wsX1_findDead) B.pre
  have hown : s.vm.findClass RX1 = some m.cls := findClass_of_methodNamed B.named
  have hlocks := B.notSynchronized
  subst hsz
  have hD := hD0.self (sz := s.heap.size)
  generalize hAe : va_A [(h0, wFi h1 h3 h5 fR fC ow ot fr to sp sc fu rn dk ds), (h1, .inr (3, [.ref h2])), (h2, .inl (cJ, 16, .inr (.inl rw))), (h3, .inr (3, [.ref h4])), (h4, .inl (cJ, 1846, .inr (.inl ww))), (h5, .inr (3, [.ref h6])), (h6, .inl (cJ, 1846, .inr (.inl lw)))] s.heap.size = A at hD ⊢
  have hA : ∀ q : Nat, s.heap.size ≤ q → A q := fun q h => by rw [← hAe]; exact Or.inr h
  have hS : va_S A s.heap s.heap [] := va_S.rf
  have hl := lv_entry ([.ref h0]) (n := 3) (Nat.le_of_ble_eq_true rfl)
  rw [lg_entry_eq]
  generalize (lg_sl ([.ref h0]) ++ List.replicate (3 - (lg_sl ([.ref h0])).length) Slot.unset).toArray = ls at hl ⊢
  have hl : lv_has ls 3 [(0, .ref h0)] := hl
  have hK2 : kK D cI cJ cZ s := ⟨hK, hN⟩
  clear hD0
  have hm36 := fb_ct_le (bq sp) 36
  refine lv_aload_n hx hb dX1_findDead_0 rfl (lv_at hl 0 rfl) ?_
  refine lv_lconst (v := 0) hx hb dX1_findDead_1 (by decide) ?_
  refine va_put (D := D) (ci := 1) (v := .long 0) (ty := .long) (C := RX1) (T := TX1) (N := 15) hx hb hts kiX1_findDead_X1 tyX1 tyX1_ok nmX1 hown hK hP hD hS 0 rfl rfl 14 (by decide) (hts (.fieldLink RX1 125 "TwoBanks$Fight" "deadSpots" "J") (List.mem_of_getElem? (i := 1) rfl)) (fun _ h9 => h9) rfl  (by decide +kernel) rfl rfl (Nat.le_of_ble_eq_true rfl) dX1_findDead_2 (fun H locs hP hD hS => ?_)
  have hP : va_P D vwCl [(h0, .inr (1, [.ref h1, .ref h3, .ref h5, .int (nI fR), .int (nI fC), .long ow, .long ot, .long fr, .long to, .long sp, .int (nI sc), .int (nI fu), .int (nI rn), .int (nI dk), .long 0])), (h1, .inr (3, [.ref h2])), (h2, .inl (cJ, 16, .inr (.inl rw))), (h3, .inr (3, [.ref h4])), (h4, .inl (cJ, 1846, .inr (.inl ww))), (h5, .inr (3, [.ref h6])), (h6, .inl (cJ, 1846, .inr (.inl lw)))] H := hP
  have hD : va_D A [(h0, .inr (1, [.ref h1, .ref h3, .ref h5, .int (nI fR), .int (nI fC), .long ow, .long ot, .long fr, .long to, .long sp, .int (nI sc), .int (nI fu), .int (nI rn), .int (nI dk), .long 0])), (h1, .inr (3, [.ref h2])), (h2, .inl (cJ, 16, .inr (.inl rw))), (h3, .inr (3, [.ref h4])), (h4, .inl (cJ, 1846, .inr (.inl ww))), (h5, .inr (3, [.ref h6])), (h6, .inl (cJ, 1846, .inr (.inl lw)))] := hD
  refine lv_aload_n hx hb dX1_findDead_5 rfl (lv_at hl 0 rfl) ?_
  refine lv_iconst (v := (nI 1)) hx hb dX1_findDead_6 (by decide) ?_
  refine va_put (D := D) (ci := 1) (v := .int (nI 1)) (ty := .boolean) (C := RX1) (T := TX1) (N := 15) hx hb hts kiX1_findDead_X1 tyX1 tyX1_ok nmX1 hown hK hP hD hS 0 rfl rfl 13 (by decide) (hts (.fieldLink RX1 88 "TwoBanks$Fight" "deadKnown" "Z") (List.mem_of_getElem? (i := 2) rfl)) (fun _ h9 => h9) rfl  (by decide +kernel) (by decide +kernel) (by decide +kernel) (Nat.le_of_ble_eq_true rfl) dX1_findDead_7 (fun H locs hP hD hS => ?_)
  have hP : va_P D vwCl [(h0, .inr (1, [.ref h1, .ref h3, .ref h5, .int (nI fR), .int (nI fC), .long ow, .long ot, .long fr, .long to, .long sp, .int (nI sc), .int (nI fu), .int (nI rn), .int (nI 1), .long 0])), (h1, .inr (3, [.ref h2])), (h2, .inl (cJ, 16, .inr (.inl rw))), (h3, .inr (3, [.ref h4])), (h4, .inl (cJ, 1846, .inr (.inl ww))), (h5, .inr (3, [.ref h6])), (h6, .inl (cJ, 1846, .inr (.inl lw)))] H := hP
  have hD : va_D A [(h0, .inr (1, [.ref h1, .ref h3, .ref h5, .int (nI fR), .int (nI fC), .long ow, .long ot, .long fr, .long to, .long sp, .int (nI sc), .int (nI fu), .int (nI rn), .int (nI 1), .long 0])), (h1, .inr (3, [.ref h2])), (h2, .inl (cJ, 16, .inr (.inl rw))), (h3, .inr (3, [.ref h4])), (h4, .inl (cJ, 1846, .inr (.inl ww))), (h5, .inr (3, [.ref h6])), (h6, .inl (cJ, 1846, .inr (.inl lw)))] := hD
  refine lv_iconst (v := (nI 0)) hx hb dX1_findDead_10 (by decide) ?_
  refine lv_istore_n (lv' := [(1, .int (nI 0)), (0, .ref h0)]) hx hb dX1_findDead_11 rfl hl (by decide) rfl (fun ls hl => ?_)
  refine lv_iconst (v := (nI 0)) hx hb dX1_findDead_12 (by decide) ?_
  refine lv_istore_n (lv' := [(2, .int (nI 0)), (1, .int (nI 0)), (0, .ref h0)]) hx hb dX1_findDead_13 rfl hl (by decide) rfl (fun ls hl => ?_)
  refine kw_loop (σ := Nat × Nat × Int64) (fun zz H locs ls => match zz with | (f, k, da) => va_P D vwCl [(h0, wFi h1 h3 h5 fR fC ow ot fr to sp sc fu rn 1 da), (h1, .inr (3, [.ref h2])), (h2, .inl (cJ, 16, .inr (.inl rw))), (h3, .inr (3, [.ref h4])), (h4, .inl (cJ, 1846, .inr (.inl ww))), (h5, .inr (3, [.ref h6])), (h6, .inl (cJ, 1846, .inr (.inl lw)))] H ∧ va_D A [(h0, wFi h1 h3 h5 fR fC ow ot fr to sp sc fu rn 1 da), (h1, .inr (3, [.ref h2])), (h2, .inl (cJ, 16, .inr (.inl rw))), (h3, .inr (3, [.ref h4])), (h4, .inl (cJ, 1846, .inr (.inl ww))), (h5, .inr (3, [.ref h6])), (h6, .inl (cJ, 1846, .inr (.inl lw)))] ∧ va_S A s.heap H locs ∧ lv_has ls 3 [(0, .ref h0), (1, .int (nI k)), (2, .int (nI f))] ∧ (f ≤ 36) ∧ (k = fb_ct (bq sp) f) ∧ (dsP q sc sp f da)) (fun zz => match zz with | (f, k, da) => 36 - f) (0, 0, 0) ⟨hP, hD, hS, lv_sub hl [2, 1, 0] rfl, by omega, rfl, dsP_0⟩ ?_
  clear hP hD hS hl
  rintro ⟨f, k, da⟩ H locs ls ⟨hP, hD, hS, hl, hf6, hk6, hd6⟩ ih_14
  have hP : va_P D vwCl [(h0, wFi h1 h3 h5 fR fC ow ot fr to sp sc fu rn 1 da), (h1, .inr (3, [.ref h2])), (h2, .inl (cJ, 16, .inr (.inl rw))), (h3, .inr (3, [.ref h4])), (h4, .inl (cJ, 1846, .inr (.inl ww))), (h5, .inr (3, [.ref h6])), (h6, .inl (cJ, 1846, .inr (.inl lw)))] H := hP
  have hD : va_D A [(h0, wFi h1 h3 h5 fR fC ow ot fr to sp sc fu rn 1 da), (h1, .inr (3, [.ref h2])), (h2, .inl (cJ, 16, .inr (.inl rw))), (h3, .inr (3, [.ref h4])), (h4, .inl (cJ, 1846, .inr (.inl ww))), (h5, .inr (3, [.ref h6])), (h6, .inl (cJ, 1846, .inr (.inl lw)))] := hD
  have hl : lv_has ls 3 [(0, .ref h0), (1, .int (nI k)), (2, .int (nI f))] := hl
  have hkb := fb_ct_mono (bq sp) hf6
  have hf6 : f ≤ 36 := hf6
  have hk6 : k = fb_ct (bq sp) f := hk6
  have hd6 : dsP q sc sp f da := hd6
  refine lv_iload_n hx hb dX1_findDead_14 rfl (lv_at hl 2 rfl) ?_
  refine lv_bipush (v := (nI 36)) hx hb dX1_findDead_15 (by decide) ?_
  refine kw_icmp_ge (tgt := 74) hx hb dX1_findDead_17 (by decide) (by omega) (by omega) (fun c_17_1 => ?_) (fun c_17_1 => ?_)
  · exact W.vret hx hb hr (fun t ht hW => ⟨⟨da, rfl, dsP_end hf6 hd6 (by rcases Nat.lt_or_ge f 36 with q9 | q9; exact Or.inr (by omega); exact Or.inl (by omega)), by rw [ht]; exact hP, hD⟩, hS.F ht⟩) hS.2.2 dX1_findDead_74
  · refine lv_iload_n hx hb dX1_findDead_20 rfl (lv_at hl 1 rfl) ?_
    refine lv_aload_n hx hb dX1_findDead_21 rfl (lv_at hl 0 rfl) ?_
    refine va_get (D := D) (ci := 1) (v := .int (nI sc)) (C := RX1) (T := TX1) (N := 15) hx hb hts kiX1_findDead_X1 hown hK hP 0 rfl rfl 10 (by decide) (hts (.fieldLink RX1 79 "TwoBanks$Fight" "spotCount" "I") (List.mem_of_getElem? (i := 3) rfl)) (fun _ h9 => h9) rfl dX1_findDead_22 ?_
    refine kw_icmp_ge (tgt := 74) hx hb dX1_findDead_25 (by decide) (by omega) (by omega) (fun c_25_2 => ?_) (fun c_25_2 => ?_)
    · exact W.vret hx hb hr (fun t ht hW => ⟨⟨da, rfl, dsP_end hf6 hd6 (by rcases Nat.lt_or_ge f 36 with q9 | q9; exact Or.inr (by omega); exact Or.inl (by omega)), by rw [ht]; exact hP, hD⟩, hS.F ht⟩) hS.2.2 dX1_findDead_74
    · refine lv_aload_n hx hb dX1_findDead_28 rfl (lv_at hl 0 rfl) ?_
      refine va_get (D := D) (ci := 1) (v := .long sp) (C := RX1) (T := TX1) (N := 15) hx hb hts kiX1_findDead_X1 hown hK hP 0 rfl rfl 9 (by decide) (hts (.fieldLink RX1 64 "TwoBanks$Fight" "spots" "J") (List.mem_of_getElem? (i := 4) rfl)) (fun _ h9 => h9) rfl dX1_findDead_29 ?_
      refine lv_iload_n hx hb dX1_findDead_32 rfl (lv_at hl 2 rfl) ?_
      refine k_calll (wr := [(h0, wFi h1 h3 h5 fR fC ow ot fr to sp sc fu rn 1 da), (h1, .inr (3, [.ref h2])), (h2, .inl (cJ, 16, .inr (.inl rw))), (h3, .inr (3, [.ref h4])), (h4, .inl (cJ, 1846, .inr (.inl ww))), (h5, .inr (3, [.ref h6])), (h6, .inl (cJ, 1846, .inr (.inl lw)))]) (w2 := (fun _ : Unit => [(h0, wFi h1 h3 h5 fR fC ow ot fr to sp sc fu rn 1 da), (h1, .inr (3, [.ref h2])), (h2, .inl (cJ, 16, .inr (.inl rw))), (h3, .inr (3, [.ref h4])), (h4, .inl (cJ, 1846, .inr (.inl ww))), (h5, .inr (3, [.ref h6])), (h6, .inl (cJ, 1846, .inr (.inl lw)))])) (va_runSN (As := [.int (nI f)]) (rest := [.long sp]) ⟨hx, hb, hml, hown, hts⟩ (c_bit l D cI cJ cZ (nI f)  H.size) ⟨va_cnB 1 hts gX1_findDead_X5_bit_n110 rfl rfl rfl (kN_X1_110 hN) (hts (.initialized RX5) (List.mem_of_getElem? (i := 6) rfl)) (by decide +kernel) ⟨Nat.le_of_ble_eq_true rfl, Nat.le_of_ble_eq_true rfl⟩, (hts (.static yX5_bit) (List.mem_of_getElem? (i := 5) rfl)), trivial⟩ (kPS (wc := []) hK2 hP hD [] rfl (by decide)) rfl rfl hl.1 rfl (lv_room (Nat.le_of_ble_eq_true rfl)) dX1_findDead_33 ⟨Nat.le_of_ble_eq_true rfl, Nat.le_of_ble_eq_true rfl⟩) hP hD hS hA [] [0, 1, 2, 3, 4, 5, 6] [0, 1, 2, 3, 4, 5, 6] rfl rfl (by decide) (by decide) (fun _ => rfl) (by decide) (fun r_3 u_3 H locs hw_3 hP hD hS => ?_)
      have hP : va_P D vwCl [(h0, wFi h1 h3 h5 fR fC ow ot fr to sp sc fu rn 1 da), (h1, .inr (3, [.ref h2])), (h2, .inl (cJ, 16, .inr (.inl rw))), (h3, .inr (3, [.ref h4])), (h4, .inl (cJ, 1846, .inr (.inl ww))), (h5, .inr (3, [.ref h6])), (h6, .inl (cJ, 1846, .inr (.inl lw)))] H := hP
      have hD : va_D A [(h0, wFi h1 h3 h5 fR fC ow ot fr to sp sc fu rn 1 da), (h1, .inr (3, [.ref h2])), (h2, .inl (cJ, 16, .inr (.inl rw))), (h3, .inr (3, [.ref h4])), (h4, .inl (cJ, 1846, .inr (.inl ww))), (h5, .inr (3, [.ref h6])), (h6, .inl (cJ, 1846, .inr (.inl lw)))] := hD
      subst hw_3
      refine lv_land hx hb dX1_findDead_36 ?_
      refine lv_lconst (v := 0) hx hb dX1_findDead_37 (by decide) ?_
      refine W.lcmp hx hb dX1_findDead_38 ?_
      refine kw_cmp_eq (tgt := 68) hx hb dX1_findDead_39 (by decide) (fun c_39_4 => ?_) (fun c_39_4 => ?_)
      · have hb6 := bit_off (by omega) c_39_4
        refine lv_iinc (v := (nI (f + 1))) (lv' := [(2, .int (nI (f + 1))), (0, .ref h0), (1, .int (nI k))]) hx hb dX1_findDead_68 hl (k := 2) rfl (k_inc _ 1) (by decide) rfl (fun ls hl => ?_)
        refine lv_goto (tgt := 14) hx hb dX1_findDead_71 (by decide) ?_
        exact ih_14 ((f + 1), k, da) _ _ _ (by show 36 - (f + 1) < 36 - f; omega) ⟨hP, hD, hS, lv_sub hl [1, 2, 0] rfl, by omega, (ct_bit hk6).2 hb6, dsP_o (by omega) hd6 hb6⟩
      · have hb6 := bit_on (by omega) c_39_4
        refine lv_aload_n hx hb dX1_findDead_42 rfl (lv_at hl 0 rfl) ?_
        refine lv_iconst (v := (nI 1)) hx hb dX1_findDead_43 (by decide) ?_
        refine lv_iload_n hx hb dX1_findDead_44 rfl (lv_at hl 1 rfl) ?_
        refine lv_ishl hx hb dX1_findDead_45 ?_
        refine k_toi (y := nI (2 ^ k)) (kf_shl1 (by omega)) ?_
        refine k_calli (wr := []) (w2 := (fun _ : Unit => [(h0, wFi h1 h3 h5 fR fC ow ot fr to sp sc fu rn 1 da), (h1, .inr (3, [.ref h2])), (h2, .inl (cJ, 16, .inr (.inl rw))), (h3, .inr (3, [.ref h4])), (h4, .inl (cJ, 1846, .inr (.inl ww))), (h5, .inr (3, [.ref h6])), (h6, .inl (cJ, 1846, .inr (.inl lw)))])) (va_runV (As := [.int (nI (2 ^ k))]) (rest := []) ⟨hx, hb, hml, hown, hts⟩ (c_F_never l D cI cJ cZ h0 h1 h2 h3 h4 h5 h6 fR fC ow ot fr to sp sc fu rn 1 da rw ww lw (by omega) k hn hfu hre (by omega)  H.size) (cwV 1 hts gX1_findDead_X1_neverMatters rfl rfl rfl (by decide +kernel) ⟨Nat.le_of_ble_eq_true rfl, Nat.le_of_ble_eq_true rfl⟩) (kPV (ci := 1) (q0 := 0) (wc := [(h0, wFi h1 h3 h5 fR fC ow ot fr to sp sc fu rn 1 da), (h1, .inr (3, [.ref h2])), (h2, .inl (cJ, 16, .inr (.inl rw))), (h3, .inr (3, [.ref h4])), (h4, .inl (cJ, 1846, .inr (.inl ww))), (h5, .inr (3, [.ref h6])), (h6, .inl (cJ, 1846, .inr (.inl lw)))]) hK2 hP hD [0, 1, 2, 3, 4, 5, 6] rfl (by decide) rfl rfl) rfl rfl hl.1 rfl (lv_room (Nat.le_of_ble_eq_true rfl)) dX1_findDead_46 ⟨Nat.le_of_ble_eq_true rfl, Nat.le_of_ble_eq_true rfl⟩) hP hD hS hA [0, 1, 2, 3, 4, 5, 6] [] [0, 1, 2, 3, 4, 5, 6] rfl rfl (by decide) (by decide) (fun _ => rfl) (by decide) (fun r_5 u_5 H locs hw_5 hP hD hS => ?_)
        have hP : va_P D vwCl [(h0, wFi h1 h3 h5 fR fC ow ot fr to sp sc fu rn 1 da), (h1, .inr (3, [.ref h2])), (h2, .inl (cJ, 16, .inr (.inl rw))), (h3, .inr (3, [.ref h4])), (h4, .inl (cJ, 1846, .inr (.inl ww))), (h5, .inr (3, [.ref h6])), (h6, .inl (cJ, 1846, .inr (.inl lw)))] H := hP
        have hD : va_D A [(h0, wFi h1 h3 h5 fR fC ow ot fr to sp sc fu rn 1 da), (h1, .inr (3, [.ref h2])), (h2, .inl (cJ, 16, .inr (.inl rw))), (h3, .inr (3, [.ref h4])), (h4, .inl (cJ, 1846, .inr (.inl ww))), (h5, .inr (3, [.ref h6])), (h6, .inl (cJ, 1846, .inr (.inl lw)))] := hD
        rcases hw_5 with ⟨rfl, hw_5⟩ | ⟨rfl, hw_5⟩
        · skip
          refine lv_if_eq (tgt := 65) hx hb dX1_findDead_49 (by decide) (fun c_49_6 => absurd c_49_6 (by decide)) (fun c_49_6 => ?_)
          refine lv_aload_n hx hb dX1_findDead_52 rfl (lv_at hl 0 rfl) ?_
          refine lv_dup hx hb dX1_findDead_53 rfl ?_
          refine va_get (D := D) (ci := 1) (v := .long da) (C := RX1) (T := TX1) (N := 15) hx hb hts kiX1_findDead_X1 hown hK hP 0 rfl rfl 14 (by decide) (hts (.fieldLink RX1 125 "TwoBanks$Fight" "deadSpots" "J") (List.mem_of_getElem? (i := 1) rfl)) (fun _ h9 => h9) rfl dX1_findDead_54 ?_
          refine lv_iload_n hx hb dX1_findDead_57 rfl (lv_at hl 2 rfl) ?_
          refine k_calll (wr := [(h0, wFi h1 h3 h5 fR fC ow ot fr to sp sc fu rn 1 da), (h1, .inr (3, [.ref h2])), (h2, .inl (cJ, 16, .inr (.inl rw))), (h3, .inr (3, [.ref h4])), (h4, .inl (cJ, 1846, .inr (.inl ww))), (h5, .inr (3, [.ref h6])), (h6, .inl (cJ, 1846, .inr (.inl lw)))]) (w2 := (fun _ : Unit => [(h0, wFi h1 h3 h5 fR fC ow ot fr to sp sc fu rn 1 da), (h1, .inr (3, [.ref h2])), (h2, .inl (cJ, 16, .inr (.inl rw))), (h3, .inr (3, [.ref h4])), (h4, .inl (cJ, 1846, .inr (.inl ww))), (h5, .inr (3, [.ref h6])), (h6, .inl (cJ, 1846, .inr (.inl lw)))])) (va_runSN (As := [.int (nI f)]) (rest := [.long da, .ref h0]) ⟨hx, hb, hml, hown, hts⟩ (c_bit l D cI cJ cZ (nI f)  H.size) ⟨va_cnB 1 hts gX1_findDead_X5_bit_n110 rfl rfl rfl (kN_X1_110 hN) (hts (.initialized RX5) (List.mem_of_getElem? (i := 6) rfl)) (by decide +kernel) ⟨Nat.le_of_ble_eq_true rfl, Nat.le_of_ble_eq_true rfl⟩, (hts (.static yX5_bit) (List.mem_of_getElem? (i := 5) rfl)), trivial⟩ (kPS (wc := []) hK2 hP hD [] rfl (by decide)) rfl rfl hl.1 rfl (lv_room (Nat.le_of_ble_eq_true rfl)) dX1_findDead_58 ⟨Nat.le_of_ble_eq_true rfl, Nat.le_of_ble_eq_true rfl⟩) hP hD hS hA [] [0, 1, 2, 3, 4, 5, 6] [0, 1, 2, 3, 4, 5, 6] rfl rfl (by decide) (by decide) (fun _ => rfl) (by decide) (fun r_7 u_7 H locs hw_7 hP hD hS => ?_)
          have hP : va_P D vwCl [(h0, wFi h1 h3 h5 fR fC ow ot fr to sp sc fu rn 1 da), (h1, .inr (3, [.ref h2])), (h2, .inl (cJ, 16, .inr (.inl rw))), (h3, .inr (3, [.ref h4])), (h4, .inl (cJ, 1846, .inr (.inl ww))), (h5, .inr (3, [.ref h6])), (h6, .inl (cJ, 1846, .inr (.inl lw)))] H := hP
          have hD : va_D A [(h0, wFi h1 h3 h5 fR fC ow ot fr to sp sc fu rn 1 da), (h1, .inr (3, [.ref h2])), (h2, .inl (cJ, 16, .inr (.inl rw))), (h3, .inr (3, [.ref h4])), (h4, .inl (cJ, 1846, .inr (.inl ww))), (h5, .inr (3, [.ref h6])), (h6, .inl (cJ, 1846, .inr (.inl lw)))] := hD
          subst hw_7
          refine lv_lor hx hb dX1_findDead_61 ?_
          refine va_put (D := D) (ci := 1) (v := .long (da ||| (gBit (nI f)))) (ty := .long) (C := RX1) (T := TX1) (N := 15) hx hb hts kiX1_findDead_X1 tyX1 tyX1_ok nmX1 hown hK hP hD hS 0 rfl rfl 14 (by decide) (hts (.fieldLink RX1 125 "TwoBanks$Fight" "deadSpots" "J") (List.mem_of_getElem? (i := 1) rfl)) (fun _ h9 => h9) rfl  (by decide +kernel) rfl rfl (Nat.le_of_ble_eq_true rfl) dX1_findDead_62 (fun H locs hP hD hS => ?_)
          have hP : va_P D vwCl [(h0, .inr (1, [.ref h1, .ref h3, .ref h5, .int (nI fR), .int (nI fC), .long ow, .long ot, .long fr, .long to, .long sp, .int (nI sc), .int (nI fu), .int (nI rn), .int (nI 1), .long (da ||| (gBit (nI f)))])), (h1, .inr (3, [.ref h2])), (h2, .inl (cJ, 16, .inr (.inl rw))), (h3, .inr (3, [.ref h4])), (h4, .inl (cJ, 1846, .inr (.inl ww))), (h5, .inr (3, [.ref h6])), (h6, .inl (cJ, 1846, .inr (.inl lw)))] H := hP
          have hD : va_D A [(h0, .inr (1, [.ref h1, .ref h3, .ref h5, .int (nI fR), .int (nI fC), .long ow, .long ot, .long fr, .long to, .long sp, .int (nI sc), .int (nI fu), .int (nI rn), .int (nI 1), .long (da ||| (gBit (nI f)))])), (h1, .inr (3, [.ref h2])), (h2, .inl (cJ, 16, .inr (.inl rw))), (h3, .inr (3, [.ref h4])), (h4, .inl (cJ, 1846, .inr (.inl ww))), (h5, .inr (3, [.ref h6])), (h6, .inl (cJ, 1846, .inr (.inl lw)))] := hD
          refine lv_iinc (v := (nI (k + 1))) (lv' := [(1, .int (nI (k + 1))), (0, .ref h0), (2, .int (nI f))]) hx hb dX1_findDead_65 hl (k := 1) rfl (k_inc _ 1) (by decide) rfl (fun ls hl => ?_)
          refine lv_iinc (v := (nI (f + 1))) (lv' := [(2, .int (nI (f + 1))), (1, .int (nI (k + 1))), (0, .ref h0)]) hx hb dX1_findDead_68 hl (k := 2) rfl (k_inc _ 1) (by decide) rfl (fun ls hl => ?_)
          refine lv_goto (tgt := 14) hx hb dX1_findDead_71 (by decide) ?_
          exact ih_14 ((f + 1), (k + 1), (da ||| (gBit (nI f)))) _ _ _ (by show 36 - (f + 1) < 36 - f; omega) ⟨hP, hD, hS, lv_sub hl [2, 1, 0] rfl, by omega, (ct_bit hk6).1 hb6, dsP_y (by omega) hd6 hb6 (hk6 ▸ hw_5)⟩
        · skip
          refine lv_if_eq (tgt := 65) hx hb dX1_findDead_49 (by decide) (fun c_49_8 => ?_) (fun c_49_8 => absurd c_49_8 (by decide))
          refine lv_iinc (v := (nI (k + 1))) (lv' := [(1, .int (nI (k + 1))), (0, .ref h0), (2, .int (nI f))]) hx hb dX1_findDead_65 hl (k := 1) rfl (k_inc _ 1) (by decide) rfl (fun ls hl => ?_)
          refine lv_iinc (v := (nI (f + 1))) (lv' := [(2, .int (nI (f + 1))), (1, .int (nI (k + 1))), (0, .ref h0)]) hx hb dX1_findDead_68 hl (k := 2) rfl (k_inc _ 1) (by decide) rfl (fun ls hl => ?_)
          refine lv_goto (tgt := 14) hx hb dX1_findDead_71 (by decide) ?_
          exact ih_14 ((f + 1), (k + 1), da) _ _ _ (by show 36 - (f + 1) < 36 - f; omega) ⟨hP, hD, hS, lv_sub hl [2, 1, 0] rfl, by omega, (ct_bit hk6).1 hb6, dsP_n (by omega) hd6 hb6 (hk6 ▸ hw_5)⟩

theorem kiX1_deadFields_X1 : ∀ w ∈ u_ws RX1 TX1 15, w ∈ wsX1_deadFields := fun w h => List.mem_cons_of_mem _ (List.mem_append_left _ (List.mem_append_right _ h))
set_option maxHeartbeats 4000000 in
set_option maxRecDepth 100000 in
theorem c_F_dead (l : Launch) (D : va_G) (cI cJ cZ : ClassId) (h0 h1 h2 h3 h4 h5 h6 : Nat) (fR fC : Nat) (ow ot fr to sp : Int64) (sc fu rn dk : Nat) (ds : Int64) (rw ww lw : Nat → Int64) (q : Nat → Bool) (hn : sc ≤ 10) (hfu : fu = 2 ^ sc - 1) (hre : reOK q sc rw) (hsp : sc = fb_ct (bq sp) 36) (hdk : dk = 0 ∨ (dk = 1 ∧ dsOK q sc sp ds)) (sz : Nat) : kMJ l yX1_deadFields wsX1_deadFields 4 86 D cI cJ cZ [.ref h0] [(h0, wFi h1 h3 h5 fR fC ow ot fr to sp sc fu rn dk ds), (h1, .inr (3, [.ref h2])), (h2, .inl (cJ, 16, .inr (.inl rw))), (h3, .inr (3, [.ref h4])), (h4, .inl (cJ, 1846, .inr (.inl ww))), (h5, .inr (3, [.ref h6])), (h6, .inl (cJ, 1846, .inr (.inl lw)))] sz (fun r (da : Int64) => r = da ∧ dsOK q sc sp da) (fun da : Int64 => [(h0, wFi h1 h3 h5 fR fC ow ot fr to sp sc fu rn 1 da), (h1, .inr (3, [.ref h2])), (h2, .inl (cJ, 16, .inr (.inl rw))), (h3, .inr (3, [.ref h4])), (h4, .inl (cJ, 1846, .inr (.inl ww))), (h5, .inr (3, [.ref h6])), (h6, .inl (cJ, 1846, .inr (.inl lw)))]) := by
  refine Met.ofW (cc := cX1_deadFields) (maxL := 1) (ret := (some .long)) (by decide) rfl ?_
  intro p e s m args below meth c s₁ B hml hv
  obtain ⟨rfl, hsz, hP, ⟨hK, hN⟩, hD0⟩ := hv
  have hx := B.exec
  have hb := B.bytes
  have hr := B.returns
  have hts := atoms_spec (ws := wsX1_deadFields) B.pre
  have hown : s.vm.findClass RX1 = some m.cls := findClass_of_methodNamed B.named
  have hlocks := B.notSynchronized
  subst hsz
  have hD := hD0.self (sz := s.heap.size)
  generalize hAe : va_A [(h0, wFi h1 h3 h5 fR fC ow ot fr to sp sc fu rn dk ds), (h1, .inr (3, [.ref h2])), (h2, .inl (cJ, 16, .inr (.inl rw))), (h3, .inr (3, [.ref h4])), (h4, .inl (cJ, 1846, .inr (.inl ww))), (h5, .inr (3, [.ref h6])), (h6, .inl (cJ, 1846, .inr (.inl lw)))] s.heap.size = A at hD ⊢
  have hA : ∀ q : Nat, s.heap.size ≤ q → A q := fun q h => by rw [← hAe]; exact Or.inr h
  have hS : va_S A s.heap s.heap [] := va_S.rf
  have hl := lv_entry ([.ref h0]) (n := 1) (Nat.le_of_ble_eq_true rfl)
  rw [lg_entry_eq]
  generalize (lg_sl ([.ref h0]) ++ List.replicate (1 - (lg_sl ([.ref h0])).length) Slot.unset).toArray = ls at hl ⊢
  have hl : lv_has ls 1 [(0, .ref h0)] := hl
  have hK2 : kK D cI cJ cZ s := ⟨hK, hN⟩
  clear hD0
  rcases hdk with hdk | hdk
  · subst hdk
    refine lv_aload_n hx hb dX1_deadFields_0 rfl (lv_at hl 0 rfl) ?_
    refine va_get (D := D) (ci := 1) (v := .int (nI 0)) (C := RX1) (T := TX1) (N := 15) hx hb hts kiX1_deadFields_X1 hown hK hP 0 rfl rfl 13 (by decide) (hts (.fieldLink RX1 88 "TwoBanks$Fight" "deadKnown" "Z") (List.mem_of_getElem? (i := 1) rfl)) (fun _ h9 => h9) rfl dX1_deadFields_1 ?_
    refine lv_if_ne (tgt := 11) hx hb dX1_deadFields_4 (by decide) (fun c_4_1 => absurd c_4_1 (by decide)) (fun c_4_1 => ?_)
    refine lv_aload_n hx hb dX1_deadFields_7 rfl (lv_at hl 0 rfl) ?_
    refine k_callv (wr := []) (w2 := (fun da : Int64 => [(h0, wFi h1 h3 h5 fR fC ow ot fr to sp sc fu rn 1 da), (h1, .inr (3, [.ref h2])), (h2, .inl (cJ, 16, .inr (.inl rw))), (h3, .inr (3, [.ref h4])), (h4, .inl (cJ, 1846, .inr (.inl ww))), (h5, .inr (3, [.ref h6])), (h6, .inl (cJ, 1846, .inr (.inl lw)))])) (va_runV (As := []) (rest := []) ⟨hx, hb, hml, hown, hts⟩ (c_F_findDead l D cI cJ cZ h0 h1 h2 h3 h4 h5 h6 fR fC ow ot fr to sp sc fu rn 0 ds rw ww lw (by omega) hn hfu hre hsp  s.heap.size) (cwV 0 hts gX1_deadFields_X1_findDead rfl rfl rfl (by decide +kernel) ⟨Nat.le_of_ble_eq_true rfl, Nat.le_of_ble_eq_true rfl⟩) (kPV (ci := 1) (q0 := 0) (wc := [(h0, wFi h1 h3 h5 fR fC ow ot fr to sp sc fu rn 0 ds), (h1, .inr (3, [.ref h2])), (h2, .inl (cJ, 16, .inr (.inl rw))), (h3, .inr (3, [.ref h4])), (h4, .inl (cJ, 1846, .inr (.inl ww))), (h5, .inr (3, [.ref h6])), (h6, .inl (cJ, 1846, .inr (.inl lw)))]) hK2 hP hD [0, 1, 2, 3, 4, 5, 6] rfl (by decide) rfl rfl) rfl rfl hl.1 rfl (lv_room (Nat.le_of_ble_eq_true rfl)) dX1_deadFields_8 ⟨Nat.le_of_ble_eq_true rfl, Nat.le_of_ble_eq_true rfl⟩) hP hD hS hA [0, 1, 2, 3, 4, 5, 6] [] [0, 1, 2, 3, 4, 5, 6] rfl rfl (by decide) (by decide) (fun _ => rfl) (by decide) (fun u_3 H locs hw_3 hP hD hS => ?_)
    obtain ⟨da_2, rfl⟩ : ∃ z, z = u_3 := ⟨_, rfl⟩
    have hP : va_P D vwCl [(h0, wFi h1 h3 h5 fR fC ow ot fr to sp sc fu rn 1 da_2), (h1, .inr (3, [.ref h2])), (h2, .inl (cJ, 16, .inr (.inl rw))), (h3, .inr (3, [.ref h4])), (h4, .inl (cJ, 1846, .inr (.inl ww))), (h5, .inr (3, [.ref h6])), (h6, .inl (cJ, 1846, .inr (.inl lw)))] H := hP
    have hD : va_D A [(h0, wFi h1 h3 h5 fR fC ow ot fr to sp sc fu rn 1 da_2), (h1, .inr (3, [.ref h2])), (h2, .inl (cJ, 16, .inr (.inl rw))), (h3, .inr (3, [.ref h4])), (h4, .inl (cJ, 1846, .inr (.inl ww))), (h5, .inr (3, [.ref h6])), (h6, .inl (cJ, 1846, .inr (.inl lw)))] := hD
    refine lv_aload_n hx hb dX1_deadFields_11 rfl (lv_at hl 0 rfl) ?_
    refine va_get (D := D) (ci := 1) (v := .long da_2) (C := RX1) (T := TX1) (N := 15) hx hb hts kiX1_deadFields_X1 hown hK hP 0 rfl rfl 14 (by decide) (hts (.fieldLink RX1 125 "TwoBanks$Fight" "deadSpots" "J") (List.mem_of_getElem? (i := 2) rfl)) (fun _ h9 => h9) rfl dX1_deadFields_12 ?_
    exact W.lret (v := da_2) hx hb hr (fun t ht hW => ⟨⟨da_2, da_2, rfl, ⟨rfl, hw_3⟩, by rw [ht]; exact hP, hD⟩, hS.F ht⟩) hS.2.2 dX1_deadFields_15
  · obtain ⟨rfl, hdk⟩ := hdk
    refine lv_aload_n hx hb dX1_deadFields_0 rfl (lv_at hl 0 rfl) ?_
    refine va_get (D := D) (ci := 1) (v := .int (nI 1)) (C := RX1) (T := TX1) (N := 15) hx hb hts kiX1_deadFields_X1 hown hK hP 0 rfl rfl 13 (by decide) (hts (.fieldLink RX1 88 "TwoBanks$Fight" "deadKnown" "Z") (List.mem_of_getElem? (i := 1) rfl)) (fun _ h9 => h9) rfl dX1_deadFields_1 ?_
    refine lv_if_ne (tgt := 11) hx hb dX1_deadFields_4 (by decide) (fun c_4_4 => ?_) (fun c_4_4 => absurd c_4_4 (by decide))
    refine lv_aload_n hx hb dX1_deadFields_11 rfl (lv_at hl 0 rfl) ?_
    refine va_get (D := D) (ci := 1) (v := .long ds) (C := RX1) (T := TX1) (N := 15) hx hb hts kiX1_deadFields_X1 hown hK hP 0 rfl rfl 14 (by decide) (hts (.fieldLink RX1 125 "TwoBanks$Fight" "deadSpots" "J") (List.mem_of_getElem? (i := 2) rfl)) (fun _ h9 => h9) rfl dX1_deadFields_12 ?_
    exact W.lret (v := ds) hx hb hr (fun t ht hW => ⟨⟨ds, ds, rfl, ⟨rfl, hdk⟩, by rw [ht]; exact hP, hD⟩, hS.F ht⟩) hS.2.2 dX1_deadFields_15
