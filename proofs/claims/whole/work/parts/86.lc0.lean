set_option maxHeartbeats 4000000 in
set_option maxRecDepth 100000 in
theorem lc_board {p : Program} {l : Launch} {e : Env} {s : State} {m : MethodId} {below : List Frame} {meth : Method} {c : Code} {Q : State → Prop} {D : va_G} {cI cJ cZ : ClassId} {A : Nat → Prop} {sb L : Nat} {xs : Nat → Int32} {t0 tg td tr tp pl pf b0 b1 b2 b3 b4 b5 b6 l0 l1 l2 l3 l4 l5 l6 h0 : Nat} {q : Nat → Nat} {i : Nat} {H : Heap} {locs : List Loc} {ls : Array Slot} (C0 : LCt p s m c D cI cJ cZ A sb L xs) (hi : i + 5 ≤ L) (IH : ∀ H locs ls, LInv D cI cJ cZ A s.heap sb t0 tg td tr tp pl pf b0 b1 b2 b3 b4 b5 b6 l0 l1 l2 l3 l4 l5 l6 h0 q (i + 5) H locs ls → W p l e room_1 s m #[Value.ref sb] below meth c H locs 600000 7302250 Q (F0 m 18 ls [])) (h : LInv D cI cJ cZ A s.heap sb t0 tg td tr tp pl pf b0 b1 b2 b3 b4 b5 b6 l0 l1 l2 l3 l4 l5 l6 h0 q i H locs ls) : W p l e room_1 s m #[Value.ref sb] below meth c H locs 600000 7302250 Q (F0 m 124 ls []) := by
  obtain ⟨hx, hb, hml, hown, hts, hX, hbl, hK2, hA, hbA, hL⟩ := C0
  have hK := hK2.1
  have hN := hK2.2
  obtain ⟨R, C, no, we, tl, un, dn, kn, row, ln, lay, fs, B9, L9, R2, C2, tn, dn2, ag, md, em, bo, ac, zz, tu, fa, ey, pw, y1, y2, n9, hP, hD, hS, hl, hrel9, hBin, hLin⟩ := h
  obtain ⟨rfl, rfl, rfl, rfl, rfl, hrel⟩ := hrel9
  obtain ⟨⟨⟨hR1, hR2⟩, hC1, hC2⟩, hsR, htl, hun, hkn, hacb, -⟩ := id hrel
  have hRC := rel_rc hrel
  have hk37 := rel_kn hrel
  have hde := rel_de hrel
  have hae := rel_ae hrel
  have hac := rel_ac hrel
  have htn := htl
  have hmd := hun
  have hno := sR_no hsR
  have hwe := sR_we hsR
  have hbv := hsR.2.2
  have hP : va_P D vwCl ([(t0, wTB tg td tp b0 l0 no we tl un), (tg, wGr R C), (td, .inr (0, [.ref tr, .int (nI dn), .int (nI kn)])), (tr, .inl (cI, 37, .inl row))] ++ (wG2 cI cJ tp pl pf ln lay fs ++ (wFt cJ b0 b1 b2 b3 b4 b5 b6 B9 ++ (wFt cJ l0 l1 l2 l3 l4 l5 l6 L9 ++ (wMM cI cZ h0 q R C tl dn ag un em bo ac zz tu fa ey pw y1 y2 n9))))) H := hP
  have hD : va_D A ([(t0, wTB tg td tp b0 l0 no we tl un), (tg, wGr R C), (td, .inr (0, [.ref tr, .int (nI dn), .int (nI kn)])), (tr, .inl (cI, 37, .inl row))] ++ (wG2 cI cJ tp pl pf ln lay fs ++ (wFt cJ b0 b1 b2 b3 b4 b5 b6 B9 ++ (wFt cJ l0 l1 l2 l3 l4 l5 l6 L9 ++ (wMM cI cZ h0 q R C tl dn ag un em bo ac zz tu fa ey pw y1 y2 n9))))) := hD
  refine lv_aload_n hx hb dL_law_124 rfl (lv_at hl 1 rfl) ?_
  refine lv_aload_n hx hb dL_law_125 rfl (lv_at hl 0 rfl) ?_
  refine lv_iload_n hx hb dL_law_126 rfl (lv_at hl 3 rfl) ?_
  refine lv_iconst (v := (nI 1)) hx hb dL_law_127 (by decide) ?_
  refine lv_iadd hx hb dL_law_128 ?_
  refine k_toi (y := nI (i + 1)) (nI_add _ _) ?_
  refine va_sld hx hb hX hbl hbA hS (vp_in_nI (by omega) (by omega)) dL_law_129 ?_
  refine k_toi (y := xs (i + 1)) (congrArg xs (nI_clamp (by omega))) ?_
  refine lv_aload_n hx hb dL_law_130 rfl (lv_at hl 0 rfl) ?_
  refine lv_iload_n hx hb dL_law_131 rfl (lv_at hl 3 rfl) ?_
  refine lv_iconst (v := (nI 2)) hx hb dL_law_132 (by decide) ?_
  refine lv_iadd hx hb dL_law_133 ?_
  refine k_toi (y := nI (i + 2)) (nI_add _ _) ?_
  refine va_sld hx hb hX hbl hbA hS (vp_in_nI (by omega) (by omega)) dL_law_134 ?_
  refine k_toi (y := xs (i + 2)) (congrArg xs (nI_clamp (by omega))) ?_
  have hPT := va_Pl hP
  have hDT := va_Dl hD
  refine k_calliF (X := [(t0, wTB tg td tp b0 l0 no we tl un), (tg, wGr R C), (td, .inr (0, [.ref tr, .int (nI dn), .int (nI kn)])), (tr, .inl (cI, 37, .inl row))]) (pl := (wG2 cI cJ tp pl pf ln lay fs ++ (wFt cJ b0 b1 b2 b3 b4 b5 b6 B9 ++ (wFt cJ l0 l1 l2 l3 l4 l5 l6 L9 ++ (wMM cI cZ h0 q R C tl dn ag un em bo ac zz tu fa ey pw y1 y2 n9))))) (wr := []) (w2 := (fun u : TS => match u with | (Ra, Ca, noa, wea, tla, una, dna, kna, rowa) => [(t0, wTB tg td tp b0 l0 noa wea tla una), (tg, wGr Ra Ca), (td, .inr (0, [.ref tr, .int (nI dna), .int (nI kna)])), (tr, .inl (cI, 37, .inl rowa))])) (va_runV (As := [.int (xs (i + 1)), .int (xs (i + 2))]) (rest := []) ⟨hx, hb, hml, hown, hts⟩ (c_T_board l D cI cJ cZ t0 tg td tp b0 l0 no we tl un R C tr dn kn row (xs (i + 1)) (xs (i + 2))  H.size) (cwV 2 hts gL_law_X5_board rfl rfl rfl (by decide +kernel) ⟨Nat.le_of_ble_eq_true rfl, Nat.le_of_ble_eq_true rfl⟩) (kPV (ci := 5) (q0 := 0) (wc := [(t0, wTB tg td tp b0 l0 no we tl un), (tg, wGr R C), (td, .inr (0, [.ref tr, .int (nI dn), .int (nI kn)])), (tr, .inl (cI, 37, .inl row))]) hK2 hPT hDT [0, 1, 2, 3] rfl (by decide) rfl rfl) rfl rfl hl.1 rfl (lv_room (Nat.le_of_ble_eq_true rfl)) dL_law_135 ⟨Nat.le_of_ble_eq_true rfl, Nat.le_of_ble_eq_true rfl⟩) hP hD hS hA [0, 1, 2, 3] [] [0, 1, 2, 3] rfl rfl (by decide) (by decide) (fun ⟨_, _, _, _, _, _, _, _, _⟩ => rfl) (fun ⟨_, _, _, _, _, _, _, _, _⟩ => rfl) (fun r_10 u_10 H locs hw_10 hP hD hS => ?_)
  obtain ⟨ra_1, ca_2, noa_3, wea_4, tla_5, una_6, dna_7, kna_8, u_9⟩ := u_10
  have hP : va_P D vwCl ([(t0, wTB tg td tp b0 l0 noa_3 wea_4 tla_5 una_6), (tg, wGr ra_1 ca_2), (td, .inr (0, [.ref tr, .int (nI dna_7), .int (nI kna_8)])), (tr, .inl (cI, 37, .inl u_9))] ++ (wG2 cI cJ tp pl pf ln lay fs ++ (wFt cJ b0 b1 b2 b3 b4 b5 b6 B9 ++ (wFt cJ l0 l1 l2 l3 l4 l5 l6 L9 ++ (wMM cI cZ h0 q R C tl dn ag un em bo ac zz tu fa ey pw y1 y2 n9))))) H := hP
  have hD : va_D A ([(t0, wTB tg td tp b0 l0 noa_3 wea_4 tla_5 una_6), (tg, wGr ra_1 ca_2), (td, .inr (0, [.ref tr, .int (nI dna_7), .int (nI kna_8)])), (tr, .inl (cI, 37, .inl u_9))] ++ (wG2 cI cJ tp pl pf ln lay fs ++ (wFt cJ b0 b1 b2 b3 b4 b5 b6 B9 ++ (wFt cJ l0 l1 l2 l3 l4 l5 l6 L9 ++ (wMM cI cZ h0 q R C tl dn ag un em bo ac zz tu fa ey pw y1 y2 n9))))) := hD
  have hP : va_P D vwCl (wG1 cI t0 tg td tr tp b0 l0 ra_1 ca_2 noa_3 wea_4 tla_5 una_6 dna_7 kna_8 u_9 ++ (wG2 cI cJ tp pl pf ln lay fs ++ (wFt cJ b0 b1 b2 b3 b4 b5 b6 B9 ++ (wFt cJ l0 l1 l2 l3 l4 l5 l6 L9 ++ (wMM cI cZ h0 q R C tl dn ag un em bo ac zz tu fa ey pw y1 y2 n9))))) H := hP
  have hD : va_D A (wG1 cI t0 tg td tr tp b0 l0 ra_1 ca_2 noa_3 wea_4 tla_5 una_6 dna_7 kna_8 u_9 ++ (wG2 cI cJ tp pl pf ln lay fs ++ (wFt cJ b0 b1 b2 b3 b4 b5 b6 B9 ++ (wFt cJ l0 l1 l2 l3 l4 l5 l6 L9 ++ (wMM cI cZ h0 q R C tl dn ag un em bo ac zz tu fa ey pw y1 y2 n9))))) := hD
  have hP := va_P_perm hP pm_1
  have hD := va_D_perm hD pm_1
  have hP : va_P D vwCl ([(h0, wMo q R C tl dn ag un em), ((q 0), .inl (cI, 36, .inl (nA bo))), ((q 1), .inl (cI, 80, .inl (nA ac))), ((q 2), .inl (cZ, 36, .inl (bA zz))), ((q 3), .inl (cI, 36, .inl (nA tu))), ((q 4), .inl (cI, 36, .inl (nA fa))), ((q 5), .inl (cI, 10, .inl (nA ey))), ((q 6), .inl (cI, 11, .inl (nA pw))), ((q 7), .inl (cZ, 59049, .inl (bA y1))), ((q 8), .inl (cZ, 59049, .inl (bA y2))), ((q 9), .inl (cZ, 1024, .inl (bA n9)))] ++ (wG1 cI t0 tg td tr tp b0 l0 ra_1 ca_2 noa_3 wea_4 tla_5 una_6 dna_7 kna_8 u_9 ++ (wG2 cI cJ tp pl pf ln lay fs ++ (wFt cJ b0 b1 b2 b3 b4 b5 b6 B9 ++ (wFt cJ l0 l1 l2 l3 l4 l5 l6 L9))))) H := hP
  have hD : va_D A ([(h0, wMo q R C tl dn ag un em), ((q 0), .inl (cI, 36, .inl (nA bo))), ((q 1), .inl (cI, 80, .inl (nA ac))), ((q 2), .inl (cZ, 36, .inl (bA zz))), ((q 3), .inl (cI, 36, .inl (nA tu))), ((q 4), .inl (cI, 36, .inl (nA fa))), ((q 5), .inl (cI, 10, .inl (nA ey))), ((q 6), .inl (cI, 11, .inl (nA pw))), ((q 7), .inl (cZ, 59049, .inl (bA y1))), ((q 8), .inl (cZ, 59049, .inl (bA y2))), ((q 9), .inl (cZ, 1024, .inl (bA n9)))] ++ (wG1 cI t0 tg td tr tp b0 l0 ra_1 ca_2 noa_3 wea_4 tla_5 una_6 dna_7 kna_8 u_9 ++ (wG2 cI cJ tp pl pf ln lay fs ++ (wFt cJ b0 b1 b2 b3 b4 b5 b6 B9 ++ (wFt cJ l0 l1 l2 l3 l4 l5 l6 L9))))) := hD
  refine lv_aload_n hx hb dL_law_138 rfl (lv_at hl 2 rfl) ?_
  refine lv_aload_n hx hb dL_law_139 rfl (lv_at hl 0 rfl) ?_
  refine lv_iload_n hx hb dL_law_140 rfl (lv_at hl 3 rfl) ?_
  refine lv_iconst (v := (nI 1)) hx hb dL_law_141 (by decide) ?_
  refine lv_iadd hx hb dL_law_142 ?_
  refine k_toi (y := nI (i + 1)) (nI_add _ _) ?_
  refine va_sld hx hb hX hbl hbA hS (vp_in_nI (by omega) (by omega)) dL_law_143 ?_
  refine k_toi (y := xs (i + 1)) (congrArg xs (nI_clamp (by omega))) ?_
  refine lv_aload_n hx hb dL_law_144 rfl (lv_at hl 0 rfl) ?_
  refine lv_iload_n hx hb dL_law_145 rfl (lv_at hl 3 rfl) ?_
  refine lv_iconst (v := (nI 2)) hx hb dL_law_146 (by decide) ?_
  refine lv_iadd hx hb dL_law_147 ?_
  refine k_toi (y := nI (i + 2)) (nI_add _ _) ?_
  refine va_sld hx hb hX hbl hbA hS (vp_in_nI (by omega) (by omega)) dL_law_148 ?_
  refine k_toi (y := xs (i + 2)) (congrArg xs (nI_clamp (by omega))) ?_
  have hPT := va_Pl hP
  have hDT := va_Dl hD
  refine k_calliF (X := [(h0, wMo q R C tl dn ag un em), ((q 0), .inl (cI, 36, .inl (nA bo))), ((q 1), .inl (cI, 80, .inl (nA ac))), ((q 2), .inl (cZ, 36, .inl (bA zz))), ((q 3), .inl (cI, 36, .inl (nA tu))), ((q 4), .inl (cI, 36, .inl (nA fa))), ((q 5), .inl (cI, 10, .inl (nA ey))), ((q 6), .inl (cI, 11, .inl (nA pw))), ((q 7), .inl (cZ, 59049, .inl (bA y1))), ((q 8), .inl (cZ, 59049, .inl (bA y2))), ((q 9), .inl (cZ, 1024, .inl (bA n9)))]) (pl := (wG1 cI t0 tg td tr tp b0 l0 ra_1 ca_2 noa_3 wea_4 tla_5 una_6 dna_7 kna_8 u_9 ++ (wG2 cI cJ tp pl pf ln lay fs ++ (wFt cJ b0 b1 b2 b3 b4 b5 b6 B9 ++ (wFt cJ l0 l1 l2 l3 l4 l5 l6 L9))))) (wr := [((q 3), .inl (cI, 36, .inl (nA tu))), ((q 4), .inl (cI, 36, .inl (nA fa))), ((q 5), .inl (cI, 10, .inl (nA ey))), ((q 6), .inl (cI, 11, .inl (nA pw))), ((q 7), .inl (cZ, 59049, .inl (bA y1))), ((q 8), .inl (cZ, 59049, .inl (bA y2))), ((q 9), .inl (cZ, 1024, .inl (bA n9)))]) (w2 := (fun u : MS => match u with | (Rm, Cm, tnm, dnm, agm, mdm, bm, acm, zm) => [(h0, wMo q Rm Cm tnm dnm agm mdm em), ((q 0), .inl (cI, 36, .inl (nA bm))), ((q 1), .inl (cI, 80, .inl (nA acm))), ((q 2), .inl (cZ, 36, .inl (bA zm))), ((q 3), .inl (cI, 36, .inl (nA tu))), ((q 4), .inl (cI, 36, .inl (nA fa))), ((q 5), .inl (cI, 10, .inl (nA ey))), ((q 6), .inl (cI, 11, .inl (nA pw))), ((q 7), .inl (cZ, 59049, .inl (bA y1))), ((q 8), .inl (cZ, 59049, .inl (bA y2))), ((q 9), .inl (cZ, 1024, .inl (bA n9)))])) (va_runV (As := [.int (xs (i + 1)), .int (xs (i + 2))]) (rest := [.int r_10]) ⟨hx, hb, hml, hown, hts⟩ (c_R_board l D cI cJ cZ h0 q R C tl dn ag un em bo ac zz (xs (i + 1)) (xs (i + 2))  H.size) (cwV 2 hts gL_law_X6_board rfl rfl rfl (by decide +kernel) ⟨Nat.le_of_ble_eq_true rfl, Nat.le_of_ble_eq_true rfl⟩) (kPV (ci := 6) (q0 := 0) (wc := [(h0, wMo q R C tl dn ag un em), ((q 0), .inl (cI, 36, .inl (nA bo))), ((q 1), .inl (cI, 80, .inl (nA ac))), ((q 2), .inl (cZ, 36, .inl (bA zz)))]) hK2 hPT hDT [0, 1, 2, 3] rfl (by decide) rfl rfl) rfl rfl hl.1 rfl (lv_room (Nat.le_of_ble_eq_true rfl)) dL_law_149 ⟨Nat.le_of_ble_eq_true rfl, Nat.le_of_ble_eq_true rfl⟩) hP hD hS hA [0, 1, 2, 3] [4, 5, 6, 7, 8, 9, 10] [7, 8, 9, 10, 0, 1, 2, 3, 4, 5, 6] rfl rfl (by decide) (by decide) (fun ⟨_, _, _, _, _, _, _, _, _⟩ => rfl) (fun ⟨_, _, _, _, _, _, _, _, _⟩ => rfl) (fun r_20 u_20 H locs hw_20 hP hD hS => ?_)
  obtain ⟨rm_11, cm_12, tnm_13, dnm_14, agm_15, mdm_16, bm_17, acm_18, zm_19⟩ := u_20
  have hP : va_P D vwCl ([(h0, wMo q rm_11 cm_12 tnm_13 dnm_14 agm_15 mdm_16 em), ((q 0), .inl (cI, 36, .inl (nA bm_17))), ((q 1), .inl (cI, 80, .inl (nA acm_18))), ((q 2), .inl (cZ, 36, .inl (bA zm_19))), ((q 3), .inl (cI, 36, .inl (nA tu))), ((q 4), .inl (cI, 36, .inl (nA fa))), ((q 5), .inl (cI, 10, .inl (nA ey))), ((q 6), .inl (cI, 11, .inl (nA pw))), ((q 7), .inl (cZ, 59049, .inl (bA y1))), ((q 8), .inl (cZ, 59049, .inl (bA y2))), ((q 9), .inl (cZ, 1024, .inl (bA n9)))] ++ (wG1 cI t0 tg td tr tp b0 l0 ra_1 ca_2 noa_3 wea_4 tla_5 una_6 dna_7 kna_8 u_9 ++ (wG2 cI cJ tp pl pf ln lay fs ++ (wFt cJ b0 b1 b2 b3 b4 b5 b6 B9 ++ (wFt cJ l0 l1 l2 l3 l4 l5 l6 L9))))) H := hP
  have hD : va_D A ([(h0, wMo q rm_11 cm_12 tnm_13 dnm_14 agm_15 mdm_16 em), ((q 0), .inl (cI, 36, .inl (nA bm_17))), ((q 1), .inl (cI, 80, .inl (nA acm_18))), ((q 2), .inl (cZ, 36, .inl (bA zm_19))), ((q 3), .inl (cI, 36, .inl (nA tu))), ((q 4), .inl (cI, 36, .inl (nA fa))), ((q 5), .inl (cI, 10, .inl (nA ey))), ((q 6), .inl (cI, 11, .inl (nA pw))), ((q 7), .inl (cZ, 59049, .inl (bA y1))), ((q 8), .inl (cZ, 59049, .inl (bA y2))), ((q 9), .inl (cZ, 1024, .inl (bA n9)))] ++ (wG1 cI t0 tg td tr tp b0 l0 ra_1 ca_2 noa_3 wea_4 tla_5 una_6 dna_7 kna_8 u_9 ++ (wG2 cI cJ tp pl pf ln lay fs ++ (wFt cJ b0 b1 b2 b3 b4 b5 b6 B9 ++ (wFt cJ l0 l1 l2 l3 l4 l5 l6 L9))))) := hD
  obtain ⟨hop9, hrl9⟩ := op_board hrel hw_10 hw_20
  refine lv_icmp_eq (tgt := 599) hx hb dL_law_152 (by decide) (fun c_152_21 => ?_) (fun c_152_21 => ?_)
  · refine lv_iinc (v := (nI (i + 5))) (lv' := [(3, .int (nI (i + 5))), (0, .ref sb), (1, .ref t0), (2, .ref h0)]) hx hb dL_law_599 hl (k := 3) rfl (k_inc _ 5) (by decide) rfl (fun ls hl => ?_)
    refine lv_goto (tgt := 18) hx hb dL_law_602 (by decide) ?_
    have hP : va_P D vwCl (wMM cI cZ h0 q rm_11 cm_12 tnm_13 dnm_14 agm_15 mdm_16 em bm_17 acm_18 zm_19 tu fa ey pw y1 y2 n9 ++ (wG1 cI t0 tg td tr tp b0 l0 ra_1 ca_2 noa_3 wea_4 tla_5 una_6 dna_7 kna_8 u_9 ++ (wG2 cI cJ tp pl pf ln lay fs ++ (wFt cJ b0 b1 b2 b3 b4 b5 b6 B9 ++ (wFt cJ l0 l1 l2 l3 l4 l5 l6 L9))))) H := hP
    have hD : va_D A (wMM cI cZ h0 q rm_11 cm_12 tnm_13 dnm_14 agm_15 mdm_16 em bm_17 acm_18 zm_19 tu fa ey pw y1 y2 n9 ++ (wG1 cI t0 tg td tr tp b0 l0 ra_1 ca_2 noa_3 wea_4 tla_5 una_6 dna_7 kna_8 u_9 ++ (wG2 cI cJ tp pl pf ln lay fs ++ (wFt cJ b0 b1 b2 b3 b4 b5 b6 B9 ++ (wFt cJ l0 l1 l2 l3 l4 l5 l6 L9))))) := hD
    have hP : va_P D vwCl (wG1 cI t0 tg td tr tp b0 l0 ra_1 ca_2 noa_3 wea_4 tla_5 una_6 dna_7 kna_8 u_9 ++ (wG2 cI cJ tp pl pf ln lay fs ++ (wFt cJ b0 b1 b2 b3 b4 b5 b6 B9 ++ (wFt cJ l0 l1 l2 l3 l4 l5 l6 L9 ++ (wMM cI cZ h0 q rm_11 cm_12 tnm_13 dnm_14 agm_15 mdm_16 em bm_17 acm_18 zm_19 tu fa ey pw y1 y2 n9))))) H := va_P_perm hP pm_1.symm
    have hD : va_D A (wG1 cI t0 tg td tr tp b0 l0 ra_1 ca_2 noa_3 wea_4 tla_5 una_6 dna_7 kna_8 u_9 ++ (wG2 cI cJ tp pl pf ln lay fs ++ (wFt cJ b0 b1 b2 b3 b4 b5 b6 B9 ++ (wFt cJ l0 l1 l2 l3 l4 l5 l6 L9 ++ (wMM cI cZ h0 q rm_11 cm_12 tnm_13 dnm_14 agm_15 mdm_16 em bm_17 acm_18 zm_19 tu fa ey pw y1 y2 n9))))) := va_D_perm hD pm_1.symm
    exact IH H locs ls ⟨ra_1, ca_2, noa_3, wea_4, tla_5, una_6, dna_7, kna_8, u_9, ln, lay, fs, B9, L9, rm_11, cm_12, tnm_13, dnm_14, agm_15, mdm_16, em, bm_17, acm_18, zm_19, tu, fa, ey, pw, y1, y2, n9, hP, hD, hS, lv_sub hl [1, 2, 3, 0] rfl, hrl9, hBin, hLin⟩
  · exact absurd hop9 c_152_21

set_option maxHeartbeats 4000000 in
set_option maxRecDepth 100000 in
theorem lc_set {p : Program} {l : Launch} {e : Env} {s : State} {m : MethodId} {below : List Frame} {meth : Method} {c : Code} {Q : State → Prop} {D : va_G} {cI cJ cZ : ClassId} {A : Nat → Prop} {sb L : Nat} {xs : Nat → Int32} {t0 tg td tr tp pl pf b0 b1 b2 b3 b4 b5 b6 l0 l1 l2 l3 l4 l5 l6 h0 : Nat} {q : Nat → Nat} {i : Nat} {H : Heap} {locs : List Loc} {ls : Array Slot} (C0 : LCt p s m c D cI cJ cZ A sb L xs) (hi : i + 5 ≤ L) (IH : ∀ H locs ls, LInv D cI cJ cZ A s.heap sb t0 tg td tr tp pl pf b0 b1 b2 b3 b4 b5 b6 l0 l1 l2 l3 l4 l5 l6 h0 q (i + 5) H locs ls → W p l e room_1 s m #[Value.ref sb] below meth c H locs 600000 7302250 Q (F0 m 18 ls [])) (h : LInv D cI cJ cZ A s.heap sb t0 tg td tr tp pl pf b0 b1 b2 b3 b4 b5 b6 l0 l1 l2 l3 l4 l5 l6 h0 q i H locs ls) : W p l e room_1 s m #[Value.ref sb] below meth c H locs 600000 7302250 Q (F0 m 157 ls []) := by
  obtain ⟨hx, hb, hml, hown, hts, hX, hbl, hK2, hA, hbA, hL⟩ := C0
  have hK := hK2.1
  have hN := hK2.2
  obtain ⟨R, C, no, we, tl, un, dn, kn, row, ln, lay, fs, B9, L9, R2, C2, tn, dn2, ag, md, em, bo, ac, zz, tu, fa, ey, pw, y1, y2, n9, hP, hD, hS, hl, hrel9, hBin, hLin⟩ := h
  obtain ⟨rfl, rfl, rfl, rfl, rfl, hrel⟩ := hrel9
  obtain ⟨⟨⟨hR1, hR2⟩, hC1, hC2⟩, hsR, htl, hun, hkn, hacb, -⟩ := id hrel
  have hRC := rel_rc hrel
  have hk37 := rel_kn hrel
  have hde := rel_de hrel
  have hae := rel_ae hrel
  have hac := rel_ac hrel
  have htn := htl
  have hmd := hun
  have hno := sR_no hsR
  have hwe := sR_we hsR
  have hbv := hsR.2.2
  have hP : va_P D vwCl ([(t0, wTB tg td tp b0 l0 no we tl un), (tg, wGr R C), (td, .inr (0, [.ref tr, .int (nI dn), .int (nI kn)])), (tr, .inl (cI, 37, .inl row))] ++ (wG2 cI cJ tp pl pf ln lay fs ++ (wFt cJ b0 b1 b2 b3 b4 b5 b6 B9 ++ (wFt cJ l0 l1 l2 l3 l4 l5 l6 L9 ++ (wMM cI cZ h0 q R C tl dn ag un em bo ac zz tu fa ey pw y1 y2 n9))))) H := hP
  have hD : va_D A ([(t0, wTB tg td tp b0 l0 no we tl un), (tg, wGr R C), (td, .inr (0, [.ref tr, .int (nI dn), .int (nI kn)])), (tr, .inl (cI, 37, .inl row))] ++ (wG2 cI cJ tp pl pf ln lay fs ++ (wFt cJ b0 b1 b2 b3 b4 b5 b6 B9 ++ (wFt cJ l0 l1 l2 l3 l4 l5 l6 L9 ++ (wMM cI cZ h0 q R C tl dn ag un em bo ac zz tu fa ey pw y1 y2 n9))))) := hD
  refine lv_aload_n hx hb dL_law_157 rfl (lv_at hl 1 rfl) ?_
  refine lv_aload_n hx hb dL_law_158 rfl (lv_at hl 0 rfl) ?_
  refine lv_iload_n hx hb dL_law_159 rfl (lv_at hl 3 rfl) ?_
  refine lv_iconst (v := (nI 1)) hx hb dL_law_160 (by decide) ?_
  refine lv_iadd hx hb dL_law_161 ?_
  refine k_toi (y := nI (i + 1)) (nI_add _ _) ?_
  refine va_sld hx hb hX hbl hbA hS (vp_in_nI (by omega) (by omega)) dL_law_162 ?_
  refine k_toi (y := xs (i + 1)) (congrArg xs (nI_clamp (by omega))) ?_
  refine lv_aload_n hx hb dL_law_163 rfl (lv_at hl 0 rfl) ?_
  refine lv_iload_n hx hb dL_law_164 rfl (lv_at hl 3 rfl) ?_
  refine lv_iconst (v := (nI 2)) hx hb dL_law_165 (by decide) ?_
  refine lv_iadd hx hb dL_law_166 ?_
  refine k_toi (y := nI (i + 2)) (nI_add _ _) ?_
  refine va_sld hx hb hX hbl hbA hS (vp_in_nI (by omega) (by omega)) dL_law_167 ?_
  refine k_toi (y := xs (i + 2)) (congrArg xs (nI_clamp (by omega))) ?_
  refine lv_aload_n hx hb dL_law_168 rfl (lv_at hl 0 rfl) ?_
  refine lv_iload_n hx hb dL_law_169 rfl (lv_at hl 3 rfl) ?_
  refine lv_iconst (v := (nI 3)) hx hb dL_law_170 (by decide) ?_
  refine lv_iadd hx hb dL_law_171 ?_
  refine k_toi (y := nI (i + 3)) (nI_add _ _) ?_
  refine va_sld hx hb hX hbl hbA hS (vp_in_nI (by omega) (by omega)) dL_law_172 ?_
  refine k_toi (y := xs (i + 3)) (congrArg xs (nI_clamp (by omega))) ?_
  have hPT := va_Pl hP
  have hDT := va_Dl hD
  refine k_calliF (X := [(t0, wTB tg td tp b0 l0 no we tl un), (tg, wGr R C), (td, .inr (0, [.ref tr, .int (nI dn), .int (nI kn)])), (tr, .inl (cI, 37, .inl row))]) (pl := (wG2 cI cJ tp pl pf ln lay fs ++ (wFt cJ b0 b1 b2 b3 b4 b5 b6 B9 ++ (wFt cJ l0 l1 l2 l3 l4 l5 l6 L9 ++ (wMM cI cZ h0 q R C tl dn ag un em bo ac zz tu fa ey pw y1 y2 n9))))) (wr := []) (w2 := (fun u : TS => match u with | (Ra, Ca, noa, wea, tla, una, dna, kna, rowa) => [(t0, wTB tg td tp b0 l0 noa wea tla una), (tg, wGr Ra Ca), (td, .inr (0, [.ref tr, .int (nI dna), .int (nI kna)])), (tr, .inl (cI, 37, .inl rowa))])) (va_runV (As := [.int (xs (i + 1)), .int (xs (i + 2)), .int (xs (i + 3))]) (rest := []) ⟨hx, hb, hml, hown, hts⟩ (c_T_set l D cI cJ cZ t0 tg td tp b0 l0 no we tl un R C tr dn kn row (xs (i + 1)) (xs (i + 2)) (xs (i + 3)) hR1 hR2 hC1 hC2 hRC  H.size) (cwV 3 hts gL_law_X5_set rfl rfl rfl (by decide +kernel) ⟨Nat.le_of_ble_eq_true rfl, Nat.le_of_ble_eq_true rfl⟩) (kPV (ci := 5) (q0 := 0) (wc := [(t0, wTB tg td tp b0 l0 no we tl un), (tg, wGr R C), (td, .inr (0, [.ref tr, .int (nI dn), .int (nI kn)])), (tr, .inl (cI, 37, .inl row))]) hK2 hPT hDT [0, 1, 2, 3] rfl (by decide) rfl rfl) rfl rfl hl.1 rfl (lv_room (Nat.le_of_ble_eq_true rfl)) dL_law_173 ⟨Nat.le_of_ble_eq_true rfl, Nat.le_of_ble_eq_true rfl⟩) hP hD hS hA [0, 1, 2, 3] [] [0, 1, 2, 3] rfl rfl (by decide) (by decide) (fun ⟨_, _, _, _, _, _, _, _, _⟩ => rfl) (fun ⟨_, _, _, _, _, _, _, _, _⟩ => rfl) (fun r_10 u_10 H locs hw_10 hP hD hS => ?_)
  obtain ⟨ra_1, ca_2, noa_3, wea_4, tla_5, una_6, dna_7, kna_8, u_9⟩ := u_10
  have hP : va_P D vwCl ([(t0, wTB tg td tp b0 l0 noa_3 wea_4 tla_5 una_6), (tg, wGr ra_1 ca_2), (td, .inr (0, [.ref tr, .int (nI dna_7), .int (nI kna_8)])), (tr, .inl (cI, 37, .inl u_9))] ++ (wG2 cI cJ tp pl pf ln lay fs ++ (wFt cJ b0 b1 b2 b3 b4 b5 b6 B9 ++ (wFt cJ l0 l1 l2 l3 l4 l5 l6 L9 ++ (wMM cI cZ h0 q R C tl dn ag un em bo ac zz tu fa ey pw y1 y2 n9))))) H := hP
  have hD : va_D A ([(t0, wTB tg td tp b0 l0 noa_3 wea_4 tla_5 una_6), (tg, wGr ra_1 ca_2), (td, .inr (0, [.ref tr, .int (nI dna_7), .int (nI kna_8)])), (tr, .inl (cI, 37, .inl u_9))] ++ (wG2 cI cJ tp pl pf ln lay fs ++ (wFt cJ b0 b1 b2 b3 b4 b5 b6 B9 ++ (wFt cJ l0 l1 l2 l3 l4 l5 l6 L9 ++ (wMM cI cZ h0 q R C tl dn ag un em bo ac zz tu fa ey pw y1 y2 n9))))) := hD
  have hP : va_P D vwCl (wG1 cI t0 tg td tr tp b0 l0 ra_1 ca_2 noa_3 wea_4 tla_5 una_6 dna_7 kna_8 u_9 ++ (wG2 cI cJ tp pl pf ln lay fs ++ (wFt cJ b0 b1 b2 b3 b4 b5 b6 B9 ++ (wFt cJ l0 l1 l2 l3 l4 l5 l6 L9 ++ (wMM cI cZ h0 q R C tl dn ag un em bo ac zz tu fa ey pw y1 y2 n9))))) H := hP
  have hD : va_D A (wG1 cI t0 tg td tr tp b0 l0 ra_1 ca_2 noa_3 wea_4 tla_5 una_6 dna_7 kna_8 u_9 ++ (wG2 cI cJ tp pl pf ln lay fs ++ (wFt cJ b0 b1 b2 b3 b4 b5 b6 B9 ++ (wFt cJ l0 l1 l2 l3 l4 l5 l6 L9 ++ (wMM cI cZ h0 q R C tl dn ag un em bo ac zz tu fa ey pw y1 y2 n9))))) := hD
  have hP := va_P_perm hP pm_1
  have hD := va_D_perm hD pm_1
  have hP : va_P D vwCl ([(h0, wMo q R C tl dn ag un em), ((q 0), .inl (cI, 36, .inl (nA bo))), ((q 1), .inl (cI, 80, .inl (nA ac))), ((q 2), .inl (cZ, 36, .inl (bA zz))), ((q 3), .inl (cI, 36, .inl (nA tu))), ((q 4), .inl (cI, 36, .inl (nA fa))), ((q 5), .inl (cI, 10, .inl (nA ey))), ((q 6), .inl (cI, 11, .inl (nA pw))), ((q 7), .inl (cZ, 59049, .inl (bA y1))), ((q 8), .inl (cZ, 59049, .inl (bA y2))), ((q 9), .inl (cZ, 1024, .inl (bA n9)))] ++ (wG1 cI t0 tg td tr tp b0 l0 ra_1 ca_2 noa_3 wea_4 tla_5 una_6 dna_7 kna_8 u_9 ++ (wG2 cI cJ tp pl pf ln lay fs ++ (wFt cJ b0 b1 b2 b3 b4 b5 b6 B9 ++ (wFt cJ l0 l1 l2 l3 l4 l5 l6 L9))))) H := hP
  have hD : va_D A ([(h0, wMo q R C tl dn ag un em), ((q 0), .inl (cI, 36, .inl (nA bo))), ((q 1), .inl (cI, 80, .inl (nA ac))), ((q 2), .inl (cZ, 36, .inl (bA zz))), ((q 3), .inl (cI, 36, .inl (nA tu))), ((q 4), .inl (cI, 36, .inl (nA fa))), ((q 5), .inl (cI, 10, .inl (nA ey))), ((q 6), .inl (cI, 11, .inl (nA pw))), ((q 7), .inl (cZ, 59049, .inl (bA y1))), ((q 8), .inl (cZ, 59049, .inl (bA y2))), ((q 9), .inl (cZ, 1024, .inl (bA n9)))] ++ (wG1 cI t0 tg td tr tp b0 l0 ra_1 ca_2 noa_3 wea_4 tla_5 una_6 dna_7 kna_8 u_9 ++ (wG2 cI cJ tp pl pf ln lay fs ++ (wFt cJ b0 b1 b2 b3 b4 b5 b6 B9 ++ (wFt cJ l0 l1 l2 l3 l4 l5 l6 L9))))) := hD
  refine lv_aload_n hx hb dL_law_176 rfl (lv_at hl 2 rfl) ?_
  refine lv_aload_n hx hb dL_law_177 rfl (lv_at hl 0 rfl) ?_
  refine lv_iload_n hx hb dL_law_178 rfl (lv_at hl 3 rfl) ?_
  refine lv_iconst (v := (nI 1)) hx hb dL_law_179 (by decide) ?_
  refine lv_iadd hx hb dL_law_180 ?_
  refine k_toi (y := nI (i + 1)) (nI_add _ _) ?_
  refine va_sld hx hb hX hbl hbA hS (vp_in_nI (by omega) (by omega)) dL_law_181 ?_
  refine k_toi (y := xs (i + 1)) (congrArg xs (nI_clamp (by omega))) ?_
  refine lv_aload_n hx hb dL_law_182 rfl (lv_at hl 0 rfl) ?_
  refine lv_iload_n hx hb dL_law_183 rfl (lv_at hl 3 rfl) ?_
  refine lv_iconst (v := (nI 2)) hx hb dL_law_184 (by decide) ?_
  refine lv_iadd hx hb dL_law_185 ?_
  refine k_toi (y := nI (i + 2)) (nI_add _ _) ?_
  refine va_sld hx hb hX hbl hbA hS (vp_in_nI (by omega) (by omega)) dL_law_186 ?_
  refine k_toi (y := xs (i + 2)) (congrArg xs (nI_clamp (by omega))) ?_
  refine lv_aload_n hx hb dL_law_187 rfl (lv_at hl 0 rfl) ?_
  refine lv_iload_n hx hb dL_law_188 rfl (lv_at hl 3 rfl) ?_
  refine lv_iconst (v := (nI 3)) hx hb dL_law_189 (by decide) ?_
  refine lv_iadd hx hb dL_law_190 ?_
  refine k_toi (y := nI (i + 3)) (nI_add _ _) ?_
  refine va_sld hx hb hX hbl hbA hS (vp_in_nI (by omega) (by omega)) dL_law_191 ?_
  refine k_toi (y := xs (i + 3)) (congrArg xs (nI_clamp (by omega))) ?_
  have hPT := va_Pl hP
  have hDT := va_Dl hD
  refine k_calliF (X := [(h0, wMo q R C tl dn ag un em), ((q 0), .inl (cI, 36, .inl (nA bo))), ((q 1), .inl (cI, 80, .inl (nA ac))), ((q 2), .inl (cZ, 36, .inl (bA zz))), ((q 3), .inl (cI, 36, .inl (nA tu))), ((q 4), .inl (cI, 36, .inl (nA fa))), ((q 5), .inl (cI, 10, .inl (nA ey))), ((q 6), .inl (cI, 11, .inl (nA pw))), ((q 7), .inl (cZ, 59049, .inl (bA y1))), ((q 8), .inl (cZ, 59049, .inl (bA y2))), ((q 9), .inl (cZ, 1024, .inl (bA n9)))]) (pl := (wG1 cI t0 tg td tr tp b0 l0 ra_1 ca_2 noa_3 wea_4 tla_5 una_6 dna_7 kna_8 u_9 ++ (wG2 cI cJ tp pl pf ln lay fs ++ (wFt cJ b0 b1 b2 b3 b4 b5 b6 B9 ++ (wFt cJ l0 l1 l2 l3 l4 l5 l6 L9))))) (wr := [((q 3), .inl (cI, 36, .inl (nA tu))), ((q 4), .inl (cI, 36, .inl (nA fa))), ((q 5), .inl (cI, 10, .inl (nA ey))), ((q 6), .inl (cI, 11, .inl (nA pw))), ((q 7), .inl (cZ, 59049, .inl (bA y1))), ((q 8), .inl (cZ, 59049, .inl (bA y2))), ((q 9), .inl (cZ, 1024, .inl (bA n9)))]) (w2 := (fun u : MS => match u with | (Rm, Cm, tnm, dnm, agm, mdm, bm, acm, zm) => [(h0, wMo q Rm Cm tnm dnm agm mdm em), ((q 0), .inl (cI, 36, .inl (nA bm))), ((q 1), .inl (cI, 80, .inl (nA acm))), ((q 2), .inl (cZ, 36, .inl (bA zm))), ((q 3), .inl (cI, 36, .inl (nA tu))), ((q 4), .inl (cI, 36, .inl (nA fa))), ((q 5), .inl (cI, 10, .inl (nA ey))), ((q 6), .inl (cI, 11, .inl (nA pw))), ((q 7), .inl (cZ, 59049, .inl (bA y1))), ((q 8), .inl (cZ, 59049, .inl (bA y2))), ((q 9), .inl (cZ, 1024, .inl (bA n9)))])) (va_runV (As := [.int (xs (i + 1)), .int (xs (i + 2)), .int (xs (i + 3))]) (rest := [.int r_10]) ⟨hx, hb, hml, hown, hts⟩ (c_R_set l D cI cJ cZ h0 q R C tl dn ag un em bo ac zz (xs (i + 1)) (xs (i + 2)) (xs (i + 3)) hR1 hR2 hC1 hC2 hRC  H.size) (cwV 3 hts gL_law_X6_set rfl rfl rfl (by decide +kernel) ⟨Nat.le_of_ble_eq_true rfl, Nat.le_of_ble_eq_true rfl⟩) (kPV (ci := 6) (q0 := 0) (wc := [(h0, wMo q R C tl dn ag un em), ((q 0), .inl (cI, 36, .inl (nA bo))), ((q 1), .inl (cI, 80, .inl (nA ac))), ((q 2), .inl (cZ, 36, .inl (bA zz)))]) hK2 hPT hDT [0, 1, 2, 3] rfl (by decide) rfl rfl) rfl rfl hl.1 rfl (lv_room (Nat.le_of_ble_eq_true rfl)) dL_law_192 ⟨Nat.le_of_ble_eq_true rfl, Nat.le_of_ble_eq_true rfl⟩) hP hD hS hA [0, 1, 2, 3] [4, 5, 6, 7, 8, 9, 10] [7, 8, 9, 10, 0, 1, 2, 3, 4, 5, 6] rfl rfl (by decide) (by decide) (fun ⟨_, _, _, _, _, _, _, _, _⟩ => rfl) (fun ⟨_, _, _, _, _, _, _, _, _⟩ => rfl) (fun r_20 u_20 H locs hw_20 hP hD hS => ?_)
  obtain ⟨rm_11, cm_12, tnm_13, dnm_14, agm_15, mdm_16, bm_17, acm_18, zm_19⟩ := u_20
  have hP : va_P D vwCl ([(h0, wMo q rm_11 cm_12 tnm_13 dnm_14 agm_15 mdm_16 em), ((q 0), .inl (cI, 36, .inl (nA bm_17))), ((q 1), .inl (cI, 80, .inl (nA acm_18))), ((q 2), .inl (cZ, 36, .inl (bA zm_19))), ((q 3), .inl (cI, 36, .inl (nA tu))), ((q 4), .inl (cI, 36, .inl (nA fa))), ((q 5), .inl (cI, 10, .inl (nA ey))), ((q 6), .inl (cI, 11, .inl (nA pw))), ((q 7), .inl (cZ, 59049, .inl (bA y1))), ((q 8), .inl (cZ, 59049, .inl (bA y2))), ((q 9), .inl (cZ, 1024, .inl (bA n9)))] ++ (wG1 cI t0 tg td tr tp b0 l0 ra_1 ca_2 noa_3 wea_4 tla_5 una_6 dna_7 kna_8 u_9 ++ (wG2 cI cJ tp pl pf ln lay fs ++ (wFt cJ b0 b1 b2 b3 b4 b5 b6 B9 ++ (wFt cJ l0 l1 l2 l3 l4 l5 l6 L9))))) H := hP
  have hD : va_D A ([(h0, wMo q rm_11 cm_12 tnm_13 dnm_14 agm_15 mdm_16 em), ((q 0), .inl (cI, 36, .inl (nA bm_17))), ((q 1), .inl (cI, 80, .inl (nA acm_18))), ((q 2), .inl (cZ, 36, .inl (bA zm_19))), ((q 3), .inl (cI, 36, .inl (nA tu))), ((q 4), .inl (cI, 36, .inl (nA fa))), ((q 5), .inl (cI, 10, .inl (nA ey))), ((q 6), .inl (cI, 11, .inl (nA pw))), ((q 7), .inl (cZ, 59049, .inl (bA y1))), ((q 8), .inl (cZ, 59049, .inl (bA y2))), ((q 9), .inl (cZ, 1024, .inl (bA n9)))] ++ (wG1 cI t0 tg td tr tp b0 l0 ra_1 ca_2 noa_3 wea_4 tla_5 una_6 dna_7 kna_8 u_9 ++ (wG2 cI cJ tp pl pf ln lay fs ++ (wFt cJ b0 b1 b2 b3 b4 b5 b6 B9 ++ (wFt cJ l0 l1 l2 l3 l4 l5 l6 L9))))) := hD
  obtain ⟨hop9, hrl9⟩ := op_set hrel hw_10 hw_20
  refine lv_icmp_eq (tgt := 599) hx hb dL_law_195 (by decide) (fun c_195_21 => ?_) (fun c_195_21 => ?_)
  · refine lv_iinc (v := (nI (i + 5))) (lv' := [(3, .int (nI (i + 5))), (0, .ref sb), (1, .ref t0), (2, .ref h0)]) hx hb dL_law_599 hl (k := 3) rfl (k_inc _ 5) (by decide) rfl (fun ls hl => ?_)
    refine lv_goto (tgt := 18) hx hb dL_law_602 (by decide) ?_
    have hP : va_P D vwCl (wMM cI cZ h0 q rm_11 cm_12 tnm_13 dnm_14 agm_15 mdm_16 em bm_17 acm_18 zm_19 tu fa ey pw y1 y2 n9 ++ (wG1 cI t0 tg td tr tp b0 l0 ra_1 ca_2 noa_3 wea_4 tla_5 una_6 dna_7 kna_8 u_9 ++ (wG2 cI cJ tp pl pf ln lay fs ++ (wFt cJ b0 b1 b2 b3 b4 b5 b6 B9 ++ (wFt cJ l0 l1 l2 l3 l4 l5 l6 L9))))) H := hP
    have hD : va_D A (wMM cI cZ h0 q rm_11 cm_12 tnm_13 dnm_14 agm_15 mdm_16 em bm_17 acm_18 zm_19 tu fa ey pw y1 y2 n9 ++ (wG1 cI t0 tg td tr tp b0 l0 ra_1 ca_2 noa_3 wea_4 tla_5 una_6 dna_7 kna_8 u_9 ++ (wG2 cI cJ tp pl pf ln lay fs ++ (wFt cJ b0 b1 b2 b3 b4 b5 b6 B9 ++ (wFt cJ l0 l1 l2 l3 l4 l5 l6 L9))))) := hD
    have hP : va_P D vwCl (wG1 cI t0 tg td tr tp b0 l0 ra_1 ca_2 noa_3 wea_4 tla_5 una_6 dna_7 kna_8 u_9 ++ (wG2 cI cJ tp pl pf ln lay fs ++ (wFt cJ b0 b1 b2 b3 b4 b5 b6 B9 ++ (wFt cJ l0 l1 l2 l3 l4 l5 l6 L9 ++ (wMM cI cZ h0 q rm_11 cm_12 tnm_13 dnm_14 agm_15 mdm_16 em bm_17 acm_18 zm_19 tu fa ey pw y1 y2 n9))))) H := va_P_perm hP pm_1.symm
    have hD : va_D A (wG1 cI t0 tg td tr tp b0 l0 ra_1 ca_2 noa_3 wea_4 tla_5 una_6 dna_7 kna_8 u_9 ++ (wG2 cI cJ tp pl pf ln lay fs ++ (wFt cJ b0 b1 b2 b3 b4 b5 b6 B9 ++ (wFt cJ l0 l1 l2 l3 l4 l5 l6 L9 ++ (wMM cI cZ h0 q rm_11 cm_12 tnm_13 dnm_14 agm_15 mdm_16 em bm_17 acm_18 zm_19 tu fa ey pw y1 y2 n9))))) := va_D_perm hD pm_1.symm
    exact IH H locs ls ⟨ra_1, ca_2, noa_3, wea_4, tla_5, una_6, dna_7, kna_8, u_9, ln, lay, fs, B9, L9, rm_11, cm_12, tnm_13, dnm_14, agm_15, mdm_16, em, bm_17, acm_18, zm_19, tu, fa, ey, pw, y1, y2, n9, hP, hD, hS, lv_sub hl [1, 2, 3, 0] rfl, hrl9, hBin, hLin⟩
  · exact absurd hop9 c_195_21

set_option maxHeartbeats 4000000 in
set_option maxRecDepth 100000 in
theorem lc_lay {p : Program} {l : Launch} {e : Env} {s : State} {m : MethodId} {below : List Frame} {meth : Method} {c : Code} {Q : State → Prop} {D : va_G} {cI cJ cZ : ClassId} {A : Nat → Prop} {sb L : Nat} {xs : Nat → Int32} {t0 tg td tr tp pl pf b0 b1 b2 b3 b4 b5 b6 l0 l1 l2 l3 l4 l5 l6 h0 : Nat} {q : Nat → Nat} {i : Nat} {H : Heap} {locs : List Loc} {ls : Array Slot} (C0 : LCt p s m c D cI cJ cZ A sb L xs) (hi : i + 5 ≤ L) (IH : ∀ H locs ls, LInv D cI cJ cZ A s.heap sb t0 tg td tr tp pl pf b0 b1 b2 b3 b4 b5 b6 l0 l1 l2 l3 l4 l5 l6 h0 q (i + 5) H locs ls → W p l e room_1 s m #[Value.ref sb] below meth c H locs 600000 7302250 Q (F0 m 18 ls [])) (h : LInv D cI cJ cZ A s.heap sb t0 tg td tr tp pl pf b0 b1 b2 b3 b4 b5 b6 l0 l1 l2 l3 l4 l5 l6 h0 q i H locs ls) : W p l e room_1 s m #[Value.ref sb] below meth c H locs 600000 7302250 Q (F0 m 200 ls []) := by
  obtain ⟨hx, hb, hml, hown, hts, hX, hbl, hK2, hA, hbA, hL⟩ := C0
  have hK := hK2.1
  have hN := hK2.2
  obtain ⟨R, C, no, we, tl, un, dn, kn, row, ln, lay, fs, B9, L9, R2, C2, tn, dn2, ag, md, em, bo, ac, zz, tu, fa, ey, pw, y1, y2, n9, hP, hD, hS, hl, hrel9, hBin, hLin⟩ := h
  obtain ⟨rfl, rfl, rfl, rfl, rfl, hrel⟩ := hrel9
  obtain ⟨⟨⟨hR1, hR2⟩, hC1, hC2⟩, hsR, htl, hun, hkn, hacb, -⟩ := id hrel
  have hRC := rel_rc hrel
  have hk37 := rel_kn hrel
  have hde := rel_de hrel
  have hae := rel_ae hrel
  have hac := rel_ac hrel
  have htn := htl
  have hmd := hun
  have hno := sR_no hsR
  have hwe := sR_we hsR
  have hbv := hsR.2.2
  have hP : va_P D vwCl ([(t0, wTB tg td tp b0 l0 no we tl un), (tg, wGr R C), (td, .inr (0, [.ref tr, .int (nI dn), .int (nI kn)])), (tr, .inl (cI, 37, .inl row))] ++ (wG2 cI cJ tp pl pf ln lay fs ++ (wFt cJ b0 b1 b2 b3 b4 b5 b6 B9 ++ (wFt cJ l0 l1 l2 l3 l4 l5 l6 L9 ++ (wMM cI cZ h0 q R C tl dn ag un em bo ac zz tu fa ey pw y1 y2 n9))))) H := hP
  have hD : va_D A ([(t0, wTB tg td tp b0 l0 no we tl un), (tg, wGr R C), (td, .inr (0, [.ref tr, .int (nI dn), .int (nI kn)])), (tr, .inl (cI, 37, .inl row))] ++ (wG2 cI cJ tp pl pf ln lay fs ++ (wFt cJ b0 b1 b2 b3 b4 b5 b6 B9 ++ (wFt cJ l0 l1 l2 l3 l4 l5 l6 L9 ++ (wMM cI cZ h0 q R C tl dn ag un em bo ac zz tu fa ey pw y1 y2 n9))))) := hD
  refine lv_aload_n hx hb dL_law_200 rfl (lv_at hl 1 rfl) ?_
  refine lv_aload_n hx hb dL_law_201 rfl (lv_at hl 0 rfl) ?_
  refine lv_iload_n hx hb dL_law_202 rfl (lv_at hl 3 rfl) ?_
  refine lv_iconst (v := (nI 1)) hx hb dL_law_203 (by decide) ?_
  refine lv_iadd hx hb dL_law_204 ?_
  refine k_toi (y := nI (i + 1)) (nI_add _ _) ?_
  refine va_sld hx hb hX hbl hbA hS (vp_in_nI (by omega) (by omega)) dL_law_205 ?_
  refine k_toi (y := xs (i + 1)) (congrArg xs (nI_clamp (by omega))) ?_
  have hPT := va_Pl hP
  have hDT := va_Dl hD
  refine k_calliF (X := [(t0, wTB tg td tp b0 l0 no we tl un), (tg, wGr R C), (td, .inr (0, [.ref tr, .int (nI dn), .int (nI kn)])), (tr, .inl (cI, 37, .inl row))]) (pl := (wG2 cI cJ tp pl pf ln lay fs ++ (wFt cJ b0 b1 b2 b3 b4 b5 b6 B9 ++ (wFt cJ l0 l1 l2 l3 l4 l5 l6 L9 ++ (wMM cI cZ h0 q R C tl dn ag un em bo ac zz tu fa ey pw y1 y2 n9))))) (wr := []) (w2 := (fun u : TS => match u with | (Ra, Ca, noa, wea, tla, una, dna, kna, rowa) => [(t0, wTB tg td tp b0 l0 noa wea tla una), (tg, wGr Ra Ca), (td, .inr (0, [.ref tr, .int (nI dna), .int (nI kna)])), (tr, .inl (cI, 37, .inl rowa))])) (va_runV (As := [.int (xs (i + 1))]) (rest := []) ⟨hx, hb, hml, hown, hts⟩ (c_T_lay l D cI cJ cZ t0 tg td tp b0 l0 no we tl un R C tr dn kn row (xs (i + 1)) hR1 hR2 hC1 hC2 hRC (by omega) (by omega) htl  H.size) (cwV 1 hts gL_law_X5_lay rfl rfl rfl (by decide +kernel) ⟨Nat.le_of_ble_eq_true rfl, Nat.le_of_ble_eq_true rfl⟩) (kPV (ci := 5) (q0 := 0) (wc := [(t0, wTB tg td tp b0 l0 no we tl un), (tg, wGr R C), (td, .inr (0, [.ref tr, .int (nI dn), .int (nI kn)])), (tr, .inl (cI, 37, .inl row))]) hK2 hPT hDT [0, 1, 2, 3] rfl (by decide) rfl rfl) rfl rfl hl.1 rfl (lv_room (Nat.le_of_ble_eq_true rfl)) dL_law_206 ⟨Nat.le_of_ble_eq_true rfl, Nat.le_of_ble_eq_true rfl⟩) hP hD hS hA [0, 1, 2, 3] [] [0, 1, 2, 3] rfl rfl (by decide) (by decide) (fun ⟨_, _, _, _, _, _, _, _, _⟩ => rfl) (fun ⟨_, _, _, _, _, _, _, _, _⟩ => rfl) (fun r_10 u_10 H locs hw_10 hP hD hS => ?_)
  obtain ⟨ra_1, ca_2, noa_3, wea_4, tla_5, una_6, dna_7, kna_8, u_9⟩ := u_10
  have hP : va_P D vwCl ([(t0, wTB tg td tp b0 l0 noa_3 wea_4 tla_5 una_6), (tg, wGr ra_1 ca_2), (td, .inr (0, [.ref tr, .int (nI dna_7), .int (nI kna_8)])), (tr, .inl (cI, 37, .inl u_9))] ++ (wG2 cI cJ tp pl pf ln lay fs ++ (wFt cJ b0 b1 b2 b3 b4 b5 b6 B9 ++ (wFt cJ l0 l1 l2 l3 l4 l5 l6 L9 ++ (wMM cI cZ h0 q R C tl dn ag un em bo ac zz tu fa ey pw y1 y2 n9))))) H := hP
  have hD : va_D A ([(t0, wTB tg td tp b0 l0 noa_3 wea_4 tla_5 una_6), (tg, wGr ra_1 ca_2), (td, .inr (0, [.ref tr, .int (nI dna_7), .int (nI kna_8)])), (tr, .inl (cI, 37, .inl u_9))] ++ (wG2 cI cJ tp pl pf ln lay fs ++ (wFt cJ b0 b1 b2 b3 b4 b5 b6 B9 ++ (wFt cJ l0 l1 l2 l3 l4 l5 l6 L9 ++ (wMM cI cZ h0 q R C tl dn ag un em bo ac zz tu fa ey pw y1 y2 n9))))) := hD
  have hP : va_P D vwCl (wG1 cI t0 tg td tr tp b0 l0 ra_1 ca_2 noa_3 wea_4 tla_5 una_6 dna_7 kna_8 u_9 ++ (wG2 cI cJ tp pl pf ln lay fs ++ (wFt cJ b0 b1 b2 b3 b4 b5 b6 B9 ++ (wFt cJ l0 l1 l2 l3 l4 l5 l6 L9 ++ (wMM cI cZ h0 q R C tl dn ag un em bo ac zz tu fa ey pw y1 y2 n9))))) H := hP
  have hD : va_D A (wG1 cI t0 tg td tr tp b0 l0 ra_1 ca_2 noa_3 wea_4 tla_5 una_6 dna_7 kna_8 u_9 ++ (wG2 cI cJ tp pl pf ln lay fs ++ (wFt cJ b0 b1 b2 b3 b4 b5 b6 B9 ++ (wFt cJ l0 l1 l2 l3 l4 l5 l6 L9 ++ (wMM cI cZ h0 q R C tl dn ag un em bo ac zz tu fa ey pw y1 y2 n9))))) := hD
  have hP := va_P_perm hP pm_1
  have hD := va_D_perm hD pm_1
  have hP : va_P D vwCl ([(h0, wMo q R C tl dn ag un em), ((q 0), .inl (cI, 36, .inl (nA bo))), ((q 1), .inl (cI, 80, .inl (nA ac))), ((q 2), .inl (cZ, 36, .inl (bA zz))), ((q 3), .inl (cI, 36, .inl (nA tu))), ((q 4), .inl (cI, 36, .inl (nA fa))), ((q 5), .inl (cI, 10, .inl (nA ey))), ((q 6), .inl (cI, 11, .inl (nA pw))), ((q 7), .inl (cZ, 59049, .inl (bA y1))), ((q 8), .inl (cZ, 59049, .inl (bA y2))), ((q 9), .inl (cZ, 1024, .inl (bA n9)))] ++ (wG1 cI t0 tg td tr tp b0 l0 ra_1 ca_2 noa_3 wea_4 tla_5 una_6 dna_7 kna_8 u_9 ++ (wG2 cI cJ tp pl pf ln lay fs ++ (wFt cJ b0 b1 b2 b3 b4 b5 b6 B9 ++ (wFt cJ l0 l1 l2 l3 l4 l5 l6 L9))))) H := hP
  have hD : va_D A ([(h0, wMo q R C tl dn ag un em), ((q 0), .inl (cI, 36, .inl (nA bo))), ((q 1), .inl (cI, 80, .inl (nA ac))), ((q 2), .inl (cZ, 36, .inl (bA zz))), ((q 3), .inl (cI, 36, .inl (nA tu))), ((q 4), .inl (cI, 36, .inl (nA fa))), ((q 5), .inl (cI, 10, .inl (nA ey))), ((q 6), .inl (cI, 11, .inl (nA pw))), ((q 7), .inl (cZ, 59049, .inl (bA y1))), ((q 8), .inl (cZ, 59049, .inl (bA y2))), ((q 9), .inl (cZ, 1024, .inl (bA n9)))] ++ (wG1 cI t0 tg td tr tp b0 l0 ra_1 ca_2 noa_3 wea_4 tla_5 una_6 dna_7 kna_8 u_9 ++ (wG2 cI cJ tp pl pf ln lay fs ++ (wFt cJ b0 b1 b2 b3 b4 b5 b6 B9 ++ (wFt cJ l0 l1 l2 l3 l4 l5 l6 L9))))) := hD
  refine lv_aload_n hx hb dL_law_209 rfl (lv_at hl 2 rfl) ?_
  refine lv_aload_n hx hb dL_law_210 rfl (lv_at hl 0 rfl) ?_
  refine lv_iload_n hx hb dL_law_211 rfl (lv_at hl 3 rfl) ?_
  refine lv_iconst (v := (nI 1)) hx hb dL_law_212 (by decide) ?_
  refine lv_iadd hx hb dL_law_213 ?_
  refine k_toi (y := nI (i + 1)) (nI_add _ _) ?_
  refine va_sld hx hb hX hbl hbA hS (vp_in_nI (by omega) (by omega)) dL_law_214 ?_
  refine k_toi (y := xs (i + 1)) (congrArg xs (nI_clamp (by omega))) ?_
  have hPT := va_Pl hP
  have hDT := va_Dl hD
  refine k_calliF (X := [(h0, wMo q R C tl dn ag un em), ((q 0), .inl (cI, 36, .inl (nA bo))), ((q 1), .inl (cI, 80, .inl (nA ac))), ((q 2), .inl (cZ, 36, .inl (bA zz))), ((q 3), .inl (cI, 36, .inl (nA tu))), ((q 4), .inl (cI, 36, .inl (nA fa))), ((q 5), .inl (cI, 10, .inl (nA ey))), ((q 6), .inl (cI, 11, .inl (nA pw))), ((q 7), .inl (cZ, 59049, .inl (bA y1))), ((q 8), .inl (cZ, 59049, .inl (bA y2))), ((q 9), .inl (cZ, 1024, .inl (bA n9)))]) (pl := (wG1 cI t0 tg td tr tp b0 l0 ra_1 ca_2 noa_3 wea_4 tla_5 una_6 dna_7 kna_8 u_9 ++ (wG2 cI cJ tp pl pf ln lay fs ++ (wFt cJ b0 b1 b2 b3 b4 b5 b6 B9 ++ (wFt cJ l0 l1 l2 l3 l4 l5 l6 L9))))) (wr := [((q 3), .inl (cI, 36, .inl (nA tu))), ((q 4), .inl (cI, 36, .inl (nA fa))), ((q 5), .inl (cI, 10, .inl (nA ey))), ((q 6), .inl (cI, 11, .inl (nA pw))), ((q 7), .inl (cZ, 59049, .inl (bA y1))), ((q 8), .inl (cZ, 59049, .inl (bA y2))), ((q 9), .inl (cZ, 1024, .inl (bA n9)))]) (w2 := (fun u : MS => match u with | (Rm, Cm, tnm, dnm, agm, mdm, bm, acm, zm) => [(h0, wMo q Rm Cm tnm dnm agm mdm em), ((q 0), .inl (cI, 36, .inl (nA bm))), ((q 1), .inl (cI, 80, .inl (nA acm))), ((q 2), .inl (cZ, 36, .inl (bA zm))), ((q 3), .inl (cI, 36, .inl (nA tu))), ((q 4), .inl (cI, 36, .inl (nA fa))), ((q 5), .inl (cI, 10, .inl (nA ey))), ((q 6), .inl (cI, 11, .inl (nA pw))), ((q 7), .inl (cZ, 59049, .inl (bA y1))), ((q 8), .inl (cZ, 59049, .inl (bA y2))), ((q 9), .inl (cZ, 1024, .inl (bA n9)))])) (va_runV (As := [.int (xs (i + 1))]) (rest := [.int r_10]) ⟨hx, hb, hml, hown, hts⟩ (c_R_lay l D cI cJ cZ h0 q R C tl dn ag un em bo ac zz (xs (i + 1)) hR1 hR2 hC1 hC2 hRC hbv htn (by omega)  H.size) (cwV 1 hts gL_law_X6_lay rfl rfl rfl (by decide +kernel) ⟨Nat.le_of_ble_eq_true rfl, Nat.le_of_ble_eq_true rfl⟩) (kPV (ci := 6) (q0 := 0) (wc := [(h0, wMo q R C tl dn ag un em), ((q 0), .inl (cI, 36, .inl (nA bo))), ((q 1), .inl (cI, 80, .inl (nA ac))), ((q 2), .inl (cZ, 36, .inl (bA zz)))]) hK2 hPT hDT [0, 1, 2, 3] rfl (by decide) rfl rfl) rfl rfl hl.1 rfl (lv_room (Nat.le_of_ble_eq_true rfl)) dL_law_215 ⟨Nat.le_of_ble_eq_true rfl, Nat.le_of_ble_eq_true rfl⟩) hP hD hS hA [0, 1, 2, 3] [4, 5, 6, 7, 8, 9, 10] [7, 8, 9, 10, 0, 1, 2, 3, 4, 5, 6] rfl rfl (by decide) (by decide) (fun ⟨_, _, _, _, _, _, _, _, _⟩ => rfl) (fun ⟨_, _, _, _, _, _, _, _, _⟩ => rfl) (fun r_20 u_20 H locs hw_20 hP hD hS => ?_)
  obtain ⟨rm_11, cm_12, tnm_13, dnm_14, agm_15, mdm_16, bm_17, acm_18, zm_19⟩ := u_20
  have hP : va_P D vwCl ([(h0, wMo q rm_11 cm_12 tnm_13 dnm_14 agm_15 mdm_16 em), ((q 0), .inl (cI, 36, .inl (nA bm_17))), ((q 1), .inl (cI, 80, .inl (nA acm_18))), ((q 2), .inl (cZ, 36, .inl (bA zm_19))), ((q 3), .inl (cI, 36, .inl (nA tu))), ((q 4), .inl (cI, 36, .inl (nA fa))), ((q 5), .inl (cI, 10, .inl (nA ey))), ((q 6), .inl (cI, 11, .inl (nA pw))), ((q 7), .inl (cZ, 59049, .inl (bA y1))), ((q 8), .inl (cZ, 59049, .inl (bA y2))), ((q 9), .inl (cZ, 1024, .inl (bA n9)))] ++ (wG1 cI t0 tg td tr tp b0 l0 ra_1 ca_2 noa_3 wea_4 tla_5 una_6 dna_7 kna_8 u_9 ++ (wG2 cI cJ tp pl pf ln lay fs ++ (wFt cJ b0 b1 b2 b3 b4 b5 b6 B9 ++ (wFt cJ l0 l1 l2 l3 l4 l5 l6 L9))))) H := hP
  have hD : va_D A ([(h0, wMo q rm_11 cm_12 tnm_13 dnm_14 agm_15 mdm_16 em), ((q 0), .inl (cI, 36, .inl (nA bm_17))), ((q 1), .inl (cI, 80, .inl (nA acm_18))), ((q 2), .inl (cZ, 36, .inl (bA zm_19))), ((q 3), .inl (cI, 36, .inl (nA tu))), ((q 4), .inl (cI, 36, .inl (nA fa))), ((q 5), .inl (cI, 10, .inl (nA ey))), ((q 6), .inl (cI, 11, .inl (nA pw))), ((q 7), .inl (cZ, 59049, .inl (bA y1))), ((q 8), .inl (cZ, 59049, .inl (bA y2))), ((q 9), .inl (cZ, 1024, .inl (bA n9)))] ++ (wG1 cI t0 tg td tr tp b0 l0 ra_1 ca_2 noa_3 wea_4 tla_5 una_6 dna_7 kna_8 u_9 ++ (wG2 cI cJ tp pl pf ln lay fs ++ (wFt cJ b0 b1 b2 b3 b4 b5 b6 B9 ++ (wFt cJ l0 l1 l2 l3 l4 l5 l6 L9))))) := hD
  obtain ⟨hop9, hrl9⟩ := op_lay hrel hw_10 hw_20
  refine lv_icmp_eq (tgt := 599) hx hb dL_law_218 (by decide) (fun c_218_21 => ?_) (fun c_218_21 => ?_)
  · refine lv_iinc (v := (nI (i + 5))) (lv' := [(3, .int (nI (i + 5))), (0, .ref sb), (1, .ref t0), (2, .ref h0)]) hx hb dL_law_599 hl (k := 3) rfl (k_inc _ 5) (by decide) rfl (fun ls hl => ?_)
    refine lv_goto (tgt := 18) hx hb dL_law_602 (by decide) ?_
    have hP : va_P D vwCl (wMM cI cZ h0 q rm_11 cm_12 tnm_13 dnm_14 agm_15 mdm_16 em bm_17 acm_18 zm_19 tu fa ey pw y1 y2 n9 ++ (wG1 cI t0 tg td tr tp b0 l0 ra_1 ca_2 noa_3 wea_4 tla_5 una_6 dna_7 kna_8 u_9 ++ (wG2 cI cJ tp pl pf ln lay fs ++ (wFt cJ b0 b1 b2 b3 b4 b5 b6 B9 ++ (wFt cJ l0 l1 l2 l3 l4 l5 l6 L9))))) H := hP
    have hD : va_D A (wMM cI cZ h0 q rm_11 cm_12 tnm_13 dnm_14 agm_15 mdm_16 em bm_17 acm_18 zm_19 tu fa ey pw y1 y2 n9 ++ (wG1 cI t0 tg td tr tp b0 l0 ra_1 ca_2 noa_3 wea_4 tla_5 una_6 dna_7 kna_8 u_9 ++ (wG2 cI cJ tp pl pf ln lay fs ++ (wFt cJ b0 b1 b2 b3 b4 b5 b6 B9 ++ (wFt cJ l0 l1 l2 l3 l4 l5 l6 L9))))) := hD
    have hP : va_P D vwCl (wG1 cI t0 tg td tr tp b0 l0 ra_1 ca_2 noa_3 wea_4 tla_5 una_6 dna_7 kna_8 u_9 ++ (wG2 cI cJ tp pl pf ln lay fs ++ (wFt cJ b0 b1 b2 b3 b4 b5 b6 B9 ++ (wFt cJ l0 l1 l2 l3 l4 l5 l6 L9 ++ (wMM cI cZ h0 q rm_11 cm_12 tnm_13 dnm_14 agm_15 mdm_16 em bm_17 acm_18 zm_19 tu fa ey pw y1 y2 n9))))) H := va_P_perm hP pm_1.symm
    have hD : va_D A (wG1 cI t0 tg td tr tp b0 l0 ra_1 ca_2 noa_3 wea_4 tla_5 una_6 dna_7 kna_8 u_9 ++ (wG2 cI cJ tp pl pf ln lay fs ++ (wFt cJ b0 b1 b2 b3 b4 b5 b6 B9 ++ (wFt cJ l0 l1 l2 l3 l4 l5 l6 L9 ++ (wMM cI cZ h0 q rm_11 cm_12 tnm_13 dnm_14 agm_15 mdm_16 em bm_17 acm_18 zm_19 tu fa ey pw y1 y2 n9))))) := va_D_perm hD pm_1.symm
    exact IH H locs ls ⟨ra_1, ca_2, noa_3, wea_4, tla_5, una_6, dna_7, kna_8, u_9, ln, lay, fs, B9, L9, rm_11, cm_12, tnm_13, dnm_14, agm_15, mdm_16, em, bm_17, acm_18, zm_19, tu, fa, ey, pw, y1, y2, n9, hP, hD, hS, lv_sub hl [1, 2, 3, 0] rfl, hrl9, hBin, hLin⟩
  · exact absurd hop9 c_218_21

set_option maxHeartbeats 4000000 in
set_option maxRecDepth 100000 in
theorem lc_swap {p : Program} {l : Launch} {e : Env} {s : State} {m : MethodId} {below : List Frame} {meth : Method} {c : Code} {Q : State → Prop} {D : va_G} {cI cJ cZ : ClassId} {A : Nat → Prop} {sb L : Nat} {xs : Nat → Int32} {t0 tg td tr tp pl pf b0 b1 b2 b3 b4 b5 b6 l0 l1 l2 l3 l4 l5 l6 h0 : Nat} {q : Nat → Nat} {i : Nat} {H : Heap} {locs : List Loc} {ls : Array Slot} (C0 : LCt p s m c D cI cJ cZ A sb L xs) (hi : i + 5 ≤ L) (IH : ∀ H locs ls, LInv D cI cJ cZ A s.heap sb t0 tg td tr tp pl pf b0 b1 b2 b3 b4 b5 b6 l0 l1 l2 l3 l4 l5 l6 h0 q (i + 5) H locs ls → W p l e room_1 s m #[Value.ref sb] below meth c H locs 600000 7302250 Q (F0 m 18 ls [])) (h : LInv D cI cJ cZ A s.heap sb t0 tg td tr tp pl pf b0 b1 b2 b3 b4 b5 b6 l0 l1 l2 l3 l4 l5 l6 h0 q i H locs ls) : W p l e room_1 s m #[Value.ref sb] below meth c H locs 600000 7302250 Q (F0 m 223 ls []) := by
  obtain ⟨hx, hb, hml, hown, hts, hX, hbl, hK2, hA, hbA, hL⟩ := C0
  have hK := hK2.1
  have hN := hK2.2
  obtain ⟨R, C, no, we, tl, un, dn, kn, row, ln, lay, fs, B9, L9, R2, C2, tn, dn2, ag, md, em, bo, ac, zz, tu, fa, ey, pw, y1, y2, n9, hP, hD, hS, hl, hrel9, hBin, hLin⟩ := h
  obtain ⟨rfl, rfl, rfl, rfl, rfl, hrel⟩ := hrel9
  obtain ⟨⟨⟨hR1, hR2⟩, hC1, hC2⟩, hsR, htl, hun, hkn, hacb, -⟩ := id hrel
  have hRC := rel_rc hrel
  have hk37 := rel_kn hrel
  have hde := rel_de hrel
  have hae := rel_ae hrel
  have hac := rel_ac hrel
  have htn := htl
  have hmd := hun
  have hno := sR_no hsR
  have hwe := sR_we hsR
  have hbv := hsR.2.2
  have hP : va_P D vwCl ([(t0, wTB tg td tp b0 l0 no we tl un), (tg, wGr R C), (td, .inr (0, [.ref tr, .int (nI dn), .int (nI kn)])), (tr, .inl (cI, 37, .inl row))] ++ (wG2 cI cJ tp pl pf ln lay fs ++ (wFt cJ b0 b1 b2 b3 b4 b5 b6 B9 ++ (wFt cJ l0 l1 l2 l3 l4 l5 l6 L9 ++ (wMM cI cZ h0 q R C tl dn ag un em bo ac zz tu fa ey pw y1 y2 n9))))) H := hP
  have hD : va_D A ([(t0, wTB tg td tp b0 l0 no we tl un), (tg, wGr R C), (td, .inr (0, [.ref tr, .int (nI dn), .int (nI kn)])), (tr, .inl (cI, 37, .inl row))] ++ (wG2 cI cJ tp pl pf ln lay fs ++ (wFt cJ b0 b1 b2 b3 b4 b5 b6 B9 ++ (wFt cJ l0 l1 l2 l3 l4 l5 l6 L9 ++ (wMM cI cZ h0 q R C tl dn ag un em bo ac zz tu fa ey pw y1 y2 n9))))) := hD
  refine lv_aload_n hx hb dL_law_223 rfl (lv_at hl 1 rfl) ?_
  have hPT := va_Pl hP
  have hDT := va_Dl hD
  refine k_calliF (X := [(t0, wTB tg td tp b0 l0 no we tl un), (tg, wGr R C), (td, .inr (0, [.ref tr, .int (nI dn), .int (nI kn)])), (tr, .inl (cI, 37, .inl row))]) (pl := (wG2 cI cJ tp pl pf ln lay fs ++ (wFt cJ b0 b1 b2 b3 b4 b5 b6 B9 ++ (wFt cJ l0 l1 l2 l3 l4 l5 l6 L9 ++ (wMM cI cZ h0 q R C tl dn ag un em bo ac zz tu fa ey pw y1 y2 n9))))) (wr := []) (w2 := (fun u : TS => match u with | (Ra, Ca, noa, wea, tla, una, dna, kna, rowa) => [(t0, wTB tg td tp b0 l0 noa wea tla una), (tg, wGr Ra Ca), (td, .inr (0, [.ref tr, .int (nI dna), .int (nI kna)])), (tr, .inl (cI, 37, .inl rowa))])) (va_runV (As := []) (rest := []) ⟨hx, hb, hml, hown, hts⟩ (c_T_swap l D cI cJ cZ t0 tg td tp b0 l0 no we tl un R C tr dn kn row hR1 hR2 hC1 hC2 hRC (by omega) (by omega) hun  H.size) (cwV 0 hts gL_law_X5_swap rfl rfl rfl (by decide +kernel) ⟨Nat.le_of_ble_eq_true rfl, Nat.le_of_ble_eq_true rfl⟩) (kPV (ci := 5) (q0 := 0) (wc := [(t0, wTB tg td tp b0 l0 no we tl un), (tg, wGr R C), (td, .inr (0, [.ref tr, .int (nI dn), .int (nI kn)])), (tr, .inl (cI, 37, .inl row))]) hK2 hPT hDT [0, 1, 2, 3] rfl (by decide) rfl rfl) rfl rfl hl.1 rfl (lv_room (Nat.le_of_ble_eq_true rfl)) dL_law_224 ⟨Nat.le_of_ble_eq_true rfl, Nat.le_of_ble_eq_true rfl⟩) hP hD hS hA [0, 1, 2, 3] [] [0, 1, 2, 3] rfl rfl (by decide) (by decide) (fun ⟨_, _, _, _, _, _, _, _, _⟩ => rfl) (fun ⟨_, _, _, _, _, _, _, _, _⟩ => rfl) (fun r_10 u_10 H locs hw_10 hP hD hS => ?_)
  obtain ⟨ra_1, ca_2, noa_3, wea_4, tla_5, una_6, dna_7, kna_8, u_9⟩ := u_10
  have hP : va_P D vwCl ([(t0, wTB tg td tp b0 l0 noa_3 wea_4 tla_5 una_6), (tg, wGr ra_1 ca_2), (td, .inr (0, [.ref tr, .int (nI dna_7), .int (nI kna_8)])), (tr, .inl (cI, 37, .inl u_9))] ++ (wG2 cI cJ tp pl pf ln lay fs ++ (wFt cJ b0 b1 b2 b3 b4 b5 b6 B9 ++ (wFt cJ l0 l1 l2 l3 l4 l5 l6 L9 ++ (wMM cI cZ h0 q R C tl dn ag un em bo ac zz tu fa ey pw y1 y2 n9))))) H := hP
  have hD : va_D A ([(t0, wTB tg td tp b0 l0 noa_3 wea_4 tla_5 una_6), (tg, wGr ra_1 ca_2), (td, .inr (0, [.ref tr, .int (nI dna_7), .int (nI kna_8)])), (tr, .inl (cI, 37, .inl u_9))] ++ (wG2 cI cJ tp pl pf ln lay fs ++ (wFt cJ b0 b1 b2 b3 b4 b5 b6 B9 ++ (wFt cJ l0 l1 l2 l3 l4 l5 l6 L9 ++ (wMM cI cZ h0 q R C tl dn ag un em bo ac zz tu fa ey pw y1 y2 n9))))) := hD
  have hP : va_P D vwCl (wG1 cI t0 tg td tr tp b0 l0 ra_1 ca_2 noa_3 wea_4 tla_5 una_6 dna_7 kna_8 u_9 ++ (wG2 cI cJ tp pl pf ln lay fs ++ (wFt cJ b0 b1 b2 b3 b4 b5 b6 B9 ++ (wFt cJ l0 l1 l2 l3 l4 l5 l6 L9 ++ (wMM cI cZ h0 q R C tl dn ag un em bo ac zz tu fa ey pw y1 y2 n9))))) H := hP
  have hD : va_D A (wG1 cI t0 tg td tr tp b0 l0 ra_1 ca_2 noa_3 wea_4 tla_5 una_6 dna_7 kna_8 u_9 ++ (wG2 cI cJ tp pl pf ln lay fs ++ (wFt cJ b0 b1 b2 b3 b4 b5 b6 B9 ++ (wFt cJ l0 l1 l2 l3 l4 l5 l6 L9 ++ (wMM cI cZ h0 q R C tl dn ag un em bo ac zz tu fa ey pw y1 y2 n9))))) := hD
  have hP := va_P_perm hP pm_1
  have hD := va_D_perm hD pm_1
  have hP : va_P D vwCl ([(h0, wMo q R C tl dn ag un em), ((q 0), .inl (cI, 36, .inl (nA bo))), ((q 1), .inl (cI, 80, .inl (nA ac))), ((q 2), .inl (cZ, 36, .inl (bA zz))), ((q 3), .inl (cI, 36, .inl (nA tu))), ((q 4), .inl (cI, 36, .inl (nA fa))), ((q 5), .inl (cI, 10, .inl (nA ey))), ((q 6), .inl (cI, 11, .inl (nA pw))), ((q 7), .inl (cZ, 59049, .inl (bA y1))), ((q 8), .inl (cZ, 59049, .inl (bA y2))), ((q 9), .inl (cZ, 1024, .inl (bA n9)))] ++ (wG1 cI t0 tg td tr tp b0 l0 ra_1 ca_2 noa_3 wea_4 tla_5 una_6 dna_7 kna_8 u_9 ++ (wG2 cI cJ tp pl pf ln lay fs ++ (wFt cJ b0 b1 b2 b3 b4 b5 b6 B9 ++ (wFt cJ l0 l1 l2 l3 l4 l5 l6 L9))))) H := hP
  have hD : va_D A ([(h0, wMo q R C tl dn ag un em), ((q 0), .inl (cI, 36, .inl (nA bo))), ((q 1), .inl (cI, 80, .inl (nA ac))), ((q 2), .inl (cZ, 36, .inl (bA zz))), ((q 3), .inl (cI, 36, .inl (nA tu))), ((q 4), .inl (cI, 36, .inl (nA fa))), ((q 5), .inl (cI, 10, .inl (nA ey))), ((q 6), .inl (cI, 11, .inl (nA pw))), ((q 7), .inl (cZ, 59049, .inl (bA y1))), ((q 8), .inl (cZ, 59049, .inl (bA y2))), ((q 9), .inl (cZ, 1024, .inl (bA n9)))] ++ (wG1 cI t0 tg td tr tp b0 l0 ra_1 ca_2 noa_3 wea_4 tla_5 una_6 dna_7 kna_8 u_9 ++ (wG2 cI cJ tp pl pf ln lay fs ++ (wFt cJ b0 b1 b2 b3 b4 b5 b6 B9 ++ (wFt cJ l0 l1 l2 l3 l4 l5 l6 L9))))) := hD
  refine lv_aload_n hx hb dL_law_227 rfl (lv_at hl 2 rfl) ?_
  have hPT := va_Pl hP
  have hDT := va_Dl hD
  refine k_calliF (X := [(h0, wMo q R C tl dn ag un em), ((q 0), .inl (cI, 36, .inl (nA bo))), ((q 1), .inl (cI, 80, .inl (nA ac))), ((q 2), .inl (cZ, 36, .inl (bA zz))), ((q 3), .inl (cI, 36, .inl (nA tu))), ((q 4), .inl (cI, 36, .inl (nA fa))), ((q 5), .inl (cI, 10, .inl (nA ey))), ((q 6), .inl (cI, 11, .inl (nA pw))), ((q 7), .inl (cZ, 59049, .inl (bA y1))), ((q 8), .inl (cZ, 59049, .inl (bA y2))), ((q 9), .inl (cZ, 1024, .inl (bA n9)))]) (pl := (wG1 cI t0 tg td tr tp b0 l0 ra_1 ca_2 noa_3 wea_4 tla_5 una_6 dna_7 kna_8 u_9 ++ (wG2 cI cJ tp pl pf ln lay fs ++ (wFt cJ b0 b1 b2 b3 b4 b5 b6 B9 ++ (wFt cJ l0 l1 l2 l3 l4 l5 l6 L9))))) (wr := [((q 3), .inl (cI, 36, .inl (nA tu))), ((q 4), .inl (cI, 36, .inl (nA fa))), ((q 5), .inl (cI, 10, .inl (nA ey))), ((q 6), .inl (cI, 11, .inl (nA pw))), ((q 7), .inl (cZ, 59049, .inl (bA y1))), ((q 8), .inl (cZ, 59049, .inl (bA y2))), ((q 9), .inl (cZ, 1024, .inl (bA n9)))]) (w2 := (fun u : MS => match u with | (Rm, Cm, tnm, dnm, agm, mdm, bm, acm, zm) => [(h0, wMo q Rm Cm tnm dnm agm mdm em), ((q 0), .inl (cI, 36, .inl (nA bm))), ((q 1), .inl (cI, 80, .inl (nA acm))), ((q 2), .inl (cZ, 36, .inl (bA zm))), ((q 3), .inl (cI, 36, .inl (nA tu))), ((q 4), .inl (cI, 36, .inl (nA fa))), ((q 5), .inl (cI, 10, .inl (nA ey))), ((q 6), .inl (cI, 11, .inl (nA pw))), ((q 7), .inl (cZ, 59049, .inl (bA y1))), ((q 8), .inl (cZ, 59049, .inl (bA y2))), ((q 9), .inl (cZ, 1024, .inl (bA n9)))])) (va_runV (As := []) (rest := [.int r_10]) ⟨hx, hb, hml, hown, hts⟩ (c_R_swap l D cI cJ cZ h0 q R C tl dn ag un em bo ac zz hR1 hR2 hC1 hC2 hRC hbv (by omega) hac hmd hacb  H.size) (cwV 0 hts gL_law_X6_swap rfl rfl rfl (by decide +kernel) ⟨Nat.le_of_ble_eq_true rfl, Nat.le_of_ble_eq_true rfl⟩) (kPV (ci := 6) (q0 := 0) (wc := [(h0, wMo q R C tl dn ag un em), ((q 0), .inl (cI, 36, .inl (nA bo))), ((q 1), .inl (cI, 80, .inl (nA ac))), ((q 2), .inl (cZ, 36, .inl (bA zz)))]) hK2 hPT hDT [0, 1, 2, 3] rfl (by decide) rfl rfl) rfl rfl hl.1 rfl (lv_room (Nat.le_of_ble_eq_true rfl)) dL_law_228 ⟨Nat.le_of_ble_eq_true rfl, Nat.le_of_ble_eq_true rfl⟩) hP hD hS hA [0, 1, 2, 3] [4, 5, 6, 7, 8, 9, 10] [7, 8, 9, 10, 0, 1, 2, 3, 4, 5, 6] rfl rfl (by decide) (by decide) (fun ⟨_, _, _, _, _, _, _, _, _⟩ => rfl) (fun ⟨_, _, _, _, _, _, _, _, _⟩ => rfl) (fun r_20 u_20 H locs hw_20 hP hD hS => ?_)
  obtain ⟨rm_11, cm_12, tnm_13, dnm_14, agm_15, mdm_16, bm_17, acm_18, zm_19⟩ := u_20
  have hP : va_P D vwCl ([(h0, wMo q rm_11 cm_12 tnm_13 dnm_14 agm_15 mdm_16 em), ((q 0), .inl (cI, 36, .inl (nA bm_17))), ((q 1), .inl (cI, 80, .inl (nA acm_18))), ((q 2), .inl (cZ, 36, .inl (bA zm_19))), ((q 3), .inl (cI, 36, .inl (nA tu))), ((q 4), .inl (cI, 36, .inl (nA fa))), ((q 5), .inl (cI, 10, .inl (nA ey))), ((q 6), .inl (cI, 11, .inl (nA pw))), ((q 7), .inl (cZ, 59049, .inl (bA y1))), ((q 8), .inl (cZ, 59049, .inl (bA y2))), ((q 9), .inl (cZ, 1024, .inl (bA n9)))] ++ (wG1 cI t0 tg td tr tp b0 l0 ra_1 ca_2 noa_3 wea_4 tla_5 una_6 dna_7 kna_8 u_9 ++ (wG2 cI cJ tp pl pf ln lay fs ++ (wFt cJ b0 b1 b2 b3 b4 b5 b6 B9 ++ (wFt cJ l0 l1 l2 l3 l4 l5 l6 L9))))) H := hP
  have hD : va_D A ([(h0, wMo q rm_11 cm_12 tnm_13 dnm_14 agm_15 mdm_16 em), ((q 0), .inl (cI, 36, .inl (nA bm_17))), ((q 1), .inl (cI, 80, .inl (nA acm_18))), ((q 2), .inl (cZ, 36, .inl (bA zm_19))), ((q 3), .inl (cI, 36, .inl (nA tu))), ((q 4), .inl (cI, 36, .inl (nA fa))), ((q 5), .inl (cI, 10, .inl (nA ey))), ((q 6), .inl (cI, 11, .inl (nA pw))), ((q 7), .inl (cZ, 59049, .inl (bA y1))), ((q 8), .inl (cZ, 59049, .inl (bA y2))), ((q 9), .inl (cZ, 1024, .inl (bA n9)))] ++ (wG1 cI t0 tg td tr tp b0 l0 ra_1 ca_2 noa_3 wea_4 tla_5 una_6 dna_7 kna_8 u_9 ++ (wG2 cI cJ tp pl pf ln lay fs ++ (wFt cJ b0 b1 b2 b3 b4 b5 b6 B9 ++ (wFt cJ l0 l1 l2 l3 l4 l5 l6 L9))))) := hD
  obtain ⟨hop9, hrl9⟩ := op_swap hrel hw_10 hw_20
  refine lv_icmp_eq (tgt := 599) hx hb dL_law_231 (by decide) (fun c_231_21 => ?_) (fun c_231_21 => ?_)
  · refine lv_iinc (v := (nI (i + 5))) (lv' := [(3, .int (nI (i + 5))), (0, .ref sb), (1, .ref t0), (2, .ref h0)]) hx hb dL_law_599 hl (k := 3) rfl (k_inc _ 5) (by decide) rfl (fun ls hl => ?_)
    refine lv_goto (tgt := 18) hx hb dL_law_602 (by decide) ?_
    have hP : va_P D vwCl (wMM cI cZ h0 q rm_11 cm_12 tnm_13 dnm_14 agm_15 mdm_16 em bm_17 acm_18 zm_19 tu fa ey pw y1 y2 n9 ++ (wG1 cI t0 tg td tr tp b0 l0 ra_1 ca_2 noa_3 wea_4 tla_5 una_6 dna_7 kna_8 u_9 ++ (wG2 cI cJ tp pl pf ln lay fs ++ (wFt cJ b0 b1 b2 b3 b4 b5 b6 B9 ++ (wFt cJ l0 l1 l2 l3 l4 l5 l6 L9))))) H := hP
    have hD : va_D A (wMM cI cZ h0 q rm_11 cm_12 tnm_13 dnm_14 agm_15 mdm_16 em bm_17 acm_18 zm_19 tu fa ey pw y1 y2 n9 ++ (wG1 cI t0 tg td tr tp b0 l0 ra_1 ca_2 noa_3 wea_4 tla_5 una_6 dna_7 kna_8 u_9 ++ (wG2 cI cJ tp pl pf ln lay fs ++ (wFt cJ b0 b1 b2 b3 b4 b5 b6 B9 ++ (wFt cJ l0 l1 l2 l3 l4 l5 l6 L9))))) := hD
    have hP : va_P D vwCl (wG1 cI t0 tg td tr tp b0 l0 ra_1 ca_2 noa_3 wea_4 tla_5 una_6 dna_7 kna_8 u_9 ++ (wG2 cI cJ tp pl pf ln lay fs ++ (wFt cJ b0 b1 b2 b3 b4 b5 b6 B9 ++ (wFt cJ l0 l1 l2 l3 l4 l5 l6 L9 ++ (wMM cI cZ h0 q rm_11 cm_12 tnm_13 dnm_14 agm_15 mdm_16 em bm_17 acm_18 zm_19 tu fa ey pw y1 y2 n9))))) H := va_P_perm hP pm_1.symm
    have hD : va_D A (wG1 cI t0 tg td tr tp b0 l0 ra_1 ca_2 noa_3 wea_4 tla_5 una_6 dna_7 kna_8 u_9 ++ (wG2 cI cJ tp pl pf ln lay fs ++ (wFt cJ b0 b1 b2 b3 b4 b5 b6 B9 ++ (wFt cJ l0 l1 l2 l3 l4 l5 l6 L9 ++ (wMM cI cZ h0 q rm_11 cm_12 tnm_13 dnm_14 agm_15 mdm_16 em bm_17 acm_18 zm_19 tu fa ey pw y1 y2 n9))))) := va_D_perm hD pm_1.symm
    exact IH H locs ls ⟨ra_1, ca_2, noa_3, wea_4, tla_5, una_6, dna_7, kna_8, u_9, ln, lay, fs, B9, L9, rm_11, cm_12, tnm_13, dnm_14, agm_15, mdm_16, em, bm_17, acm_18, zm_19, tu, fa, ey, pw, y1, y2, n9, hP, hD, hS, lv_sub hl [1, 2, 3, 0] rfl, hrl9, hBin, hLin⟩
  · exact absurd hop9 c_231_21

set_option maxHeartbeats 4000000 in
set_option maxRecDepth 100000 in
theorem lc_undo {p : Program} {l : Launch} {e : Env} {s : State} {m : MethodId} {below : List Frame} {meth : Method} {c : Code} {Q : State → Prop} {D : va_G} {cI cJ cZ : ClassId} {A : Nat → Prop} {sb L : Nat} {xs : Nat → Int32} {t0 tg td tr tp pl pf b0 b1 b2 b3 b4 b5 b6 l0 l1 l2 l3 l4 l5 l6 h0 : Nat} {q : Nat → Nat} {i : Nat} {H : Heap} {locs : List Loc} {ls : Array Slot} (C0 : LCt p s m c D cI cJ cZ A sb L xs) (hi : i + 5 ≤ L) (IH : ∀ H locs ls, LInv D cI cJ cZ A s.heap sb t0 tg td tr tp pl pf b0 b1 b2 b3 b4 b5 b6 l0 l1 l2 l3 l4 l5 l6 h0 q (i + 5) H locs ls → W p l e room_1 s m #[Value.ref sb] below meth c H locs 600000 7302250 Q (F0 m 18 ls [])) (h : LInv D cI cJ cZ A s.heap sb t0 tg td tr tp pl pf b0 b1 b2 b3 b4 b5 b6 l0 l1 l2 l3 l4 l5 l6 h0 q i H locs ls) : W p l e room_1 s m #[Value.ref sb] below meth c H locs 600000 7302250 Q (F0 m 236 ls []) := by
  obtain ⟨hx, hb, hml, hown, hts, hX, hbl, hK2, hA, hbA, hL⟩ := C0
  have hK := hK2.1
  have hN := hK2.2
  obtain ⟨R, C, no, we, tl, un, dn, kn, row, ln, lay, fs, B9, L9, R2, C2, tn, dn2, ag, md, em, bo, ac, zz, tu, fa, ey, pw, y1, y2, n9, hP, hD, hS, hl, hrel9, hBin, hLin⟩ := h
  obtain ⟨rfl, rfl, rfl, rfl, rfl, hrel⟩ := hrel9
  obtain ⟨⟨⟨hR1, hR2⟩, hC1, hC2⟩, hsR, htl, hun, hkn, hacb, -⟩ := id hrel
  have hRC := rel_rc hrel
  have hk37 := rel_kn hrel
  have hde := rel_de hrel
  have hae := rel_ae hrel
  have hac := rel_ac hrel
  have htn := htl
  have hmd := hun
  have hno := sR_no hsR
  have hwe := sR_we hsR
  have hbv := hsR.2.2
  have hP : va_P D vwCl ([(t0, wTB tg td tp b0 l0 no we tl un), (tg, wGr R C), (td, .inr (0, [.ref tr, .int (nI dn), .int (nI kn)])), (tr, .inl (cI, 37, .inl row))] ++ (wG2 cI cJ tp pl pf ln lay fs ++ (wFt cJ b0 b1 b2 b3 b4 b5 b6 B9 ++ (wFt cJ l0 l1 l2 l3 l4 l5 l6 L9 ++ (wMM cI cZ h0 q R C tl dn ag un em bo ac zz tu fa ey pw y1 y2 n9))))) H := hP
  have hD : va_D A ([(t0, wTB tg td tp b0 l0 no we tl un), (tg, wGr R C), (td, .inr (0, [.ref tr, .int (nI dn), .int (nI kn)])), (tr, .inl (cI, 37, .inl row))] ++ (wG2 cI cJ tp pl pf ln lay fs ++ (wFt cJ b0 b1 b2 b3 b4 b5 b6 B9 ++ (wFt cJ l0 l1 l2 l3 l4 l5 l6 L9 ++ (wMM cI cZ h0 q R C tl dn ag un em bo ac zz tu fa ey pw y1 y2 n9))))) := hD
  refine lv_aload_n hx hb dL_law_236 rfl (lv_at hl 1 rfl) ?_
  have hPT := va_Pl hP
  have hDT := va_Dl hD
  refine k_calliF (X := [(t0, wTB tg td tp b0 l0 no we tl un), (tg, wGr R C), (td, .inr (0, [.ref tr, .int (nI dn), .int (nI kn)])), (tr, .inl (cI, 37, .inl row))]) (pl := (wG2 cI cJ tp pl pf ln lay fs ++ (wFt cJ b0 b1 b2 b3 b4 b5 b6 B9 ++ (wFt cJ l0 l1 l2 l3 l4 l5 l6 L9 ++ (wMM cI cZ h0 q R C tl dn ag un em bo ac zz tu fa ey pw y1 y2 n9))))) (wr := []) (w2 := (fun u : TS => match u with | (Ra, Ca, noa, wea, tla, una, dna, kna, rowa) => [(t0, wTB tg td tp b0 l0 noa wea tla una), (tg, wGr Ra Ca), (td, .inr (0, [.ref tr, .int (nI dna), .int (nI kna)])), (tr, .inl (cI, 37, .inl rowa))])) (va_runV (As := []) (rest := []) ⟨hx, hb, hml, hown, hts⟩ (c_T_undo l D cI cJ cZ t0 tg td tp b0 l0 no we tl un R C tr dn kn row hR1 hR2 hC1 hC2 hRC (by omega) (by omega) htl hde  H.size) (cwV 0 hts gL_law_X5_undo rfl rfl rfl (by decide +kernel) ⟨Nat.le_of_ble_eq_true rfl, Nat.le_of_ble_eq_true rfl⟩) (kPV (ci := 5) (q0 := 0) (wc := [(t0, wTB tg td tp b0 l0 no we tl un), (tg, wGr R C), (td, .inr (0, [.ref tr, .int (nI dn), .int (nI kn)])), (tr, .inl (cI, 37, .inl row))]) hK2 hPT hDT [0, 1, 2, 3] rfl (by decide) rfl rfl) rfl rfl hl.1 rfl (lv_room (Nat.le_of_ble_eq_true rfl)) dL_law_237 ⟨Nat.le_of_ble_eq_true rfl, Nat.le_of_ble_eq_true rfl⟩) hP hD hS hA [0, 1, 2, 3] [] [0, 1, 2, 3] rfl rfl (by decide) (by decide) (fun ⟨_, _, _, _, _, _, _, _, _⟩ => rfl) (fun ⟨_, _, _, _, _, _, _, _, _⟩ => rfl) (fun r_10 u_10 H locs hw_10 hP hD hS => ?_)
  obtain ⟨ra_1, ca_2, noa_3, wea_4, tla_5, una_6, dna_7, kna_8, u_9⟩ := u_10
  have hP : va_P D vwCl ([(t0, wTB tg td tp b0 l0 noa_3 wea_4 tla_5 una_6), (tg, wGr ra_1 ca_2), (td, .inr (0, [.ref tr, .int (nI dna_7), .int (nI kna_8)])), (tr, .inl (cI, 37, .inl u_9))] ++ (wG2 cI cJ tp pl pf ln lay fs ++ (wFt cJ b0 b1 b2 b3 b4 b5 b6 B9 ++ (wFt cJ l0 l1 l2 l3 l4 l5 l6 L9 ++ (wMM cI cZ h0 q R C tl dn ag un em bo ac zz tu fa ey pw y1 y2 n9))))) H := hP
  have hD : va_D A ([(t0, wTB tg td tp b0 l0 noa_3 wea_4 tla_5 una_6), (tg, wGr ra_1 ca_2), (td, .inr (0, [.ref tr, .int (nI dna_7), .int (nI kna_8)])), (tr, .inl (cI, 37, .inl u_9))] ++ (wG2 cI cJ tp pl pf ln lay fs ++ (wFt cJ b0 b1 b2 b3 b4 b5 b6 B9 ++ (wFt cJ l0 l1 l2 l3 l4 l5 l6 L9 ++ (wMM cI cZ h0 q R C tl dn ag un em bo ac zz tu fa ey pw y1 y2 n9))))) := hD
  have hP : va_P D vwCl (wG1 cI t0 tg td tr tp b0 l0 ra_1 ca_2 noa_3 wea_4 tla_5 una_6 dna_7 kna_8 u_9 ++ (wG2 cI cJ tp pl pf ln lay fs ++ (wFt cJ b0 b1 b2 b3 b4 b5 b6 B9 ++ (wFt cJ l0 l1 l2 l3 l4 l5 l6 L9 ++ (wMM cI cZ h0 q R C tl dn ag un em bo ac zz tu fa ey pw y1 y2 n9))))) H := hP
  have hD : va_D A (wG1 cI t0 tg td tr tp b0 l0 ra_1 ca_2 noa_3 wea_4 tla_5 una_6 dna_7 kna_8 u_9 ++ (wG2 cI cJ tp pl pf ln lay fs ++ (wFt cJ b0 b1 b2 b3 b4 b5 b6 B9 ++ (wFt cJ l0 l1 l2 l3 l4 l5 l6 L9 ++ (wMM cI cZ h0 q R C tl dn ag un em bo ac zz tu fa ey pw y1 y2 n9))))) := hD
  have hP := va_P_perm hP pm_1
  have hD := va_D_perm hD pm_1
  have hP : va_P D vwCl ([(h0, wMo q R C tl dn ag un em), ((q 0), .inl (cI, 36, .inl (nA bo))), ((q 1), .inl (cI, 80, .inl (nA ac))), ((q 2), .inl (cZ, 36, .inl (bA zz))), ((q 3), .inl (cI, 36, .inl (nA tu))), ((q 4), .inl (cI, 36, .inl (nA fa))), ((q 5), .inl (cI, 10, .inl (nA ey))), ((q 6), .inl (cI, 11, .inl (nA pw))), ((q 7), .inl (cZ, 59049, .inl (bA y1))), ((q 8), .inl (cZ, 59049, .inl (bA y2))), ((q 9), .inl (cZ, 1024, .inl (bA n9)))] ++ (wG1 cI t0 tg td tr tp b0 l0 ra_1 ca_2 noa_3 wea_4 tla_5 una_6 dna_7 kna_8 u_9 ++ (wG2 cI cJ tp pl pf ln lay fs ++ (wFt cJ b0 b1 b2 b3 b4 b5 b6 B9 ++ (wFt cJ l0 l1 l2 l3 l4 l5 l6 L9))))) H := hP
  have hD : va_D A ([(h0, wMo q R C tl dn ag un em), ((q 0), .inl (cI, 36, .inl (nA bo))), ((q 1), .inl (cI, 80, .inl (nA ac))), ((q 2), .inl (cZ, 36, .inl (bA zz))), ((q 3), .inl (cI, 36, .inl (nA tu))), ((q 4), .inl (cI, 36, .inl (nA fa))), ((q 5), .inl (cI, 10, .inl (nA ey))), ((q 6), .inl (cI, 11, .inl (nA pw))), ((q 7), .inl (cZ, 59049, .inl (bA y1))), ((q 8), .inl (cZ, 59049, .inl (bA y2))), ((q 9), .inl (cZ, 1024, .inl (bA n9)))] ++ (wG1 cI t0 tg td tr tp b0 l0 ra_1 ca_2 noa_3 wea_4 tla_5 una_6 dna_7 kna_8 u_9 ++ (wG2 cI cJ tp pl pf ln lay fs ++ (wFt cJ b0 b1 b2 b3 b4 b5 b6 B9 ++ (wFt cJ l0 l1 l2 l3 l4 l5 l6 L9))))) := hD
  refine lv_aload_n hx hb dL_law_240 rfl (lv_at hl 2 rfl) ?_
  have hPT := va_Pl hP
  have hDT := va_Dl hD
  refine k_calliF (X := [(h0, wMo q R C tl dn ag un em), ((q 0), .inl (cI, 36, .inl (nA bo))), ((q 1), .inl (cI, 80, .inl (nA ac))), ((q 2), .inl (cZ, 36, .inl (bA zz))), ((q 3), .inl (cI, 36, .inl (nA tu))), ((q 4), .inl (cI, 36, .inl (nA fa))), ((q 5), .inl (cI, 10, .inl (nA ey))), ((q 6), .inl (cI, 11, .inl (nA pw))), ((q 7), .inl (cZ, 59049, .inl (bA y1))), ((q 8), .inl (cZ, 59049, .inl (bA y2))), ((q 9), .inl (cZ, 1024, .inl (bA n9)))]) (pl := (wG1 cI t0 tg td tr tp b0 l0 ra_1 ca_2 noa_3 wea_4 tla_5 una_6 dna_7 kna_8 u_9 ++ (wG2 cI cJ tp pl pf ln lay fs ++ (wFt cJ b0 b1 b2 b3 b4 b5 b6 B9 ++ (wFt cJ l0 l1 l2 l3 l4 l5 l6 L9))))) (wr := [((q 3), .inl (cI, 36, .inl (nA tu))), ((q 4), .inl (cI, 36, .inl (nA fa))), ((q 5), .inl (cI, 10, .inl (nA ey))), ((q 6), .inl (cI, 11, .inl (nA pw))), ((q 7), .inl (cZ, 59049, .inl (bA y1))), ((q 8), .inl (cZ, 59049, .inl (bA y2))), ((q 9), .inl (cZ, 1024, .inl (bA n9)))]) (w2 := (fun u : MS => match u with | (Rm, Cm, tnm, dnm, agm, mdm, bm, acm, zm) => [(h0, wMo q Rm Cm tnm dnm agm mdm em), ((q 0), .inl (cI, 36, .inl (nA bm))), ((q 1), .inl (cI, 80, .inl (nA acm))), ((q 2), .inl (cZ, 36, .inl (bA zm))), ((q 3), .inl (cI, 36, .inl (nA tu))), ((q 4), .inl (cI, 36, .inl (nA fa))), ((q 5), .inl (cI, 10, .inl (nA ey))), ((q 6), .inl (cI, 11, .inl (nA pw))), ((q 7), .inl (cZ, 59049, .inl (bA y1))), ((q 8), .inl (cZ, 59049, .inl (bA y2))), ((q 9), .inl (cZ, 1024, .inl (bA n9)))])) (va_runV (As := []) (rest := [.int r_10]) ⟨hx, hb, hml, hown, hts⟩ (c_R_undo l D cI cJ cZ h0 q R C tl dn ag un em bo ac zz hR1 hR2 hC1 hC2 hRC (by omega) htn hae hacb  H.size) (cwV 0 hts gL_law_X6_undo rfl rfl rfl (by decide +kernel) ⟨Nat.le_of_ble_eq_true rfl, Nat.le_of_ble_eq_true rfl⟩) (kPV (ci := 6) (q0 := 0) (wc := [(h0, wMo q R C tl dn ag un em), ((q 0), .inl (cI, 36, .inl (nA bo))), ((q 1), .inl (cI, 80, .inl (nA ac))), ((q 2), .inl (cZ, 36, .inl (bA zz)))]) hK2 hPT hDT [0, 1, 2, 3] rfl (by decide) rfl rfl) rfl rfl hl.1 rfl (lv_room (Nat.le_of_ble_eq_true rfl)) dL_law_241 ⟨Nat.le_of_ble_eq_true rfl, Nat.le_of_ble_eq_true rfl⟩) hP hD hS hA [0, 1, 2, 3] [4, 5, 6, 7, 8, 9, 10] [7, 8, 9, 10, 0, 1, 2, 3, 4, 5, 6] rfl rfl (by decide) (by decide) (fun ⟨_, _, _, _, _, _, _, _, _⟩ => rfl) (fun ⟨_, _, _, _, _, _, _, _, _⟩ => rfl) (fun r_20 u_20 H locs hw_20 hP hD hS => ?_)
  obtain ⟨rm_11, cm_12, tnm_13, dnm_14, agm_15, mdm_16, bm_17, acm_18, zm_19⟩ := u_20
  have hP : va_P D vwCl ([(h0, wMo q rm_11 cm_12 tnm_13 dnm_14 agm_15 mdm_16 em), ((q 0), .inl (cI, 36, .inl (nA bm_17))), ((q 1), .inl (cI, 80, .inl (nA acm_18))), ((q 2), .inl (cZ, 36, .inl (bA zm_19))), ((q 3), .inl (cI, 36, .inl (nA tu))), ((q 4), .inl (cI, 36, .inl (nA fa))), ((q 5), .inl (cI, 10, .inl (nA ey))), ((q 6), .inl (cI, 11, .inl (nA pw))), ((q 7), .inl (cZ, 59049, .inl (bA y1))), ((q 8), .inl (cZ, 59049, .inl (bA y2))), ((q 9), .inl (cZ, 1024, .inl (bA n9)))] ++ (wG1 cI t0 tg td tr tp b0 l0 ra_1 ca_2 noa_3 wea_4 tla_5 una_6 dna_7 kna_8 u_9 ++ (wG2 cI cJ tp pl pf ln lay fs ++ (wFt cJ b0 b1 b2 b3 b4 b5 b6 B9 ++ (wFt cJ l0 l1 l2 l3 l4 l5 l6 L9))))) H := hP
  have hD : va_D A ([(h0, wMo q rm_11 cm_12 tnm_13 dnm_14 agm_15 mdm_16 em), ((q 0), .inl (cI, 36, .inl (nA bm_17))), ((q 1), .inl (cI, 80, .inl (nA acm_18))), ((q 2), .inl (cZ, 36, .inl (bA zm_19))), ((q 3), .inl (cI, 36, .inl (nA tu))), ((q 4), .inl (cI, 36, .inl (nA fa))), ((q 5), .inl (cI, 10, .inl (nA ey))), ((q 6), .inl (cI, 11, .inl (nA pw))), ((q 7), .inl (cZ, 59049, .inl (bA y1))), ((q 8), .inl (cZ, 59049, .inl (bA y2))), ((q 9), .inl (cZ, 1024, .inl (bA n9)))] ++ (wG1 cI t0 tg td tr tp b0 l0 ra_1 ca_2 noa_3 wea_4 tla_5 una_6 dna_7 kna_8 u_9 ++ (wG2 cI cJ tp pl pf ln lay fs ++ (wFt cJ b0 b1 b2 b3 b4 b5 b6 B9 ++ (wFt cJ l0 l1 l2 l3 l4 l5 l6 L9))))) := hD
  obtain ⟨hop9, hrl9⟩ := op_undo hrel hw_10 hw_20
  refine lv_icmp_eq (tgt := 599) hx hb dL_law_244 (by decide) (fun c_244_21 => ?_) (fun c_244_21 => ?_)
  · refine lv_iinc (v := (nI (i + 5))) (lv' := [(3, .int (nI (i + 5))), (0, .ref sb), (1, .ref t0), (2, .ref h0)]) hx hb dL_law_599 hl (k := 3) rfl (k_inc _ 5) (by decide) rfl (fun ls hl => ?_)
    refine lv_goto (tgt := 18) hx hb dL_law_602 (by decide) ?_
    have hP : va_P D vwCl (wMM cI cZ h0 q rm_11 cm_12 tnm_13 dnm_14 agm_15 mdm_16 em bm_17 acm_18 zm_19 tu fa ey pw y1 y2 n9 ++ (wG1 cI t0 tg td tr tp b0 l0 ra_1 ca_2 noa_3 wea_4 tla_5 una_6 dna_7 kna_8 u_9 ++ (wG2 cI cJ tp pl pf ln lay fs ++ (wFt cJ b0 b1 b2 b3 b4 b5 b6 B9 ++ (wFt cJ l0 l1 l2 l3 l4 l5 l6 L9))))) H := hP
    have hD : va_D A (wMM cI cZ h0 q rm_11 cm_12 tnm_13 dnm_14 agm_15 mdm_16 em bm_17 acm_18 zm_19 tu fa ey pw y1 y2 n9 ++ (wG1 cI t0 tg td tr tp b0 l0 ra_1 ca_2 noa_3 wea_4 tla_5 una_6 dna_7 kna_8 u_9 ++ (wG2 cI cJ tp pl pf ln lay fs ++ (wFt cJ b0 b1 b2 b3 b4 b5 b6 B9 ++ (wFt cJ l0 l1 l2 l3 l4 l5 l6 L9))))) := hD
    have hP : va_P D vwCl (wG1 cI t0 tg td tr tp b0 l0 ra_1 ca_2 noa_3 wea_4 tla_5 una_6 dna_7 kna_8 u_9 ++ (wG2 cI cJ tp pl pf ln lay fs ++ (wFt cJ b0 b1 b2 b3 b4 b5 b6 B9 ++ (wFt cJ l0 l1 l2 l3 l4 l5 l6 L9 ++ (wMM cI cZ h0 q rm_11 cm_12 tnm_13 dnm_14 agm_15 mdm_16 em bm_17 acm_18 zm_19 tu fa ey pw y1 y2 n9))))) H := va_P_perm hP pm_1.symm
    have hD : va_D A (wG1 cI t0 tg td tr tp b0 l0 ra_1 ca_2 noa_3 wea_4 tla_5 una_6 dna_7 kna_8 u_9 ++ (wG2 cI cJ tp pl pf ln lay fs ++ (wFt cJ b0 b1 b2 b3 b4 b5 b6 B9 ++ (wFt cJ l0 l1 l2 l3 l4 l5 l6 L9 ++ (wMM cI cZ h0 q rm_11 cm_12 tnm_13 dnm_14 agm_15 mdm_16 em bm_17 acm_18 zm_19 tu fa ey pw y1 y2 n9))))) := va_D_perm hD pm_1.symm
    exact IH H locs ls ⟨ra_1, ca_2, noa_3, wea_4, tla_5, una_6, dna_7, kna_8, u_9, ln, lay, fs, B9, L9, rm_11, cm_12, tnm_13, dnm_14, agm_15, mdm_16, em, bm_17, acm_18, zm_19, tu, fa, ey, pw, y1, y2, n9, hP, hD, hS, lv_sub hl [1, 2, 3, 0] rfl, hrl9, hBin, hLin⟩
  · exact absurd hop9 c_244_21

