/-! the calls, side by side -/
def rel (R C : Nat) (no we : Int64) (tl un dn kn : Nat) (row : Nat → Int32) (ag : Nat) (b ac : Nat → Nat) : Prop := ((1 ≤ R ∧ R ≤ 6) ∧ 1 ≤ C ∧ C ≤ 6) ∧ sR R C no we b ∧ (tl = 1 ∨ tl = 2) ∧ un ≤ 1 ∧ kn = dn + ag ∧ (∀ j, ac j < 200) ∧ ∃ bs ts, hR R C un dn kn b tl row ac bs ts
def rel9 (u : TS) (v : MS) : Prop := match u, v with | (R, C, no, we, tl, un, dn, kn, row), (R2, C2, tn, dn2, ag, md, b, ac, _) => R = R2 ∧ C = C2 ∧ tl = tn ∧ dn = dn2 ∧ un = md ∧ rel R C no we tl un dn kn row ag b ac
theorem rel_rc {R C : Nat} {no we : Int64} {tl un dn kn : Nat} {row : Nat → Int32} {ag : Nat} {b ac : Nat → Nat} (h : rel R C no we tl un dn kn row ag b ac) : R * C ≤ 36 := rc_le h.1.1.2 h.1.2.2
theorem rel_kn {R C : Nat} {no we : Int64} {tl un dn kn : Nat} {row : Nat → Int32} {ag : Nat} {b ac : Nat → Nat} (h : rel R C no we tl un dn kn row ag b ac) : kn ≤ 37 := by
  obtain ⟨bs, ts, hh⟩ := h.2.2.2.2.2.2
  exact hR_kn (rel_rc h) hh
theorem rel_de {R C : Nat} {no we : Int64} {tl un dn kn : Nat} {row : Nat → Int32} {ag : Nat} {b ac : Nat → Nat} (h : rel R C no we tl un dn kn row ag b ac) : ∀ j, j < kn → row j = -2 ∨ ∃ k, k < R * C ∧ row j = nI k := by
  obtain ⟨bs, ts, hh⟩ := h.2.2.2.2.2.2
  intro j hj
  rcases hh.2.2.2.2.2 j hj with ⟨h1, h2, _⟩ | ⟨rfl, _, _, F, _, _, _, h3, _⟩
  · exact Or.inr ⟨ac j, h1, h2⟩
  · exact Or.inl h3
theorem rel_ae {R C : Nat} {no we : Int64} {tl un dn kn : Nat} {row : Nat → Int32} {ag : Nat} {b ac : Nat → Nat} (h : rel R C no we tl un dn kn row ag b ac) : ∀ j, j < dn + ag → ac j < R * C ∨ (R = C ∧ ∃ F, F < R * C ∧ ac j = 100 + F) := by
  obtain ⟨bs, ts, hh⟩ := h.2.2.2.2.2.2
  intro j hj
  rcases hh.2.2.2.2.2 j (by have := h.2.2.2.2.1; omega) with ⟨h1, h2, _⟩ | ⟨rfl, _, h3, F, h4, h5, _⟩
  · exact Or.inl h1
  · exact Or.inr ⟨h3, F, h4, h5⟩
theorem rel_ac {R C : Nat} {no we : Int64} {tl un dn kn : Nat} {row : Nat → Int32} {ag : Nat} {b ac : Nat → Nat} (h : rel R C no we tl un dn kn row ag b ac) : ∀ j, j < dn → ac j < 100 → ac j < R * C := by
  intro j hj h1
  rcases rel_ae h j (by omega) with h2 | ⟨_, F, _, h3⟩
  · exact h2
  · omega
theorem i_1le {a : Int32} : 1 ≤ a ↔ (1 : Int) ≤ a.toInt := by
  rw [Int32.le_iff_toInt_le]
  have e : (1 : Int32).toInt = 1 := by decide
  rw [e]
theorem i_le6 {a : Int32} : a ≤ 6 ↔ a.toInt ≤ (6 : Int) := by
  rw [Int32.le_iff_toInt_le]
  have e : (6 : Int32).toInt = 6 := by decide
  rw [e]
theorem ac_up {ac : Nat → Nat} {k v : Nat} (h : ∀ j, ac j < 200) (hv : v < 200) : ∀ j, uN ac k v j < 200 := fun j => by
  by_cases e : j = k
  · rw [e, uN_s]; exact hv
  · rw [uN_n e]; exact h j
theorem op_board {R C : Nat} {no we : Int64} {tl un dn kn : Nat} {row : Nat → Int32} {ag : Nat} {b ac : Nat → Nat} {z : Nat → Bool} {a c0 r s : Int32} {u : TS} {v : MS} (h : rel R C no we tl un dn kn row ag b ac)
    (hc : (r = nI 0 ∧ ¬ ((1 ≤ a ∧ a ≤ 6) ∧ 1 ≤ c0 ∧ c0 ≤ 6) ∧ u = (R, C, no, we, tl, un, dn, kn, row)) ∨ (∃ R2 C2, (1 ≤ R2 ∧ R2 ≤ 6) ∧ (1 ≤ C2 ∧ C2 ≤ 6) ∧ a = nI R2 ∧ c0 = nI C2 ∧ r = nI 1 ∧ u = (R2, C2, 0, 0, 1, 1, 0, 0, row)))
    (hm : (s = nI 0 ∧ ¬ ((1 ≤ a.toInt ∧ a.toInt ≤ 6) ∧ 1 ≤ c0.toInt ∧ c0.toInt ≤ 6) ∧ v = (R, C, tl, dn, ag, un, b, ac, z)) ∨ (∃ R2 C2 bb, (1 ≤ R2 ∧ R2 ≤ 6) ∧ (1 ≤ C2 ∧ C2 ≤ 6) ∧ a = nI R2 ∧ c0 = nI C2 ∧ (∀ i, i < 36 → bb i = 0) ∧ s = nI 1 ∧ v = (R2, C2, 1, 0, 0, 1, bb, ac, z))) : r = s ∧ rel9 u v := by
  have e : ((1 ≤ a ∧ a ≤ 6) ∧ 1 ≤ c0 ∧ c0 ≤ 6) ↔ ((1 ≤ a.toInt ∧ a.toInt ≤ 6) ∧ 1 ≤ c0.toInt ∧ c0.toInt ≤ 6) := by rw [i_1le, i_le6, i_1le, i_le6]
  have ok : ∀ x y : Nat, (1 ≤ x ∧ x ≤ 6) → (1 ≤ y ∧ y ≤ 6) → a = nI x → c0 = nI y → (1 ≤ a.toInt ∧ a.toInt ≤ 6) ∧ 1 ≤ c0.toInt ∧ c0.toInt ≤ 6 := fun x y hx hy ea ec => by
    rw [ea, ec, nI_toInt (by omega), nI_toInt (by omega)]; omega
  rcases hc with ⟨rfl, h1, rfl⟩ | ⟨R2, C2, h1, h2, h3, h4, rfl, rfl⟩
  · rcases hm with ⟨rfl, h2, rfl⟩ | ⟨R3, C3, bb, g1, g2, g3, g4, g5, rfl, rfl⟩
    · exact ⟨rfl, rfl, rfl, rfl, rfl, rfl, h⟩
    · exact absurd (e.mpr (ok _ _ g1 g2 g3 g4)) h1
  · rcases hm with ⟨rfl, g2, rfl⟩ | ⟨R3, C3, bb, g1, g2, g3, g4, g5, rfl, rfl⟩
    · exact absurd (ok _ _ h1 h2 h3 h4) g2
    · have e1 : R2 = R3 := (nI_eq (by omega) (by omega)).mp (h3.symm.trans g3)
      have e2 : C2 = C3 := (nI_eq (by omega) (by omega)).mp (h4.symm.trans g4)
      subst e1 e2
      have hRC := rc_le h1.2 h2.2
      refine ⟨rfl, rfl, rfl, rfl, rfl, rfl, ⟨h1, h2⟩, ⟨fun f => ?_, fun f => ?_, fun f hf => ?_⟩, Or.inl rfl, Nat.le_refl _, rfl, h.2.2.2.2.2.1, _, _, hR_0 (Or.inl rfl) (fun _ => ⟨fun f hf => g5 f (by omega), rfl⟩)⟩
      · rw [bq_0]
        exact ⟨fun q => (by cases q), fun q => (by have := g5 f (by omega); omega)⟩
      · rw [bq_0]
        exact ⟨fun q => (by cases q), fun q => (by have := g5 f (by omega); omega)⟩
      · have := g5 f (by omega); omega
theorem op_set {R C : Nat} {no we : Int64} {tl un dn kn : Nat} {row : Nat → Int32} {ag : Nat} {b ac : Nat → Nat} {z : Nat → Bool} {f cl wh r s : Int32} {u : TS} {v : MS} (h : rel R C no we tl un dn kn row ag b ac)
    (hc : (r = nI 0 ∧ ¬ (fIn (R * C) f ∧ (cl = nI 0 ∨ cl = nI 1 ∨ cl = nI 2) ∧ (wh = nI 1 ∨ wh = nI 2)) ∧ u = (R, C, no, we, tl, un, dn, kn, row)) ∨ (∃ k cv wn, k < R * C ∧ cv ≤ 2 ∧ (wn = 1 ∨ wn = 2) ∧ f = nI k ∧ cl = nI cv ∧ wh = nI wn ∧ r = nI 1 ∧ u = (R, C, gPut no k (decide (cv = 1)), gPut we k (decide (cv = 2)), wn, 0, 0, 0, row)))
    (hm : (s = nI 0 ∧ ¬ (fIn (R * C) f ∧ (0 ≤ cl.toInt ∧ cl.toInt ≤ 2) ∧ (1 ≤ wh.toInt ∧ wh.toInt ≤ 2)) ∧ v = (R, C, tl, dn, ag, un, b, ac, z)) ∨ (∃ k cv wn, k < R * C ∧ cv ≤ 2 ∧ (1 ≤ wn ∧ wn ≤ 2) ∧ f = nI k ∧ cl = nI cv ∧ wh = nI wn ∧ s = nI 1 ∧ v = (R, C, wn, 0, 0, 0, uN b k cv, ac, z))) : r = s ∧ rel9 u v := by
  have hRC := rel_rc h
  rcases hc with ⟨rfl, h1, rfl⟩ | ⟨k, cv, wn, h1, h2, h3, h4, h5, h6, rfl, rfl⟩
  · rcases hm with ⟨rfl, h2, rfl⟩ | ⟨k, cv, wn, g1, g2, g3, g4, g5, g6, rfl, rfl⟩
    · exact ⟨rfl, rfl, rfl, rfl, rfl, rfl, h⟩
    · refine absurd ⟨⟨k, g1, g4⟩, ?_, ?_⟩ h1
      · rw [g5]
        rcases (show cv = 0 ∨ cv = 1 ∨ cv = 2 by omega) with rfl | rfl | rfl
        · exact Or.inl rfl
        · exact Or.inr (Or.inl rfl)
        · exact Or.inr (Or.inr rfl)
      · rw [g6]
        rcases (show wn = 1 ∨ wn = 2 by omega) with rfl | rfl
        · exact Or.inl rfl
        · exact Or.inr rfl
  · rcases hm with ⟨rfl, g2, rfl⟩ | ⟨k2, cv2, wn2, g1, g2, g3, g4, g5, g6, rfl, rfl⟩
    · refine absurd ⟨⟨k, h1, h4⟩, ?_, ?_⟩ g2
      · rw [h5, nI_toInt (by omega)]; omega
      · rw [h6, nI_toInt (by omega)]; omega
    · have e1 : k = k2 := (nI_eq (by omega) (by omega)).mp (h4.symm.trans g4)
      have e2 : cv = cv2 := (nI_eq (by omega) (by omega)).mp (h5.symm.trans g5)
      have e3 : wn = wn2 := (nI_eq (by omega) (by omega)).mp (h6.symm.trans g6)
      subst e1 e2 e3
      exact ⟨rfl, rfl, rfl, rfl, rfl, rfl, h.1, sR_put hRC h.2.1 h1 h2, h3, Nat.zero_le _, rfl, h.2.2.2.2.2.1, _, _, hR_0 h3 (fun q => absurd q (by decide))⟩
theorem op_lay {R C : Nat} {no we : Int64} {tl un dn kn : Nat} {row : Nat → Int32} {ag : Nat} {b ac : Nat → Nat} {f r s : Int32} {u : TS} {v : MS} (h : rel R C no we tl un dn kn row ag b ac)
    (hc : (r = -1 ∧ ¬ (∃ k, k < R * C ∧ f = nI k ∧ sAt no we k = 0 ∧ gWho R C no we = 0 ∧ dn < 37) ∧ u = (R, C, no, we, tl, un, dn, kn, row)) ∨ (∃ k, k < R * C ∧ f = nI k ∧ sAt no we k = 0 ∧ gWho R C no we = 0 ∧ dn < 37 ∧ u = (R, C, gPut no k (decide (tl = 1)), gPut we k (decide (tl = 2)), 3 - tl, un, dn + 1, dn + 1, upd row dn (nI k)) ∧ r = nI (if gWho R C (gPut no k (decide (tl = 1))) (gPut we k (decide (tl = 2))) = 0 then 1 else 2)))
    (hm : ∃ zz, (s = -1 ∧ ¬ (∃ k, k < R * C ∧ f = nI k ∧ b k = 0 ∧ mWho R C b = 0) ∧ v = (R, C, tl, dn, ag, un, b, ac, zz)) ∨ (∃ k, k < R * C ∧ f = nI k ∧ b k = 0 ∧ mWho R C b = 0 ∧ v = (R, C, 3 - tl, dn + 1, 0, un, uN b k tl, uN ac dn k, zz) ∧ s = nI (if mWho R C (uN b k tl) = 0 then 1 else 2))) : r = s ∧ rel9 u v := by
  have hRC := rel_rc h
  have hs := h.2.1
  have hw := sR_who h.1.1.1 h.1.1.2 h.1.2.1 h.1.2.2 hRC hs
  obtain ⟨bs, ts, hh⟩ := h.2.2.2.2.2.2
  obtain ⟨zz, hm⟩ := hm
  rcases hc with ⟨rfl, h1, rfl⟩ | ⟨k, h1, h2, h3, h4, h5, rfl, rfl⟩
  · rcases hm with ⟨rfl, h2, rfl⟩ | ⟨k, g1, g2, g3, g4, rfl, rfl⟩
    · exact ⟨rfl, rfl, rfl, rfl, rfl, rfl, h⟩
    · exact absurd ⟨k, g1, g2, by rw [sR_at hs g1]; exact g3, by rw [hw]; exact g4, hR_dn hRC hh g1 g3⟩ h1
  · rcases hm with ⟨rfl, g2, rfl⟩ | ⟨k2, g1, g2, g3, g4, rfl, rfl⟩
    · exact absurd ⟨k, h1, h2, by rw [← sR_at hs h1]; exact h3, by rw [← hw]; exact h4⟩ g2
    · have e1 : k = k2 := (nI_eq (by omega) (by omega)).mp (h2.symm.trans g2)
      subst e1
      have htl := h.2.2.1
      have hs2 := sR_put hRC hs h1 (show tl ≤ 2 by omega)
      rw [sR_who h.1.1.1 h.1.1.2 h.1.2.1 h.1.2.2 hRC hs2]
      exact ⟨rfl, rfl, rfl, rfl, rfl, rfl, h.1, hs2, by omega, h.2.2.2.1, rfl, ac_up h.2.2.2.2.2.1 (by omega), _, _, hR_lay hh h1 g3⟩
theorem op_swap {R C : Nat} {no we : Int64} {tl un dn kn : Nat} {row : Nat → Int32} {ag : Nat} {b ac : Nat → Nat} {r s : Int32} {u : TS} {v : MS} (h : rel R C no we tl un dn kn row ag b ac)
    (hc : (r = nI 0 ∧ ¬ (un = 1 ∧ R = C ∧ dn = 1 ∧ gWho R C no we = 0 ∧ dn < 37) ∧ u = (R, C, no, we, tl, un, dn, kn, row)) ∨ (r = nI 1 ∧ (un = 1 ∧ R = C ∧ dn = 1 ∧ gWho R C no we = 0) ∧ u = (R, C, 0, gTu R C no, 1, un, dn + 1, dn + 1, upd row dn (-2))))
    (hm : ∃ zz, (s = nI 0 ∧ ¬ (R = C ∧ un = 1 ∧ dn = 1 ∧ ac 0 < 100 ∧ mWho R C b = 0) ∧ v = (R, C, tl, dn, ag, un, b, ac, zz)) ∨ (s = nI 1 ∧ (R = C ∧ un = 1 ∧ dn = 1 ∧ ac 0 < 100 ∧ mWho R C b = 0) ∧ v = (R, C, 1, dn + 1, 0, un, uN (uN b (ac 0) 0) (tF C (ac 0)) 2, uN ac dn (100 + ac 0), zz))) : r = s ∧ rel9 u v := by
  have hRC := rel_rc h
  have hs := h.2.1
  have hw := sR_who h.1.1.1 h.1.1.2 h.1.2.1 h.1.2.2 hRC hs
  obtain ⟨bs, ts, hh⟩ := h.2.2.2.2.2.2
  have hkn := h.2.2.2.2.1
  obtain ⟨zz, hm⟩ := hm
  rcases hc with ⟨rfl, h1, rfl⟩ | ⟨rfl, ⟨h1, h2, h3, h4⟩, rfl⟩
  · rcases hm with ⟨rfl, h2, rfl⟩ | ⟨rfl, ⟨g1, g2, g3, g4, g5⟩, rfl⟩
    · exact ⟨rfl, rfl, rfl, rfl, rfl, rfl, h⟩
    · exact absurd ⟨g2, g1, g3, by rw [hw]; exact g5, by omega⟩ h1
  · obtain ⟨o1, o2, o3, o4⟩ := hR_one hh h1 (by omega)
    rcases hm with ⟨rfl, g2, rfl⟩ | ⟨rfl, ⟨g1, g2, g3, g4, g5⟩, rfl⟩
    · exact absurd ⟨h2, h1, h3, by omega, by rw [← hw]; exact h4⟩ g2
    · have hbs : bs 1 = b := by have := hh.2.1; rw [h3] at this; exact this
      rw [hbs] at o4
      refine ⟨rfl, rfl, rfl, rfl, rfl, rfl, h.1, ?_, Or.inl rfl, h.2.2.2.1, rfl, ac_up h.2.2.2.2.2.1 (by omega), _, _, hR_swap h.1.2.1 hh h1 h3 h2⟩
      subst h2
      exact sR_swap h.1.2.1 hRC hs o1 o4
theorem nI_neg2 {k : Nat} (hk : k < 2 ^ 31) (h : nI k = -2) : False := absurd (show nI k < 0 by rw [h]; decide) (nI_pos hk)
theorem op_undo {R C : Nat} {no we : Int64} {tl un dn kn : Nat} {row : Nat → Int32} {ag : Nat} {b ac : Nat → Nat} {z : Nat → Bool} {r s : Int32} {u : TS} {v : MS} (h : rel R C no we tl un dn kn row ag b ac)
    (hc : (r = nI 0 ∧ dn = 0 ∧ u = (R, C, no, we, tl, un, dn, kn, row)) ∨ (r = nI 1 ∧ 0 < dn ∧ row (dn - 1) = -2 ∧ u = (R, C, gTu R C we, 0, 2, un, dn - 1, kn, row)) ∨ (∃ k, r = nI 1 ∧ 0 < dn ∧ k < R * C ∧ row (dn - 1) = nI k ∧ u = (R, C, gPut no k (decide (0 = 1)), gPut we k (decide (0 = 2)), 3 - tl, un, dn - 1, kn, row)))
    (hm : (s = nI 0 ∧ dn = 0 ∧ v = (R, C, tl, dn, ag, un, b, ac, z)) ∨ (s = nI 1 ∧ 0 < dn ∧ ac (dn - 1) < R * C ∧ v = (R, C, 3 - tl, dn - 1, ag + 1, un, uN b (ac (dn - 1)) 0, ac, z)) ∨ (∃ F, s = nI 1 ∧ 0 < dn ∧ R = C ∧ F < R * C ∧ ac (dn - 1) = 100 + F ∧ v = (R, C, 2, dn - 1, ag + 1, un, uN (uN b (tF C F) 0) F 1, ac, z))) : r = s ∧ rel9 u v := by
  have hRC := rel_rc h
  have hs := h.2.1
  have hkn := h.2.2.2.2.1
  obtain ⟨bs, ts, hh⟩ := h.2.2.2.2.2.2
  rcases hc with ⟨rfl, h1, rfl⟩ | ⟨rfl, h1, h2, rfl⟩ | ⟨k, rfl, h1, h2, h3, rfl⟩
  · rcases hm with ⟨rfl, g1, rfl⟩ | ⟨rfl, g1, g2, rfl⟩ | ⟨F, rfl, g1, g2, g3, g4, rfl⟩
    · exact ⟨rfl, rfl, rfl, rfl, rfl, rfl, h⟩
    · omega
    · omega
  · have hst := hh.2.2.2.2.2 (dn - 1) (by omega)
    have hat := hR_at hh (e := dn - 1) (by omega)
    rcases hst with ⟨e1, e2, _⟩ | ⟨e1, e2, e3, F2, e4, e5, e6, e7, e8, e9⟩
    · exact absurd (e2.symm.trans h2) (fun q => nI_neg2 (by omega) q)
    · have ed : dn = 2 := by omega
      rcases hm with ⟨rfl, g1, rfl⟩ | ⟨rfl, g1, g2, rfl⟩ | ⟨F, rfl, g1, g2, g3, g4, rfl⟩
      · omega
      · rw [e1] at g2; omega
      · rw [e1] at g4 hat
        have eF : F = F2 := by omega
        subst eF
        obtain ⟨o1, o2, o3, o4⟩ := hR_one hh e2 (by omega)
        have hb2 : b = bs 2 := by have := hh.2.1; rw [ed] at this; exact this.symm
        have h00 := (hh.2.2.2.1 e2).1
        have hbk : uN (uN b (tF C F) 0) F 1 = bs 1 := by
          rw [hb2, e8]
          exact sw_back h.1.2.1 e3 e4 (by rw [o2, e6]) h00
        rw [hbk]
        have hd1 : dn - 1 = 1 := e1
        rw [hd1]
        refine ⟨rfl, rfl, rfl, rfl, rfl, rfl, h.1, ?_, Or.inr rfl, h.2.2.2.1, by omega, h.2.2.2.2.2.1, bs, ts, by rw [o3] at hat; exact hat⟩
        subst e3
        rw [e6] at o4
        refine sR_back h.1.2.1 hRC hs e4 (fun f hf => ?_) o4
        rw [hb2, e8]
        by_cases c1 : f = tF R F
        · rw [c1, uN_s, if_pos rfl]
        · rw [uN_n c1, if_neg c1]
          by_cases c2 : f = F
          · rw [c2, uN_s]
          · rw [uN_n c2, o4 f hf, if_neg c2]
  · have hst := hh.2.2.2.2.2 (dn - 1) (by omega)
    have hat := hR_at hh (e := dn - 1) (by omega)
    rcases hst with ⟨e1, e2, e3, e4, e5⟩ | ⟨e1, _, _, F2, _, _, _, e7, _⟩
    · have ek : k = ac (dn - 1) := (nI_eq (by omega) (by omega)).mp (h3.symm.trans e2)
      subst ek
      rw [show dn - 1 + 1 = dn by omega, hh.2.1] at e4
      rw [show dn - 1 + 1 = dn by omega, hh.2.2.1] at e5
      rcases hm with ⟨rfl, g1, rfl⟩ | ⟨rfl, g1, g2, rfl⟩ | ⟨F, rfl, g1, g2, g3, g4, rfl⟩
      · omega
      · have ht := (hh.2.2.2.2.1 (dn - 1) (by omega)).2
        have hbk : uN b (ac (dn - 1)) 0 = bs (dn - 1) := by rw [e4]; exact uN_back e3
        refine ⟨rfl, rfl, rfl, rfl, rfl, rfl, h.1, sR_put hRC hs h2 (Nat.zero_le _), by omega, h.2.2.2.1, by omega, h.2.2.2.2.2.1, bs, ts, ?_⟩
        rw [hbk, show 3 - tl = ts (dn - 1) by omega]
        exact hat
      · omega
    · rw [e1, e7] at h3
      exact absurd h3.symm (fun q => nI_neg2 (by omega) q)
theorem op_redo {R C : Nat} {no we : Int64} {tl un dn kn : Nat} {row : Nat → Int32} {ag : Nat} {b ac : Nat → Nat} {z : Nat → Bool} {r s : Int32} {u : TS} {v : MS} (h : rel R C no we tl un dn kn row ag b ac)
    (hc : (r = nI 0 ∧ dn = kn ∧ u = (R, C, no, we, tl, un, dn, kn, row)) ∨ (r = nI 1 ∧ dn < kn ∧ row dn = -2 ∧ u = (R, C, 0, gTu R C no, 1, un, dn + 1, kn, row)) ∨ (∃ k, r = nI 1 ∧ dn < kn ∧ k < R * C ∧ row dn = nI k ∧ u = (R, C, gPut no k (decide (tl = 1)), gPut we k (decide (tl = 2)), 3 - tl, un, dn + 1, kn, row)))
    (hm : (s = nI 0 ∧ ag = 0 ∧ v = (R, C, tl, dn, ag, un, b, ac, z)) ∨ (s = nI 1 ∧ 0 < ag ∧ ac dn < R * C ∧ v = (R, C, 3 - tl, dn + 1, ag - 1, un, uN b (ac dn) tl, ac, z)) ∨ (∃ F, s = nI 1 ∧ 0 < ag ∧ R = C ∧ F < R * C ∧ ac dn = 100 + F ∧ v = (R, C, 1, dn + 1, ag - 1, un, uN (uN b F 0) (tF C F) 2, ac, z))) : r = s ∧ rel9 u v := by
  have hRC := rel_rc h
  have hs := h.2.1
  have hkn := h.2.2.2.2.1
  have htl := h.2.2.1
  obtain ⟨bs, ts, hh⟩ := h.2.2.2.2.2.2
  rcases hc with ⟨rfl, h1, rfl⟩ | ⟨rfl, h1, h2, rfl⟩ | ⟨k, rfl, h1, h2, h3, rfl⟩
  · rcases hm with ⟨rfl, g1, rfl⟩ | ⟨rfl, g1, g2, rfl⟩ | ⟨F, rfl, g1, g2, g3, g4, rfl⟩
    · exact ⟨rfl, rfl, rfl, rfl, rfl, rfl, h⟩
    · omega
    · omega
  · have hst := hh.2.2.2.2.2 dn h1
    have hat := hR_at hh (e := dn + 1) (by omega)
    rcases hst with ⟨e1, e2, _⟩ | ⟨e1, e2, e3, F2, e4, e5, e6, e7, e8, e9⟩
    · exact absurd (e2.symm.trans h2) (fun q => nI_neg2 (by omega) q)
    · subst e1
      rcases hm with ⟨rfl, g1, rfl⟩ | ⟨rfl, g1, g2, rfl⟩ | ⟨F, rfl, g1, g2, g3, g4, rfl⟩
      · omega
      · omega
      · have eF : F = F2 := by omega
        subst eF
        obtain ⟨o1, o2, o3, o4⟩ := hR_one hh e2 (by omega)
        have hb1 : bs 1 = b := hh.2.1
        have hbk : uN (uN b F 0) (tF C F) 2 = bs 2 := by rw [e8, hb1]
        rw [hbk]
        refine ⟨rfl, rfl, rfl, rfl, rfl, rfl, h.1, ?_, Or.inl rfl, h.2.2.2.1, by omega, h.2.2.2.2.2.1, bs, ts, by rw [show (1 + 1 : Nat) = 2 from rfl, e9] at hat; exact hat⟩
        subst e3
        rw [e6, hb1] at o4
        rw [← hbk]
        exact sR_swap h.1.2.1 hRC hs e4 o4
  · have hst := hh.2.2.2.2.2 dn h1
    have hat := hR_at hh (e := dn + 1) (by omega)
    rcases hst with ⟨e1, e2, e3, e4, e5⟩ | ⟨e1, _, _, F2, _, _, _, e7, _⟩
    · have ek : k = ac dn := (nI_eq (by omega) (by omega)).mp (h3.symm.trans e2)
      subst ek
      rw [hh.2.1, hh.2.2.1] at e4
      rw [hh.2.2.1] at e5
      rcases hm with ⟨rfl, g1, rfl⟩ | ⟨rfl, g1, g2, rfl⟩ | ⟨F, rfl, g1, g2, g3, g4, rfl⟩
      · omega
      · refine ⟨rfl, rfl, rfl, rfl, rfl, rfl, h.1, sR_put hRC hs h2 (by omega), by omega, h.2.2.2.1, by omega, h.2.2.2.2.2.1, bs, ts, ?_⟩
        rw [← e4, ← e5]
        exact hat
      · omega
    · rw [e1, e7] at h3
      exact absurd h3.symm (fun q => nI_neg2 (by omega) q)
theorem op_change {R C : Nat} {no we : Int64} {tl un dn kn : Nat} {row : Nat → Int32} {ag : Nat} {b ac : Nat → Nat} {z : Nat → Bool} {u : TS} {t : Nat → Nat} (h : rel R C no we tl un dn kn row ag b ac) (hc : u = (C, R, gTu R C we, gTu R C no, 3 - tl, 0, 0, 0, row)) (hm : ∀ x, x < R * C → t (tW R C x) = chV (b x)) : rel9 u (C, R, 3 - tl, 0, 0, 0, t, ac, z) := by
  have htl := h.2.2.1
  rw [hc]
  exact ⟨rfl, rfl, rfl, rfl, rfl, ⟨h.1.2, h.1.1⟩, sR_change h.1.1.1 h.1.2.1 (rel_rc h) h.2.1 hm, by omega, Nat.zero_le _, rfl, h.2.2.2.2.2.1, _, _, hR_0 (by omega) (fun q => absurd q (by decide))⟩
theorem lt_12 {w : Nat} (h : w = 1 ∨ w = 2) : w < 2 ^ 31 := by omega
theorem op_at {R C : Nat} {no we : Int64} {b : Nat → Nat} {f r s : Int32} (hRC : R * C ≤ 36) (h : sR R C no we b)
    (hc : (¬ fIn (R * C) f ∧ r = -1) ∨ (∃ k, k < R * C ∧ f = nI k ∧ r = nI (sAt no we k)))
    (hm : (¬ fIn (R * C) f ∧ s = -1) ∨ (∃ k, k < R * C ∧ f = nI k ∧ s = nI (b k))) : r = s := by
  rcases hc with ⟨h1, rfl⟩ | ⟨k, h1, h2, rfl⟩
  · rcases hm with ⟨g1, rfl⟩ | ⟨k, g1, g2, rfl⟩
    · rfl
    · exact absurd ⟨k, g1, g2⟩ h1
  · rcases hm with ⟨g1, rfl⟩ | ⟨k2, g1, g2, rfl⟩
    · exact absurd ⟨k, h1, h2⟩ g1
    · have e1 : k = k2 := (nI_eq (by omega) (by omega)).mp (h2.symm.trans g2)
      subst e1
      rw [sR_at h h1]
theorem op_group {R C : Nat} (hR1 : 1 ≤ R) (hR2 : R ≤ 6) (hC1 : 1 ≤ C) (hC2 : C ≤ 6) (hRC : R * C ≤ 36) {no we : Int64} {b : Nat → Nat} {f r s : Int32} (h : sR R C no we b)
    (hc : (¬ fIn (R * C) f ∧ r = -1) ∨ (∃ k, k < R * C ∧ f = nI k ∧ r = if gGrp R C no we k = 0 then -1 else gLow (gGrp R C no we k)))
    (hm : (¬ (∃ k, k < R * C ∧ f = nI k ∧ 0 < b k) ∧ s = -1) ∨ (∃ k g, k < R * C ∧ f = nI k ∧ 0 < b k ∧ g ≤ k ∧ mG R C b k g ∧ (∀ x, x < g → ¬ mG R C b k x) ∧ s = nI g)) : r = s := by
  rcases hc with ⟨h1, rfl⟩ | ⟨k, h1, h2, rfl⟩
  · rcases hm with ⟨g1, rfl⟩ | ⟨k, g, g1, g2, _⟩
    · rfl
    · exact absurd ⟨k, g1, g2⟩ h1
  · rcases hm with ⟨g1, rfl⟩ | ⟨k2, g, g1, g2, g3, g4, g5, g6, rfl⟩
    · have hz : b k = 0 := Nat.eq_zero_of_not_pos (fun q => g1 ⟨k, h1, h2, q⟩)
      rw [if_pos (sR_grp0 h h1 hz)]
    · have e1 : k = k2 := (nI_eq (by omega) (by omega)).mp (h2.symm.trans g2)
      subst e1
      rw [if_neg (sR_gne hR1 hR2 hC1 hC2 hRC h h1 g3), sR_low hR1 hR2 hC1 hC2 hRC h h1 g3 g5 g6]
theorem op_look {R C : Nat} (hR1 : 1 ≤ R) (hR2 : R ≤ 6) (hC1 : 1 ≤ C) (hC2 : C ≤ 6) (hRC : R * C ≤ 36) {no we : Int64} {b : Nat → Nat} {f wh r s : Int32} (h : sR R C no we b)
    (hc : (¬ fIn (R * C) f ∧ r = -1) ∨ (∃ k, k < R * C ∧ f = nI k ∧ r = gLook R C no we k wh))
    (hm : (s = -1 ∧ ¬ ((∃ k, k < R * C ∧ f = nI k ∧ 0 < b k) ∧ 0 ≤ wh.toInt ∧ wh.toInt ≤ 2)) ∨ (∃ k w, k < R * C ∧ f = nI k ∧ 0 < b k ∧ w ≤ 2 ∧ wh = nI w ∧ s = nI (lkV R C b k w))) : r = s := by
  rcases hc with ⟨h1, rfl⟩ | ⟨k, h1, h2, rfl⟩
  · rcases hm with ⟨rfl, _⟩ | ⟨k, w, g1, g2, _⟩
    · rfl
    · exact absurd ⟨k, g1, g2⟩ h1
  · unfold gLook
    rcases hm with ⟨rfl, g1⟩ | ⟨k2, w, g1, g2, g3, g4, rfl, rfl⟩
    · by_cases hz : b k = 0
      · rw [if_pos (sR_grp0 h h1 hz)]
      · have hw : ¬ (0 ≤ wh.toInt ∧ wh.toInt ≤ 2) := fun q => g1 ⟨⟨k, h1, h2, by omega⟩, q⟩
        rw [if_neg (sR_gne hR1 hR2 hC1 hC2 hRC h h1 (by omega)), if_neg (fun q => hw (by rw [q, nI_toInt (by decide)]; decide)), if_neg (fun q => hw (by rw [q, nI_toInt (by decide)]; decide)), if_neg (fun q => hw (by rw [q, nI_toInt (by decide)]; decide))]
    · have e1 : k = k2 := (nI_eq (by omega) (by omega)).mp (h2.symm.trans g2)
      subst e1
      rw [if_neg (sR_gne hR1 hR2 hC1 hC2 hRC h h1 g3)]
      rcases (show w = 0 ∨ w = 1 ∨ w = 2 by omega) with rfl | rfl | rfl
      · rw [if_pos rfl, jBC_eq, sR_gct hR1 hR2 hC1 hC2 hRC h h1 g3]; rfl
      · rw [if_neg (by decide), if_pos rfl, sR_bk hR1 hR2 hC1 hC2 hRC h h1 g3]; rfl
      · rw [if_neg (by decide), if_neg (by decide), if_pos rfl, jBC_eq, sR_gem hR1 hR2 hC1 hC2 hRC h h1 g3]; rfl
theorem op_way {R C : Nat} (hR1 : 1 ≤ R) (hR2 : R ≤ 6) (hC1 : 1 ≤ C) (hC2 : C ≤ 6) (hRC : R * C ≤ 36) {no we : Int64} {b fa : Nat → Nat} {ln : Nat} {fs : Nat → Int32} {i r s : Int32} (h : sR R C no we b)
    (hc : (wayIs R C no we ln fs ∧ ln ≤ 36) ∧ ((∃ k, k < ln ∧ i = nI k ∧ r = fs k) ∨ (¬ fIn ln i ∧ r = -1)))
    (hm : (mWho R C b = 0 ∧ s = -1) ∨ (0 < mWho R C b ∧ ∃ n, (1 ≤ n ∧ n ≤ 36) ∧ faP R C b (mWho R C b) 36 fa ∧ beP R C (mWho R C b) fa (R * C) n ∧ ((s = -1 ∧ ¬ (((0 : Nat) : Int) ≤ i.toInt ∧ i.toInt ≤ ((n - 1 : Nat) : Int))) ∨ ∃ j f, j < n ∧ i = nI j ∧ wpP R C (mWho R C b) fa n j f ∧ s = nI f))) : r = s := by
  obtain ⟨⟨hw, hl⟩, hc⟩ := hc
  rcases hm with ⟨m0, rfl⟩ | ⟨m0, n, m1, m2, m3, m4⟩
  · have e := wayZ hR1 hR2 hC1 hC2 hRC h m0 hw
    rcases hc with ⟨k, h1, _⟩ | ⟨_, rfl⟩
    · omega
    · rfl
  · obtain ⟨e1, e2⟩ := wayY hR1 hR2 hC1 hC2 hRC h m0 m2 m3 hw
    subst e1
    rcases hc with ⟨k, h1, rfl, rfl⟩ | ⟨h1, rfl⟩
    · rcases m4 with ⟨rfl, g1⟩ | ⟨j, f, g1, g2, g3, rfl⟩
      · exact absurd (by rw [nI_toInt (by omega)]; omega) g1
      · have ej : k = j := (nI_eq (by omega) (by omega)).mp g2
        subst ej
        exact e2 k f g1 g3
    · rcases m4 with ⟨rfl, g1⟩ | ⟨j, f, g1, g2, g3, rfl⟩
      · rfl
      · exact absurd ⟨j, g1, g2⟩ h1
theorem op_winner {R C : Nat} (hR1 : 1 ≤ R) (hR2 : R ≤ 6) (hC1 : 1 ≤ C) (hC2 : C ≤ 6) (hRC : R * C ≤ 36) {no we : Int64} {b : Nat → Nat} {wh r s : Int32} (h : sR R C no we b)
    (hc : (r = -1 ∧ ¬ ((wh = nI 1 ∨ wh = nI 2) ∧ (pcn (gSpots R C no we)) ≤ 10)) ∨ ((pcn (gSpots R C no we)) ≤ 10 ∧ ∃ wn, (wn = 1 ∨ wn = 2) ∧ wh = nI wn ∧ r = if gv (bQ R C no we) (pcn (gSpots R C no we)) (pcn (gSpots R C no we)) 0 (decide (wn = 1)) = true then nI 1 else nI 2))
    (hm : (s = -1 ∧ ¬ ((((1 : Nat) : Int) ≤ wh.toInt ∧ wh.toInt ≤ ((2 : Nat) : Int)) ∧ fb_ct (mE b) (R * C) ≤ 10)) ∨ (∃ wn ey, (wn = 1 ∨ wn = 2) ∧ wh = nI wn ∧ fb_ct (mE b) (R * C) ≤ 10 ∧ eyP b (R * C) ey ∧ s = nI (if rv 1 (jb R C b ey (fb_ct (mE b) (R * C)) 1) (fb_ct (mE b) (R * C)) (fb_ct (mE b) (R * C)) 0 (decide (1 = wn)) = true then 1 else 2))) : r = s := by
  have ep := sR_pcn hR2 hC2 h
  rcases hm with ⟨rfl, g1⟩ | ⟨wn, ey, g1, g2, g3, g4, rfl⟩
  · rcases hc with ⟨rfl, _⟩ | ⟨h1, wn, h2, h3, _⟩
    · rfl
    · exact absurd ⟨rng_of h3 (by omega) (by omega) (by omega), by omega⟩ g1
  · rw [an_win hR1 hR2 hC1 hC2 hRC h g4 g3]
    rcases hc with ⟨rfl, h1⟩ | ⟨h1, wn2, h2, h3, rfl⟩
    · refine absurd ⟨?_, by omega⟩ h1
      rw [g2]
      rcases g1 with rfl | rfl
      · exact Or.inl rfl
      · exact Or.inr rfl
    · have e1 : wn = wn2 := (nI_eq (by omega) (by omega)).mp (g2.symm.trans h3)
      subst e1
      have e2 : decide (1 = wn) = decide (wn = 1) := by rcases g1 with rfl | rfl <;> rfl
      rw [e2]
      split <;> rfl
theorem op_first {R C : Nat} (hR1 : 1 ≤ R) (hR2 : R ≤ 6) (hC1 : 1 ≤ C) (hC2 : C ≤ 6) (hRC : R * C ≤ 36) {no we : Int64} {b : Nat → Nat} {wh i r s : Int32} (h : sR R C no we b)
    (hc : (r = -1 ∧ ¬ ((wh = nI 1 ∨ wh = nI 2) ∧ (pcn (gSpots R C no we)) ≤ 10)) ∨ ((pcn (gSpots R C no we)) ≤ 10 ∧ ∃ wn, (wn = 1 ∨ wn = 2) ∧ wh = nI wn ∧ wfA (gSpots R C no we) (pcn (gSpots R C no we)) (gW (bQ R C no we) (pcn (gSpots R C no we)) (decide (wn = 1))) i r))
    (hm : (s = -1 ∧ ¬ ((((1 : Nat) : Int) ≤ wh.toInt ∧ wh.toInt ≤ ((2 : Nat) : Int)) ∧ ¬ i < 0 ∧ fb_ct (mE b) (R * C) ≤ 10)) ∨ (∃ wn ey j, (wn = 1 ∨ wn = 2) ∧ wh = nI wn ∧ (j < 2 ^ 31 ∧ i = nI j) ∧ fb_ct (mE b) (R * C) ≤ 10 ∧ eyP b (R * C) ey ∧ ((s = -1 ∧ fb_ct (wOwn (jb R C b ey (fb_ct (mE b) (R * C)) wn) wn (fb_ct (mE b) (R * C)) 0) (fb_ct (mE b) (R * C)) ≤ j) ∨ ∃ k, k < fb_ct (mE b) (R * C) ∧ wOwn (jb R C b ey (fb_ct (mE b) (R * C)) wn) wn (fb_ct (mE b) (R * C)) 0 k = true ∧ fb_ct (wOwn (jb R C b ey (fb_ct (mE b) (R * C)) wn) wn (fb_ct (mE b) (R * C)) 0) k = j ∧ s = nI (ey k)))) : r = s := by
  have ep := sR_pcn hR2 hC2 h
  rcases hm with ⟨rfl, g1⟩ | ⟨wn, ey, j, g1, g2, ⟨g3, rfl⟩, g4, g5, g6⟩
  · rcases hc with ⟨rfl, _⟩ | ⟨h1, wn, h2, h3, h4⟩
    · rfl
    · by_cases hi : i < 0
      · exact wfA_i0 hi h4
      · exact absurd ⟨rng_of h3 (by omega) (by omega) (by omega), hi, by omega⟩ g1
  · rcases hc with ⟨rfl, h1⟩ | ⟨h1, wn2, h2, h3, h4⟩
    · refine absurd ⟨?_, by omega⟩ h1
      rw [g2]
      rcases g1 with rfl | rfl
      · exact Or.inl rfl
      · exact Or.inr rfl
    · have q1 := lt_12 g1
      have q2 := lt_12 h2
      have e1 : wn = wn2 := (nI_eq q1 q2).mp (g2.symm.trans h3)
      rw [← e1] at h4
      exact an_wfA (p := wOwn (jb R C b ey (fb_ct (mE b) (R * C)) wn) wn (fb_ct (mE b) (R * C)) 0) hR2 hC2 hRC h g5 g4 (fun k hk => by rw [an_first hR1 hR2 hC1 hC2 hRC h g5 g4 g1 k hk, ep]) g3 h4 g6
theorem op_fill {R C : Nat} (hR1 : 1 ≤ R) (hR2 : R ≤ 6) (hC1 : 1 ≤ C) (hC2 : C ≤ 6) (hRC : R * C ≤ 36) {no we : Int64} {b : Nat → Nat} {r s : Int32} (h : sR R C no we b)
    (hc : (r = -1 ∧ 10 < (pcn (gSpots R C no we))) ∨ ((pcn (gSpots R C no we)) ≤ 10 ∧ r = nI (fb_ct (bQ R C no we) (2 ^ (pcn (gSpots R C no we))))))
    (hm : (s = -1 ∧ 10 < fb_ct (mE b) (R * C)) ∨ (fb_ct (mE b) (R * C) ≤ 10 ∧ ∃ ey, eyP b (R * C) ey ∧ s = nI (fb_ct (nJ R C b ey (fb_ct (mE b) (R * C))) (2 ^ fb_ct (mE b) (R * C))))) : r = s := by
  have ep := sR_pcn hR2 hC2 h
  rw [ep] at hc
  rcases hc with ⟨rfl, h1⟩ | ⟨h1, rfl⟩
  · rcases hm with ⟨rfl, _⟩ | ⟨g1, _⟩
    · rfl
    · omega
  · rcases hm with ⟨rfl, g1⟩ | ⟨g1, ey, g2, rfl⟩
    · omega
    · rw [an_fill hR1 hR2 hC1 hC2 hRC h g2 g1]
theorem op_dead {R C : Nat} (hR1 : 1 ≤ R) (hR2 : R ≤ 6) (hC1 : 1 ≤ C) (hC2 : C ≤ 6) (hRC : R * C ≤ 36) {no we : Int64} {b : Nat → Nat} {f r s : Int32} (h : sR R C no we b)
    (hc : (r = -1 ∧ ¬ (∃ k, k < R * C ∧ f = nI k ∧ sAt no we k = 0 ∧ (pcn (gSpots R C no we)) ≤ 10)) ∨ ((pcn (gSpots R C no we)) ≤ 10 ∧ ∃ k ds, k < R * C ∧ f = nI k ∧ sAt no we k = 0 ∧ dsOK (bQ R C no we) (pcn (gSpots R C no we)) (gSpots R C no we) ds ∧ r = if bq ds k = true then nI 1 else nI 0))
    (hm : (s = -1 ∧ ¬ (∃ k, k < R * C ∧ f = nI k ∧ b k = 0 ∧ fb_ct (mE b) (R * C) ≤ 10)) ∨ (fb_ct (mE b) (R * C) ≤ 10 ∧ ∃ F ey, F < R * C ∧ f = nI F ∧ b F = 0 ∧ eyP b (R * C) ey ∧ ((s = nI 1 ∧ ∀ i, i < 2 ^ fb_ct (mE b) (R * C) → nJ R C b ey (fb_ct (mE b) (R * C)) i = nJ R C b ey (fb_ct (mE b) (R * C)) (i ^^^ 2 ^ fb_ct (mE b) F)) ∨ (s = nI 0 ∧ ¬ ∀ i, i < 2 ^ fb_ct (mE b) (R * C) → nJ R C b ey (fb_ct (mE b) (R * C)) i = nJ R C b ey (fb_ct (mE b) (R * C)) (i ^^^ 2 ^ fb_ct (mE b) F))))) : r = s := by
  have ep := sR_pcn hR2 hC2 h
  rw [ep] at hc
  rcases hm with ⟨rfl, g1⟩ | ⟨g0, F, ey, g1, g2, g3, g4, g5⟩
  · rcases hc with ⟨rfl, _⟩ | ⟨h1, k, ds, h2, h3, h4, _⟩
    · rfl
    · exact absurd ⟨k, h2, h3, by rw [← sR_at h h2]; exact h4, h1⟩ g1
  · rcases hc with ⟨rfl, h1⟩ | ⟨h1, k, ds, h2, h3, h4, h5, rfl⟩
    · exact absurd ⟨F, g1, g2, by rw [sR_at h g1]; exact g3, g0⟩ h1
    · have e1 : k = F := (nI_eq (by omega) (by omega)).mp (h3.symm.trans g2)
      subst e1
      rw [an_dead hR1 hR2 hC1 hC2 hRC h g4 g0 (ey_rank g4 g0 g1 g3).1] at g5
      have e2 := h5 k
      rw [sR_ct hR2 hC2 h (by omega)] at e2
      rcases g5 with ⟨rfl, g5⟩ | ⟨rfl, g5⟩
      · rw [if_pos (e2.mpr ⟨by omega, (sR_sp hR2 hC2 h k).mpr ⟨g1, g3⟩, g5⟩)]
      · rw [if_neg (fun q => g5 (e2.mp q).2.2)]
theorem st_and {R C : Nat} {no we : Int64} {b : Nat → Nat} (hRC : R * C ≤ 36) (h : sR R C no we b) {cv ka kb : Nat} (hc : cv = 1 ∨ cv = 2) (ha : ka < R * C) (hb : kb < R * C) : gSt no we (3 - cv) &&& (gBit (nI ka) ||| gBit (nI kb)) = 0 ↔ b ka ≠ 3 - cv ∧ b kb ≠ 3 - cv := by
  have hs := sR_st h (cv := 3 - cv) (by omega)
  constructor
  · intro h0
    have key : ∀ i, bq (gSt no we (3 - cv)) i = true → ¬ bq (gBit (nI ka) ||| gBit (nI kb)) i = true := fun i h1 h2 => (and_ne0.mpr ⟨i, h1, h2⟩) h0
    refine ⟨fun q => key ka ((hs ka).mpr ⟨ha, q⟩) ?_, fun q => key kb ((hs kb).mpr ⟨hb, q⟩) ?_⟩
    · rw [bq_or, (bit_iff (by omega) ka).mpr rfl]; rfl
    · rw [bq_or, (bit_iff (by omega) kb).mpr rfl, Bool.or_true]
  · rintro ⟨h1, h2⟩
    apply Classical.byContradiction
    intro hn
    obtain ⟨i, i1, i2⟩ := and_ne0.mp hn
    rw [bq_or, Bool.or_eq_true, bit_iff (by omega), bit_iff (by omega)] at i2
    have i3 := ((hs i).mp i1).2
    rcases i2 with rfl | rfl
    · exact h1 i3
    · exact h2 i3
def cLk (R C : Nat) (no we : Int64) (c0 f g : Int32) (cv ka kb : Nat) : Prop := (cv = 1 ∨ cv = 2) ∧ ka < R * C ∧ kb < R * C ∧ c0 = nI cv ∧ f = nI ka ∧ g = nI kb ∧ ka ≠ kb ∧ gSt no we (3 - cv) &&& (gBit (nI ka) ||| gBit (nI kb)) = 0 ∧ (pcn (gSpots R C no we)) ≤ 10
theorem cLk_ok {R C : Nat} (hR2 : R ≤ 6) (hC2 : C ≤ 6) (hRC : R * C ≤ 36) {no we : Int64} {b : Nat → Nat} {c0 f g : Int32} {cv ka kb : Nat} (h : sR R C no we b) : cLk R C no we c0 f g cv ka kb ↔ okL R C b c0 f g cv ka kb := by
  unfold cLk okL
  rw [sR_pcn hR2 hC2 h]
  constructor
  · rintro ⟨h1, h2, h3, h4, h5, h6, h7, h8, h9⟩
    have := (st_and hRC h h1 h2 h3).mp h8
    exact ⟨h1, h4, h2, h5, h3, h6, h7, this.1, this.2, h9⟩
  · rintro ⟨h1, h4, h2, h5, h3, h6, h7, h8, h8b, h9⟩
    exact ⟨h1, h2, h3, h4, h5, h6, h7, (st_and hRC h h1 h2 h3).mpr ⟨h8, h8b⟩, h9⟩
theorem okL_e {R C : Nat} {b : Nat → Nat} {c0 f g : Int32} (hRC : R * C ≤ 36) {cl x y cl2 x2 y2 : Nat} (h1 : okL R C b c0 f g cl x y) (h2 : okL R C b c0 f g cl2 x2 y2) : cl = cl2 ∧ x = x2 ∧ y = y2 := by
  have a := h1.1
  obtain ⟨a1, a2, a3, a4, a5, a6, _⟩ := h1
  rw [a2, a4, a6] at h2
  exact okL_u hRC (by omega) a3 a5 h2
theorem lkS_nI (p q : Bool) : (if p = true then nI 2 else if q = true then nI 1 else nI 0) = nI (lkS p q) := by cases p <;> cases q <;> rfl
theorem op_link {R C : Nat} (hR1 : 1 ≤ R) (hR2 : R ≤ 6) (hC1 : 1 ≤ C) (hC2 : C ≤ 6) (hRC : R * C ≤ 36) {no we : Int64} {b : Nat → Nat} {c0 f g r s : Int32} (h : sR R C no we b)
    (hc : (r = -1 ∧ ¬ (∃ cv ka kb, (cv = 1 ∨ cv = 2) ∧ ka < R * C ∧ kb < R * C ∧ c0 = nI cv ∧ f = nI ka ∧ g = nI kb ∧ ka ≠ kb ∧ gSt no we (3 - cv) &&& (gBit (nI ka) ||| gBit (nI kb)) = 0 ∧ (pcn (gSpots R C no we)) ≤ 10)) ∨ (∃ cv ka kb, (cv = 1 ∨ cv = 2) ∧ ka < R * C ∧ kb < R * C ∧ c0 = nI cv ∧ f = nI ka ∧ g = nI kb ∧ ka ≠ kb ∧ gSt no we (3 - cv) &&& (gBit (nI ka) ||| gBit (nI kb)) = 0 ∧ (pcn (gSpots R C no we)) ≤ 10 ∧ r = (if gv (lQ R C no we cv ka kb) (pcn (gSpots R C no we)) (pcn (gSpots R C no we)) 0 false = true then nI 2 else if gv (lQ R C no we cv ka kb) (pcn (gSpots R C no we)) (pcn (gSpots R C no we)) 0 true = true then nI 1 else nI 0)))
    (hm : (s = -1 ∧ ¬ ∃ cl x y, okL R C b c0 f g cl x y) ∨ (∃ cl x y ey, okL R C b c0 f g cl x y ∧ eyP b (R * C) ey ∧ s = nI (lkS (rv cl (jl R C b ey (fb_ct (mE b) (R * C)) cl x y) (fb_ct (mE b) (R * C)) (fb_ct (mE b) (R * C)) 0 false) (rv cl (jl R C b ey (fb_ct (mE b) (R * C)) cl x y) (fb_ct (mE b) (R * C)) (fb_ct (mE b) (R * C)) 0 true)))) : r = s := by
  have ep := sR_pcn hR2 hC2 h
  rcases hm with ⟨rfl, g1⟩ | ⟨cl, x, y, ey, g1, g2, rfl⟩
  · rcases hc with ⟨rfl, _⟩ | ⟨cv, ka, kb, h1, h2, h3, h4, h5, h6, h7, h8, h9, _⟩
    · rfl
    · exact absurd ⟨cv, ka, kb, (cLk_ok hR2 hC2 hRC h).mp ⟨h1, h2, h3, h4, h5, h6, h7, h8, h9⟩⟩ g1
  · rcases hc with ⟨rfl, h1⟩ | ⟨cv, ka, kb, h1, h2, h3, h4, h5, h6, h7, h8, h9, rfl⟩
    · exact absurd ⟨cl, x, y, (cLk_ok hR2 hC2 hRC h).mpr g1⟩ h1
    · have ho := (cLk_ok hR2 hC2 hRC h).mp ⟨h1, h2, h3, h4, h5, h6, h7, h8, h9⟩
      obtain ⟨rfl, rfl, rfl⟩ := okL_e hRC g1 ho
      rw [an_link hR1 hR2 hC1 hC2 hRC h g2 (by omega) h1 h2 h3, an_link hR1 hR2 hC1 hC2 hRC h g2 (by omega) h1 h2 h3, ep, lkS_nI]
theorem op_half {R C : Nat} (hR1 : 1 ≤ R) (hR2 : R ≤ 6) (hC1 : 1 ≤ C) (hC2 : C ≤ 6) (hRC : R * C ≤ 36) {no we : Int64} {b : Nat → Nat} {c0 f g i r s : Int32} (h : sR R C no we b)
    (hc : (r = -1 ∧ ¬ (∃ cv ka kb, (cv = 1 ∨ cv = 2) ∧ ka < R * C ∧ kb < R * C ∧ c0 = nI cv ∧ f = nI ka ∧ g = nI kb ∧ ka ≠ kb ∧ gSt no we (3 - cv) &&& (gBit (nI ka) ||| gBit (nI kb)) = 0 ∧ (pcn (gSpots R C no we)) ≤ 10)) ∨ (∃ cv ka kb, (cv = 1 ∨ cv = 2) ∧ ka < R * C ∧ kb < R * C ∧ c0 = nI cv ∧ f = nI ka ∧ g = nI kb ∧ ka ≠ kb ∧ gSt no we (3 - cv) &&& (gBit (nI ka) ||| gBit (nI kb)) = 0 ∧ (pcn (gSpots R C no we)) ≤ 10 ∧ ((¬ (if gv (lQ R C no we cv ka kb) (pcn (gSpots R C no we)) (pcn (gSpots R C no we)) 0 false = true then nI 2 else if gv (lQ R C no we cv ka kb) (pcn (gSpots R C no we)) (pcn (gSpots R C no we)) 0 true = true then nI 1 else nI 0) = nI 1 ∧ r = -1) ∨ ((if gv (lQ R C no we cv ka kb) (pcn (gSpots R C no we)) (pcn (gSpots R C no we)) 0 false = true then nI 2 else if gv (lQ R C no we cv ka kb) (pcn (gSpots R C no we)) (pcn (gSpots R C no we)) 0 true = true then nI 1 else nI 0) = nI 1 ∧ wfA (gSpots R C no we) (pcn (gSpots R C no we)) (gW (lQ R C no we cv ka kb) (pcn (gSpots R C no we)) true) i r))))
    (hm : (s = -1 ∧ ¬ (¬ i < 0 ∧ ∃ cl x y, okL R C b c0 f g cl x y)) ∨ (∃ cl x y ey j, okL R C b c0 f g cl x y ∧ (j < 2 ^ 31 ∧ i = nI j) ∧ eyP b (R * C) ey ∧ ((s = -1 ∧ (lkS (rv cl (jl R C b ey (fb_ct (mE b) (R * C)) cl x y) (fb_ct (mE b) (R * C)) (fb_ct (mE b) (R * C)) 0 false) (rv cl (jl R C b ey (fb_ct (mE b) (R * C)) cl x y) (fb_ct (mE b) (R * C)) (fb_ct (mE b) (R * C)) 0 true) ≠ 1 ∨ fb_ct (wOwn (jl R C b ey (fb_ct (mE b) (R * C)) cl x y) cl (fb_ct (mE b) (R * C)) 0) (fb_ct (mE b) (R * C)) ≤ j)) ∨ (lkS (rv cl (jl R C b ey (fb_ct (mE b) (R * C)) cl x y) (fb_ct (mE b) (R * C)) (fb_ct (mE b) (R * C)) 0 false) (rv cl (jl R C b ey (fb_ct (mE b) (R * C)) cl x y) (fb_ct (mE b) (R * C)) (fb_ct (mE b) (R * C)) 0 true) = 1 ∧ ∃ k, k < fb_ct (mE b) (R * C) ∧ wOwn (jl R C b ey (fb_ct (mE b) (R * C)) cl x y) cl (fb_ct (mE b) (R * C)) 0 k = true ∧ fb_ct (wOwn (jl R C b ey (fb_ct (mE b) (R * C)) cl x y) cl (fb_ct (mE b) (R * C)) 0) k = j ∧ s = nI (ey k))))) : r = s := by
  have ep := sR_pcn hR2 hC2 h
  rcases hm with ⟨rfl, g1⟩ | ⟨cl, x, y, ey, j, g1, ⟨g2, rfl⟩, g3, g4⟩
  · rcases hc with ⟨rfl, _⟩ | ⟨cv, ka, kb, h1, h2, h3, h4, h5, h6, h7, h8, h9, hh⟩
    · rfl
    · have ho := (cLk_ok hR2 hC2 hRC h).mp ⟨h1, h2, h3, h4, h5, h6, h7, h8, h9⟩
      rcases hh with ⟨_, rfl⟩ | ⟨_, hw⟩
      · rfl
      · by_cases hi : i < 0
        · exact wfA_i0 hi hw
        · exact absurd ⟨hi, cv, ka, kb, ho⟩ g1
  · rcases hc with ⟨rfl, h1⟩ | ⟨cv, ka, kb, h1, h2, h3, h4, h5, h6, h7, h8, h9, hh⟩
    · exact absurd ⟨cl, x, y, (cLk_ok hR2 hC2 hRC h).mpr g1⟩ h1
    · have ho := (cLk_ok hR2 hC2 hRC h).mp ⟨h1, h2, h3, h4, h5, h6, h7, h8, h9⟩
      obtain ⟨rfl, rfl, rfl⟩ := okL_e hRC g1 ho
      have el : (if gv (lQ R C no we cl x y) (pcn (gSpots R C no we)) (pcn (gSpots R C no we)) 0 false = true then nI 2 else if gv (lQ R C no we cl x y) (pcn (gSpots R C no we)) (pcn (gSpots R C no we)) 0 true = true then nI 1 else nI 0) = nI (lkS (rv cl (jl R C b ey (fb_ct (mE b) (R * C)) cl x y) (fb_ct (mE b) (R * C)) (fb_ct (mE b) (R * C)) 0 false) (rv cl (jl R C b ey (fb_ct (mE b) (R * C)) cl x y) (fb_ct (mE b) (R * C)) (fb_ct (mE b) (R * C)) 0 true)) := by
        rw [an_link hR1 hR2 hC1 hC2 hRC h g3 (by omega) h1 h2 h3, an_link hR1 hR2 hC1 hC2 hRC h g3 (by omega) h1 h2 h3, ep, lkS_nI]
      rw [el] at hh
      have hle := lkS_le (rv cl (jl R C b ey (fb_ct (mE b) (R * C)) cl x y) (fb_ct (mE b) (R * C)) (fb_ct (mE b) (R * C)) 0 false) (rv cl (jl R C b ey (fb_ct (mE b) (R * C)) cl x y) (fb_ct (mE b) (R * C)) (fb_ct (mE b) (R * C)) 0 true)
      rw [nI_eq (by omega) (by omega)] at hh
      rcases hh with ⟨hn, rfl⟩ | ⟨hn, hw⟩
      · rcases g4 with ⟨rfl, _⟩ | ⟨g5, _⟩
        · rfl
        · exact absurd g5 hn
      · refine an_wfA (p := wOwn (jl R C b ey (fb_ct (mE b) (R * C)) cl x y) cl (fb_ct (mE b) (R * C)) 0) hR2 hC2 hRC h g3 (by omega) (fun k hk => by rw [an_half hR1 hR2 hC1 hC2 hRC h g3 (by omega) h1 h2 h3 k hk, ep]) g2 hw ?_
        rcases g4 with ⟨rfl, g5 | g5⟩ | ⟨_, g5⟩
        · exact absurd hn g5
        · exact Or.inl ⟨rfl, g5⟩
        · exact Or.inr g5
theorem op_count {R C : Nat} (hR1 : 1 ≤ R) (hR2 : R ≤ 6) (hC1 : 1 ≤ C) (hC2 : C ≤ 6) (hRC : R * C ≤ 36) {no we : Int64} {b : Nat → Nat} {tl dn kn ag : Nat} {wh r s : Int32} (h : sR R C no we b) (hk : kn = dn + ag) (hc : cntA R C no we tl dn kn wh r) (hm : cntR R C b tl dn ag wh s) : r = s := by
  have ep := sR_pcn hR2 hC2 h
  have key : ∀ i j : Nat, i < 10 → j < 10 → wh = nI i → wh = nI j → i = j := fun i j hi hj e1 e2 => (nI_eq (by omega) (by omega)).mp (e1.symm.trans e2)
  unfold cntA at hc
  rw [ep] at hc
  unfold cntR at hm
  have cl : ∃ i, (i < 10 ∧ wh = nI i) ∨ (i = 10 ∧ ∀ j, j < 10 → wh ≠ nI j) := by
    by_cases q : ∃ i, i < 10 ∧ wh = nI i
    · obtain ⟨i, h1, h2⟩ := q; exact ⟨i, Or.inl ⟨h1, h2⟩⟩
    · exact ⟨10, Or.inr ⟨rfl, fun j hj e => q ⟨j, hj, e⟩⟩⟩
  obtain ⟨i, ⟨hi, rfl⟩ | ⟨rfl, hn⟩⟩ := cl
  · have k2 : ∀ j, j < 10 → nI i = nI j → i = j := fun j hj e => key i j hi hj rfl e
    rcases hc with ⟨a, rfl⟩ | ⟨a, rfl⟩ | ⟨a, rfl⟩ | ⟨a, rfl⟩ | ⟨a, rfl⟩ | ⟨a, rfl⟩ | ⟨a, rfl⟩ | ⟨a, rfl⟩ | ⟨a, hc⟩ | ⟨a, hc⟩ | ⟨a, rfl⟩ <;> rcases hm with ⟨e, rfl⟩ | ⟨e, rfl⟩ | ⟨e, rfl⟩ | ⟨e, rfl⟩ | ⟨e, rfl⟩ | ⟨e, rfl⟩ | ⟨e, rfl⟩ | ⟨e, rfl⟩ | ⟨e, hm⟩ | ⟨e, hm⟩ | ⟨e, rfl⟩ <;>
      first
      | exact absurd ((k2 _ (by decide) a).symm.trans (k2 _ (by decide) e)) (by decide)
      | exact absurd rfl (a i (by omega))
      | exact absurd rfl (e i (by omega))
      | rfl
      | (rw [sR_grs hR1 hR2 hC1 hC2 hRC h.1])
      | (rw [sR_grs hR1 hR2 hC1 hC2 hRC h.2.1])
      | (rw [hk, Nat.add_sub_cancel_left])
      | skip
    · rcases hc with ⟨rfl, h1⟩ | ⟨h1, ds, h2, rfl⟩
      · rcases hm with ⟨rfl, _⟩ | ⟨g1, _⟩
        · rfl
        · omega
      · rcases hm with ⟨rfl, g1⟩ | ⟨g1, ey, g2, rfl⟩
        · omega
        · rw [an_dct hR1 hR2 hC1 hC2 hRC h g2 g1 (by rw [ep]; exact h2)]
    · obtain ⟨ln, fs, h1, rfl⟩ := hc
      rcases hm with ⟨g1, rfl⟩ | ⟨g1, n, fa, rfl, g2, g3⟩
      · rw [wayZ hR1 hR2 hC1 hC2 hRC h g1 h1]
      · rw [(wayY hR1 hR2 hC1 hC2 hRC h g1 g2 g3 h1).1]
  · rcases hc with ⟨a, rfl⟩ | ⟨a, rfl⟩ | ⟨a, rfl⟩ | ⟨a, rfl⟩ | ⟨a, rfl⟩ | ⟨a, rfl⟩ | ⟨a, rfl⟩ | ⟨a, rfl⟩ | ⟨a, hc⟩ | ⟨a, hc⟩ | ⟨a, rfl⟩ <;> rcases hm with ⟨e, rfl⟩ | ⟨e, rfl⟩ | ⟨e, rfl⟩ | ⟨e, rfl⟩ | ⟨e, rfl⟩ | ⟨e, rfl⟩ | ⟨e, rfl⟩ | ⟨e, rfl⟩ | ⟨e, hm⟩ | ⟨e, hm⟩ | ⟨e, rfl⟩ <;>
      first
      | rfl
      | exact absurd a (hn _ (by decide))
      | exact absurd e (hn _ (by decide))
