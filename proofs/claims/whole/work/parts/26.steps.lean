/-! Each call: the class's outcome and the reference's agree, and both memories stay as they must. -/
def cp_ok (k : Int32) (u1 : cp_M) (f1 : Nat → Int64) (b : Int32) (v1 : cp_M) : Prop := v1 14 4 = k ∧ (k = 0 → f1 0 = b.toInt64) ∧ cp_R u1 v1 ∧ cp_V u1
theorem cp_okE {u : cp_M} {F K : Nat → Int32} {t k c b : Int32} {f1 : Nat → Int64} (hk : cp_kn u K) (hV : cp_V u) (hc : k = c) (h0 : c ≠ 0) : cp_ok k u f1 b (cp_thw (cp_mk u F K t) c) := by
  subst hc
  rw [cp_mk_thw]
  exact ⟨rfl, fun h => absurd h h0, ⟨F, K, k, rfl, hk⟩, hV⟩
theorem cp_okR {u1 v1 : cp_M} {F2 K2 : Nat → Int32} {b : Int32} {f1 : Nat → Int64} (hk2 : cp_kn u1 K2) (hV1 : cp_V u1) (hv : v1 = cp_mk u1 F2 K2 0) (hb : f1 0 = b.toInt64) : cp_ok 0 u1 f1 b v1 := by
  subst hv
  exact ⟨rfl, fun _ => hb, ⟨F2, K2, 0, rfl, hk2⟩, hV1⟩
theorem cp_ne12 : R_iob ≠ R_iae := by unfold R_iob R_iae; decide
theorem cp_ne13 : R_iob ≠ R_ise := by unfold R_iob R_ise; decide
theorem cp_ne23 : R_iae ≠ R_ise := by unfold R_iae R_ise; decide
theorem cp_x3 {X1 X2 X3 : Prop} {k : Int32} (h : ∃ E, ((E = R_iob ∧ X1) ∨ (E = R_iae ∧ X2) ∨ (E = R_ise ∧ X3)) ∧ ((E = R_iob ∧ k = 1) ∨ (E = R_iae ∧ k = 2) ∨ (E = R_ise ∧ k = 3))) : (k = 1 ∧ X1) ∨ (k = 2 ∧ X2) ∨ (k = 3 ∧ X3) := by
  obtain ⟨E, ⟨rfl, x⟩ | ⟨rfl, x⟩ | ⟨rfl, x⟩, ⟨e, q⟩ | ⟨e, q⟩ | ⟨e, q⟩⟩ := h
  · exact Or.inl ⟨q, x⟩
  · exact absurd e cp_ne12
  · exact absurd e cp_ne13
  · exact absurd e.symm cp_ne12
  · exact Or.inr (Or.inl ⟨q, x⟩)
  · exact absurd e cp_ne23
  · exact absurd e.symm cp_ne13
  · exact absurd e.symm cp_ne23
  · exact Or.inr (Or.inr ⟨q, x⟩)
theorem cp_x2 {R1 R2 : String} {X1 X2 : Prop} {k : Int32} (hn : R1 ≠ R2) (h : ∃ E, ((E = R1 ∧ X1) ∨ (E = R2 ∧ X2)) ∧ ((E = R1 ∧ k = 1) ∨ (E = R2 ∧ k = 2))) : (k = 1 ∧ X1) ∨ (k = 2 ∧ X2) := by
  obtain ⟨E, ⟨rfl, x⟩ | ⟨rfl, x⟩, ⟨e, q⟩ | ⟨e, q⟩⟩ := h
  · exact Or.inl ⟨q, x⟩
  · exact absurd e hn
  · exact absurd e.symm hn
  · exact Or.inr ⟨q, x⟩
theorem cp_x1 {X1 : Prop} {k : Int32} (h : ∃ E, (E = R_iob ∧ X1) ∧ (E = R_iob ∧ k = 1)) : k = 1 ∧ X1 := by
  obtain ⟨E, ⟨_, x⟩, _, q⟩ := h
  exact ⟨q, x⟩
theorem cp_m3 {P1 P2 P3 C0 C1 C2 C3 M0 M1 M2 M3 : Prop} (hc : (P1 ∧ P2 ∧ P3 ∧ C0) ∨ (¬ P1 ∧ C1) ∨ (P1 ∧ ¬ P2 ∧ C2) ∨ (P1 ∧ P2 ∧ ¬ P3 ∧ C3)) (hm : (¬ P1 ∧ M1) ∨ (P1 ∧ ¬ P2 ∧ M2) ∨ (P1 ∧ P2 ∧ ¬ P3 ∧ M3) ∨ (P1 ∧ P2 ∧ P3 ∧ M0)) : (P1 ∧ P2 ∧ P3 ∧ C0 ∧ M0) ∨ (C1 ∧ M1) ∨ (C2 ∧ M2) ∨ (C3 ∧ M3) := by
  rcases hc with ⟨a1, a2, a3, a4⟩ | ⟨a1, a2⟩ | ⟨a1, a2, a3⟩ | ⟨a1, a2, a3, a4⟩ <;> rcases hm with ⟨b1, b2⟩ | ⟨b1, b2, b3⟩ | ⟨b1, b2, b3, b4⟩ | ⟨b1, b2, b3, b4⟩ <;> first
    | exact absurd a1 b1 | exact absurd b1 a1 | exact absurd a2 b2 | exact absurd b2 a2 | exact absurd a3 b3 | exact absurd b3 a3
    | exact Or.inl ⟨a1, a2, a3, a4, b4⟩ | exact Or.inr (Or.inl ⟨a2, b2⟩) | exact Or.inr (Or.inr (Or.inl ⟨a3, b3⟩)) | exact Or.inr (Or.inr (Or.inr ⟨a4, b4⟩))
theorem cp_m2 {P1 P2 C0 C1 C2 M0 M1 M2 : Prop} (hc : (P1 ∧ P2 ∧ C0) ∨ (¬ P1 ∧ C1) ∨ (P1 ∧ ¬ P2 ∧ C2)) (hm : (¬ P1 ∧ M1) ∨ (P1 ∧ ¬ P2 ∧ M2) ∨ (P1 ∧ P2 ∧ M0)) : (P1 ∧ P2 ∧ C0 ∧ M0) ∨ (C1 ∧ M1) ∨ (C2 ∧ M2) := by
  rcases hc with ⟨a1, a2, a3⟩ | ⟨a1, a2⟩ | ⟨a1, a2, a3⟩ <;> rcases hm with ⟨b1, b2⟩ | ⟨b1, b2, b3⟩ | ⟨b1, b2, b3⟩ <;> first
    | exact absurd a1 b1 | exact absurd b1 a1 | exact absurd a2 b2 | exact absurd b2 a2
    | exact Or.inl ⟨a1, a2, a3, b3⟩ | exact Or.inr (Or.inl ⟨a2, b2⟩) | exact Or.inr (Or.inr ⟨a3, b3⟩)
theorem cp_Lof {u : cp_M} (hV : cp_V u) {g L : Nat} (hg : g < cp_n u 1) (h : u 2 g = nI L) (hL : L ≤ 30) : 1 ≤ L ∧ u 4 g = cp_tn (cp_q (u 3 g)) L L 0 0 := by
  obtain ⟨L2, a1, a2, a3, a4⟩ := hV.2.2.2.2.1 g hg
  obtain rfl : L2 = L := cp_nIinj (by omega) (by omega) (a3.symm.trans h)
  exact ⟨a1, a4⟩
theorem cp_bw3 {n : Nat} (h : n ≤ 3) : cp_bw (nI n) 0 3 := ⟨nI_pos' (by omega), nI_le (b := 3) h (by decide)⟩
theorem cp_lnok {m L : Nat} (h : m < L) (hL : L ≤ 30) : cp_bw (nI m) 0 (nI L - 1) := by
  rw [cp_pred (by omega)]
  exact ⟨nI_pos' (by omega), nI_le (by omega) (by omega)⟩
theorem cp_s_pages {u v u1 v1 : cp_M} {k b : Int32} {f1 : Nat → Int64} {x : Int32} (hR : cp_R u v) (hV : cp_V u) (hc : (k = 0 ∧ ∃ (r : Int32) (u2 : cp_M), (∃ g, g < cp_n u 1 ∧ x = nI g ∧ r = cp_swar (u 4 g) + 1 ∧ u2 = u) ∧ u1 = u2 ∧ f1 0 = r.toInt64) ∨ (u1 = u ∧ ∃ E, (E = R_iob ∧ ¬ (cp_bw x 0 (u 14 1 - 1))) ∧ ((E = R_iob ∧ k = 1)))) (hm : (¬ (cp_bw x 0 (v 14 1 - 1)) ∧ v1 = cp_thw v 1) ∨ (∃ g L i, g < cp_n v 1 ∧ x = nI g ∧ v 2 g = nI L ∧ b = nI i ∧ cp_pgs (cp_qY (v 3 g)) L i ∧ v1 = cp_thw v 0)) : cp_ok k u1 f1 b v1 := by
  obtain ⟨F, K, t, rfl, hk⟩ := hR
  have hm : (¬ (cp_bw x 0 (u 14 1 - 1)) ∧ v1 = cp_thw (cp_mk u F K t) 1) ∨ (∃ g L i, g < cp_n u 1 ∧ x = nI g ∧ u 2 g = nI L ∧ b = nI i ∧ cp_pgs (cp_qY (u 3 g)) L i ∧ v1 = cp_thw (cp_mk u F K t) 0) := hm
  have hn1 := hV.1.2.1
  have hn3 := hV.2.2.1.2.1
  rcases hc with ⟨rfl, r, u2, ⟨g, hg, hx, hr, e2⟩, e1, hf⟩ | ⟨hu, hE⟩
  · rcases hm with ⟨hn, _⟩ | ⟨g1, L1, i1, hg1, hx1, hL1, hL3, hb, hp, hv⟩
    · exact absurd (by rw [hx]; exact cp_isH hV.1 hg) hn
    · obtain rfl : g = g1 := cp_nIinj (by omega) (by have h : g1 < cp_n u 1 := hg1; omega) (hx.symm.trans hx1)
      obtain ⟨hL0, ht⟩ := cp_Lof hV hg hL1 hL3
      rw [e1, e2]
      exact cp_okR hk hV (hv.trans (cp_mk_thw _ _ _ _ _)) (by rw [hf, hr, cp_pages_eq hL0 hL3 ht hp, hb])
  · obtain ⟨hk1, hx⟩ := cp_x1 hE
    rcases hm with ⟨hn, hv⟩ | ⟨g1, L1, i1, hg1, hx1, hL1, hL3, hb, hp, hv⟩
    · rw [hu, hv]; exact cp_okE hk hV hk1 (by decide)
    · exact absurd (by rw [hx1]; exact cp_isH hV.1 hg1) hx
theorem cp_s_badTurns {u v u1 v1 : cp_M} {k b : Int32} {f1 : Nat → Int64} {x : Int32} (hR : cp_R u v) (hV : cp_V u) (hc : (k = 0 ∧ ∃ (r : Int32) (u2 : cp_M), (∃ g, g < cp_n u 1 ∧ x = nI g ∧ r = cp_swar (u 4 g &&& (u 3 g ^^^ (-1))) ∧ u2 = u) ∧ u1 = u2 ∧ f1 0 = r.toInt64) ∨ (u1 = u ∧ ∃ E, (E = R_iob ∧ ¬ (cp_bw x 0 (u 14 1 - 1))) ∧ ((E = R_iob ∧ k = 1)))) (hm : (¬ (cp_bw x 0 (v 14 1 - 1)) ∧ v1 = cp_thw v 1) ∨ (∃ g1 L1 i1, g1 < cp_n v 1 ∧ x = nI g1 ∧ v 2 g1 = nI L1 ∧ L1 ≤ 30 ∧ b = nI (cp_cnt (cp_bad (cp_qY (v 3 g1)) L1) i1) ∧ cp_pgs (cp_qY (v 3 g1)) L1 i1 ∧ v1 = cp_thw v 0)) : cp_ok k u1 f1 b v1 := by
  obtain ⟨F, K, t, rfl, hk⟩ := hR
  have hm : (¬ (cp_bw x 0 (u 14 1 - 1)) ∧ v1 = cp_thw (cp_mk u F K t) 1) ∨ (∃ g1 L1 i1, g1 < cp_n u 1 ∧ x = nI g1 ∧ u 2 g1 = nI L1 ∧ L1 ≤ 30 ∧ b = nI (cp_cnt (cp_bad (cp_qY (u 3 g1)) L1) i1) ∧ cp_pgs (cp_qY (u 3 g1)) L1 i1 ∧ v1 = cp_thw (cp_mk u F K t) 0) := hm
  have hn1 := hV.1.2.1
  have hn3 := hV.2.2.1.2.1
  rcases hc with ⟨rfl, r, u2, ⟨g, hg, hx, hr, e2⟩, e1, hf⟩ | ⟨hu, hE⟩
  · rcases hm with ⟨hn, _⟩ | ⟨g1, L1, i1, hg1, hx1, hL1, hL3, hb, hp, hv⟩
    · exact absurd (by rw [hx]; exact cp_isH hV.1 hg) hn
    · obtain rfl : g = g1 := cp_nIinj (by omega) (by have h : g1 < cp_n u 1 := hg1; omega) (hx.symm.trans hx1)
      obtain ⟨hL0, ht⟩ := cp_Lof hV hg hL1 hL3
      rw [e1, e2]
      exact cp_okR hk hV (hv.trans (cp_mk_thw _ _ _ _ _)) (by rw [hf, hr, cp_bad_eq hL3 ht hp.2.1, hb])
  · obtain ⟨hk1, hx⟩ := cp_x1 hE
    rcases hm with ⟨hn, hv⟩ | ⟨g1, L1, i1, hg1, hx1, hL1, hL3, hb, hp, hv⟩
    · rw [hu, hv]; exact cp_okE hk hV hk1 (by decide)
    · exact absurd (by rw [hx1]; exact cp_isH hV.1 hg1) hx
theorem cp_s_pageOf {u v u1 v1 : cp_M} {k b : Int32} {f1 : Nat → Int64} {x ln : Int32} (hR : cp_R u v) (hV : cp_V u) (hc : (k = 0 ∧ ∃ (r : Int32) (u2 : cp_M), (∃ g, g < cp_n u 1 ∧ x = nI g ∧ cp_bw ln 0 (u 2 g - 1) ∧ r = cp_swar (u 4 g &&& ((1 <<< (ln &&& 31)) - 1)) ∧ u2 = u) ∧ u1 = u2 ∧ f1 0 = r.toInt64) ∨ (u1 = u ∧ ∃ E, (E = R_iob ∧ (¬ (cp_bw x 0 (u 14 1 - 1)) ∨ ∃ g, g < cp_n u 1 ∧ x = nI g ∧ ¬ cp_bw ln 0 (u 2 g - 1))) ∧ ((E = R_iob ∧ k = 1)))) (hm : ((¬ (cp_bw x 0 (v 14 1 - 1)) ∨ ∃ g1, g1 < cp_n v 1 ∧ x = nI g1 ∧ ¬ cp_bw ln 0 (v 2 g1 - 1)) ∧ v1 = cp_thw v 1) ∨ (∃ g1 L1 m1 i1, g1 < cp_n v 1 ∧ x = nI g1 ∧ v 2 g1 = nI L1 ∧ L1 ≤ 30 ∧ ln = nI m1 ∧ m1 < L1 ∧ b = nI i1 - 1 ∧ cp_pgo (cp_qY (v 3 g1)) L1 m1 i1 ∧ v1 = cp_thw v 0)) : cp_ok k u1 f1 b v1 := by
  obtain ⟨F, K, t, rfl, hk⟩ := hR
  have hm : ((¬ (cp_bw x 0 (u 14 1 - 1)) ∨ ∃ g1, g1 < cp_n u 1 ∧ x = nI g1 ∧ ¬ cp_bw ln 0 (u 2 g1 - 1)) ∧ v1 = cp_thw (cp_mk u F K t) 1) ∨ (∃ g1 L1 m1 i1, g1 < cp_n u 1 ∧ x = nI g1 ∧ u 2 g1 = nI L1 ∧ L1 ≤ 30 ∧ ln = nI m1 ∧ m1 < L1 ∧ b = nI i1 - 1 ∧ cp_pgo (cp_qY (u 3 g1)) L1 m1 i1 ∧ v1 = cp_thw (cp_mk u F K t) 0) := hm
  have hn1 := hV.1.2.1
  have hn3 := hV.2.2.1.2.1
  rcases hc with ⟨rfl, r, u2, ⟨g, hg, hx, hl, hr, e2⟩, e1, hf⟩ | ⟨hu, hE⟩
  · rcases hm with ⟨hn, _⟩ | ⟨g1, L1, m1, i1, hg1, hx1, hL1, hL3, hln, hml, hb, hp, hv⟩
    · rcases hn with hn | ⟨g1, hg1, hx1, hn⟩
      · exact absurd (by rw [hx]; exact cp_isH hV.1 hg) hn
      · obtain rfl : g = g1 := cp_nIinj (by omega) (by have h : g1 < cp_n u 1 := hg1; omega) (hx.symm.trans hx1)
        exact absurd hl hn
    · obtain rfl : g = g1 := cp_nIinj (by omega) (by have h : g1 < cp_n u 1 := hg1; omega) (hx.symm.trans hx1)
      obtain ⟨hL0, ht⟩ := cp_Lof hV hg hL1 hL3
      rw [e1, e2]
      exact cp_okR hk hV (hv.trans (cp_mk_thw _ _ _ _ _)) (by rw [hf, hr, hln, cp_pageOf_eq hL3 hml ht hp, hb])
  · obtain ⟨hk1, hx⟩ := cp_x1 hE
    rcases hm with ⟨hn, hv⟩ | ⟨g1, L1, m1, i1, hg1, hx1, hL1, hL3, hln, hml, hb, hp, hv⟩
    · rw [hu, hv]; exact cp_okE hk hV hk1 (by decide)
    · rcases hx with hx | ⟨g, hg, hx, hn⟩
      · exact absurd (by rw [hx1]; exact cp_isH hV.1 hg1) hx
      · obtain rfl : g = g1 := cp_nIinj (by omega) (by have h : g1 < cp_n u 1 := hg1; omega) (hx.symm.trans hx1)
        have h2 : u 2 g = nI L1 := hL1
        exact absurd (by rw [hln, h2]; exact cp_lnok hml hL3) hn
theorem cp_s_printed {u v u1 v1 : cp_M} {k b : Int32} {f1 : Nat → Int64} {x y : Int32} (hR : cp_R u v) (hV : cp_V u) (hc : (k = 0 ∧ ∃ (r : Int32) (u2 : cp_M), (∃ g k, g < cp_n u 1 ∧ k ≤ 3 ∧ x = nI g ∧ y = nI k ∧ r = u 6 (g * 4 + k) ∧ u2 = u) ∧ u1 = u2 ∧ f1 0 = r.toInt64) ∨ (u1 = u ∧ ∃ E, (E = R_iob ∧ ¬ (cp_bw x 0 (u 14 1 - 1) ∧ cp_bw y 0 3)) ∧ ((E = R_iob ∧ k = 1)))) (hm : (¬ (cp_bw x 0 (v 14 1 - 1) ∧ cp_bw y 0 3) ∧ v1 = cp_thw v 1) ∨ (∃ g1 k1, g1 < cp_n v 1 ∧ k1 ≤ 3 ∧ x = nI g1 ∧ y = nI k1 ∧ b = v 6 (g1 * 4 + k1) ∧ v1 = cp_thw v 0)) : cp_ok k u1 f1 b v1 := by
  obtain ⟨F, K, t, rfl, hk⟩ := hR
  have hm : (¬ (cp_bw x 0 (u 14 1 - 1) ∧ cp_bw y 0 3) ∧ v1 = cp_thw (cp_mk u F K t) 1) ∨ (∃ g1 k1, g1 < cp_n u 1 ∧ k1 ≤ 3 ∧ x = nI g1 ∧ y = nI k1 ∧ b = u 6 (g1 * 4 + k1) ∧ v1 = cp_thw (cp_mk u F K t) 0) := hm
  have hn1 := hV.1.2.1
  have hn3 := hV.2.2.1.2.1
  rcases hc with ⟨rfl, r, u2, ⟨g, k2, hg, hk2, hx, hy, hr, e2⟩, e1, hf⟩ | ⟨hu, hE⟩
  · rcases hm with ⟨hn, _⟩ | ⟨g1, k1, hg1, hk1, hx1, hy1, hb, hv⟩
    · exact absurd ⟨by rw [hx]; exact cp_isH hV.1 hg, by rw [hy]; exact cp_bw3 hk2⟩ hn
    · obtain rfl : g = g1 := cp_nIinj (by omega) (by have h : g1 < cp_n u 1 := hg1; omega) (hx.symm.trans hx1)
      obtain rfl : k2 = k1 := cp_nIinj (by omega) (by omega) (hy.symm.trans hy1)
      rw [e1, e2]
      exact cp_okR hk hV (hv.trans (cp_mk_thw _ _ _ _ _)) (by rw [hf, hr, hb])
  · obtain ⟨hk1, hx⟩ := cp_x1 hE
    rcases hm with ⟨hn, hv⟩ | ⟨g1, k1, hg1, hk2, hx1, hy1, hb, hv⟩
    · rw [hu, hv]; exact cp_okE hk hV hk1 (by decide)
    · exact absurd ⟨by rw [hx1]; exact cp_isH hV.1 hg1, by rw [hy1]; exact cp_bw3 hk2⟩ hx
theorem cp_s_hymnOf {u v u1 v1 : cp_M} {k b : Int32} {f1 : Nat → Int64} {x : Int32} (hR : cp_R u v) (hV : cp_V u) (hc : (k = 0 ∧ ∃ (r : Int32) (u2 : cp_M), (∃ g, g < cp_n u 3 ∧ x = nI g ∧ r = u 13 g ∧ u2 = u) ∧ u1 = u2 ∧ f1 0 = r.toInt64) ∨ (u1 = u ∧ ∃ E, (E = R_iob ∧ ¬ (cp_bw x 0 (u 14 3 - 1))) ∧ ((E = R_iob ∧ k = 1)))) (hm : (¬ (cp_bw x 0 (v 14 3 - 1)) ∧ v1 = cp_thw v 1) ∨ (∃ g1, g1 < cp_n v 3 ∧ x = nI g1 ∧ b = v 13 g1 ∧ v1 = cp_thw v 0)) : cp_ok k u1 f1 b v1 := by
  obtain ⟨F, K, t, rfl, hk⟩ := hR
  have hm : (¬ (cp_bw x 0 (u 14 3 - 1)) ∧ v1 = cp_thw (cp_mk u F K t) 1) ∨ (∃ g1, g1 < cp_n u 3 ∧ x = nI g1 ∧ b = u 13 g1 ∧ v1 = cp_thw (cp_mk u F K t) 0) := hm
  have hn1 := hV.1.2.1
  have hn3 := hV.2.2.1.2.1
  rcases hc with ⟨rfl, r, u2, ⟨g, hg, hx, hr, e2⟩, e1, hf⟩ | ⟨hu, hE⟩
  · rcases hm with ⟨hn, _⟩ | ⟨g1, hg1, hx1, hb, hv⟩
    · exact absurd (by rw [hx]; exact cp_isH hV.2.2.1 hg) hn
    · obtain rfl : g = g1 := cp_nIinj (by omega) (by have h : g1 < cp_n u 3 := hg1; omega) (hx.symm.trans hx1)
      rw [e1, e2]
      exact cp_okR hk hV (hv.trans (cp_mk_thw _ _ _ _ _)) (by rw [hf, hr, hb])
  · obtain ⟨hk1, hx⟩ := cp_x1 hE
    rcases hm with ⟨hn, hv⟩ | ⟨g1, hg1, hx1, hb, hv⟩
    · rw [hu, hv]; exact cp_okE hk hV hk1 (by decide)
    · exact absurd (by rw [hx1]; exact cp_isH hV.2.2.1 hg1) hx
theorem cp_s_sung {u v u1 v1 : cp_M} {k b : Int32} {f1 : Nat → Int64} {ow y : Int32} (hR : cp_R u v) (hV : cp_V u) (hc : (k = 0 ∧ ∃ (r : Int32) (u2 : cp_M), ((cp_bw ow 0 4 ∧ cp_bw y 0 3) ∧ r = nI (cp_cnt (cp_sungP u ow y) (cp_n u 3)) ∧ u2 = u) ∧ u1 = u2 ∧ f1 0 = r.toInt64) ∨ (u1 = u ∧ ∃ E, (E = R_iob ∧ ¬ (cp_bw ow 0 4 ∧ cp_bw y 0 3)) ∧ ((E = R_iob ∧ k = 1)))) (hm : (¬ (cp_bw ow 0 4 ∧ cp_bw y 0 3) ∧ v1 = cp_thw v 1) ∨ ((cp_bw ow 0 4 ∧ cp_bw y 0 3) ∧ b = nI (cp_cnt (cp_sgY v ow y) (cp_n v 3)) ∧ v1 = cp_thw v 0)) : cp_ok k u1 f1 b v1 := by
  obtain ⟨F, K, t, rfl, hk⟩ := hR
  have hm : (¬ (cp_bw ow 0 4 ∧ cp_bw y 0 3) ∧ v1 = cp_thw (cp_mk u F K t) 1) ∨ ((cp_bw ow 0 4 ∧ cp_bw y 0 3) ∧ b = nI (cp_cnt (cp_sgY u ow y) (cp_n u 3)) ∧ v1 = cp_thw (cp_mk u F K t) 0) := hm
  have hn1 := hV.1.2.1
  have hn3 := hV.2.2.1.2.1
  rcases hc with ⟨rfl, r, u2, ⟨hp, hr, e2⟩, e1, hf⟩ | ⟨hu, hE⟩
  · rcases hm with ⟨hn, _⟩ | ⟨_, hb, hv⟩
    · exact absurd hp hn
    · rw [e1, e2]
      exact cp_okR hk hV (hv.trans (cp_mk_thw _ _ _ _ _)) (by rw [hf, hr, hb]; exact congrArg (fun n => (nI n).toInt64) (cp_sung_eq hV ow y))
  · obtain ⟨hk1, hx⟩ := cp_x1 hE
    rcases hm with ⟨hn, hv⟩ | ⟨hp, hb, hv⟩
    · rw [hu, hv]; exact cp_okE hk hV hk1 (by decide)
    · exact absurd hp hx
theorem cp_s_sungByHymns {u v u1 v1 : cp_M} {k b : Int32} {f1 : Nat → Int64} {ow y : Int32} (hR : cp_R u v) (hV : cp_V u) (hc : (k = 0 ∧ ∃ (r : Int32) (u2 : cp_M), ((cp_bw ow 0 4 ∧ cp_bw y 0 3) ∧ r = nI (cp_sbh u ow y (cp_n u 1)) ∧ u2 = u) ∧ u1 = u2 ∧ f1 0 = r.toInt64) ∨ (u1 = u ∧ ∃ E, (E = R_iob ∧ ¬ (cp_bw ow 0 4 ∧ cp_bw y 0 3)) ∧ ((E = R_iob ∧ k = 1)))) (hm : (¬ (cp_bw ow 0 4 ∧ cp_bw y 0 3) ∧ v1 = cp_thw v 1) ∨ ((cp_bw ow 0 4 ∧ cp_bw y 0 3) ∧ b = nI (cp_cnt (cp_sgY v ow y) (cp_n v 3)) ∧ v1 = cp_thw v 0)) : cp_ok k u1 f1 b v1 := by
  obtain ⟨F, K, t, rfl, hk⟩ := hR
  have hm : (¬ (cp_bw ow 0 4 ∧ cp_bw y 0 3) ∧ v1 = cp_thw (cp_mk u F K t) 1) ∨ ((cp_bw ow 0 4 ∧ cp_bw y 0 3) ∧ b = nI (cp_cnt (cp_sgY u ow y) (cp_n u 3)) ∧ v1 = cp_thw (cp_mk u F K t) 0) := hm
  have hn1 := hV.1.2.1
  have hn3 := hV.2.2.1.2.1
  rcases hc with ⟨rfl, r, u2, ⟨hp, hr, e2⟩, e1, hf⟩ | ⟨hu, hE⟩
  · rcases hm with ⟨hn, _⟩ | ⟨_, hb, hv⟩
    · exact absurd hp hn
    · rw [e1, e2]
      exact cp_okR hk hV (hv.trans (cp_mk_thw _ _ _ _ _)) (by rw [hf, hr, hb]; exact congrArg (fun n => (nI n).toInt64) ((cp_sbh_eq hV ow y _ (Nat.le_refl _)).trans (cp_sung_eq hV ow y)))
  · obtain ⟨hk1, hx⟩ := cp_x1 hE
    rcases hm with ⟨hn, hv⟩ | ⟨hp, hb, hv⟩
    · rw [hu, hv]; exact cp_okE hk hV hk1 (by decide)
    · exact absurd hp hx
theorem cp_s_learn {u v u1 v1 : cp_M} {k b : Int32} {f1 : Nat → Int64} {ch x : Int32} (hR : cp_R u v) (hV : cp_V u) (hc : (k = 0 ∧ ∃ (r : Int32) (u2 : cp_M), (∃ g, g < cp_n u 1 ∧ x = nI g ∧ cp_bw ch 0 3 ∧ r = cp_b (cp_inS ch (u 5 g ^^^ (1 <<< (ch &&& 31))).toInt64) ∧ u2 = cp_up u 5 (upd (u 5) g (u 5 g ^^^ (1 <<< (ch &&& 31))))) ∧ u1 = u2 ∧ f1 0 = r.toInt64) ∨ (u1 = u ∧ ∃ E, (E = R_iob ∧ ¬ (cp_bw ch 0 3 ∧ cp_bw x 0 (u 14 1 - 1))) ∧ ((E = R_iob ∧ k = 1)))) (hm : (¬ (cp_bw ch 0 3 ∧ cp_bw x 0 (v 14 1 - 1)) ∧ v1 = cp_thw v 1) ∨ (∃ g1 k1, g1 < cp_n v 1 ∧ k1 ≤ 3 ∧ x = nI g1 ∧ ch = nI k1 ∧ b = cp_b (cp_bit (v 5 k1 ^^^ (1 <<< (nI g1 &&& 31))) (nI g1)) ∧ v1 = cp_up (cp_thw v 0) 5 (upd (v 5) k1 (v 5 k1 ^^^ (1 <<< (nI g1 &&& 31)))))) : cp_ok k u1 f1 b v1 := by
  obtain ⟨F, K, t, rfl, hk⟩ := hR
  have hm : (¬ (cp_bw ch 0 3 ∧ cp_bw x 0 (u 14 1 - 1)) ∧ v1 = cp_thw (cp_mk u F K t) 1) ∨ (∃ g1 k1, g1 < cp_n u 1 ∧ k1 ≤ 3 ∧ x = nI g1 ∧ ch = nI k1 ∧ b = cp_b (cp_bit (u 5 k1 ^^^ (1 <<< (nI g1 &&& 31))) (nI g1)) ∧ v1 = cp_up (cp_thw (cp_mk u F K t) 0) 5 (upd (u 5) k1 (u 5 k1 ^^^ (1 <<< (nI g1 &&& 31))))) := hm
  have hn1 := hV.1.2.1
  have hn3 := hV.2.2.1.2.1
  rcases hc with ⟨rfl, r, u2, ⟨g, hg, hx, hch, hr, e2⟩, e1, hf⟩ | ⟨hu, hE⟩
  · rcases hm with ⟨hn, _⟩ | ⟨g1, k1, hg1, hk1, hx1, hc1, hb, hv⟩
    · exact absurd ⟨hch, by rw [hx]; exact cp_isH hV.1 hg⟩ hn
    · obtain rfl : g = g1 := cp_nIinj (by omega) (by have h : g1 < cp_n u 1 := hg1; omega) (hx.symm.trans hx1)
      have hkn := cp_learn_kn hk (g := g) (c := k1) (by omega) (by omega)
      subst hc1
      rw [e1, e2]
      refine cp_okR (F2 := F) (K2 := upd K k1 (K k1 ^^^ (1 <<< (nI g &&& 31)))) hkn (cp_V5 hV _) ?_ ?_
      · rw [hv, cp_mk_thw]; exact cp_mk_5 _ _ _ _ _
      · have h1 := hkn g (by omega) k1 (by omega)
        rw [cp_up_s, cp_upd_s, cp_upd_s] at h1
        rw [hf, hr, hb]
        exact congrArg Int32.toInt64 (cp_bc h1)
  · obtain ⟨hk1, hx⟩ := cp_x1 hE
    rcases hm with ⟨hn, hv⟩ | ⟨g1, k1, hg1, hk1, hx1, hc1, hb, hv⟩
    · rw [hu, hv]; exact cp_okE hk hV hk1 (by decide)
    · exact absurd ⟨by rw [hc1]; exact cp_bw3 hk1, by rw [hx1]; exact cp_isH hV.1 hg1⟩ hx
