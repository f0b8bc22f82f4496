/-! Each call: the class's outcome and the reference's agree, and both memories stay as they must. -/
def cp_ok (k : Int32) (u1 : cp_M) (f1 : Nat → Int64) (b : Int32) (v1 : cp_M) : Prop := v1 14 4 = k ∧ (k = 0 → f1 0 = b.toInt64) ∧ cp_R u1 v1 ∧ cp_V u1
theorem cp_okE {u : cp_M} {F K : Nat → Int32} {t k c b : Int32} {f1 : Nat → Int64} (hk : cp_kn u K) (hV : cp_V u) (hc : k = c) (h0 : c ≠ 0) : cp_ok k u f1 b (cp_thw (cp_mk u F K t) c) := by
  subst hc
  rw [cp_mk_thw]
  exact ⟨rfl, fun h => absurd h h0, ⟨F, K, k, rfl, hk⟩, hV⟩
theorem cp_okR {u1 v1 : cp_M} {F2 K2 : Nat → Int32} {b : Int32} {f1 : Nat → Int64} (hk2 : cp_kn u1 K2) (hV1 : cp_V u1) (hv : v1 = cp_mk u1 F2 K2 0) (hb : f1 0 = b.toInt64) : cp_ok 0 u1 f1 b v1 := by
  subst hv
  exact ⟨rfl, fun _ => hb, ⟨F2, K2, 0, rfl, hk2⟩, hV1⟩
theorem cp_ne12 : R_iob ≠ R_iae := by unfold R_iob R_iae; decide
theorem cp_ne13 : R_iob ≠ R_ise := by unfold R_iob R_ise; decide
theorem cp_ne23 : R_iae ≠ R_ise := by unfold R_iae R_ise; decide
theorem cp_x3 {X1 X2 X3 : Prop} {k : Int32} (h : ∃ E, ((E = R_iob ∧ X1) ∨ (E = R_iae ∧ X2) ∨ (E = R_ise ∧ X3)) ∧ ((E = R_iob ∧ k = 1) ∨ (E = R_iae ∧ k = 2) ∨ (E = R_ise ∧ k = 3))) : (k = 1 ∧ X1) ∨ (k = 2 ∧ X2) ∨ (k = 3 ∧ X3) := by
  obtain ⟨E, ⟨rfl, x⟩ | ⟨rfl, x⟩ | ⟨rfl, x⟩, ⟨e, q⟩ | ⟨e, q⟩ | ⟨e, q⟩⟩ := h
  · exact Or.inl ⟨q, x⟩
  · exact absurd e cp_ne12
  · exact absurd e cp_ne13
  · exact absurd e.symm cp_ne12
  · exact Or.inr (Or.inl ⟨q, x⟩)
  · exact absurd e cp_ne23
  · exact absurd e.symm cp_ne13
  · exact absurd e.symm cp_ne23
  · exact Or.inr (Or.inr ⟨q, x⟩)
theorem cp_x2 {R1 R2 : String} {X1 X2 : Prop} {k : Int32} (hn : R1 ≠ R2) (h : ∃ E, ((E = R1 ∧ X1) ∨ (E = R2 ∧ X2)) ∧ ((E = R1 ∧ k = 1) ∨ (E = R2 ∧ k = 2))) : (k = 1 ∧ X1) ∨ (k = 2 ∧ X2) := by
  obtain ⟨E, ⟨rfl, x⟩ | ⟨rfl, x⟩, ⟨e, q⟩ | ⟨e, q⟩⟩ := h
  · exact Or.inl ⟨q, x⟩
  · exact absurd e hn
  · exact absurd e.symm hn
  · exact Or.inr ⟨q, x⟩
theorem cp_x1 {X1 : Prop} {k : Int32} (h : ∃ E, (E = R_iob ∧ X1) ∧ (E = R_iob ∧ k = 1)) : k = 1 ∧ X1 := by
  obtain ⟨E, ⟨_, x⟩, _, q⟩ := h
  exact ⟨q, x⟩
theorem cp_m3 {P1 P2 P3 C0 C1 C2 C3 M0 M1 M2 M3 : Prop} (hc : (P1 ∧ P2 ∧ P3 ∧ C0) ∨ (¬ P1 ∧ C1) ∨ (P1 ∧ ¬ P2 ∧ C2) ∨ (P1 ∧ P2 ∧ ¬ P3 ∧ C3)) (hm : (¬ P1 ∧ M1) ∨ (P1 ∧ ¬ P2 ∧ M2) ∨ (P1 ∧ P2 ∧ ¬ P3 ∧ M3) ∨ (P1 ∧ P2 ∧ P3 ∧ M0)) : (P1 ∧ P2 ∧ P3 ∧ C0 ∧ M0) ∨ (C1 ∧ M1) ∨ (C2 ∧ M2) ∨ (C3 ∧ M3) := by
  rcases hc with ⟨a1, a2, a3, a4⟩ | ⟨a1, a2⟩ | ⟨a1, a2, a3⟩ | ⟨a1, a2, a3, a4⟩ <;> rcases hm with ⟨b1, b2⟩ | ⟨b1, b2, b3⟩ | ⟨b1, b2, b3, b4⟩ | ⟨b1, b2, b3, b4⟩ <;> first
    | exact absurd a1 b1 | exact absurd b1 a1 | exact absurd a2 b2 | exact absurd b2 a2 | exact absurd a3 b3 | exact absurd b3 a3
    | exact Or.inl ⟨a1, a2, a3, a4, b4⟩ | exact Or.inr (Or.inl ⟨a2, b2⟩) | exact Or.inr (Or.inr (Or.inl ⟨a3, b3⟩)) | exact Or.inr (Or.inr (Or.inr ⟨a4, b4⟩))
theorem cp_m2 {P1 P2 C0 C1 C2 M0 M1 M2 : Prop} (hc : (P1 ∧ P2 ∧ C0) ∨ (¬ P1 ∧ C1) ∨ (P1 ∧ ¬ P2 ∧ C2)) (hm : (¬ P1 ∧ M1) ∨ (P1 ∧ ¬ P2 ∧ M2) ∨ (P1 ∧ P2 ∧ M0)) : (P1 ∧ P2 ∧ C0 ∧ M0) ∨ (C1 ∧ M1) ∨ (C2 ∧ M2) := by
  rcases hc with ⟨a1, a2, a3⟩ | ⟨a1, a2⟩ | ⟨a1, a2, a3⟩ <;> rcases hm with ⟨b1, b2⟩ | ⟨b1, b2, b3⟩ | ⟨b1, b2, b3⟩ <;> first
    | exact absurd a1 b1 | exact absurd b1 a1 | exact absurd a2 b2 | exact absurd b2 a2
    | exact Or.inl ⟨a1, a2, a3, b3⟩ | exact Or.inr (Or.inl ⟨a2, b2⟩) | exact Or.inr (Or.inr ⟨a3, b3⟩)
theorem cp_Lof {u : cp_M} (hV : cp_V u) {g L : Nat} (hg : g < cp_n u 1) (h : u 2 g = nI L) (hL : L ≤ 30) : 1 ≤ L ∧ u 4 g = cp_tn (cp_q (u 3 g)) L L 0 0 := by
  obtain ⟨L2, a1, a2, a3, a4⟩ := hV.2.2.2.2.1 g hg
  obtain rfl : L2 = L := cp_nIinj (by omega) (by omega) (a3.symm.trans h)
  exact ⟨a1, a4⟩
theorem cp_mk_u5 (u : cp_M) (F K f : Nat → Int32) (t : Int32) : cp_mk (cp_up u 5 f) F K t = cp_mk u F K t := by
  funext a
  unfold cp_mk cp_thw
  by_cases a4 : a = 4
  · subst a4; rw [cp_up_s, cp_up_s]
  · rw [cp_up_n _ a4, cp_up_n _ a4]
    by_cases a5 : a = 5
    · subst a5; rw [cp_up_s, cp_up_s]
    · rw [cp_up_n _ a5, cp_up_n _ a5]
      by_cases a14 : a = 14
      · subst a14; rw [cp_up_s, cp_up_s, cp_up_n _ (by decide)]
      · rw [cp_up_n _ a14, cp_up_n _ a14, cp_up_n _ a5]
theorem cp_mk_u4 (u : cp_M) (F K f : Nat → Int32) (t : Int32) : cp_mk (cp_up u 4 f) F K t = cp_mk u F K t := by
  funext a
  unfold cp_mk cp_thw
  by_cases a4 : a = 4
  · subst a4; rw [cp_up_s, cp_up_s]
  · rw [cp_up_n _ a4, cp_up_n _ a4]
    by_cases a5 : a = 5
    · subst a5; rw [cp_up_s, cp_up_s]
    · rw [cp_up_n _ a5, cp_up_n _ a5]
      by_cases a14 : a = 14
      · subst a14; rw [cp_up_s, cp_up_s, cp_up_n _ (by decide)]
      · rw [cp_up_n _ a14, cp_up_n _ a14, cp_up_n _ a4]
theorem cp_up_c (u : cp_M) {j k : Nat} (h : j ≠ k) (f g : Nat → Int32) : cp_up (cp_up u k f) j g = cp_up (cp_up u j g) k f := by
  funext a
  by_cases aj : a = j
  · subst aj; rw [cp_up_s, cp_up_n _ h, cp_up_s]
  · rw [cp_up_n _ aj]
    by_cases ak : a = k
    · subst ak; rw [cp_up_s, cp_up_s]
    · rw [cp_up_n _ ak, cp_up_n _ ak, cp_up_n _ aj]
theorem cp_more {u : cp_M} {i N : Nat} (h : cp_cn u i N) : u 14 i + 1 = nI (cp_n u i + 1) := by
  rw [h.1]; exact nI_1 _
theorem cp_VaddH {u : cp_M} {ow se re : Int32} {L : Nat} (hV : cp_V u) (p : ¬ (16 : Int32) ≤ u 14 1) (hL1 : 1 ≤ L) (hL3 : L ≤ 30) : cp_V (cp_addH u ow se (nI L) re (cp_tn (cp_q re) L L 0 0)) := by
  obtain ⟨hN1, hN2, hN3, hT, hL, hS⟩ := hV
  have hlt : cp_n u 1 < 16 := cp_room (N := 16) hN1 p
  have h1 : cp_addH u ow se (nI L) re (cp_tn (cp_q re) L L 0 0) 14 1 = nI (cp_n u 1 + 1) := (cp_upd_s (u 14) 1 (u 14 1 + 1)).trans (cp_more hN1)
  have e : cp_n (cp_addH u ow se (nI L) re (cp_tn (cp_q re) L L 0 0)) 1 = cp_n u 1 + 1 := by
    show (cp_addH u ow se (nI L) re (cp_tn (cp_q re) L L 0 0) 14 1).toNatClampNeg = _
    rw [h1]; exact nI_clamp (by omega)
  refine ⟨cp_cn_of h1 (by omega) (by decide), hN2, hN3, hT, ?_, ?_⟩
  · rw [e]
    intro g hg
    by_cases q : g = cp_n u 1
    · subst q
      refine ⟨L, hL1, hL3, cp_upd_s _ _ _, ?_⟩
      show upd (u 4) (cp_n u 1) (cp_tn (cp_q re) L L 0 0) (cp_n u 1) = cp_tn (cp_q (upd (u 3) (cp_n u 1) re (cp_n u 1))) L L 0 0
      rw [cp_upd_s, cp_upd_s]
    · obtain ⟨L2, a1, a2, a3, a4⟩ := hL g (by omega)
      refine ⟨L2, a1, a2, (cp_upd_n _ q _).trans a3, ?_⟩
      show upd (u 4) (cp_n u 1) (cp_tn (cp_q re) L L 0 0) g = cp_tn (cp_q (upd (u 3) (cp_n u 1) re g)) L2 L2 0 0
      rw [cp_upd_n _ q, cp_upd_n _ q]
      exact a4
  · rw [e]
    exact fun k hk => ⟨(hS k hk).1, (hS k hk).2.1, (hS k hk).2.2.imp id (fun ⟨g, h1, h2⟩ => ⟨g, by omega, h2⟩)⟩
theorem cp_VaddR {u : cp_M} {x y f t : Int32} (hV : cp_V u) (p : ¬ (40 : Int32) ≤ u 14 2) : cp_V (cp_addR u x y f t) := by
  obtain ⟨hN1, hN2, hN3, hT, hL, hS⟩ := hV
  have hlt : cp_n u 2 < 40 := cp_room (N := 40) hN2 p
  have h1 : cp_addR u x y f t 14 2 = nI (cp_n u 2 + 1) := (cp_upd_s (u 14) 2 (u 14 2 + 1)).trans (cp_more hN2)
  exact ⟨hN1, cp_cn_of h1 (by omega) (by decide), hN3, hT, hL, hS⟩
noncomputable def cp_sv (u : cp_M) (ch z : Int32) : cp_M := cp_up (cp_addS u ch z) 13 (upd (u 13) (cp_n u 3) (-1))
theorem cp_sv_n {u : cp_M} {ch z : Int32} (h : cp_cn u 3 40) (p : ¬ (40 : Int32) ≤ u 14 3) : cp_sv u ch z 14 3 = nI (cp_n u 3 + 1) ∧ cp_n (cp_sv u ch z) 3 = cp_n u 3 + 1 := by
  have hlt : cp_n u 3 < 40 := cp_room (N := 40) h p
  have h1 : cp_sv u ch z 14 3 = nI (cp_n u 3 + 1) := (cp_upd_s (u 14) 3 (u 14 3 + 1)).trans (cp_more h)
  refine ⟨h1, ?_⟩
  show (cp_sv u ch z 14 3).toNatClampNeg = _
  rw [h1]; exact nI_clamp (by omega)
theorem cp_Vsv {u : cp_M} {z : Int32} {c : Nat} (hV : cp_V u) (p : ¬ (40 : Int32) ≤ u 14 3) (hc : c ≤ 3) (hz : cp_bw z (u 14 0) 1459) : cp_V (cp_sv u (nI c) z) := by
  have hn := cp_sv_n (ch := nI c) (z := z) hV.2.2.1 p
  obtain ⟨hN1, hN2, hN3, hT, hL, hS⟩ := hV
  have hlt : cp_n u 3 < 40 := cp_room (N := 40) hN3 p
  have hT2 := hT.2
  have h0 : (0 : Int32) ≤ u 14 0 := by rw [hT.1]; exact nI_pos' (by omega)
  obtain ⟨d, hd, rfl⟩ := cp_idc (n := 1459) (by decide) ⟨Int32.le_trans h0 hz.1, hz.2⟩
  refine ⟨hN1, hN2, cp_cn_of hn.1 (by omega) (by decide), hT, hL, ?_⟩
  rw [hn.2]
  intro k hk
  by_cases q : k = cp_n u 3
  · subst q
    exact ⟨⟨c, by omega, cp_upd_s _ _ _⟩, ⟨d, hd, cp_upd_s _ _ _⟩, Or.inl (cp_upd_s _ _ _)⟩
  · obtain ⟨⟨c2, b1, b2⟩, ⟨d2, b3, b4⟩, b5⟩ := hS k (by omega)
    refine ⟨⟨c2, b1, (cp_upd_n _ q _).trans b2⟩, ⟨d2, b3, (cp_upd_n _ q _).trans b4⟩, ?_⟩
    rcases b5 with b5 | ⟨g, b6, b7⟩
    · exact Or.inl ((cp_upd_n _ q _).trans b5)
    · exact Or.inr ⟨g, b6, (cp_upd_n _ q _).trans b7⟩
theorem cp_sv_plan (u : cp_M) (ch z : Int32) : cp_plan (cp_sv u ch z) (cp_n u 3) = cp_plan (cp_addS u ch z) (cp_n u 3) := by
  have e : cp_plan0 (cp_sv u ch z) (cp_n u 3) = cp_plan0 (cp_addS u ch z) (cp_n u 3) := by
    unfold cp_plan0 cp_sv
    rw [cp_up_up, cp_up_s]
    congr 1
    funext j
    show upd (upd (u 13) (cp_n u 3) (-1)) (cp_n u 3) (-1) j = upd (u 13) (cp_n u 3) (-1) j
    unfold upd
    split <;> rfl
  unfold cp_plan
  rw [e]
  rfl
theorem cp_Vpass {u : cp_M} {d9 : Int32} (hV : cp_V u) (p1 : cp_bw d9 1 200) (p2 : ¬ (1459 : Int32) < u 14 0 + d9) : cp_V (cp_up u 14 (upd (u 14) 0 (u 14 0 + d9))) := by
  obtain ⟨hN1, hN2, hN3, hT, hL, hS⟩ := hV
  obtain ⟨d, hd, rfl⟩ := cp_idc (n := 200) (by decide) ⟨Int32.le_trans (by decide) p1.1, p1.2⟩
  have ht := hT.2
  have e : u 14 0 + nI d = nI (cp_n u 0 + d) := by rw [hT.1, nI_add]
  rw [e] at p2 ⊢
  rw [show (1459 : Int32) = nI 1459 from rfl, nI_ltI (by omega) (by omega)] at p2
  have hnn : cp_n (cp_up u 14 (upd (u 14) 0 (nI (cp_n u 0 + d)))) 0 = cp_n u 0 + d := by
    show (upd (u 14) 0 (nI (cp_n u 0 + d)) 0).toNatClampNeg = _
    rw [cp_upd_s]; exact nI_clamp (by omega)
  refine ⟨hN1, hN2, hN3, ⟨?_, ?_⟩, hL, hS⟩
  · rw [hnn]
    show upd (u 14) 0 (nI (cp_n u 0 + d)) 0 = nI (cp_n u 0 + d)
    exact cp_upd_s _ _ _
  · rw [hnn]; omega
theorem cp_bw3 {n : Nat} (h : n ≤ 3) : cp_bw (nI n) 0 3 := ⟨nI_pos' (by omega), nI_le (b := 3) h (by decide)⟩
theorem cp_lnok {m L : Nat} (h : m < L) (hL : L ≤ 30) : cp_bw (nI m) 0 (nI L - 1) := by
  rw [cp_pred (by omega)]
  exact ⟨nI_pos' (by omega), nI_le (by omega) (by omega)⟩
theorem cp_s_pages {u v u1 v1 : cp_M} {k b : Int32} {f1 : Nat → Int64} {x : Int32} (hR : cp_R u v) (hV : cp_V u) (hc : (k = 0 ∧ ∃ (r : Int32) (u2 : cp_M), (∃ g, g < cp_n u 1 ∧ x = nI g ∧ r = cp_swar (u 4 g) + 1 ∧ u2 = u) ∧ u1 = u2 ∧ f1 0 = r.toInt64) ∨ (u1 = u ∧ ∃ E, (E = R_iob ∧ ¬ (cp_bw x 0 (u 14 1 - 1))) ∧ ((E = R_iob ∧ k = 1)))) (hm : (¬ (cp_bw x 0 (v 14 1 - 1)) ∧ v1 = cp_thw v 1) ∨ (∃ g L i, g < cp_n v 1 ∧ x = nI g ∧ v 2 g = nI L ∧ L ≤ 30 ∧ b = nI i ∧ cp_pgs (cp_qY (v 3 g)) L i ∧ v1 = cp_thw v 0)) : cp_ok k u1 f1 b v1 := by
  obtain ⟨F, K, t, rfl, hk⟩ := hR
  have hm : (¬ (cp_bw x 0 (u 14 1 - 1)) ∧ v1 = cp_thw (cp_mk u F K t) 1) ∨ (∃ g L i, g < cp_n u 1 ∧ x = nI g ∧ u 2 g = nI L ∧ L ≤ 30 ∧ b = nI i ∧ cp_pgs (cp_qY (u 3 g)) L i ∧ v1 = cp_thw (cp_mk u F K t) 0) := hm
  have hn1 := hV.1.2.1
  have hn3 := hV.2.2.1.2.1
  rcases hc with ⟨rfl, r, u2, ⟨g, hg, hx, hr, e2⟩, e1, hf⟩ | ⟨hu, hE⟩
  · rcases hm with ⟨hn, _⟩ | ⟨g1, L1, i1, hg1, hx1, hL1, hL3, hb, hp, hv⟩
    · exact absurd (by rw [hx]; exact cp_isH hV.1 hg) hn
    · obtain rfl : g = g1 := cp_nIinj (by omega) (by have h : g1 < cp_n u 1 := hg1; omega) (hx.symm.trans hx1)
      obtain ⟨hL0, ht⟩ := cp_Lof hV hg hL1 hL3
      rw [e1, e2]
      exact cp_okR hk hV (hv.trans (cp_mk_thw _ _ _ _ _)) (by rw [hf, hr, cp_pages_eq hL0 hL3 ht hp, hb])
  · obtain ⟨hk1, hx⟩ := cp_x1 hE
    rcases hm with ⟨hn, hv⟩ | ⟨g1, L1, i1, hg1, hx1, hL1, hL3, hb, hp, hv⟩
    · rw [hu, hv]; exact cp_okE hk hV hk1 (by decide)
    · exact absurd (by rw [hx1]; exact cp_isH hV.1 hg1) hx
theorem cp_s_badTurns {u v u1 v1 : cp_M} {k b : Int32} {f1 : Nat → Int64} {x : Int32} (hR : cp_R u v) (hV : cp_V u) (hc : (k = 0 ∧ ∃ (r : Int32) (u2 : cp_M), (∃ g, g < cp_n u 1 ∧ x = nI g ∧ r = cp_swar (u 4 g &&& (u 3 g ^^^ (-1))) ∧ u2 = u) ∧ u1 = u2 ∧ f1 0 = r.toInt64) ∨ (u1 = u ∧ ∃ E, (E = R_iob ∧ ¬ (cp_bw x 0 (u 14 1 - 1))) ∧ ((E = R_iob ∧ k = 1)))) (hm : (¬ (cp_bw x 0 (v 14 1 - 1)) ∧ v1 = cp_thw v 1) ∨ (∃ g1 L1 i1, g1 < cp_n v 1 ∧ x = nI g1 ∧ v 2 g1 = nI L1 ∧ L1 ≤ 30 ∧ b = nI (cp_cnt (cp_bad (cp_qY (v 3 g1)) L1) i1) ∧ cp_pgs (cp_qY (v 3 g1)) L1 i1 ∧ v1 = cp_thw v 0)) : cp_ok k u1 f1 b v1 := by
  obtain ⟨F, K, t, rfl, hk⟩ := hR
  have hm : (¬ (cp_bw x 0 (u 14 1 - 1)) ∧ v1 = cp_thw (cp_mk u F K t) 1) ∨ (∃ g1 L1 i1, g1 < cp_n u 1 ∧ x = nI g1 ∧ u 2 g1 = nI L1 ∧ L1 ≤ 30 ∧ b = nI (cp_cnt (cp_bad (cp_qY (u 3 g1)) L1) i1) ∧ cp_pgs (cp_qY (u 3 g1)) L1 i1 ∧ v1 = cp_thw (cp_mk u F K t) 0) := hm
  have hn1 := hV.1.2.1
  have hn3 := hV.2.2.1.2.1
  rcases hc with ⟨rfl, r, u2, ⟨g, hg, hx, hr, e2⟩, e1, hf⟩ | ⟨hu, hE⟩
  · rcases hm with ⟨hn, _⟩ | ⟨g1, L1, i1, hg1, hx1, hL1, hL3, hb, hp, hv⟩
    · exact absurd (by rw [hx]; exact cp_isH hV.1 hg) hn
    · obtain rfl : g = g1 := cp_nIinj (by omega) (by have h : g1 < cp_n u 1 := hg1; omega) (hx.symm.trans hx1)
      obtain ⟨hL0, ht⟩ := cp_Lof hV hg hL1 hL3
      rw [e1, e2]
      exact cp_okR hk hV (hv.trans (cp_mk_thw _ _ _ _ _)) (by rw [hf, hr, cp_bad_eq hL3 ht hp.2.1, hb])
  · obtain ⟨hk1, hx⟩ := cp_x1 hE
    rcases hm with ⟨hn, hv⟩ | ⟨g1, L1, i1, hg1, hx1, hL1, hL3, hb, hp, hv⟩
    · rw [hu, hv]; exact cp_okE hk hV hk1 (by decide)
    · exact absurd (by rw [hx1]; exact cp_isH hV.1 hg1) hx
theorem cp_s_pageOf {u v u1 v1 : cp_M} {k b : Int32} {f1 : Nat → Int64} {x ln : Int32} (hR : cp_R u v) (hV : cp_V u) (hc : (k = 0 ∧ ∃ (r : Int32) (u2 : cp_M), (∃ g, g < cp_n u 1 ∧ x = nI g ∧ cp_bw ln 0 (u 2 g - 1) ∧ r = cp_swar (u 4 g &&& ((1 <<< (ln &&& 31)) - 1)) ∧ u2 = u) ∧ u1 = u2 ∧ f1 0 = r.toInt64) ∨ (u1 = u ∧ ∃ E, (E = R_iob ∧ (¬ (cp_bw x 0 (u 14 1 - 1)) ∨ ∃ g, g < cp_n u 1 ∧ x = nI g ∧ ¬ cp_bw ln 0 (u 2 g - 1))) ∧ ((E = R_iob ∧ k = 1)))) (hm : ((¬ (cp_bw x 0 (v 14 1 - 1)) ∨ ∃ g1, g1 < cp_n v 1 ∧ x = nI g1 ∧ ¬ cp_bw ln 0 (v 2 g1 - 1)) ∧ v1 = cp_thw v 1) ∨ (∃ g1 L1 m1 i1, g1 < cp_n v 1 ∧ x = nI g1 ∧ v 2 g1 = nI L1 ∧ L1 ≤ 30 ∧ ln = nI m1 ∧ m1 < L1 ∧ b = nI i1 - 1 ∧ cp_pgo (cp_qY (v 3 g1)) L1 m1 i1 ∧ v1 = cp_thw v 0)) : cp_ok k u1 f1 b v1 := by
  obtain ⟨F, K, t, rfl, hk⟩ := hR
  have hm : ((¬ (cp_bw x 0 (u 14 1 - 1)) ∨ ∃ g1, g1 < cp_n u 1 ∧ x = nI g1 ∧ ¬ cp_bw ln 0 (u 2 g1 - 1)) ∧ v1 = cp_thw (cp_mk u F K t) 1) ∨ (∃ g1 L1 m1 i1, g1 < cp_n u 1 ∧ x = nI g1 ∧ u 2 g1 = nI L1 ∧ L1 ≤ 30 ∧ ln = nI m1 ∧ m1 < L1 ∧ b = nI i1 - 1 ∧ cp_pgo (cp_qY (u 3 g1)) L1 m1 i1 ∧ v1 = cp_thw (cp_mk u F K t) 0) := hm
  have hn1 := hV.1.2.1
  have hn3 := hV.2.2.1.2.1
  rcases hc with ⟨rfl, r, u2, ⟨g, hg, hx, hl, hr, e2⟩, e1, hf⟩ | ⟨hu, hE⟩
  · rcases hm with ⟨hn, _⟩ | ⟨g1, L1, m1, i1, hg1, hx1, hL1, hL3, hln, hml, hb, hp, hv⟩
    · rcases hn with hn | ⟨g1, hg1, hx1, hn⟩
      · exact absurd (by rw [hx]; exact cp_isH hV.1 hg) hn
      · obtain rfl : g = g1 := cp_nIinj (by omega) (by have h : g1 < cp_n u 1 := hg1; omega) (hx.symm.trans hx1)
        exact absurd hl hn
    · obtain rfl : g = g1 := cp_nIinj (by omega) (by have h : g1 < cp_n u 1 := hg1; omega) (hx.symm.trans hx1)
      obtain ⟨hL0, ht⟩ := cp_Lof hV hg hL1 hL3
      rw [e1, e2]
      exact cp_okR hk hV (hv.trans (cp_mk_thw _ _ _ _ _)) (by rw [hf, hr, hln, cp_pageOf_eq hL3 hml ht hp, hb])
  · obtain ⟨hk1, hx⟩ := cp_x1 hE
    rcases hm with ⟨hn, hv⟩ | ⟨g1, L1, m1, i1, hg1, hx1, hL1, hL3, hln, hml, hb, hp, hv⟩
    · rw [hu, hv]; exact cp_okE hk hV hk1 (by decide)
    · rcases hx with hx | ⟨g, hg, hx, hn⟩
      · exact absurd (by rw [hx1]; exact cp_isH hV.1 hg1) hx
      · obtain rfl : g = g1 := cp_nIinj (by omega) (by have h : g1 < cp_n u 1 := hg1; omega) (hx.symm.trans hx1)
        have h2 : u 2 g = nI L1 := hL1
        exact absurd (by rw [hln, h2]; exact cp_lnok hml hL3) hn
theorem cp_s_printed {u v u1 v1 : cp_M} {k b : Int32} {f1 : Nat → Int64} {x y : Int32} (hR : cp_R u v) (hV : cp_V u) (hc : (k = 0 ∧ ∃ (r : Int32) (u2 : cp_M), (∃ g k, g < cp_n u 1 ∧ k ≤ 3 ∧ x = nI g ∧ y = nI k ∧ r = u 6 (g * 4 + k) ∧ u2 = u) ∧ u1 = u2 ∧ f1 0 = r.toInt64) ∨ (u1 = u ∧ ∃ E, (E = R_iob ∧ ¬ (cp_bw x 0 (u 14 1 - 1) ∧ cp_bw y 0 3)) ∧ ((E = R_iob ∧ k = 1)))) (hm : (¬ (cp_bw x 0 (v 14 1 - 1) ∧ cp_bw y 0 3) ∧ v1 = cp_thw v 1) ∨ (∃ g1 k1, g1 < cp_n v 1 ∧ k1 ≤ 3 ∧ x = nI g1 ∧ y = nI k1 ∧ b = v 6 (g1 * 4 + k1) ∧ v1 = cp_thw v 0)) : cp_ok k u1 f1 b v1 := by
  obtain ⟨F, K, t, rfl, hk⟩ := hR
  have hm : (¬ (cp_bw x 0 (u 14 1 - 1) ∧ cp_bw y 0 3) ∧ v1 = cp_thw (cp_mk u F K t) 1) ∨ (∃ g1 k1, g1 < cp_n u 1 ∧ k1 ≤ 3 ∧ x = nI g1 ∧ y = nI k1 ∧ b = u 6 (g1 * 4 + k1) ∧ v1 = cp_thw (cp_mk u F K t) 0) := hm
  have hn1 := hV.1.2.1
  have hn3 := hV.2.2.1.2.1
  rcases hc with ⟨rfl, r, u2, ⟨g, k2, hg, hk2, hx, hy, hr, e2⟩, e1, hf⟩ | ⟨hu, hE⟩
  · rcases hm with ⟨hn, _⟩ | ⟨g1, k1, hg1, hk1, hx1, hy1, hb, hv⟩
    · exact absurd ⟨by rw [hx]; exact cp_isH hV.1 hg, by rw [hy]; exact cp_bw3 hk2⟩ hn
    · obtain rfl : g = g1 := cp_nIinj (by omega) (by have h : g1 < cp_n u 1 := hg1; omega) (hx.symm.trans hx1)
      obtain rfl : k2 = k1 := cp_nIinj (by omega) (by omega) (hy.symm.trans hy1)
      rw [e1, e2]
      exact cp_okR hk hV (hv.trans (cp_mk_thw _ _ _ _ _)) (by rw [hf, hr, hb])
  · obtain ⟨hk1, hx⟩ := cp_x1 hE
    rcases hm with ⟨hn, hv⟩ | ⟨g1, k1, hg1, hk2, hx1, hy1, hb, hv⟩
    · rw [hu, hv]; exact cp_okE hk hV hk1 (by decide)
    · exact absurd ⟨by rw [hx1]; exact cp_isH hV.1 hg1, by rw [hy1]; exact cp_bw3 hk2⟩ hx
theorem cp_s_hymnOf {u v u1 v1 : cp_M} {k b : Int32} {f1 : Nat → Int64} {x : Int32} (hR : cp_R u v) (hV : cp_V u) (hc : (k = 0 ∧ ∃ (r : Int32) (u2 : cp_M), (∃ g, g < cp_n u 3 ∧ x = nI g ∧ r = u 13 g ∧ u2 = u) ∧ u1 = u2 ∧ f1 0 = r.toInt64) ∨ (u1 = u ∧ ∃ E, (E = R_iob ∧ ¬ (cp_bw x 0 (u 14 3 - 1))) ∧ ((E = R_iob ∧ k = 1)))) (hm : (¬ (cp_bw x 0 (v 14 3 - 1)) ∧ v1 = cp_thw v 1) ∨ (∃ g1, g1 < cp_n v 3 ∧ x = nI g1 ∧ b = v 13 g1 ∧ v1 = cp_thw v 0)) : cp_ok k u1 f1 b v1 := by
  obtain ⟨F, K, t, rfl, hk⟩ := hR
  have hm : (¬ (cp_bw x 0 (u 14 3 - 1)) ∧ v1 = cp_thw (cp_mk u F K t) 1) ∨ (∃ g1, g1 < cp_n u 3 ∧ x = nI g1 ∧ b = u 13 g1 ∧ v1 = cp_thw (cp_mk u F K t) 0) := hm
  have hn1 := hV.1.2.1
  have hn3 := hV.2.2.1.2.1
  rcases hc with ⟨rfl, r, u2, ⟨g, hg, hx, hr, e2⟩, e1, hf⟩ | ⟨hu, hE⟩
  · rcases hm with ⟨hn, _⟩ | ⟨g1, hg1, hx1, hb, hv⟩
    · exact absurd (by rw [hx]; exact cp_isH hV.2.2.1 hg) hn
    · obtain rfl : g = g1 := cp_nIinj (by omega) (by have h : g1 < cp_n u 3 := hg1; omega) (hx.symm.trans hx1)
      rw [e1, e2]
      exact cp_okR hk hV (hv.trans (cp_mk_thw _ _ _ _ _)) (by rw [hf, hr, hb])
  · obtain ⟨hk1, hx⟩ := cp_x1 hE
    rcases hm with ⟨hn, hv⟩ | ⟨g1, hg1, hx1, hb, hv⟩
    · rw [hu, hv]; exact cp_okE hk hV hk1 (by decide)
    · exact absurd (by rw [hx1]; exact cp_isH hV.2.2.1 hg1) hx
theorem cp_s_sung {u v u1 v1 : cp_M} {k b : Int32} {f1 : Nat → Int64} {ow y : Int32} (hR : cp_R u v) (hV : cp_V u) (hc : (k = 0 ∧ ∃ (r : Int32) (u2 : cp_M), ((cp_bw ow 0 4 ∧ cp_bw y 0 3) ∧ r = nI (cp_cnt (cp_sungP u ow y) (cp_n u 3)) ∧ u2 = u) ∧ u1 = u2 ∧ f1 0 = r.toInt64) ∨ (u1 = u ∧ ∃ E, (E = R_iob ∧ ¬ (cp_bw ow 0 4 ∧ cp_bw y 0 3)) ∧ ((E = R_iob ∧ k = 1)))) (hm : (¬ (cp_bw ow 0 4 ∧ cp_bw y 0 3) ∧ v1 = cp_thw v 1) ∨ ((cp_bw ow 0 4 ∧ cp_bw y 0 3) ∧ b = nI (cp_cnt (cp_sgY v ow y) (cp_n v 3)) ∧ v1 = cp_thw v 0)) : cp_ok k u1 f1 b v1 := by
  obtain ⟨F, K, t, rfl, hk⟩ := hR
  have hm : (¬ (cp_bw ow 0 4 ∧ cp_bw y 0 3) ∧ v1 = cp_thw (cp_mk u F K t) 1) ∨ ((cp_bw ow 0 4 ∧ cp_bw y 0 3) ∧ b = nI (cp_cnt (cp_sgY u ow y) (cp_n u 3)) ∧ v1 = cp_thw (cp_mk u F K t) 0) := hm
  have hn1 := hV.1.2.1
  have hn3 := hV.2.2.1.2.1
  rcases hc with ⟨rfl, r, u2, ⟨hp, hr, e2⟩, e1, hf⟩ | ⟨hu, hE⟩
  · rcases hm with ⟨hn, _⟩ | ⟨_, hb, hv⟩
    · exact absurd hp hn
    · rw [e1, e2]
      exact cp_okR hk hV (hv.trans (cp_mk_thw _ _ _ _ _)) (by rw [hf, hr, hb]; exact congrArg (fun n => (nI n).toInt64) (cp_sung_eq hV ow y))
  · obtain ⟨hk1, hx⟩ := cp_x1 hE
    rcases hm with ⟨hn, hv⟩ | ⟨hp, hb, hv⟩
    · rw [hu, hv]; exact cp_okE hk hV hk1 (by decide)
    · exact absurd hp hx
theorem cp_s_sungByHymns {u v u1 v1 : cp_M} {k b : Int32} {f1 : Nat → Int64} {ow y : Int32} (hR : cp_R u v) (hV : cp_V u) (hc : (k = 0 ∧ ∃ (r : Int32) (u2 : cp_M), ((cp_bw ow 0 4 ∧ cp_bw y 0 3) ∧ r = nI (cp_sbh u ow y (cp_n u 1)) ∧ u2 = u) ∧ u1 = u2 ∧ f1 0 = r.toInt64) ∨ (u1 = u ∧ ∃ E, (E = R_iob ∧ ¬ (cp_bw ow 0 4 ∧ cp_bw y 0 3)) ∧ ((E = R_iob ∧ k = 1)))) (hm : (¬ (cp_bw ow 0 4 ∧ cp_bw y 0 3) ∧ v1 = cp_thw v 1) ∨ ((cp_bw ow 0 4 ∧ cp_bw y 0 3) ∧ b = nI (cp_cnt (cp_sgY v ow y) (cp_n v 3)) ∧ v1 = cp_thw v 0)) : cp_ok k u1 f1 b v1 := by
  obtain ⟨F, K, t, rfl, hk⟩ := hR
  have hm : (¬ (cp_bw ow 0 4 ∧ cp_bw y 0 3) ∧ v1 = cp_thw (cp_mk u F K t) 1) ∨ ((cp_bw ow 0 4 ∧ cp_bw y 0 3) ∧ b = nI (cp_cnt (cp_sgY u ow y) (cp_n u 3)) ∧ v1 = cp_thw (cp_mk u F K t) 0) := hm
  have hn1 := hV.1.2.1
  have hn3 := hV.2.2.1.2.1
  rcases hc with ⟨rfl, r, u2, ⟨hp, hr, e2⟩, e1, hf⟩ | ⟨hu, hE⟩
  · rcases hm with ⟨hn, _⟩ | ⟨_, hb, hv⟩
    · exact absurd hp hn
    · rw [e1, e2]
      exact cp_okR hk hV (hv.trans (cp_mk_thw _ _ _ _ _)) (by rw [hf, hr, hb]; exact congrArg (fun n => (nI n).toInt64) ((cp_sbh_eq hV ow y _ (Nat.le_refl _)).trans (cp_sung_eq hV ow y)))
  · obtain ⟨hk1, hx⟩ := cp_x1 hE
    rcases hm with ⟨hn, hv⟩ | ⟨hp, hb, hv⟩
    · rw [hu, hv]; exact cp_okE hk hV hk1 (by decide)
    · exact absurd hp hx
theorem cp_s_learn {u v u1 v1 : cp_M} {k b : Int32} {f1 : Nat → Int64} {ch x : Int32} (hR : cp_R u v) (hV : cp_V u) (hc : (k = 0 ∧ ∃ (r : Int32) (u2 : cp_M), (∃ g, g < cp_n u 1 ∧ x = nI g ∧ cp_bw ch 0 3 ∧ r = cp_b (cp_inS ch (u 5 g ^^^ (1 <<< (ch &&& 31))).toInt64) ∧ u2 = cp_up u 5 (upd (u 5) g (u 5 g ^^^ (1 <<< (ch &&& 31))))) ∧ u1 = u2 ∧ f1 0 = r.toInt64) ∨ (u1 = u ∧ ∃ E, (E = R_iob ∧ ¬ (cp_bw ch 0 3 ∧ cp_bw x 0 (u 14 1 - 1))) ∧ ((E = R_iob ∧ k = 1)))) (hm : (¬ (cp_bw ch 0 3 ∧ cp_bw x 0 (v 14 1 - 1)) ∧ v1 = cp_thw v 1) ∨ (∃ g1 k1, g1 < cp_n v 1 ∧ k1 ≤ 3 ∧ x = nI g1 ∧ ch = nI k1 ∧ b = cp_b (cp_bit (v 5 k1 ^^^ (1 <<< (nI g1 &&& 31))) (nI g1)) ∧ v1 = cp_up (cp_thw v 0) 5 (upd (v 5) k1 (v 5 k1 ^^^ (1 <<< (nI g1 &&& 31)))))) : cp_ok k u1 f1 b v1 := by
  obtain ⟨F, K, t, rfl, hk⟩ := hR
  have hm : (¬ (cp_bw ch 0 3 ∧ cp_bw x 0 (u 14 1 - 1)) ∧ v1 = cp_thw (cp_mk u F K t) 1) ∨ (∃ g1 k1, g1 < cp_n u 1 ∧ k1 ≤ 3 ∧ x = nI g1 ∧ ch = nI k1 ∧ b = cp_b (cp_bit (K k1 ^^^ (1 <<< (nI g1 &&& 31))) (nI g1)) ∧ v1 = cp_up (cp_thw (cp_mk u F K t) 0) 5 (upd (K) k1 (K k1 ^^^ (1 <<< (nI g1 &&& 31))))) := hm
  have hn1 := hV.1.2.1
  have hn3 := hV.2.2.1.2.1
  rcases hc with ⟨rfl, r, u2, ⟨g, hg, hx, hch, hr, e2⟩, e1, hf⟩ | ⟨hu, hE⟩
  · rcases hm with ⟨hn, _⟩ | ⟨g1, k1, hg1, hk1, hx1, hc1, hb, hv⟩
    · exact absurd ⟨hch, by rw [hx]; exact cp_isH hV.1 hg⟩ hn
    · obtain rfl : g = g1 := cp_nIinj (by omega) (by have h : g1 < cp_n u 1 := hg1; omega) (hx.symm.trans hx1)
      have hkn := cp_learn_kn hk (g := g) (c := k1) (by omega) (by omega)
      subst hc1
      rw [e1, e2]
      refine cp_okR (F2 := F) (K2 := upd K k1 (K k1 ^^^ (1 <<< (nI g &&& 31)))) hkn (cp_V5 hV _) ?_ ?_
      · rw [hv, cp_mk_thw, cp_mk_u5]; exact cp_mk_5 _ _ _ _ _
      · have h1 := hkn g (by omega) k1 (by omega)
        rw [cp_up_s, cp_upd_s, cp_upd_s] at h1
        rw [hf, hr, hb]
        exact congrArg Int32.toInt64 (cp_bc h1)
  · obtain ⟨hk1, hx⟩ := cp_x1 hE
    rcases hm with ⟨hn, hv⟩ | ⟨g1, k1, hg1, hk1, hx1, hc1, hb, hv⟩
    · rw [hu, hv]; exact cp_okE hk hV hk1 (by decide)
    · exact absurd ⟨by rw [hc1]; exact cp_bw3 hk1, by rw [hx1]; exact cp_isH hV.1 hg1⟩ hx
theorem cp_s_hymn {u v u1 v1 : cp_M} {k b : Int32} {f1 : Nat → Int64} {ow se li re : Int32} (hR : cp_R u v) (hV : cp_V u) (hc : (k = 0 ∧ ∃ (r : Int32) (u2 : cp_M), (cp_bw ow 0 4 ∧ (cp_bw se 1 15 ∧ cp_bw li 1 30 ∧ cp_bw re 0 ((1 <<< (li &&& 31)) - 1)) ∧ ¬ (16 : Int32) ≤ u 14 1 ∧ r = u 14 1 ∧ ∃ L, 1 ≤ L ∧ L ≤ 30 ∧ li = nI L ∧ u2 = cp_addH u ow se li re (cp_tn (cp_q re) L L 0 0)) ∧ u1 = u2 ∧ f1 0 = r.toInt64) ∨ (u1 = u ∧ ∃ E, ((E = R_iob ∧ ¬ cp_bw ow 0 4) ∨ (E = R_iae ∧ cp_bw ow 0 4 ∧ ¬ (cp_bw se 1 15 ∧ cp_bw li 1 30 ∧ cp_bw re 0 ((1 <<< (li &&& 31)) - 1))) ∨ (E = R_ise ∧ cp_bw ow 0 4 ∧ (cp_bw se 1 15 ∧ cp_bw li 1 30 ∧ cp_bw re 0 ((1 <<< (li &&& 31)) - 1)) ∧ ¬ ¬ (16 : Int32) ≤ u 14 1)) ∧ ((E = R_iob ∧ k = 1) ∨ (E = R_iae ∧ k = 2) ∨ (E = R_ise ∧ k = 3)))) (hm : (¬ cp_bw ow 0 4 ∧ v1 = cp_thw v 1) ∨ (cp_bw ow 0 4 ∧ ¬ (cp_bw se 1 15 ∧ cp_bw li 1 30 ∧ ¬ re < 0 ∧ re >>> (li &&& 31) = 0) ∧ v1 = cp_thw v 2) ∨ (cp_bw ow 0 4 ∧ (cp_bw se 1 15 ∧ cp_bw li 1 30 ∧ ¬ re < 0 ∧ re >>> (li &&& 31) = 0) ∧ ¬ ¬ (16 : Int32) ≤ v 14 1 ∧ v1 = cp_thw v 3) ∨ (cp_bw ow 0 4 ∧ (cp_bw se 1 15 ∧ cp_bw li 1 30 ∧ ¬ re < 0 ∧ re >>> (li &&& 31) = 0) ∧ ¬ (16 : Int32) ≤ v 14 1 ∧ b = v 14 1 ∧ v1 = cp_up (cp_up (cp_up (cp_up (cp_up (cp_thw v 0) 0 (upd (v 0) (cp_n v 1) ow)) 1 (upd (v 1) (cp_n v 1) se)) 2 (upd (v 2) (cp_n v 1) li)) 3 (upd (v 3) (cp_n v 1) re)) 14 (upd (cp_thw v 0 14) 1 (v 14 1 + 1)))) : cp_ok k u1 f1 b v1 := by
  obtain ⟨F, K, t, rfl, hk⟩ := hR
  have hm : (¬ cp_bw ow 0 4 ∧ v1 = cp_thw (cp_mk u F K t) 1) ∨ (cp_bw ow 0 4 ∧ ¬ (cp_bw se 1 15 ∧ cp_bw li 1 30 ∧ ¬ re < 0 ∧ re >>> (li &&& 31) = 0) ∧ v1 = cp_thw (cp_mk u F K t) 2) ∨ (cp_bw ow 0 4 ∧ (cp_bw se 1 15 ∧ cp_bw li 1 30 ∧ ¬ re < 0 ∧ re >>> (li &&& 31) = 0) ∧ ¬ ¬ (16 : Int32) ≤ u 14 1 ∧ v1 = cp_thw (cp_mk u F K t) 3) ∨ (cp_bw ow 0 4 ∧ (cp_bw se 1 15 ∧ cp_bw li 1 30 ∧ ¬ re < 0 ∧ re >>> (li &&& 31) = 0) ∧ ¬ (16 : Int32) ≤ u 14 1 ∧ b = u 14 1 ∧ v1 = cp_up (cp_up (cp_up (cp_up (cp_up (cp_thw (cp_mk u F K t) 0) 0 (upd (u 0) (cp_n u 1) ow)) 1 (upd (u 1) (cp_n u 1) se)) 2 (upd (u 2) (cp_n u 1) li)) 3 (upd (u 3) (cp_n u 1) re)) 14 (upd (cp_thw (cp_mk u F K t) 0 14) 1 (u 14 1 + 1))) := hm
  have hn1 := hV.1.2.1
  have hn3 := hV.2.2.1.2.1
  have hP : (cp_bw se 1 15 ∧ cp_bw li 1 30 ∧ cp_bw re 0 ((1 <<< (li &&& 31)) - 1)) ↔ (cp_bw se 1 15 ∧ cp_bw li 1 30 ∧ ¬ re < 0 ∧ re >>> (li &&& 31) = 0) := by
    have h9 : cp_bw li 1 30 → (cp_bw re 0 ((1 <<< (li &&& 31)) - 1) ↔ (¬ re < 0 ∧ re >>> (li &&& 31) = 0)) := fun h => by
      obtain ⟨L, _, h2, rfl⟩ := cp_rng30 h
      exact cp_rests h2
    exact ⟨fun ⟨a1, a2, a3⟩ => ⟨a1, a2, (h9 a2).mp a3⟩, fun ⟨a1, a2, a3⟩ => ⟨a1, a2, (h9 a2).mpr a3⟩⟩
  rcases hc with ⟨rfl, r, u2, ⟨p1, p2, p3, hr, L, hL1, hL2, hli, e2⟩, e1, hf⟩ | ⟨hu, hE⟩
  · rcases hm with ⟨n, _⟩ | ⟨_, n, _⟩ | ⟨_, _, n, _⟩ | ⟨_, _, _, hb, hv⟩
    · exact absurd p1 n
    · exact absurd (hP.mp p2) n
    · exact absurd p3 n
    · subst hli
      rw [e1, e2]
      refine cp_okR (F2 := F) (K2 := K) (fun g hg c hc => hk g hg c hc) (cp_VaddH hV p3 hL1 hL2) ?_ (by rw [hf, hr, hb])
      rw [hv, cp_mk_thw, cp_mk_up _ _ _ _ _ (by decide) (by decide) (by decide), cp_mk_up _ _ _ _ _ (by decide) (by decide) (by decide), cp_mk_up _ _ _ _ _ (by decide) (by decide) (by decide), cp_mk_up _ _ _ _ _ (by decide) (by decide) (by decide)]
      refine (cp_mk_14 _ F K 0 (u 14 1 + 1) (i := 1) (by decide)).trans ?_
      exact (cp_mk_u4 _ F K (upd (u 4) (cp_n u 1) (cp_tn (cp_q re) L L 0 0)) 0).symm.trans (congrArg (fun w => cp_mk w F K 0) (cp_up_c _ (by decide) _ _))
  · rcases cp_x3 hE with ⟨hk1, n1⟩ | ⟨hk1, p1, n1⟩ | ⟨hk1, p1, p2, n1⟩ <;> rcases hm with ⟨n, hv⟩ | ⟨p, n, hv⟩ | ⟨p, q, n, hv⟩ | ⟨p, q, n, hb, hv⟩ <;> first
      | exact absurd p n1 | exact absurd p1 n | exact absurd (hP.mpr q) n1 | exact absurd (hP.mp p2) n | exact absurd n n1 | (rw [hu, hv]; exact cp_okE hk hV hk1 (by decide))
theorem cp_s_right {u v u1 v1 : cp_M} {k b : Int32} {f1 : Nat → Int64} {x y f t9 : Int32} (hR : cp_R u v) (hV : cp_V u) (hc : (k = 0 ∧ ∃ (r : Int32) (u2 : cp_M), ((cp_bw x 0 (u 14 1 - 1) ∧ cp_bw y 0 1) ∧ (cp_bw f 0 1459 ∧ cp_bw t9 f 1459) ∧ ¬ (40 : Int32) ≤ u 14 2 ∧ r = u 14 2 ∧ u2 = cp_addR u x y f t9) ∧ u1 = u2 ∧ f1 0 = r.toInt64) ∨ (u1 = u ∧ ∃ E, ((E = R_iob ∧ ¬ (cp_bw x 0 (u 14 1 - 1) ∧ cp_bw y 0 1)) ∨ (E = R_iae ∧ (cp_bw x 0 (u 14 1 - 1) ∧ cp_bw y 0 1) ∧ ¬ (cp_bw f 0 1459 ∧ cp_bw t9 f 1459)) ∨ (E = R_ise ∧ (cp_bw x 0 (u 14 1 - 1) ∧ cp_bw y 0 1) ∧ (cp_bw f 0 1459 ∧ cp_bw t9 f 1459) ∧ ¬ ¬ (40 : Int32) ≤ u 14 2)) ∧ ((E = R_iob ∧ k = 1) ∨ (E = R_iae ∧ k = 2) ∨ (E = R_ise ∧ k = 3)))) (hm : (¬ (cp_bw x 0 (v 14 1 - 1) ∧ cp_bw y 0 1) ∧ v1 = cp_thw v 1) ∨ ((cp_bw x 0 (v 14 1 - 1) ∧ cp_bw y 0 1) ∧ ¬ (cp_bw f 0 1459 ∧ cp_bw t9 f 1459) ∧ v1 = cp_thw v 2) ∨ ((cp_bw x 0 (v 14 1 - 1) ∧ cp_bw y 0 1) ∧ (cp_bw f 0 1459 ∧ cp_bw t9 f 1459) ∧ ¬ ¬ (40 : Int32) ≤ v 14 2 ∧ v1 = cp_thw v 3) ∨ ((cp_bw x 0 (v 14 1 - 1) ∧ cp_bw y 0 1) ∧ (cp_bw f 0 1459 ∧ cp_bw t9 f 1459) ∧ ¬ (40 : Int32) ≤ v 14 2 ∧ b = v 14 2 ∧ v1 = cp_addR (cp_thw v 0) x y f t9)) : cp_ok k u1 f1 b v1 := by
  obtain ⟨F, K, t, rfl, hk⟩ := hR
  have hm : (¬ (cp_bw x 0 (u 14 1 - 1) ∧ cp_bw y 0 1) ∧ v1 = cp_thw (cp_mk u F K t) 1) ∨ ((cp_bw x 0 (u 14 1 - 1) ∧ cp_bw y 0 1) ∧ ¬ (cp_bw f 0 1459 ∧ cp_bw t9 f 1459) ∧ v1 = cp_thw (cp_mk u F K t) 2) ∨ ((cp_bw x 0 (u 14 1 - 1) ∧ cp_bw y 0 1) ∧ (cp_bw f 0 1459 ∧ cp_bw t9 f 1459) ∧ ¬ ¬ (40 : Int32) ≤ u 14 2 ∧ v1 = cp_thw (cp_mk u F K t) 3) ∨ ((cp_bw x 0 (u 14 1 - 1) ∧ cp_bw y 0 1) ∧ (cp_bw f 0 1459 ∧ cp_bw t9 f 1459) ∧ ¬ (40 : Int32) ≤ u 14 2 ∧ b = u 14 2 ∧ v1 = cp_addR (cp_thw (cp_mk u F K t) 0) x y f t9) := hm
  have hn1 := hV.1.2.1
  have hn3 := hV.2.2.1.2.1
  rcases hc with ⟨rfl, r, u2, ⟨p1, p2, p3, hr, e2⟩, e1, hf⟩ | ⟨hu, hE⟩
  · rcases hm with ⟨n, _⟩ | ⟨_, n, _⟩ | ⟨_, _, n, _⟩ | ⟨_, _, _, hb, hv⟩
    · exact absurd p1 n
    · exact absurd p2 n
    · exact absurd p3 n
    · rw [e1, e2]
      refine cp_okR (F2 := F) (K2 := K) (fun g hg c hc => hk g hg c hc) (cp_VaddR hV p3) ?_ (by rw [hf, hr, hb])
      rw [hv, cp_mk_thw]
      unfold cp_addR
      rw [cp_mk_up _ _ _ _ _ (by decide) (by decide) (by decide), cp_mk_up _ _ _ _ _ (by decide) (by decide) (by decide), cp_mk_up _ _ _ _ _ (by decide) (by decide) (by decide), cp_mk_up _ _ _ _ _ (by decide) (by decide) (by decide)]
      exact cp_mk_14 _ F K 0 (u 14 2 + 1) (i := 2) (by decide)
  · rcases cp_x3 hE with ⟨hk1, n1⟩ | ⟨hk1, p1, n1⟩ | ⟨hk1, p1, p2, n1⟩ <;> rcases hm with ⟨n, hv⟩ | ⟨p, n, hv⟩ | ⟨p, q, n, hv⟩ | ⟨p, q, n, hb, hv⟩ <;> first
      | exact absurd p n1 | exact absurd p1 n | exact absurd q n1 | exact absurd p2 n | exact absurd n n1 | (rw [hu, hv]; exact cp_okE hk hV hk1 (by decide))
theorem cp_s_hasRight {u v u1 v1 : cp_M} {k b : Int32} {f1 : Nat → Int64} {x y z : Int32} (hR : cp_R u v) (hV : cp_V u) (hc : (k = 0 ∧ ∃ (r : Int32) (u2 : cp_M), ((cp_bw x 0 (u 14 1 - 1) ∧ cp_bw y 0 1) ∧ (cp_bw z 0 1459) ∧ r = cp_b (cp_may u x y z) ∧ u2 = u) ∧ u1 = u2 ∧ f1 0 = r.toInt64) ∨ (u1 = u ∧ ∃ E, ((E = R_iob ∧ ¬ (cp_bw x 0 (u 14 1 - 1) ∧ cp_bw y 0 1)) ∨ (E = R_iae ∧ (cp_bw x 0 (u 14 1 - 1) ∧ cp_bw y 0 1) ∧ ¬ (cp_bw z 0 1459))) ∧ ((E = R_iob ∧ k = 1) ∨ (E = R_iae ∧ k = 2)))) (hm : (¬ (cp_bw x 0 (v 14 1 - 1) ∧ cp_bw y 0 1) ∧ v1 = cp_thw v 1) ∨ ((cp_bw x 0 (v 14 1 - 1) ∧ cp_bw y 0 1) ∧ ¬ cp_bw z 0 1459 ∧ v1 = cp_thw v 2) ∨ ((cp_bw x 0 (v 14 1 - 1) ∧ cp_bw y 0 1) ∧ cp_bw z 0 1459 ∧ b = cp_b (cp_may v x y z) ∧ v1 = cp_thw v 0)) : cp_ok k u1 f1 b v1 := by
  obtain ⟨F, K, t, rfl, hk⟩ := hR
  have hm : (¬ (cp_bw x 0 (u 14 1 - 1) ∧ cp_bw y 0 1) ∧ v1 = cp_thw (cp_mk u F K t) 1) ∨ ((cp_bw x 0 (u 14 1 - 1) ∧ cp_bw y 0 1) ∧ ¬ cp_bw z 0 1459 ∧ v1 = cp_thw (cp_mk u F K t) 2) ∨ ((cp_bw x 0 (u 14 1 - 1) ∧ cp_bw y 0 1) ∧ cp_bw z 0 1459 ∧ b = cp_b (cp_may u x y z) ∧ v1 = cp_thw (cp_mk u F K t) 0) := hm
  have hn1 := hV.1.2.1
  have hn3 := hV.2.2.1.2.1
  rcases hc with ⟨rfl, r, u2, ⟨p1, p2, hr, e2⟩, e1, hf⟩ | ⟨hu, hE⟩
  · rcases hm with ⟨n, _⟩ | ⟨_, n, _⟩ | ⟨_, _, hb, hv⟩
    · exact absurd p1 n
    · exact absurd p2 n
    · rw [e1, e2]
      exact cp_okR hk hV (hv.trans (cp_mk_thw _ _ _ _ _)) (by rw [hf, hr, hb])
  · rcases cp_x2 cp_ne12 hE with ⟨hk1, n1⟩ | ⟨hk1, p1, n1⟩ <;> rcases hm with ⟨n, hv⟩ | ⟨p, n, hv⟩ | ⟨p, q, hb, hv⟩ <;> first
      | exact absurd p n1 | exact absurd p1 n | exact absurd q n1 | (rw [hu, hv]; exact cp_okE hk hV hk1 (by decide))
theorem cp_s_print {u v u1 v1 : cp_M} {k b : Int32} {f1 : Nat → Int64} {x w : Int32} (hR : cp_R u v) (hV : cp_V u) (hc : (k = 0 ∧ ∃ (r : Int32) (u2 : cp_M), ((cp_bw w 1 1000) ∧ (cp_may u x 1 (u 14 0)) ∧ ∃ g, g < cp_n u 1 ∧ x = nI g ∧ r = w * (cp_swar (u 4 g) + 1) ∧ u2 = cp_up u 6 (upd (u 6) (g * 4 + cp_n u 0 / 365) (u 6 (g * 4 + cp_n u 0 / 365) + w))) ∧ u1 = u2 ∧ f1 0 = r.toInt64) ∨ (u1 = u ∧ ∃ E, ((E = R_iob ∧ ¬ (cp_bw x 0 (u 14 1 - 1))) ∨ (E = R_iae ∧ (cp_bw x 0 (u 14 1 - 1)) ∧ ¬ (cp_bw w 1 1000)) ∨ (E = R_ise ∧ (cp_bw x 0 (u 14 1 - 1)) ∧ (cp_bw w 1 1000) ∧ ¬ (cp_may u x 1 (u 14 0)))) ∧ ((E = R_iob ∧ k = 1) ∨ (E = R_iae ∧ k = 2) ∨ (E = R_ise ∧ k = 3)))) (hm : (¬ (cp_bw x 0 (v 14 1 - 1)) ∧ v1 = cp_thw v 1) ∨ ((cp_bw x 0 (v 14 1 - 1)) ∧ ¬ (cp_bw w 1 1000) ∧ v1 = cp_thw v 2) ∨ ((cp_bw x 0 (v 14 1 - 1)) ∧ (cp_bw w 1 1000) ∧ ¬ (cp_may v x 1 (v 14 0)) ∧ v1 = cp_thw v 3) ∨ ((cp_bw w 1 1000) ∧ (cp_may v x 1 (v 14 0)) ∧ ∃ g1 L1 i1, g1 < cp_n v 1 ∧ x = nI g1 ∧ v 2 g1 = nI L1 ∧ L1 ≤ 30 ∧ b = w * nI i1 ∧ cp_pgs (cp_qY (v 3 g1)) L1 i1 ∧ v1 = cp_up (cp_thw v 0) 6 (upd (v 6) (g1 * 4 + cp_n v 0 / 365) (v 6 (g1 * 4 + cp_n v 0 / 365) + w)))) : cp_ok k u1 f1 b v1 := by
  obtain ⟨F, K, t, rfl, hk⟩ := hR
  have hm : (¬ (cp_bw x 0 (u 14 1 - 1)) ∧ v1 = cp_thw (cp_mk u F K t) 1) ∨ ((cp_bw x 0 (u 14 1 - 1)) ∧ ¬ (cp_bw w 1 1000) ∧ v1 = cp_thw (cp_mk u F K t) 2) ∨ ((cp_bw x 0 (u 14 1 - 1)) ∧ (cp_bw w 1 1000) ∧ ¬ (cp_may u x 1 (u 14 0)) ∧ v1 = cp_thw (cp_mk u F K t) 3) ∨ ((cp_bw w 1 1000) ∧ (cp_may u x 1 (u 14 0)) ∧ ∃ g1 L1 i1, g1 < cp_n u 1 ∧ x = nI g1 ∧ u 2 g1 = nI L1 ∧ L1 ≤ 30 ∧ b = w * nI i1 ∧ cp_pgs (cp_qY (u 3 g1)) L1 i1 ∧ v1 = cp_up (cp_thw (cp_mk u F K t) 0) 6 (upd (u 6) (g1 * 4 + cp_n u 0 / 365) (u 6 (g1 * 4 + cp_n u 0 / 365) + w))) := hm
  have hn1 := hV.1.2.1
  have hn3 := hV.2.2.1.2.1
  rcases hc with ⟨rfl, r, u2, ⟨p2, p3, g, hg, hx, hr, e2⟩, e1, hf⟩ | ⟨hu, hE⟩
  · rcases hm with ⟨n, _⟩ | ⟨_, n, _⟩ | ⟨_, _, n, _⟩ | ⟨_, _, g1, L1, i1, hg1, hx1, hL1, hL3, hb, hp, hv⟩
    · exact absurd (by rw [hx]; exact cp_isH hV.1 hg) n
    · exact absurd p2 n
    · exact absurd p3 n
    · obtain rfl : g = g1 := cp_nIinj (by omega) (by have h : g1 < cp_n u 1 := hg1; omega) (hx.symm.trans hx1)
      obtain ⟨hL0, ht⟩ := cp_Lof hV hg hL1 hL3
      rw [e1, e2]
      refine cp_okR (F2 := F) (K2 := K) (fun g hg c hc => hk g hg c hc) (cp_V6 hV _) ?_ (by rw [hf, hr, cp_pages_eq hL0 hL3 ht hp, hb])
      rw [hv, cp_mk_thw]
      exact cp_mk_up _ _ _ _ _ (by decide) (by decide) (by decide)
  · rcases cp_x3 hE with ⟨hk1, n1⟩ | ⟨hk1, p1, n1⟩ | ⟨hk1, p1, p2, n1⟩ <;> rcases hm with ⟨n, hv⟩ | ⟨p, n, hv⟩ | ⟨p, q, n, hv⟩ | ⟨q, n, g1, L1, i1, hg1, hx1, hL1, hL3, hb, hp, hv⟩ <;> first
      | exact absurd p n1 | exact absurd p1 n | exact absurd q n1 | exact absurd p2 n | exact absurd n n1 | exact absurd (by rw [hx1]; exact cp_isH hV.1 hg1) n1 | (rw [hu, hv]; exact cp_okE hk hV hk1 (by decide))
theorem cp_s_service {u v u1 v1 : cp_M} {k b : Int32} {f1 : Nat → Int64} {ch z : Int32} (hR : cp_R u v) (hV : cp_V u) (hc : (k = 0 ∧ ∃ (r : Int32) (u2 : cp_M), ((cp_bw ch 0 3) ∧ (cp_bw z (u 14 0) 1459) ∧ (¬ (40 : Int32) ≤ u 14 3 ∧ ¬ cp_hasS u ch z) ∧ r = u 14 3 ∧ u2 = cp_plan (cp_addS u ch z) (cp_n u 3)) ∧ u1 = u2 ∧ f1 0 = r.toInt64) ∨ (u1 = u ∧ ∃ E, ((E = R_iob ∧ ¬ (cp_bw ch 0 3)) ∨ (E = R_iae ∧ (cp_bw ch 0 3) ∧ ¬ (cp_bw z (u 14 0) 1459)) ∨ (E = R_ise ∧ (cp_bw ch 0 3) ∧ (cp_bw z (u 14 0) 1459) ∧ ¬ (¬ (40 : Int32) ≤ u 14 3 ∧ ¬ cp_hasS u ch z))) ∧ ((E = R_iob ∧ k = 1) ∨ (E = R_iae ∧ k = 2) ∨ (E = R_ise ∧ k = 3)))) (hm : (¬ (cp_bw ch 0 3) ∧ v1 = cp_thw v 1) ∨ ((cp_bw ch 0 3) ∧ ¬ (cp_bw z (v 14 0) 1459) ∧ v1 = cp_thw v 2) ∨ ((cp_bw ch 0 3) ∧ (cp_bw z (v 14 0) 1459) ∧ ¬ (¬ (40 : Int32) ≤ v 14 3 ∧ ¬ cp_hasS v ch z) ∧ v1 = cp_thw v 3) ∨ (cp_bw ch 0 3 ∧ (cp_bw z (v 14 0) 1459) ∧ (¬ (40 : Int32) ≤ v 14 3 ∧ ¬ cp_hasS v ch z) ∧ ∃ k1, k1 ≤ 3 ∧ ch = nI k1 ∧ b = v 14 3 ∧ v1 = cp_planY (cp_up (cp_up (cp_up (cp_up (cp_thw v 0) 11 (upd (v 11) (cp_n v 3) ch)) 12 (upd (v 12) (cp_n v 3) z)) 13 (upd (v 13) (cp_n v 3) (-1))) 14 (upd (cp_thw v 0 14) 3 (v 14 3 + 1))) (cp_n v 3) k1)) : cp_ok k u1 f1 b v1 := by
  obtain ⟨F, K, t, rfl, hk⟩ := hR
  have hm : (¬ (cp_bw ch 0 3) ∧ v1 = cp_thw (cp_mk u F K t) 1) ∨ ((cp_bw ch 0 3) ∧ ¬ (cp_bw z (u 14 0) 1459) ∧ v1 = cp_thw (cp_mk u F K t) 2) ∨ ((cp_bw ch 0 3) ∧ (cp_bw z (u 14 0) 1459) ∧ ¬ (¬ (40 : Int32) ≤ u 14 3 ∧ ¬ cp_hasS u ch z) ∧ v1 = cp_thw (cp_mk u F K t) 3) ∨ (cp_bw ch 0 3 ∧ (cp_bw z (u 14 0) 1459) ∧ (¬ (40 : Int32) ≤ u 14 3 ∧ ¬ cp_hasS u ch z) ∧ ∃ k1, k1 ≤ 3 ∧ ch = nI k1 ∧ b = u 14 3 ∧ v1 = cp_planY (cp_up (cp_up (cp_up (cp_up (cp_thw (cp_mk u F K t) 0) 11 (upd (u 11) (cp_n u 3) ch)) 12 (upd (u 12) (cp_n u 3) z)) 13 (upd (u 13) (cp_n u 3) (-1))) 14 (upd (cp_thw (cp_mk u F K t) 0 14) 3 (u 14 3 + 1))) (cp_n u 3) k1) := hm
  have hn1 := hV.1.2.1
  have hn3 := hV.2.2.1.2.1
  rcases hc with ⟨rfl, r, u2, ⟨p1, p2, p3, hr, e2⟩, e1, hf⟩ | ⟨hu, hE⟩
  · rcases hm with ⟨n, _⟩ | ⟨_, n, _⟩ | ⟨_, _, n, _⟩ | ⟨_, _, _, k1, hk1, hch, hb, hv⟩
    · exact absurd p1 n
    · exact absurd p2 n
    · exact absurd p3 n
    · subst hch
      have hn := cp_sv_n (ch := nI k1) (z := z) hV.2.2.1 p3.1
      have hW := cp_Vsv hV p3.1 hk1 p2
      rw [e1, e2, ← cp_sv_plan]
      refine cp_okR (F2 := F) (K2 := K) (fun g hg c hc => hk g hg c hc) (cp_Vplan hW _) ?_ (by rw [hf, hr, hb])
      have e9 : cp_up (cp_up (cp_up (cp_up (cp_thw (cp_mk u F K t) 0) 11 (upd (u 11) (cp_n u 3) (nI k1))) 12 (upd (u 12) (cp_n u 3) z)) 13 (upd (u 13) (cp_n u 3) (-1))) 14 (upd (cp_thw (cp_mk u F K t) 0 14) 3 (u 14 3 + 1)) = cp_mk (cp_sv u (nI k1) z) F K 0 := by
        rw [cp_mk_thw, cp_mk_up _ _ _ _ _ (by decide) (by decide) (by decide), cp_mk_up _ _ _ _ _ (by decide) (by decide) (by decide), cp_mk_up _ _ _ _ _ (by decide) (by decide) (by decide)]
        refine (cp_mk_14 _ F K 0 (u 14 3 + 1) (i := 3) (by decide)).trans ?_
        exact congrArg (fun w => cp_mk w F K 0) (cp_up_c _ (by decide) _ _)
      rw [hv, e9]
      have h11 : cp_sv u (nI k1) z 11 (cp_n u 3) = nI k1 := cp_upd_s (u 11) (cp_n u 3) (nI k1)
      have hkW : cp_kn (cp_sv u (nI k1) z) K := fun g hg c hc => hk g hg c hc
      exact cp_plan_eq (u := cp_sv u (nI k1) z) (F := F) (K := K) (t := 0) (s := cp_n u 3) (c := k1) hkW hW (by omega) (by omega) h11
  · rcases cp_x3 hE with ⟨hk1, n1⟩ | ⟨hk1, p1, n1⟩ | ⟨hk1, p1, p2, n1⟩ <;> rcases hm with ⟨n, hv⟩ | ⟨p, n, hv⟩ | ⟨p, q, n, hv⟩ | ⟨p, q, n, k1, hk2, hch, hb, hv⟩ <;> first
      | exact absurd p n1 | exact absurd p1 n | exact absurd q n1 | exact absurd p2 n | exact absurd n n1 | (rw [hu, hv]; exact cp_okE hk hV hk1 (by decide))
theorem cp_s_plan {u v u1 v1 : cp_M} {k b : Int32} {f1 : Nat → Int64} {x : Int32} {cf : Nat → Nat} (hR : cp_R u v) (hV : cp_V u) (hC : ∀ k, k < cp_n u 3 → cf k < 4 ∧ u 11 k = nI (cf k)) (hc : (k = 0 ∧ ∃ (r : Int32) (u2 : cp_M), (∃ g, g < cp_n u 3 ∧ x = nI g ∧ ¬ u 12 g < u 14 0 ∧ r = cp_plan u g 13 g ∧ u2 = cp_plan u g) ∧ u1 = u2 ∧ f1 0 = r.toInt64) ∨ (u1 = u ∧ ∃ E, ((E = R_iob ∧ ¬ (cp_bw x 0 (u 14 3 - 1))) ∨ (E = R_ise ∧ ∃ g, g < cp_n u 3 ∧ x = nI g ∧ u 12 g < u 14 0)) ∧ ((E = R_iob ∧ k = 1) ∨ (E = R_ise ∧ k = 2)))) (hm : (¬ (cp_bw x 0 (v 14 3 - 1)) ∧ v1 = cp_thw v 1) ∨ (∃ g1, g1 < cp_n v 3 ∧ x = nI g1 ∧ ((v 12 g1 < v 14 0 ∧ v1 = cp_thw v 2) ∨ (¬ v 12 g1 < v 14 0 ∧ b = cp_planY (cp_thw v 0) g1 (cf g1) 13 g1 ∧ v1 = cp_planY (cp_thw v 0) g1 (cf g1))))) : cp_ok k u1 f1 b v1 := by
  obtain ⟨F, K, t, rfl, hk⟩ := hR
  have hm : (¬ (cp_bw x 0 (u 14 3 - 1)) ∧ v1 = cp_thw (cp_mk u F K t) 1) ∨ (∃ g1, g1 < cp_n u 3 ∧ x = nI g1 ∧ ((u 12 g1 < u 14 0 ∧ v1 = cp_thw (cp_mk u F K t) 2) ∨ (¬ u 12 g1 < u 14 0 ∧ b = cp_planY (cp_thw (cp_mk u F K t) 0) g1 (cf g1) 13 g1 ∧ v1 = cp_planY (cp_thw (cp_mk u F K t) 0) g1 (cf g1)))) := hm
  have hn1 := hV.1.2.1
  have hn3 := hV.2.2.1.2.1
  rcases hc with ⟨rfl, r, u2, ⟨g, hg, hx, hd, hr, e2⟩, e1, hf⟩ | ⟨hu, hE⟩
  · rcases hm with ⟨n, _⟩ | ⟨g1, hg1, hx1, ⟨n, _⟩ | ⟨_, hb, hv⟩⟩
    · exact absurd (by rw [hx]; exact cp_isH hV.2.2.1 hg) n
    · obtain rfl : g = g1 := cp_nIinj (by omega) (by have h : g1 < cp_n u 3 := hg1; omega) (hx.symm.trans hx1)
      exact absurd n hd
    · obtain rfl : g = g1 := cp_nIinj (by omega) (by have h : g1 < cp_n u 3 := hg1; omega) (hx.symm.trans hx1)
      have e9 := cp_plan_eq (F := F) (t := 0) hk hV hg (hC g hg).1 (hC g hg).2
      rw [cp_mk_thw, e9] at hb hv
      rw [e1, e2]
      exact cp_okR (F2 := F) (K2 := K) (fun g hg c hc => hk g hg c hc) (cp_Vplan hV _) hv (by rw [hf, hr, hb]; rfl)
  · rcases cp_x2 cp_ne13 hE with ⟨hk1, n1⟩ | ⟨hk1, g, hg, hx, n1⟩
    · rcases hm with ⟨n, hv⟩ | ⟨g1, hg1, hx1, _⟩
      · rw [hu, hv]; exact cp_okE hk hV hk1 (by decide)
      · exact absurd (by rw [hx1]; exact cp_isH hV.2.2.1 hg1) n1
    · rcases hm with ⟨n, hv⟩ | ⟨g1, hg1, hx1, ⟨_, hv⟩ | ⟨n, _⟩⟩
      · exact absurd (by rw [hx]; exact cp_isH hV.2.2.1 hg) n
      · rw [hu, hv]; exact cp_okE hk hV hk1 (by decide)
      · obtain rfl : g = g1 := cp_nIinj (by omega) (by have h : g1 < cp_n u 3 := hg1; omega) (hx.symm.trans hx1)
        exact absurd n1 n
theorem cp_s_end {u v u1 v1 : cp_M} {k b : Int32} {f1 : Nat → Int64} {x t9 : Int32} {cf : Nat → Nat} (hR : cp_R u v) (hV : cp_V u) (hC : ∀ k, k < cp_n u 3 → cf k < 4 ∧ u 11 k = nI (cf k)) (hc : (k = 0 ∧ ∃ (r : Int32) (u2 : cp_M), ((cp_bw t9 (u 14 0 - 1) 1459) ∧ ∃ g, g < cp_n u 2 ∧ x = nI g ∧ ¬ u 10 g ≤ t9 ∧ r = cp_swarL (cp_msk (cp_cut u g t9) (cp_n (cp_cut u g t9) 3)) ∧ u2 = cp_pe (fun j => cp_inS (nI j) (cp_msk (cp_cut u g t9) (cp_n (cp_cut u g t9) 3))) (cp_sil (cp_cut u g t9) (cp_n (cp_cut u g t9) 3)) (cp_n (cp_sil (cp_cut u g t9) (cp_n (cp_cut u g t9) 3)) 3)) ∧ u1 = u2 ∧ f1 0 = r.toInt64) ∨ (u1 = u ∧ ∃ E, ((E = R_iob ∧ ¬ (cp_bw x 0 (u 14 2 - 1))) ∨ (E = R_iae ∧ (cp_bw x 0 (u 14 2 - 1)) ∧ ¬ (cp_bw t9 (u 14 0 - 1) 1459)) ∨ (E = R_ise ∧ (cp_bw t9 (u 14 0 - 1) 1459) ∧ (∃ g, g < cp_n u 2 ∧ x = nI g ∧ u 10 g ≤ t9))) ∧ ((E = R_iob ∧ k = 1) ∨ (E = R_iae ∧ k = 2) ∨ (E = R_ise ∧ k = 3)))) (hm : (¬ (cp_bw x 0 (v 14 2 - 1)) ∧ v1 = cp_thw v 1) ∨ ((cp_bw x 0 (v 14 2 - 1)) ∧ ¬ (cp_bw t9 (v 14 0 - 1) 1459) ∧ v1 = cp_thw v 2) ∨ ((cp_bw t9 (v 14 0 - 1) 1459) ∧ ∃ g1, g1 < cp_n v 2 ∧ x = nI g1 ∧ ((v 10 g1 ≤ t9 ∧ v1 = cp_thw v 3) ∨ (¬ v 10 g1 ≤ t9 ∧ b = nI (cp_cnt (cp_lost (cp_cut (cp_thw v 0) g1 t9)) (cp_n v 3)) ∧ v1 = cp_peY (cp_lost (cp_cut (cp_thw v 0) g1 t9)) cf (cp_end2 (cp_cut (cp_thw v 0) g1 t9) (cp_n v 3)) (cp_n v 3))))) : cp_ok k u1 f1 b v1 := by
  obtain ⟨F, K, t, rfl, hk⟩ := hR
  have hm : (¬ (cp_bw x 0 (u 14 2 - 1)) ∧ v1 = cp_thw (cp_mk u F K t) 1) ∨ ((cp_bw x 0 (u 14 2 - 1)) ∧ ¬ (cp_bw t9 (u 14 0 - 1) 1459) ∧ v1 = cp_thw (cp_mk u F K t) 2) ∨ ((cp_bw t9 (u 14 0 - 1) 1459) ∧ ∃ g1, g1 < cp_n u 2 ∧ x = nI g1 ∧ ((u 10 g1 ≤ t9 ∧ v1 = cp_thw (cp_mk u F K t) 3) ∨ (¬ u 10 g1 ≤ t9 ∧ b = nI (cp_cnt (cp_lost (cp_cut (cp_thw (cp_mk u F K t) 0) g1 t9)) (cp_n u 3)) ∧ v1 = cp_peY (cp_lost (cp_cut (cp_thw (cp_mk u F K t) 0) g1 t9)) cf (cp_end2 (cp_cut (cp_thw (cp_mk u F K t) 0) g1 t9) (cp_n u 3)) (cp_n u 3)))) := hm
  have hn1 := hV.1.2.1
  have hn3 := hV.2.2.1.2.1
  have hn2 := hV.2.1.2.1
  rcases hc with ⟨rfl, r, u2, ⟨p2, g, hg, hx, hd, hr, e2⟩, e1, hf⟩ | ⟨hu, hE⟩
  · rcases hm with ⟨n, _⟩ | ⟨_, n, _⟩ | ⟨_, g1, hg1, hx1, ⟨n, _⟩ | ⟨_, hb, hv⟩⟩
    · exact absurd (by rw [hx]; exact cp_isH hV.2.1 hg) n
    · exact absurd p2 n
    · obtain rfl : g = g1 := cp_nIinj (by omega) (by have h : g1 < cp_n u 2 := hg1; omega) (hx.symm.trans hx1)
      exact absurd n hd
    · obtain rfl : g = g1 := cp_nIinj (by omega) (by have h : g1 < cp_n u 2 := hg1; omega) (hx.symm.trans hx1)
      obtain ⟨F2, e9⟩ := cp_end_eq (F := F) (t := t) hk hV hC g t9
      have e8 : cp_n (cp_cut u g t9) 3 = cp_n u 3 := rfl
      rw [e1, e2]
      refine cp_okR (F2 := F2) (K2 := K) (fun g2 hg2 c hc => ?_) (cp_Vpe (cp_Vsil (cp_Vcut hV g t9) _) _) (hv.trans e9) ?_
      · rw [cp_pe_r _ _ (by decide)]; exact hk g2 hg2 c hc
      · rw [hf, hr, hb, cp_end_cnt _ (by rw [e8]; omega)]
        exact congrArg (fun n => (nI n).toInt64) (cp_cnt_c (fun k _ => Iff.rfl))
  · rcases cp_x3 hE with ⟨hk1, n1⟩ | ⟨hk1, p1, n1⟩ | ⟨hk1, p2, g, hg, hx, n1⟩
    · rcases hm with ⟨n, hv⟩ | ⟨p, n, hv⟩ | ⟨_, g1, hg1, hx1, _⟩
      · rw [hu, hv]; exact cp_okE hk hV hk1 (by decide)
      · exact absurd p n1
      · exact absurd (by rw [hx1]; exact cp_isH hV.2.1 hg1) n1
    · rcases hm with ⟨n, hv⟩ | ⟨p, n, hv⟩ | ⟨p, _⟩
      · exact absurd p1 n
      · rw [hu, hv]; exact cp_okE hk hV hk1 (by decide)
      · exact absurd p n1
    · rcases hm with ⟨n, hv⟩ | ⟨p, n, hv⟩ | ⟨_, g1, hg1, hx1, ⟨_, hv⟩ | ⟨n, _⟩⟩
      · exact absurd (by rw [hx]; exact cp_isH hV.2.1 hg) n
      · exact absurd p2 n
      · rw [hu, hv]; exact cp_okE hk hV hk1 (by decide)
      · obtain rfl : g = g1 := cp_nIinj (by omega) (by have h : g1 < cp_n u 2 := hg1; omega) (hx.symm.trans hx1)
        exact absurd n1 n
theorem cp_s_pass {u v u1 v1 : cp_M} {k b : Int32} {f1 : Nat → Int64} {d9 : Int32} (hR : cp_R u v) (hV : cp_V u) (hc : (k = 0 ∧ ∃ (r : Int32) (u2 : cp_M), ((cp_bw d9 1 200) ∧ ¬ (1459 : Int32) < u 14 0 + d9 ∧ r = u 14 0 + d9 ∧ u2 = cp_up u 14 (upd (u 14) 0 (u 14 0 + d9))) ∧ u1 = u2 ∧ f1 0 = r.toInt64) ∨ (u1 = u ∧ ∃ E, ((E = R_iae ∧ ¬ (cp_bw d9 1 200)) ∨ (E = R_ise ∧ (cp_bw d9 1 200) ∧ ¬ ¬ (1459 : Int32) < u 14 0 + d9)) ∧ ((E = R_iae ∧ k = 1) ∨ (E = R_ise ∧ k = 2)))) (hm : (¬ (cp_bw d9 1 200) ∧ v1 = cp_thw v 1) ∨ ((cp_bw d9 1 200) ∧ ¬ ¬ (1459 : Int32) < v 14 0 + d9 ∧ v1 = cp_thw v 2) ∨ ((cp_bw d9 1 200) ∧ ¬ (1459 : Int32) < v 14 0 + d9 ∧ b = v 14 0 + d9 ∧ v1 = cp_up (cp_thw v 0) 14 (upd (cp_thw v 0 14) 0 (v 14 0 + d9)))) : cp_ok k u1 f1 b v1 := by
  obtain ⟨F, K, t, rfl, hk⟩ := hR
  have hm : (¬ (cp_bw d9 1 200) ∧ v1 = cp_thw (cp_mk u F K t) 1) ∨ ((cp_bw d9 1 200) ∧ ¬ ¬ (1459 : Int32) < u 14 0 + d9 ∧ v1 = cp_thw (cp_mk u F K t) 2) ∨ ((cp_bw d9 1 200) ∧ ¬ (1459 : Int32) < u 14 0 + d9 ∧ b = u 14 0 + d9 ∧ v1 = cp_up (cp_thw (cp_mk u F K t) 0) 14 (upd (cp_thw (cp_mk u F K t) 0 14) 0 (u 14 0 + d9))) := hm
  have hn1 := hV.1.2.1
  have hn3 := hV.2.2.1.2.1
  rcases hc with ⟨rfl, r, u2, ⟨p1, p2, hr, e2⟩, e1, hf⟩ | ⟨hu, hE⟩
  · rcases hm with ⟨n, _⟩ | ⟨_, n, _⟩ | ⟨_, _, hb, hv⟩
    · exact absurd p1 n
    · exact absurd p2 n
    · rw [e1, e2]
      refine cp_okR (F2 := F) (K2 := K) (fun g hg c hc => hk g hg c hc) (cp_Vpass hV p1 p2) ?_ (by rw [hf, hr, hb])
      rw [hv, cp_mk_thw]
      exact cp_mk_14 u F K 0 _ (i := 0) (by decide)
  · rcases cp_x2 cp_ne23 hE with ⟨hk1, n1⟩ | ⟨hk1, p1, n1⟩ <;> rcases hm with ⟨n, hv⟩ | ⟨p, n, hv⟩ | ⟨p, q, hb, hv⟩ <;> first
      | exact absurd p n1 | exact absurd p1 n | exact absurd q n1 | (rw [hu, hv]; exact cp_okE hk hV hk1 (by decide))
