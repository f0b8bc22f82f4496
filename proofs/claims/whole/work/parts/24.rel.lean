/-! The two memories: the reference's is the class's, but for its rows isAnew, known and its last exception. -/
def cp_mk (u : cp_M) (F K : Nat → Int32) (t : Int32) : cp_M := cp_up (cp_up (cp_thw u t) 5 K) 4 F
theorem cp_mk_up (u : cp_M) (F K f : Nat → Int32) (t : Int32) {k : Nat} (h4 : k ≠ 4) (h5 : k ≠ 5) (h14 : k ≠ 14) : cp_up (cp_mk u F K t) k f = cp_mk (cp_up u k f) F K t := by
  funext a
  unfold cp_mk cp_thw
  by_cases ak : a = k
  · subst ak
    rw [cp_up_s, cp_up_n _ h4, cp_up_n _ h5, cp_up_n _ h14, cp_up_s]
  · rw [cp_up_n _ ak]
    by_cases a4 : a = 4
    · subst a4; rw [cp_up_s, cp_up_s]
    · rw [cp_up_n _ a4, cp_up_n _ a4]
      by_cases a5 : a = 5
      · subst a5; rw [cp_up_s, cp_up_s]
      · rw [cp_up_n _ a5, cp_up_n _ a5]
        by_cases a14 : a = 14
        · subst a14; rw [cp_up_s, cp_up_s, cp_up_n _ ak]
        · rw [cp_up_n _ a14, cp_up_n _ a14, cp_up_n _ ak]
theorem cp_upd_c (f : Nat → Int32) {i j : Nat} (h : i ≠ j) (x y : Int32) : upd (upd f i x) j y = upd (upd f j y) i x := by
  funext a
  by_cases ai : a = i
  · subst ai; rw [cp_upd_n _ h, cp_upd_s, cp_upd_s]
  · by_cases aj : a = j
    · subst aj; rw [cp_upd_s, cp_upd_n _ ai, cp_upd_s]
    · rw [cp_upd_n _ aj, cp_upd_n _ ai, cp_upd_n _ ai, cp_upd_n _ aj]
theorem cp_mk_14 (u : cp_M) (F K : Nat → Int32) (t x : Int32) {i : Nat} (h : i ≠ 4) : cp_up (cp_mk u F K t) 14 (upd (cp_mk u F K t 14) i x) = cp_mk (cp_up u 14 (upd (u 14) i x)) F K t := by
  funext a
  by_cases a14 : a = 14
  · subst a14
    rw [cp_up_s]
    show upd (upd (u 14) 4 t) i x = upd (upd (u 14) i x) 4 t
    exact cp_upd_c _ (Ne.symm h) _ _
  · rw [cp_up_n _ a14]
    unfold cp_mk cp_thw
    by_cases a4 : a = 4
    · subst a4; rw [cp_up_s, cp_up_s]
    · rw [cp_up_n _ a4, cp_up_n _ a4]
      by_cases a5 : a = 5
      · subst a5; rw [cp_up_s, cp_up_s]
      · rw [cp_up_n _ a5, cp_up_n _ a5, cp_up_n _ a14, cp_up_n _ a14, cp_up_n _ a14]
theorem cp_mk_thw (u : cp_M) (F K : Nat → Int32) (t c : Int32) : cp_thw (cp_mk u F K t) c = cp_mk u F K c := by
  funext a
  unfold cp_thw
  by_cases a14 : a = 14
  · subst a14
    rw [cp_up_s]
    show upd (upd (u 14) 4 t) 4 c = upd (u 14) 4 c
    funext j
    unfold upd
    split <;> rfl
  · rw [cp_up_n _ a14]
    unfold cp_mk cp_thw
    by_cases a4 : a = 4
    · subst a4; rw [cp_up_s, cp_up_s]
    · rw [cp_up_n _ a4, cp_up_n _ a4]
      by_cases a5 : a = 5
      · subst a5; rw [cp_up_s, cp_up_s]
      · rw [cp_up_n _ a5, cp_up_n _ a5, cp_up_n _ a14, cp_up_n _ a14]
theorem cp_mk_5 (u : cp_M) (F K G : Nat → Int32) (t : Int32) : cp_up (cp_mk u F K t) 5 G = cp_mk u F G t := by
  funext a
  unfold cp_mk
  by_cases a5 : a = 5
  · subst a5; rw [cp_up_s, cp_up_n _ (by decide), cp_up_s]
  · rw [cp_up_n _ a5]
    by_cases a4 : a = 4
    · subst a4; rw [cp_up_s, cp_up_s]
    · rw [cp_up_n _ a4, cp_up_n _ a4, cp_up_n _ a5, cp_up_n _ a5]
theorem cp_mk_4 (u : cp_M) (F K G : Nat → Int32) (t : Int32) : cp_up (cp_mk u F K t) 4 G = cp_mk u G K t := by
  unfold cp_mk
  exact cp_up_up _ _ _ _
/-- who knows what: the class by hymn, the reference by choir -/
def cp_kn (u : cp_M) (K : Nat → Int32) : Prop := ∀ g, g < 16 → ∀ c, c < 4 → (cp_inS (nI c) (u 5 g).toInt64 ↔ cp_bit (K c) (nI g))
def cp_R (u v : cp_M) : Prop := ∃ (F K : Nat → Int32) (t : Int32), v = cp_mk u F K t ∧ cp_kn u K
def cp_V (u : cp_M) : Prop := cp_cn u 1 16 ∧ cp_cn u 2 40 ∧ cp_cn u 3 40 ∧ cp_td u ∧ (∀ g, g < cp_n u 1 → ∃ L, 1 ≤ L ∧ L ≤ 30 ∧ u 2 g = nI L ∧ u 4 g = cp_tn (cp_q (u 3 g)) L L 0 0) ∧ (∀ k, k < cp_n u 3 → (∃ c, c < 4 ∧ u 11 k = nI c) ∧ (∃ d, d ≤ 1459 ∧ u 12 k = nI d) ∧ (u 13 k = -1 ∨ ∃ g, g < cp_n u 1 ∧ u 13 k = nI g))
theorem cp_bst_c {p p2 : Nat → Prop} {f : Nat → Nat} : ∀ n, (∀ g, g < n → (p g ↔ p2 g)) → cp_bst p f n = cp_bst p2 f n
  | 0, _ => rfl
  | n + 1, h => by
    have ih := cp_bst_c (f := f) n (fun g hg => h g (by omega))
    by_cases q : p n ∧ ∀ b, cp_bst p f n = some b → f n < f b
    · rw [cp_bst_t q, cp_bst_t (p := p2) ⟨(h n (by omega)).mp q.1, fun b hb => q.2 b (ih.trans hb)⟩]
    · rw [cp_bst_f q, cp_bst_f (p := p2) (fun z => q ⟨(h n (by omega)).mpr z.1, fun b hb => z.2 b (ih.symm.trans hb)⟩), ih]
theorem cp_season_n {d : Nat} (h : d ≤ 1459) : cp_season (nI d) = nI (d % 365 / 92) := by
  unfold cp_season
  rw [show (365 : Int32) = nI 365 from rfl, show (92 : Int32) = nI 92 from rfl, pk_rem (by omega) (by decide) (by decide), pk_div (by omega) (by decide) (by decide)]
theorem cp_near_far {a b : Nat} (ha : a ≤ 1459) (hb : b ≤ 1459) : cp_near (nI a) (nI b) ↔ cp_far (nI a) (nI b) < 28 := by
  unfold cp_near cp_far
  rcases Nat.lt_trichotomy a b with q | q | q
  · have h1 : ¬ (0 : Int32) ≤ nI a - nI b := Int32.not_le.mpr (pk_sneg (by omega) q)
    rw [if_neg h1, if_pos (nI_le (by omega) (by omega))]
    have e : 0 - (nI a - nI b) = nI b - nI a := by rw [Int32.zero_sub, Int32.neg_sub]
    rw [e]
  · subst q
    have e : nI a - nI a = 0 := Int32.sub_self _
    rw [e, if_pos (by decide), if_pos (Int32.le_refl _)]
  · have e : nI a - nI b = nI (a - b) := pk_sub (by omega)
    rw [e, if_pos (nI_pos' (by omega)), if_neg (nI_ge q (by omega))]
theorem cp_plan_suit {u : cp_M} {F K : Nat → Int32} {t : Int32} (hk : cp_kn u K) (hV : cp_V u) {s c : Nat} (hs : s < cp_n u 3) (hc : c < 4) (hcs : u 11 s = nI c) {g : Nat} (hg : g < 16) : cp_suitY (cp_mk (cp_plan0 u s) F K t) s c g ↔ cp_suit (cp_plan0 u s) (u 11 s) g (u 12 s) := by
  obtain ⟨hN1, hN2, hN3, hT, hL, hS⟩ := hV
  obtain ⟨d, hd, ed⟩ := (hS s hs).2.1
  have h13 : cp_plan0 u s 13 s = -1 := by unfold cp_plan0; rw [cp_up_s, cp_upd_s]
  have e1 : cp_bit (K c) (nI g) ↔ cp_inS (u 11 s) (u 5 g).toInt64 := by rw [hcs]; exact (hk g hg c hc).symm
  have e2 : cp_bit (u 1 g) (cp_season (u 12 s)) ↔ cp_inS (cp_season (u 12 s)) (u 1 g).toInt64 := by
    rw [ed, cp_season_n hd]
    exact (cp_in_bit (by omega)).symm
  have e3 : cp_okK (cp_plan0 u s) s (nI g) (cp_n u 3) ↔ cp_rst (cp_plan0 u s) (u 11 s) (nI g) (u 12 s) := by
    constructor
    · intro h r hr hh
      obtain ⟨d2, hd2, ed2⟩ := (hS r hr).2.1
      rcases h r hr with q | q | q | q
      · subst q
        rw [h13] at hh
        exact cp_ne_m1 (by omega) hh.2.1.symm
      · exact q hh.1
      · exact q hh.2.1
      · refine q ?_
        have h9 : cp_near (u 12 r) (u 12 s) := hh.2.2
        show cp_far (u 12 r) (u 12 s) < 28
        rw [ed, ed2] at h9 ⊢
        exact (cp_near_far hd2 hd).mp h9
    · intro h r hr
      obtain ⟨d2, hd2, ed2⟩ := (hS r hr).2.1
      by_cases q1 : r = s
      · exact Or.inl q1
      · by_cases q2 : u 11 r = u 11 s
        · by_cases q3 : cp_plan0 u s 13 r = nI g
          · refine Or.inr (Or.inr (Or.inr (fun q4 => h r hr ⟨q2, q3, ?_⟩)))
            have h9 : cp_far (u 12 r) (u 12 s) < 28 := q4
            show cp_near (u 12 r) (u 12 s)
            rw [ed, ed2] at h9 ⊢
            exact (cp_near_far hd2 hd).mpr h9
          · exact Or.inr (Or.inr (Or.inl q3))
        · exact Or.inr (Or.inl q2)
  constructor
  · rintro ⟨⟨a1, a2⟩, a3, a4⟩
    exact ⟨e1.mp a1, e2.mp a2, a3, e3.mp a4⟩
  · rintro ⟨a1, a2, a3, a4⟩
    exact ⟨⟨e1.mpr a1, e2.mpr a2⟩, a3, e3.mpr a4⟩
theorem cp_plan_eq {u : cp_M} {F K : Nat → Int32} {t : Int32} (hk : cp_kn u K) (hV : cp_V u) {s c : Nat} (hs : s < cp_n u 3) (hc : c < 4) (hcs : u 11 s = nI c) : cp_planY (cp_mk u F K t) s c = cp_mk (cp_plan u s) F K t := by
  have hN := hV.1.2.1
  have e0 : cp_plan0 (cp_mk u F K t) s = cp_mk (cp_plan0 u s) F K t := cp_mk_up u F K _ t (by decide) (by decide) (by decide)
  unfold cp_planY cp_plan
  rw [e0]
  have e1 : cp_bst (cp_suitY (cp_mk (cp_plan0 u s) F K t) s c) (fun g => cp_with (cp_mk (cp_plan0 u s) F K t) (nI g)) (cp_n (cp_mk u F K t) 1) = cp_best (cp_plan0 u s) (u 11 s) (u 12 s) :=
    cp_bst_c (p2 := fun g => cp_suit (cp_plan0 u s) (u 11 s) g (u 12 s)) (f := fun g => cp_with (cp_plan0 u s) (nI g)) (cp_n u 1) (fun g hg => cp_plan_suit hk hV hs hc hcs (by omega))
  rw [e1]
  exact cp_mk_up (cp_plan0 u s) F K _ t (by decide) (by decide) (by decide)
