/-! What the calls keep; end, learn, sung agree. -/
theorem cp_V13 {u : cp_M} {f : Nat → Int32} (hV : cp_V u) (h : ∀ k, k < cp_n u 3 → f k = -1 ∨ ∃ g, g < cp_n u 1 ∧ f k = nI g) : cp_V (cp_up u 13 f) := by
  obtain ⟨hN1, hN2, hN3, hT, hL, hS⟩ := hV
  exact ⟨hN1, hN2, hN3, hT, hL, fun k hk => ⟨(hS k hk).1, (hS k hk).2.1, h k hk⟩⟩
theorem cp_Vp0 {u : cp_M} (hV : cp_V u) (s : Nat) : cp_V (cp_plan0 u s) := by
  refine cp_V13 hV (fun k hk => ?_)
  by_cases e : k = s
  · subst e; rw [cp_upd_s]; exact Or.inl rfl
  · rw [cp_upd_n _ e]; exact (hV.2.2.2.2.2 k hk).2.2
theorem cp_Vplan {u : cp_M} (hV : cp_V u) (s : Nat) : cp_V (cp_plan u s) := by
  have h0 := cp_Vp0 hV s
  refine cp_V13 h0 (fun k hk => ?_)
  by_cases e : k = s
  · subst e
    rw [cp_upd_s]
    rcases hb : cp_best (cp_plan0 u k) (u 11 k) (u 12 k) with _ | b
    · exact Or.inl rfl
    · exact Or.inr ⟨b, cp_bst_lt hb, rfl⟩
  · rw [cp_upd_n _ e]; exact (h0.2.2.2.2.2 k hk).2.2
theorem cp_Vsil {u : cp_M} (hV : cp_V u) (n : Nat) : cp_V (cp_sil u n) := by
  refine cp_V13 hV (fun k hk => ?_)
  by_cases e : k < n ∧ cp_lost u k
  · rw [@if_pos _ (Classical.propDecidable _) e]; exact Or.inl rfl
  · rw [@if_neg _ (Classical.propDecidable _) e]; exact (hV.2.2.2.2.2 k hk).2.2
theorem cp_Vpe {q : Nat → Prop} {u : cp_M} (hV : cp_V u) : ∀ n, cp_V (cp_pe q u n)
  | 0 => hV
  | n + 1 => by
    by_cases hq : q n
    · rw [cp_pe_t hq]; exact cp_Vplan (cp_Vpe hV n) n
    · rw [cp_pe_f hq]; exact cp_Vpe hV n
theorem cp_Vcut {u : cp_M} (hV : cp_V u) (g : Nat) (t : Int32) : cp_V (cp_cut u g t) := by
  obtain ⟨hN1, hN2, hN3, hT, hL, hS⟩ := hV
  exact ⟨hN1, hN2, hN3, hT, hL, hS⟩
theorem cp_V5 {u : cp_M} (hV : cp_V u) (f : Nat → Int32) : cp_V (cp_up u 5 f) := by
  obtain ⟨hN1, hN2, hN3, hT, hL, hS⟩ := hV
  exact ⟨hN1, hN2, hN3, hT, hL, hS⟩
theorem cp_V6 {u : cp_M} (hV : cp_V u) (f : Nat → Int32) : cp_V (cp_up u 6 f) := by
  obtain ⟨hN1, hN2, hN3, hT, hL, hS⟩ := hV
  exact ⟨hN1, hN2, hN3, hT, hL, hS⟩
theorem cp_pe_c {q q2 : Nat → Prop} {u : cp_M} : ∀ n, (∀ j, j < n → (q j ↔ q2 j)) → cp_pe q u n = cp_pe q2 u n
  | 0, _ => rfl
  | n + 1, h => by
    have ih := cp_pe_c (u := u) n (fun j hj => h j (by omega))
    by_cases hq : q n
    · rw [cp_pe_t hq, cp_pe_t ((h n (by omega)).mp hq), ih]
    · rw [cp_pe_f hq, cp_pe_f (fun z => hq ((h n (by omega)).mpr z)), ih]
theorem cp_peY_eq {q : Nat → Prop} {cf : Nat → Nat} {z : cp_M} {F K : Nat → Int32} {t : Int32} (hk : cp_kn z K) (hV : cp_V z) (hC : ∀ k, k < cp_n z 3 → cf k < 4 ∧ z 11 k = nI (cf k)) : ∀ n, n ≤ cp_n z 3 → cp_peY q cf (cp_mk z F K t) n = cp_mk (cp_pe q z n) F K t
  | 0, _ => rfl
  | n + 1, h => by
    have ih := cp_peY_eq (q := q) (F := F) (t := t) hk hV hC n (by omega)
    by_cases hq : q n
    · rw [cp_peY_t hq, cp_pe_t hq, ih]
      have h14 : cp_pe q z n 14 = z 14 := cp_pe_r q z (by decide) n
      refine cp_plan_eq (fun g hg c hc => ?_) (cp_Vpe hV n) ?_ (hC n (by omega)).1 ?_
      · rw [cp_pe_r q z (by decide) n]; exact hk g hg c hc
      · rw [cp_n_c h14]; omega
      · rw [cp_pe_r q z (by decide) n]; exact (hC n (by omega)).2
    · rw [cp_peY_f hq, cp_pe_f hq, ih]
/-- what end leaves -/
theorem cp_end_eq {u : cp_M} {F K : Nat → Int32} {t : Int32} {cf : Nat → Nat} (hk : cp_kn u K) (hV : cp_V u) (hC : ∀ k, k < cp_n u 3 → cf k < 4 ∧ u 11 k = nI (cf k)) (g : Nat) (t9 : Int32) :
    ∃ F2, cp_peY (cp_lost (cp_cut (cp_thw (cp_mk u F K t) 0) g t9)) cf (cp_end2 (cp_cut (cp_thw (cp_mk u F K t) 0) g t9) (cp_n u 3)) (cp_n u 3) = cp_mk (cp_pe (fun j => cp_inS (nI j) (cp_msk (cp_cut u g t9) (cp_n (cp_cut u g t9) 3))) (cp_sil (cp_cut u g t9) (cp_n (cp_cut u g t9) 3)) (cp_n (cp_sil (cp_cut u g t9) (cp_n (cp_cut u g t9) 3)) 3)) F2 K 0 := by
  have hV1 := cp_Vcut hV g t9
  have hN : cp_n u 3 ≤ 40 := hV.2.2.1.2.1
  have e1 : cp_cut (cp_thw (cp_mk u F K t) 0) g t9 = cp_mk (cp_cut u g t9) F K 0 := by
    rw [cp_mk_thw]
    exact cp_mk_up u F K _ 0 (by decide) (by decide) (by decide)
  rw [e1]
  have e2 : cp_sil (cp_mk (cp_cut u g t9) F K 0) (cp_n u 3) = cp_mk (cp_sil (cp_cut u g t9) (cp_n u 3)) F K 0 := cp_mk_up (cp_cut u g t9) F K _ 0 (by decide) (by decide) (by decide)
  refine ⟨cp_anF (cp_mk (cp_cut u g t9) F K 0) (cp_n u 3), ?_⟩
  have e3 : cp_end2 (cp_mk (cp_cut u g t9) F K 0) (cp_n u 3) = cp_mk (cp_sil (cp_cut u g t9) (cp_n u 3)) (cp_anF (cp_mk (cp_cut u g t9) F K 0) (cp_n u 3)) K 0 := by
    unfold cp_end2
    rw [e2]
    exact cp_mk_4 _ _ _ _ _
  rw [e3]
  have e4 := cp_peY_eq (q := cp_lost (cp_mk (cp_cut u g t9) F K 0)) (cf := cf) (z := cp_sil (cp_cut u g t9) (cp_n u 3)) (F := cp_anF (cp_mk (cp_cut u g t9) F K 0) (cp_n u 3)) (K := K) (t := 0) (fun g2 hg2 c hc => hk g2 hg2 c hc) (cp_Vsil hV1 _) hC (cp_n u 3) (Nat.le_refl _)
  rw [e4]
  congr 1
  refine (cp_pe_c (cp_n u 3) (fun j hj => ?_)).symm
  show cp_inS (nI j) (cp_msk (cp_cut u g t9) (cp_n u 3)) ↔ cp_lost (cp_cut u g t9) j
  rw [cp_inS_L (by omega), cp_msk_b _ _ (by omega) j (by omega)]
  exact ⟨fun z => z.2, fun z => ⟨hj, z⟩⟩
theorem cp_cnt_or {p q : Nat → Prop} : ∀ n, (∀ k, k < n → ¬ (p k ∧ q k)) → cp_cnt (fun k => p k ∨ q k) n = cp_cnt p n + cp_cnt q n
  | 0, _ => rfl
  | n + 1, h => by
    have ih := cp_cnt_or (p := p) (q := q) n (fun k hk => h k (by omega))
    by_cases hp : p n
    · rw [cp_cnt_t (p := fun k => p k ∨ q k) (Or.inl hp), cp_cnt_t hp, cp_cnt_f (fun z => h n (by omega) ⟨hp, z⟩), ih]; omega
    · by_cases hq : q n
      · rw [cp_cnt_t (p := fun k => p k ∨ q k) (Or.inr hq), cp_cnt_f hp, cp_cnt_t hq, ih]; omega
      · rw [cp_cnt_f (p := fun k => p k ∨ q k) (fun z => z.elim hp hq), cp_cnt_f hp, cp_cnt_f hq, ih]
theorem cp_sung_eq {u : cp_M} (hV : cp_V u) (o y : Int32) : cp_cnt (cp_sungP u o y) (cp_n u 3) = cp_cnt (cp_sgY u o y) (cp_n u 3) := by
  obtain ⟨hN1, hN2, hN3, hT, hL, hS⟩ := hV
  have hn := hN1.2.1
  refine cp_cnt_c (fun k hk => ?_)
  rcases (hS k hk).2.2 with e | ⟨g, hg, e⟩
  · constructor
    · rintro ⟨_, g, hg, e2, _⟩
      rw [e] at e2
      exact absurd e2.symm (cp_ne_m1 (by omega))
    · rintro ⟨⟨_, _, h⟩, _⟩
      exact absurd e h
  · have hc : (u 13 k).toNatClampNeg = g := by rw [e]; exact nI_clamp (by omega)
    constructor
    · rintro ⟨⟨h1, h2⟩, g2, hg2, e2, h3⟩
      obtain rfl : g = g2 := cp_nIinj (by omega) (by omega) (e.symm.trans e2)
      exact ⟨⟨h1, h2, by rw [e]; exact cp_ne_m1 (by omega)⟩, by rw [hc]; exact h3⟩
    · rintro ⟨⟨h1, h2, _⟩, h3⟩
      exact ⟨⟨h1, h2⟩, g, hg, e, by rw [hc] at h3; exact h3⟩
theorem cp_sbh_eq {u : cp_M} (hV : cp_V u) (o y : Int32) : ∀ m, m ≤ cp_n u 1 → cp_sbh u o y m = cp_cnt (fun k => cp_held u k y ∧ ∃ g, g < m ∧ u 13 k = nI g ∧ u 0 g = o) (cp_n u 3)
  | 0, _ => by
    have h := cp_cnt_flat (p := fun k => cp_held u k y ∧ ∃ g, g < 0 ∧ u 13 k = nI g ∧ u 0 g = o) (j := 0) (cp_n u 3) (fun i _ _ z => by obtain ⟨_, g, hg, _⟩ := z; omega)
    rw [Nat.zero_add] at h
    exact h.symm
  | m + 1, h => by
    have hn := hV.1.2.1
    have ih := cp_sbh_eq hV o y m (by omega)
    by_cases ho : u 0 m = o
    · rw [cp_sbh_t ho, ih]
      unfold cp_times
      rw [← cp_cnt_or _ (fun k _ => ?_)]
      · refine cp_cnt_c (fun k _ => ?_)
        constructor
        · rintro (⟨h1, g, hg, h2⟩ | ⟨h1, h2⟩)
          · exact ⟨h1, g, by omega, h2⟩
          · exact ⟨h1, m, by omega, h2, ho⟩
        · rintro ⟨h1, g, hg, h2, h3⟩
          rcases Nat.lt_or_ge g m with q | q
          · exact Or.inl ⟨h1, g, q, h2, h3⟩
          · obtain rfl : g = m := by omega
            exact Or.inr ⟨h1, h2⟩
      · rintro ⟨⟨_, g, hg, h2, _⟩, _, h3⟩
        have := cp_nIinj (a := g) (b := m) (by omega) (by omega) (h2.symm.trans h3)
        omega
    · rw [cp_sbh_f ho, ih]
      refine cp_cnt_c (fun k _ => ?_)
      constructor
      · rintro ⟨h1, g, hg, h2⟩
        exact ⟨h1, g, by omega, h2⟩
      · rintro ⟨h1, g, hg, h2, h3⟩
        rcases Nat.lt_or_ge g m with q | q
        · exact ⟨h1, g, q, h2, h3⟩
        · obtain rfl : g = m := by omega
          exact absurd h3 ho
/-- the test of the rests -/
theorem cp_rests {L : Nat} {re : Int32} (hL : L ≤ 30) : cp_bw re 0 ((1 <<< (nI L &&& 31)) - 1) ↔ (¬ re < 0 ∧ re >>> (nI L &&& 31) = 0) := by
  have hp : 2 ^ L < 2 ^ 31 := Nat.pow_lt_pow_right (by decide) (by omega)
  have hp0 : 0 < 2 ^ L := Nat.two_pow_pos L
  have e1 : (1 : Int32) <<< (nI L &&& 31) = nI (2 ^ L) := by
    rw [show (1 : Int32) = nI 1 from rfl, pk_shlN (nI L &&& 31) L (s_l L (by omega)) (by omega), Nat.one_mul]
  rw [e1, cp_pred hp0]
  constructor
  · rintro ⟨h1, h2⟩
    have hn := Int32.not_lt.mpr h1
    refine ⟨hn, ?_⟩
    obtain ⟨n, hn2, rfl⟩ := nI_of hn
    rw [nI_leI hn2 (by omega)] at h2
    rw [pk_shrN hn2 (nI L &&& 31) L (s_l L (by omega)), Nat.div_eq_of_lt (by omega)]
    rfl
  · rintro ⟨h1, h2⟩
    obtain ⟨n, hn2, rfl⟩ := nI_of h1
    rw [pk_shrN hn2 (nI L &&& 31) L (s_l L (by omega))] at h2
    have h3 : n / 2 ^ L = 0 := cp_nIinj (Nat.lt_of_le_of_lt (Nat.div_le_self _ _) hn2) (by decide) h2
    refine ⟨nI_pos' hn2, ?_⟩
    rw [nI_leI hn2 (by omega)]
    have := (Nat.div_eq_zero_iff).mp h3
    omega
/-- learn -/
theorem cp_learn_kn {u : cp_M} {K : Nat → Int32} (hk : cp_kn u K) {g c : Nat} (hg : g < 16) (hc : c < 4) : cp_kn (cp_up u 5 (upd (u 5) g (u 5 g ^^^ (1 <<< (nI c &&& 31))))) (upd K c (K c ^^^ (1 <<< (nI g &&& 31)))) := by
  intro g2 hg2 c2 hc2
  have h0 := hk g2 hg2 c2 hc2
  rw [cp_inS_n (by omega), cp_bit_n (by omega)] at h0 ⊢
  rw [cp_up_s]
  by_cases eg : g2 = g
  · subst eg
    rw [cp_upd_s, cp_flip (by omega) (by omega)]
    by_cases ec : c2 = c
    · subst ec
      rw [cp_upd_s, cp_flip (by omega) (by omega)]
      simp only [decide_true, Bool.xor_true]
      cases h1 : bt (u 5 g2) c2 <;> cases h2 : bt (K c2) g2 <;> simp_all
    · rw [cp_upd_n _ ec]
      simpa [ec] using h0
  · rw [cp_upd_n _ eg]
    by_cases ec : c2 = c
    · subst ec
      rw [cp_upd_s, cp_flip (by omega) (by omega)]
      simpa [eg] using h0
    · rw [cp_upd_n _ ec]
      exact h0
