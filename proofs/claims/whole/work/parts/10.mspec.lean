/-! What the reference's methods answer, in words of its memory. -/
def cp_thw (u : cp_M) (c : Int32) : cp_M := cp_up u 14 (upd (u 14) 4 c)
theorem cp_thw_thw (u : cp_M) (b c : Int32) : cp_thw (cp_thw u b) c = cp_thw u c := by
  unfold cp_thw
  rw [cp_up_s, cp_up_up]
  congr 1
  funext j
  unfold upd
  split <;> rfl
theorem cp_tY (cI cZ : ClassId) (h : Nat) (a : Nat → Nat) (u : cp_M) (v : Int32) : (cp_wY cI cZ h a u).set 0 (h, .inr (1, (cp_oY a u).set 0 (.int v))) = cp_wY cI cZ h a (cp_thw u v) := rfl
def cp_bit (x k : Int32) : Prop := (x >>> (k &&& 31)) &&& 1 = 1
def cp_qY (re : Int32) (k : Nat) : Prop := cp_bit re (nI k)
noncomputable def cp_nx (q : Nat → Prop) (L st : Nat) : Nat := if st + 8 < L then cp_ll q st 8 + 1 else L
noncomputable def cp_st (q : Nat → Prop) (L : Nat) : Nat → Nat
  | 0 => 0
  | i + 1 => cp_nx q L (cp_st q L i)
theorem cp_nx_gt (q : Nat → Prop) {L st : Nat} (h : st < L) : st < cp_nx q L st ∧ cp_nx q L st ≤ L := by
  unfold cp_nx
  split
  · have := cp_ll_b q st 8 (by omega); omega
  · omega
theorem cp_st_ge (q : Nat → Prop) (L : Nat) : ∀ i, (∀ j, j < i → cp_st q L j < L) → i ≤ cp_st q L i ∧ cp_st q L i ≤ L
  | 0, _ => ⟨Nat.le_refl 0, Nat.zero_le _⟩
  | i + 1, h => by
    have h1 := cp_st_ge q L i (fun j hj => h j (by omega))
    have h2 := cp_nx_gt q (h i (by omega))
    show i + 1 ≤ cp_nx q L (cp_st q L i) ∧ cp_nx q L (cp_st q L i) ≤ L
    omega
def cp_mayK (u : cp_M) (k : Nat) (x y z : Int32) : Prop := ∃ r, r < k ∧ u 7 r = x ∧ u 8 r = y ∧ cp_bw z (u 9 r) (u 10 r)
theorem cp_mayK_0 {u : cp_M} {x y z : Int32} : ¬ cp_mayK u 0 x y z := fun ⟨_, h, _⟩ => Nat.not_lt_zero _ h
theorem cp_mayK_l {u : cp_M} {k : Nat} {x y z : Int32} (h : cp_mayK u k x y z) : cp_mayK u (k + 1) x y z := by
  obtain ⟨r, h1, h2⟩ := h
  exact ⟨r, by omega, h2⟩
theorem cp_mayK_n {u : cp_M} {k : Nat} {x y z : Int32} (h : ¬ cp_mayK u k x y z) (h2 : ¬ (u 7 k = x ∧ u 8 k = y ∧ cp_bw z (u 9 k) (u 10 k))) : ¬ cp_mayK u (k + 1) x y z := by
  rintro ⟨r, h1, h3⟩
  rcases Nat.lt_or_ge r k with q | q
  · exact h ⟨r, q, h3⟩
  · obtain rfl : r = k := by omega
    exact h2 h3
def cp_far (a b : Int32) : Int32 := if a ≤ b then b - a else a - b
def cp_okY (u : cp_M) (s : Nat) (x : Int32) (r : Nat) : Prop := r = s ∨ u 11 r ≠ u 11 s ∨ u 13 r ≠ x ∨ ¬ cp_far (u 12 r) (u 12 s) < 28
def cp_okK (u : cp_M) (s : Nat) (x : Int32) (k : Nat) : Prop := ∀ r, r < k → cp_okY u s x r
theorem cp_okK_0 {u : cp_M} {s : Nat} {x : Int32} : cp_okK u s x 0 := fun r h => absurd h (Nat.not_lt_zero r)
theorem cp_okK_s {u : cp_M} {s k : Nat} {x : Int32} (h : cp_okK u s x k) (h2 : cp_okY u s x k) : cp_okK u s x (k + 1) := fun r hr => by
  rcases Nat.lt_or_ge r k with q | q
  · exact h r q
  · obtain rfl : r = k := by omega
    exact h2
def cp_suitY (u : cp_M) (s ch g : Nat) : Prop := (cp_bit (u 5 ch) (nI g) ∧ cp_bit (u 1 g) (cp_season (u 12 s))) ∧ cp_may u (nI g) 0 (u 12 s) ∧ cp_okK u s (nI g) (cp_n u 3)
noncomputable def cp_planY (u : cp_M) (s ch : Nat) : cp_M := cp_up (cp_plan0 u s) 13 (upd (cp_plan0 u s 13) s (cp_o (cp_bst (cp_suitY (cp_plan0 u s) s ch) (fun g => cp_with (cp_plan0 u s) (nI g)) (cp_n u 1))))
theorem cp_planY_r (u : cp_M) (s ch : Nat) {k : Nat} (h : k ≠ 13) : cp_planY u s ch k = u k := by
  unfold cp_planY cp_plan0
  rw [cp_up_n _ h, cp_up_n _ h]
noncomputable def cp_peY (q : Nat → Prop) (cf : Nat → Nat) (u : cp_M) : Nat → cp_M
  | 0 => u
  | n + 1 => @ite cp_M (q n) (Classical.propDecidable _) (cp_planY (cp_peY q cf u n) n (cf n)) (cp_peY q cf u n)
theorem cp_peY_t {q : Nat → Prop} {cf : Nat → Nat} {u : cp_M} {n : Nat} (h : q n) : cp_peY q cf u (n + 1) = cp_planY (cp_peY q cf u n) n (cf n) := by
  show @ite cp_M _ (Classical.propDecidable _) _ _ = _
  rw [@if_pos _ (Classical.propDecidable _) h]
theorem cp_peY_f {q : Nat → Prop} {cf : Nat → Nat} {u : cp_M} {n : Nat} (h : ¬ q n) : cp_peY q cf u (n + 1) = cp_peY q cf u n := by
  show @ite cp_M _ (Classical.propDecidable _) _ _ = _
  rw [@if_neg _ (Classical.propDecidable _) h]
theorem cp_peY_r (q : Nat → Prop) (cf : Nat → Nat) (u : cp_M) {k : Nat} (h : k ≠ 13) : ∀ n, cp_peY q cf u n k = u k
  | 0 => rfl
  | n + 1 => by
    by_cases hq : q n
    · rw [cp_peY_t hq, cp_planY_r _ _ _ h, cp_peY_r q cf u h n]
    · rw [cp_peY_f hq, cp_peY_r q cf u h n]
/-- isAnew's row, k places of it told -/
noncomputable def cp_anF (u : cp_M) (k : Nat) : Nat → Int32 := fun j => if j < k then cp_b (cp_lost u j) else u 4 j
theorem cp_anF_0 (u : cp_M) : cp_anF u 0 = u 4 := by
  funext j
  unfold cp_anF
  rw [if_neg (Nat.not_lt_zero j)]
theorem cp_anF_lt (u : cp_M) {j k : Nat} (h : j < k) : cp_anF u k j = cp_b (cp_lost u j) := if_pos h
theorem cp_anF_s (u : cp_M) (k : Nat) {x : Int32} (h : x = cp_b (cp_lost u k)) : upd (cp_anF u k) k x = cp_anF u (k + 1) := by
  funext j
  rcases Nat.lt_trichotomy j k with q | q | q
  · rw [cp_upd_n _ (by omega), cp_anF_lt u q, cp_anF_lt u (by omega)]
  · subst q
    rw [cp_upd_s, h, cp_anF_lt u (by omega)]
  · rw [cp_upd_n _ (by omega)]
    unfold cp_anF
    rw [if_neg (by omega), if_neg (by omega)]
def cp_canK (u : cp_M) (ch z : Int32) (k : Nat) : Prop := ¬ (40 : Int32) ≤ u 14 3 ∧ ∀ r, r < k → ¬ (u 11 r = ch ∧ u 12 r = z)
theorem cp_canK_s {u : cp_M} {ch z : Int32} {k : Nat} (h : cp_canK u ch z k) (h2 : ¬ (u 11 k = ch ∧ u 12 k = z)) : cp_canK u ch z (k + 1) := ⟨h.1, cp_no_s h.2 h2⟩
theorem cp_canK_n {u : cp_M} {ch z : Int32} {k : Nat} (h : ¬ cp_canK u ch z k) : ¬ cp_canK u ch z (k + 1) := fun q => h ⟨q.1, fun r hr => q.2 r (by omega)⟩
def cp_sgY (u : cp_M) (o y : Int32) (k : Nat) : Prop := (u 12 k ≤ u 14 0 ∧ cp_year (u 12 k) = y ∧ u 13 k ≠ -1) ∧ u 0 (u 13 k).toNatClampNeg = o
theorem cp_add0 (x : Int32) : x + 0 = x := Int32.add_zero x
def cp_pgs (q : Nat → Prop) (L i : Nat) : Prop := i ≤ 30 ∧ L ≤ cp_st q L i ∧ ∀ j, j < i → cp_st q L j < L
def cp_pgo (q : Nat → Prop) (L m i : Nat) : Prop := m < cp_st q L i ∧ ∀ j, j < i → cp_st q L j ≤ m
def cp_bad (q : Nat → Prop) (L : Nat) (j : Nat) : Prop := cp_st q L (j + 1) < L ∧ ¬ q (cp_st q L (j + 1) - 1)
theorem cp_pred {n : Nat} (h : 0 < n) : nI n - 1 = nI (n - 1) := by
  obtain ⟨k, rfl⟩ : ∃ k, n = k + 1 := ⟨n - 1, by omega⟩
  exact nI_pred k
theorem cp_idl {x y : Int32} {L : Nat} (hL : y = nI L) (h30 : L ≤ 64) (c : cp_bw x 0 (y - 1)) : ∃ m : Nat, m < L ∧ x = nI m := by
  subst hL
  obtain ⟨c1, c2⟩ := c
  have h1 := Int32.le_iff_toInt_le.mp c1
  have h2 := Int32.le_iff_toInt_le.mp c2
  have e : (0 : Int32).toInt = 0 := by decide
  have e2 : x.toNatClampNeg = x.toInt.toNat := rfl
  rcases Nat.eq_zero_or_pos L with q | q
  · subst q
    have e3 : (nI 0 - 1 : Int32).toInt = -1 := by decide
    omega
  · rw [cp_pred q, nI_toInt (by omega)] at h2
    exact ⟨x.toNatClampNeg, by omega, (cp_nI_of (by omega)).symm⟩
theorem cp_full {u : cp_M} {i N : Nat} (h : cp_cn u i N) (c : ¬ u 14 i = nI N) : ¬ nI N ≤ u 14 i := by
  obtain ⟨h1, h2, h3⟩ := h
  rw [h1, nI_eq (by omega) (by omega)] at c
  rw [h1, nI_leI (by omega) (by omega)]
  omega
theorem cp_room {u : cp_M} {i N : Nat} (h : cp_cn u i N) (c : ¬ nI N ≤ u 14 i) : cp_n u i < N := by
  obtain ⟨h1, h2, h3⟩ := h
  rw [h1, nI_leI (by omega) (by omega)] at c
  omega
theorem cp_full_e {u : cp_M} {i N : Nat} (c : u 14 i = nI N) : nI N ≤ u 14 i := by rw [c]; exact Int32.le_refl _
theorem cp_a1 (x : Int32) : x + 1 - 1 = x := Int32.add_sub_cancel x 1
theorem cp_keep0 (u : cp_M) (c : Int32) : cp_up (cp_thw u c) 14 (upd (cp_thw u c 14) 0 (u 14 0 + 0)) = cp_thw u c := by
  have e : upd (cp_thw u c 14) 0 (u 14 0 + 0) = cp_thw u c 14 := by
    funext j
    by_cases hj : j = 0
    · subst hj; rw [cp_upd_s, cp_add0]; rfl
    · rw [cp_upd_n _ hj]
  rw [e, cp_up_id]
/-- the reference's memory behind end's first two loops -/
noncomputable def cp_end2 (w : cp_M) (k : Nat) : cp_M := cp_up (cp_sil w k) 4 (cp_anF w (cp_n w 3))
theorem cp_end2_0 (w : cp_M) : cp_end2 w 0 = cp_up w 4 (cp_anF w (cp_n w 3)) := by
  unfold cp_end2
  rw [cp_sil_0]
theorem cp_end2_13 (w : cp_M) (k : Nat) : cp_end2 w k 13 = cp_sil w k 13 := cp_up_n _ (by decide) _
theorem cp_end2_s (w : cp_M) (k : Nat) {x : Int32} (h : x = cp_sil w (k + 1) 13 k) : cp_up (cp_end2 w k) 13 (upd (cp_end2 w k 13) k x) = cp_end2 w (k + 1) := by
  have e : upd (cp_end2 w k 13) k x = cp_sil w (k + 1) 13 := by
    rw [cp_end2_13]
    funext j
    by_cases hj : j = k
    · subst hj; rw [cp_upd_s, h]
    · rw [cp_upd_n _ hj, cp_sil_13, cp_sil_13]
      by_cases hl : cp_lost w j
      · rcases Nat.lt_or_ge j k with q | q
        · rw [@if_pos _ (Classical.propDecidable _) ⟨q, hl⟩, @if_pos _ (Classical.propDecidable _) ⟨by omega, hl⟩]
        · rw [@if_neg _ (Classical.propDecidable _) (fun z => by omega), @if_neg _ (Classical.propDecidable _) (fun z => by omega)]
      · rw [@if_neg _ (Classical.propDecidable _) (fun z => hl z.2), @if_neg _ (Classical.propDecidable _) (fun z => hl z.2)]
  rw [e]
  funext b
  by_cases h13 : b = 13
  · subst h13; rw [cp_up_s, cp_end2_13]
  · rw [cp_up_n _ h13]
    unfold cp_end2
    by_cases h4 : b = 4
    · subst h4; rw [cp_up_s, cp_up_s]
    · rw [cp_up_n _ h4, cp_up_n _ h4, cp_sil_r _ _ h13, cp_sil_r _ _ h13]
theorem cp_s1a (x : Int32) : x - 1 + 1 = x := Int32.sub_add_cancel x 1
theorem cp_pass_e {x : Int32} (h : x < 1460) : ¬ 1459 < x := by
  rw [Int32.lt_iff_toInt_lt] at *
  have e1 : (1460 : Int32).toInt = 1460 := by decide
  have e2 : (1459 : Int32).toInt = 1459 := by decide
  omega
theorem cp_pass_n {x : Int32} (h : ¬ x < 1460) : 1459 < x := by
  rw [Int32.lt_iff_toInt_lt] at *
  have e1 : (1460 : Int32).toInt = 1460 := by decide
  have e2 : (1459 : Int32).toInt = 1459 := by decide
  omega
