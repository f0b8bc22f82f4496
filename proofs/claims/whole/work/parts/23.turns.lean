/-! The turns' set and the pages' first lines. -/
theorem cp_ll_c {q q2 : Nat → Prop} {st : Nat} : ∀ i, (∀ j, j < i → (q (st + j) ↔ q2 (st + j))) → cp_ll q st i = cp_ll q2 st i
  | 0, _ => rfl
  | i + 1, h => by
    by_cases hq : q (st + i)
    · rw [cp_ll_t hq, cp_ll_t ((h i (by omega)).mp hq)]
    · rw [cp_ll_f hq, cp_ll_f (fun z => hq ((h i (by omega)).mpr z)), cp_ll_c i (fun j hj => h j (by omega))]
theorem cp_tn_c {re : Int32} {L : Nat} (hL : L ≤ 30) : ∀ n st acc, cp_tn (cp_q re) L n st acc = cp_tn (cp_qY re) L n st acc
  | 0, _, _ => rfl
  | n + 1, st, acc => by
    show (if st + 8 < L then cp_tn (cp_q re) L n _ _ else acc) = (if st + 8 < L then cp_tn (cp_qY re) L n _ _ else acc)
    by_cases h : st + 8 < L
    · rw [if_pos h, if_pos h, cp_ll_c 8 (fun j hj => cp_q_c (by omega)), cp_tn_c hL n]
    · rw [if_neg h, if_neg h]
theorem cp_nx_le (q : Nat → Prop) {L st : Nat} (h : st ≤ L) : st ≤ cp_nx q L st ∧ cp_nx q L st ≤ L := by
  rcases Nat.lt_or_ge st L with h2 | h2
  · have := cp_nx_gt q h2; omega
  · unfold cp_nx; rw [if_neg (by omega)]; omega
theorem cp_st_le (q : Nat → Prop) (L : Nat) : ∀ i, cp_st q L i ≤ L
  | 0 => Nat.zero_le _
  | i + 1 => (cp_nx_le q (cp_st_le q L i)).2
theorem cp_st_mono (q : Nat → Prop) (L j : Nat) : ∀ k, cp_st q L j ≤ cp_st q L (j + k)
  | 0 => Nat.le_refl _
  | k + 1 => Nat.le_trans (cp_st_mono q L j k) (cp_nx_le q (cp_st_le q L (j + k))).1
theorem cp_st_end (q : Nat → Prop) (L : Nat) : L ≤ cp_st q L L := by
  rcases Classical.em (∀ j, j < L → cp_st q L j < L) with h | h
  · exact (cp_st_ge q L L h).1
  · obtain ⟨j, h1⟩ := Classical.not_forall.mp h
    obtain ⟨h2, h3⟩ := Classical.not_imp.mp h1
    have := cp_st_mono q L j (L - j)
    rw [show j + (L - j) = L from by omega] at this
    omega
theorem cp_cnt_flat {p : Nat → Prop} {j : Nat} : ∀ k, (∀ i, j ≤ i → i < j + k → ¬ p i) → cp_cnt p (j + k) = cp_cnt p j
  | 0, _ => rfl
  | k + 1, h => by
    show cp_cnt p ((j + k) + 1) = _
    rw [cp_cnt_f (h (j + k) (by omega) (by omega)), cp_cnt_flat k (fun i h1 h2 => h i h1 (by omega))]
theorem cp_cnt_all {p : Nat → Prop} : ∀ n, (∀ i, i < n → p i) → cp_cnt p n = n
  | 0, _ => rfl
  | n + 1, h => by rw [cp_cnt_t (h n (by omega)), cp_cnt_all n (fun i hi => h i (by omega))]
theorem cp_cnt_ins {p p2 : Nat → Prop} {b : Nat} (h : ∀ i, i ≠ b → (p2 i ↔ p i)) (hb : ¬ p b) : ∀ n, cp_cnt p2 n = cp_cnt p n + @ite Nat (b < n ∧ p2 b) (Classical.propDecidable _) 1 0
  | 0 => by rw [@if_neg _ (Classical.propDecidable _) (fun z => absurd z.1 (Nat.not_lt_zero b))]; rfl
  | n + 1 => by
    have ih := cp_cnt_ins h hb n
    rcases Nat.lt_trichotomy n b with q | q | q
    · rw [@if_neg _ (Classical.propDecidable _) (fun z => by omega)] at ih ⊢
      by_cases hp : p n
      · rw [cp_cnt_t hp, cp_cnt_t ((h n (by omega)).mpr hp), ih]
      · rw [cp_cnt_f hp, cp_cnt_f (fun z => hp ((h n (by omega)).mp z)), ih]
    · subst q
      rw [@if_neg _ (Classical.propDecidable _) (fun z => by omega)] at ih
      rw [cp_cnt_f hb]
      by_cases hp : p2 n
      · rw [cp_cnt_t hp, @if_pos _ (Classical.propDecidable _) ⟨by omega, hp⟩, ih]
      · rw [cp_cnt_f hp, @if_neg _ (Classical.propDecidable _) (fun z => hp z.2), ih]
    · by_cases hb2 : p2 b
      · rw [@if_pos _ (Classical.propDecidable _) ⟨q, hb2⟩] at ih
        rw [@if_pos _ (Classical.propDecidable _) ⟨by omega, hb2⟩]
        by_cases hp : p n
        · rw [cp_cnt_t hp, cp_cnt_t ((h n (by omega)).mpr hp), ih]
        · rw [cp_cnt_f hp, cp_cnt_f (fun z => hp ((h n (by omega)).mp z)), ih]
      · rw [@if_neg _ (Classical.propDecidable _) (fun z => hb2 z.2)] at ih ⊢
        by_cases hp : p n
        · rw [cp_cnt_t hp, cp_cnt_t ((h n (by omega)).mpr hp), ih]
        · rw [cp_cnt_f hp, cp_cnt_f (fun z => hp ((h n (by omega)).mp z)), ih]
theorem cp_pc_or {acc M : Int32} {b : Nat} (hb : b < 32) (h : bt acc b = false) : cp_pc ((acc ||| ((1 : Int32) <<< (nI b &&& 31))) &&& M) = cp_pc (acc &&& M) + @ite Nat (bt M b = true) (Classical.propDecidable _) 1 0 := by
  unfold cp_pc
  have e : ∀ i, i < 32 → (bt ((acc ||| ((1 : Int32) <<< (nI b &&& 31))) &&& M) i = true ↔ ((bt acc i = true ∨ i = b) ∧ bt M i = true)) := fun i hi => by
    rw [b_and, b_or, cp_shl1 hb hi]
    simp
  have e2 : ∀ i, i < 32 → (bt (acc &&& M) i = true ↔ (bt acc i = true ∧ bt M i = true)) := fun i _ => by
    rw [b_and]
    simp
  rw [cp_cnt_c e, cp_cnt_c e2, cp_cnt_ins (p := fun i => bt acc i = true ∧ bt M i = true) (p2 := fun i => (bt acc i = true ∨ i = b) ∧ bt M i = true) (b := b) (fun i hi => by simp [hi]) (by simp [h])]
  congr 1
  by_cases hm : bt M b = true
  · rw [@if_pos _ (Classical.propDecidable _) ⟨hb, Or.inr rfl, hm⟩, @if_pos _ (Classical.propDecidable _) hm]
  · rw [@if_neg _ (Classical.propDecidable _) (fun z => hm z.2.2), @if_neg _ (Classical.propDecidable _) hm]
def cp_T (q : Nat → Prop) (L : Nat) (M : Int32) (j : Nat) : Prop := cp_st q L (j + 1) < L ∧ bt M (cp_st q L (j + 1) - 1) = true
theorem cp_tn_pc (q : Nat → Prop) {L : Nat} (M : Int32) (hL : L ≤ 30) {i : Nat} (hi : L ≤ cp_st q L i) : ∀ n j acc, (∀ b, cp_st q L j ≤ b → bt acc b = false) → L ≤ n + cp_st q L j → j ≤ i → cp_pc (cp_tn q L n (cp_st q L j) acc &&& M) + cp_cnt (cp_T q L M) j = cp_pc (acc &&& M) + cp_cnt (cp_T q L M) i := by
  have stop : ∀ j, j ≤ i → ¬ cp_st q L j + 8 < L → cp_cnt (cp_T q L M) i = cp_cnt (cp_T q L M) j := fun j hj h8 => by
    have h := cp_cnt_flat (p := cp_T q L M) (j := j) (i - j) (fun k h1 _ hT => by
      have e1 : cp_st q L (j + 1) = L := by show cp_nx q L (cp_st q L j) = L; unfold cp_nx; rw [if_neg h8]
      have := cp_st_mono q L (j + 1) (k - j)
      rw [show j + 1 + (k - j) = k + 1 from by omega] at this
      have h9 := hT.1
      omega)
    rw [show j + (i - j) = i from by omega] at h
    exact h
  intro n
  induction n with
  | zero =>
    intro j acc ha hn hj
    rw [stop j hj (by omega)]
    rfl
  | succ n ih =>
    intro j acc ha hn hj
    by_cases h8 : cp_st q L j + 8 < L
    · have hb := cp_ll_b q (cp_st q L j) 8 (by omega)
      have e1 : cp_st q L (j + 1) = cp_ll q (cp_st q L j) 8 + 1 := by show cp_nx q L (cp_st q L j) = _; unfold cp_nx; rw [if_pos h8]
      have hji : j < i := by
        rcases Nat.lt_or_ge j i with z | z
        · exact z
        · obtain rfl : j = i := by omega
          omega
      have e2 : cp_tn q L (n + 1) (cp_st q L j) acc = cp_tn q L n (cp_st q L (j + 1)) (acc ||| (1 <<< (nI (cp_ll q (cp_st q L j) 8) &&& 31))) := by
        rw [e1]
        exact if_pos h8
      have h1 := ih (j + 1) (acc ||| (1 <<< (nI (cp_ll q (cp_st q L j) 8) &&& 31))) (fun b hb2 => by
        rcases Nat.lt_or_ge b 32 with z | z
        · rw [b_or, ha b (by omega), cp_shl1 (by omega) z, decide_eq_false (by omega)]; rfl
        · exact b_big z) (by omega) (by omega)
      rw [e2]
      rw [cp_pc_or (by omega) (ha _ hb.1)] at h1
      by_cases hm : bt M (cp_ll q (cp_st q L j) 8) = true
      · rw [@if_pos _ (Classical.propDecidable _) hm, cp_cnt_t (p := cp_T q L M) ⟨by omega, by rw [e1]; exact hm⟩] at h1
        omega
      · rw [@if_neg _ (Classical.propDecidable _) hm, cp_cnt_f (p := cp_T q L M) (fun z => hm (by have := z.2; rw [e1] at this; exact this))] at h1
        omega
    · have e2 : cp_tn q L (n + 1) (cp_st q L j) acc = acc := if_neg h8
      rw [e2, stop j hj h8]
theorem cp_pc0 (M : Int32) : cp_pc (0 &&& M) = 0 := by
  unfold cp_pc
  have h := cp_cnt_flat (p := fun i => bt (0 &&& M) i = true) (j := 0) 32 (fun i _ _ z => by
    have z2 : bt (0 &&& M) i = true := z
    rw [b_and, b_0] at z2
    cases z2)
  exact h
/-- the bits of the turns' set within M -/
theorem cp_turns_pc (q : Nat → Prop) {L : Nat} (M : Int32) (hL : L ≤ 30) {i : Nat} (hi : L ≤ cp_st q L i) : cp_pc (cp_tn q L L 0 0 &&& M) = cp_cnt (cp_T q L M) i := by
  have h := cp_tn_pc q M hL hi L 0 0 (fun b _ => b_0 b) (Nat.le_add_right _ _) (Nat.zero_le _)
  rw [cp_pc0] at h
  have e : cp_cnt (cp_T q L M) 0 = 0 := rfl
  rw [e] at h
  have h2 : cp_pc (cp_tn q L L (cp_st q L 0) 0 &&& M) = cp_cnt (cp_T q L M) i := by omega
  exact h2
theorem cp_and_m1 (x : Int32) : x &&& (-1) = x := b_ext (fun i hi => by rw [b_and, b_m1 i hi, Bool.and_true])
/-- pages -/
theorem cp_pages_eq {re tu : Int32} {L i : Nat} (hL0 : 1 ≤ L) (hL : L ≤ 30) (ht : tu = cp_tn (cp_q re) L L 0 0) (h : cp_pgs (cp_qY re) L i) : cp_swar tu + 1 = nI i := by
  obtain ⟨h1, h2, h3⟩ := h
  rw [ht, cp_tn_c hL, cp_swar_pc, ← cp_and_m1 (cp_tn (cp_qY re) L L 0 0), cp_turns_pc (cp_qY re) (-1) hL h2]
  obtain ⟨k, rfl⟩ : ∃ k, i = k + 1 := by
    rcases i with _ | k
    · have : cp_st (cp_qY re) L 0 = 0 := rfl
      omega
    · exact ⟨k, rfl⟩
  rw [cp_cnt_f (p := cp_T (cp_qY re) L (-1)) (fun z => by have := z.1; omega), cp_cnt_all k (fun j hj => ⟨h3 (j + 1) (by omega), b_m1 _ (by have := h3 (j + 1) (by omega); omega)⟩)]
  exact nI_1 k
theorem cp_cnt_lt {k : Nat} : ∀ n, k ≤ n → cp_cnt (fun j => j < k) n = k
  | 0, h => by
    obtain rfl : k = 0 := by omega
    rfl
  | n + 1, h => by
    rcases Nat.lt_or_ge n k with q | q
    · rw [cp_cnt_all (n + 1) (fun i hi => by omega)]; omega
    · rw [cp_cnt_f (p := fun j => j < k) (by omega), cp_cnt_lt n q]
theorem cp_low (m : Nat) (hm : m < 31) : ∀ i, i < 32 → bt (((1 : Int32) <<< (nI m &&& 31)) - 1) i = decide (i < m) := by
  have h : ∀ m, m < 31 → ∀ i, i < 32 → bt (((1 : Int32) <<< (nI m &&& 31)) - 1) i = decide (i < m) := by decide +kernel
  exact h m hm
/-- pageOf -/
theorem cp_pageOf_eq {re tu : Int32} {L m i : Nat} (hL : L ≤ 30) (hm : m < L) (ht : tu = cp_tn (cp_q re) L L 0 0) (h : cp_pgo (cp_qY re) L m i) : cp_swar (tu &&& (((1 : Int32) <<< (nI m &&& 31)) - 1)) = nI i - 1 := by
  obtain ⟨h2, h3⟩ := h
  rw [ht, cp_tn_c hL, cp_swar_pc, cp_turns_pc (cp_qY re) _ hL (cp_st_end (cp_qY re) L)]
  obtain ⟨k, rfl⟩ : ∃ k, i = k + 1 := by
    rcases i with _ | k
    · have : cp_st (cp_qY re) L 0 = 0 := rfl
      omega
    · exact ⟨k, rfl⟩
  have hk := cp_st_ge (cp_qY re) L k (fun j hj => by have := h3 j (by omega); omega)
  have hkm := h3 k (by omega)
  rw [cp_cnt_c (q := fun j => j < k) (fun j _ => ?_), cp_cnt_lt L (by omega)]
  · exact (nI_pred k).symm
  · have hp : 0 < cp_st (cp_qY re) L (j + 1) := by
      have h0 := cp_nx_gt (cp_qY re) (L := L) (st := cp_st (cp_qY re) L 0) (by have : cp_st (cp_qY re) L 0 = 0 := rfl; omega)
      have h1 : cp_st (cp_qY re) L 1 = cp_nx (cp_qY re) L (cp_st (cp_qY re) L 0) := rfl
      have := cp_st_mono (cp_qY re) L 1 j
      rw [show 1 + j = j + 1 from Nat.add_comm 1 j] at this
      omega
    have hle := cp_st_le (cp_qY re) L (j + 1)
    unfold cp_T
    rw [cp_low m (by omega) _ (by omega), decide_eq_true_eq]
    constructor
    · rintro ⟨z1, z2⟩
      rcases Nat.lt_or_ge j k with z | z
      · exact z
      · have := cp_st_mono (cp_qY re) L (k + 1) (j - k)
        rw [show k + 1 + (j - k) = j + 1 from by omega] at this
        omega
    · intro z
      have := h3 (j + 1) (by omega)
      omega
/-- badTurns -/
theorem cp_bad_eq {re tu : Int32} {L i : Nat} (hL : L ≤ 30) (ht : tu = cp_tn (cp_q re) L L 0 0) (hi : L ≤ cp_st (cp_qY re) L i) : cp_swar (tu &&& (re ^^^ (-1))) = nI (cp_cnt (cp_bad (cp_qY re) L) i) := by
  rw [ht, cp_tn_c hL, cp_swar_pc, cp_turns_pc (cp_qY re) _ hL hi]
  congr 1
  refine cp_cnt_c (fun j _ => ?_)
  have hle := cp_st_le (cp_qY re) L (j + 1)
  have hq : cp_qY re (cp_st (cp_qY re) L (j + 1) - 1) ↔ bt re (cp_st (cp_qY re) L (j + 1) - 1) = true := cp_bit_n (by omega)
  unfold cp_T cp_bad
  rw [b_xor, b_m1 _ (by omega), hq]
  simp
