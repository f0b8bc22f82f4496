/-! What the methods answer, in words of a memory. -/
def cp_bw (x lo hi : Int32) : Prop := lo ≤ x ∧ x ≤ hi
def cp_inS (el : Int32) (set : Int64) : Prop := (set >>> (el.toInt64 &&& 63)) &&& 1 = 1
def cp_year (d : Int32) : Int32 := d / 365
def cp_season (d : Int32) : Int32 := (d - d / 365 * 365) / 92
/-- a count among the whole numbers -/
def cp_n (u : cp_M) (i : Nat) : Nat := (u 14 i).toNatClampNeg
def cp_cn (u : cp_M) (i N : Nat) : Prop := u 14 i = nI (cp_n u i) ∧ cp_n u i ≤ N ∧ N ≤ 64
theorem cp_cn_of {u : cp_M} {i N n : Nat} (h : u 14 i = nI n) (hn : n ≤ N) (hN : N ≤ 64) : cp_cn u i N := by
  have h2 : cp_n u i = n := by unfold cp_n; rw [h]; exact nI_clamp (by omega)
  exact ⟨by rw [h2]; exact h, by omega, hN⟩
theorem cp_in {u : cp_M} {i N k : Nat} (h : cp_cn u i N) (hk : k ≤ N) (c : ¬ u 14 i ≤ nI k) : k < cp_n u i := by
  obtain ⟨h1, h2, h3⟩ := h
  rw [h1, nI_leI (by omega) (by omega)] at c
  omega
theorem cp_ex {u : cp_M} {i N k : Nat} (h : cp_cn u i N) (hk : k ≤ cp_n u i) (c : u 14 i ≤ nI k) : k = cp_n u i := by
  obtain ⟨h1, h2, h3⟩ := h
  rw [h1, nI_leI (by omega) (by omega)] at c
  omega
def cp_may (u : cp_M) (x y z : Int32) : Prop := ∃ r, r < cp_n u 2 ∧ u 7 r = x ∧ u 8 r = y ∧ cp_bw z (u 9 r) (u 10 r)
def cp_hasS (u : cp_M) (c z : Int32) : Prop := ∃ k, k < cp_n u 3 ∧ u 11 k = c ∧ u 12 k = z
def cp_near (a b : Int32) : Prop := (if 0 ≤ a - b then a - b else 0 - (a - b)) < 28
def cp_rst (u : cp_M) (c x z : Int32) : Prop := ∀ k, k < cp_n u 3 → ¬ (u 11 k = c ∧ u 13 k = x ∧ cp_near (u 12 k) z)
noncomputable def cp_cnt (p : Nat → Prop) : Nat → Nat
  | 0 => 0
  | n + 1 => cp_cnt p n + @ite Nat (p n) (Classical.propDecidable _) 1 0
theorem cp_cnt_t {p : Nat → Prop} {n : Nat} (h : p n) : cp_cnt p (n + 1) = cp_cnt p n + 1 := by
  show _ + @ite Nat (p n) (Classical.propDecidable _) 1 0 = _
  rw [@if_pos _ (Classical.propDecidable _) h]
theorem cp_cnt_f {p : Nat → Prop} {n : Nat} (h : ¬ p n) : cp_cnt p (n + 1) = cp_cnt p n := by
  show _ + @ite Nat (p n) (Classical.propDecidable _) 1 0 = _
  rw [@if_neg _ (Classical.propDecidable _) h]; rfl
theorem cp_cnt_le (p : Nat → Prop) : ∀ n, cp_cnt p n ≤ n
  | 0 => Nat.le_refl 0
  | n + 1 => by
    by_cases h : p n
    · rw [cp_cnt_t h]; have := cp_cnt_le p n; omega
    · rw [cp_cnt_f h]; have := cp_cnt_le p n; omega
theorem cp_cnt_c {p q : Nat → Prop} : ∀ {n : Nat}, (∀ k, k < n → (p k ↔ q k)) → cp_cnt p n = cp_cnt q n
  | 0, _ => rfl
  | n + 1, h => by
    have ih := cp_cnt_c (n := n) (fun k hk => h k (by omega))
    by_cases hq : q n
    · rw [cp_cnt_t hq, cp_cnt_t ((h n (by omega)).mpr hq), ih]
    · rw [cp_cnt_f hq, cp_cnt_f (fun z => hq ((h n (by omega)).mp z)), ih]
theorem cp_no_s {p : Nat → Prop} {k : Nat} (h : ∀ r, r < k → ¬ p r) (hk : ¬ p k) : ∀ r, r < k + 1 → ¬ p r := fun r hr => by
  rcases Nat.lt_or_ge r k with q | q
  · exact h r q
  · obtain rfl : r = k := by omega
    exact hk
noncomputable def cp_with (u : cp_M) (x : Int32) : Nat := cp_cnt (fun k => u 13 k = x) (cp_n u 3)
def cp_suit (u : cp_M) (c : Int32) (g : Nat) (z : Int32) : Prop := cp_inS c (u 5 g).toInt64 ∧ cp_inS (cp_season z) (u 1 g).toInt64 ∧ cp_may u (nI g) 0 z ∧ cp_rst u c (nI g) z
/-- the best: of those with p, the one with the least f, of several the lowest -/
noncomputable def cp_bst (p : Nat → Prop) (f : Nat → Nat) : Nat → Option Nat
  | 0 => none
  | n + 1 => @ite (Option Nat) (p n ∧ ∀ b, cp_bst p f n = some b → f n < f b) (Classical.propDecidable _) (some n) (cp_bst p f n)
theorem cp_bst_t {p : Nat → Prop} {f : Nat → Nat} {n : Nat} (h : p n ∧ ∀ b, cp_bst p f n = some b → f n < f b) : cp_bst p f (n + 1) = some n := by
  show @ite (Option Nat) _ (Classical.propDecidable _) _ _ = _
  rw [@if_pos _ (Classical.propDecidable _) h]
theorem cp_bst_f {p : Nat → Prop} {f : Nat → Nat} {n : Nat} (h : ¬ (p n ∧ ∀ b, cp_bst p f n = some b → f n < f b)) : cp_bst p f (n + 1) = cp_bst p f n := by
  show @ite (Option Nat) _ (Classical.propDecidable _) _ _ = _
  rw [@if_neg _ (Classical.propDecidable _) h]
theorem cp_bst_lt {p : Nat → Prop} {f : Nat → Nat} : ∀ {n b : Nat}, cp_bst p f n = some b → b < n
  | 0, b, h => by cases h
  | n + 1, b, h => by
    by_cases q : p n ∧ ∀ b, cp_bst p f n = some b → f n < f b
    · rw [cp_bst_t q] at h; cases h; omega
    · rw [cp_bst_f q] at h; have := cp_bst_lt h; omega
/-- a hymn's number, or NONE -/
def cp_o : Option Nat → Int32
  | none => -1
  | some b => nI b
noncomputable def cp_best (u : cp_M) (c z : Int32) : Option Nat := cp_bst (fun g => cp_suit u c g z) (fun g => cp_with u (nI g)) (cp_n u 1)
/-- service s planned -/
noncomputable def cp_plan0 (u : cp_M) (s : Nat) : cp_M := cp_up u 13 (upd (u 13) s (-1))
noncomputable def cp_plan (u : cp_M) (s : Nat) : cp_M := cp_up (cp_plan0 u s) 13 (upd (cp_plan0 u s 13) s (cp_o (cp_best (cp_plan0 u s) (u 11 s) (u 12 s))))
def cp_lost (u : cp_M) (k : Nat) : Prop := u 14 0 ≤ u 12 k ∧ u 13 k ≠ -1 ∧ ¬ cp_may u (u 13 k) 0 (u 12 k)
def cp_held (u : cp_M) (k : Nat) (y : Int32) : Prop := u 12 k ≤ u 14 0 ∧ cp_year (u 12 k) = y
noncomputable def cp_times (u : cp_M) (x y : Int32) : Nat := cp_cnt (fun k => cp_held u k y ∧ u 13 k = x) (cp_n u 3)
theorem cp_upd_s (f : Nat → Int32) (j : Nat) (x : Int32) : upd f j x j = x := by simp [upd]
theorem cp_upd_n (f : Nat → Int32) {j k : Nat} (h : k ≠ j) (x : Int32) : upd f j x k = f k := by simp [upd, h]
theorem cp_ne_m1 {n : Nat} (h : n < 64) : nI n ≠ -1 := by
  intro q
  have := congrArg Int32.toInt q
  rw [nI_toInt (by omega)] at this
  have h2 : (-1 : Int32).toInt = -1 := by decide
  omega
theorem cp_lcmp {x y : Int64} (h : lg_cmp x y = 0) : x = y := by
  unfold lg_cmp at h
  split at h
  · exact absurd h (by decide)
  · split at h
    · assumption
    · exact absurd h (by decide)
theorem cp_lcmp0 {x y : Int64} (h : x = y) : lg_cmp x y = 0 := by
  subst h
  unfold lg_cmp
  rw [if_neg (Int64.lt_irrefl), if_pos rfl]
theorem cp_with_le {u : cp_M} {N : Nat} (h : cp_cn u 3 N) (x : Int32) : cp_with u x ≤ 64 := Nat.le_trans (cp_cnt_le _ _) (Nat.le_trans h.2.1 h.2.2)
theorem cp_cn_up {u : cp_M} {i N k : Nat} {f : Nat → Int32} (h : cp_cn u i N) (hk : 14 ≠ k) : cp_cn (cp_up u k f) i N := by
  unfold cp_cn cp_n
  rw [cp_up_n u hk]
  exact h
theorem cp_up_id (u : cp_M) (k : Nat) : cp_up u k (u k) = u := by
  funext a
  unfold cp_up
  split
  · rename_i h; rw [h]
  · rfl
theorem cp_up_up (u : cp_M) (k : Nat) (f g : Nat → Int32) : cp_up (cp_up u k f) k g = cp_up u k g := by
  funext a
  unfold cp_up
  split <;> rfl
/-- the services before n that lost their right, silenced -/
noncomputable def cp_sil (u : cp_M) (n : Nat) : cp_M := cp_up u 13 (fun j => @ite Int32 (j < n ∧ cp_lost u j) (Classical.propDecidable _) (-1) (u 13 j))
theorem cp_sil_r (u : cp_M) (n : Nat) {k : Nat} (h : k ≠ 13) : cp_sil u n k = u k := cp_up_n u h _
theorem cp_sil_13 (u : cp_M) (n j : Nat) : cp_sil u n 13 j = @ite Int32 (j < n ∧ cp_lost u j) (Classical.propDecidable _) (-1) (u 13 j) := by
  unfold cp_sil
  rw [cp_up_s]
theorem cp_sil_ge (u : cp_M) {n j : Nat} (h : n ≤ j) : cp_sil u n 13 j = u 13 j := by
  rw [cp_sil_13, @if_neg _ (Classical.propDecidable _) (fun q => by omega)]
theorem cp_sil_0 (u : cp_M) : cp_sil u 0 = u := by
  have h : (fun j => @ite Int32 (j < 0 ∧ cp_lost u j) (Classical.propDecidable _) (-1) (u 13 j)) = u 13 := by
    funext j
    rw [@if_neg _ (Classical.propDecidable _) (fun q => absurd q.1 (Nat.not_lt_zero j))]
  unfold cp_sil
  rw [h, cp_up_id]
theorem cp_may_c {u v : cp_M} (h2 : v 14 2 = u 14 2) (h7 : v 7 = u 7) (h8 : v 8 = u 8) (h9 : v 9 = u 9) (h10 : v 10 = u 10) (x y z : Int32) : cp_may v x y z = cp_may u x y z := by
  unfold cp_may cp_n
  rw [h2, h7, h8, h9, h10]
theorem cp_lost_sil (u : cp_M) (k : Nat) : cp_lost (cp_sil u k) k = cp_lost u k := by
  unfold cp_lost
  rw [cp_sil_ge u (Nat.le_refl k), cp_may_c (u := u) (by rw [cp_sil_r u k (by decide)]) (cp_sil_r u k (by decide)) (cp_sil_r u k (by decide)) (cp_sil_r u k (by decide)) (cp_sil_r u k (by decide)), cp_sil_r u k (by decide), cp_sil_r u k (by decide)]
theorem cp_sil_t (u : cp_M) {k : Nat} (h : cp_lost u k) : cp_up (cp_sil u k) 13 (upd (cp_sil u k 13) k (-1)) = cp_sil u (k + 1) := by
  have e : upd (cp_sil u k 13) k (-1) = fun j => @ite Int32 (j < k + 1 ∧ cp_lost u j) (Classical.propDecidable _) (-1) (u 13 j) := by
    funext j
    rcases Nat.lt_trichotomy j k with q | q | q
    · rw [cp_upd_n _ (by omega), cp_sil_13]
      by_cases hj : cp_lost u j
      · rw [@if_pos _ (Classical.propDecidable _) ⟨q, hj⟩, @if_pos _ (Classical.propDecidable _) ⟨by omega, hj⟩]
      · rw [@if_neg _ (Classical.propDecidable _) (fun z => hj z.2), @if_neg _ (Classical.propDecidable _) (fun z => hj z.2)]
    · subst q
      rw [cp_upd_s, @if_pos _ (Classical.propDecidable _) ⟨by omega, h⟩]
    · rw [cp_upd_n _ (by omega), cp_sil_ge u (by omega), @if_neg _ (Classical.propDecidable _) (fun z => by omega)]
  rw [e]
  unfold cp_sil
  exact cp_up_up _ _ _ _
theorem cp_sil_f (u : cp_M) {k : Nat} (h : ¬ cp_lost u k) : cp_sil u (k + 1) = cp_sil u k := by
  unfold cp_sil
  congr 1
  funext j
  by_cases hj : j < k ∧ cp_lost u j
  · rw [@if_pos _ (Classical.propDecidable _) hj, @if_pos _ (Classical.propDecidable _) ⟨by omega, hj.2⟩]
  · rw [@if_neg _ (Classical.propDecidable _) hj, @if_neg _ (Classical.propDecidable _)]
    rintro ⟨q1, q2⟩
    rcases Nat.lt_or_ge j k with q | q
    · exact hj ⟨q, q2⟩
    · obtain rfl : j = k := by omega
      exact h q2
/-- the silenced services as a set -/
noncomputable def cp_msk (u : cp_M) : Nat → Int64
  | 0 => 0
  | n + 1 => @ite Int64 (cp_lost u n) (Classical.propDecidable _) (cp_msk u n ||| (1 <<< ((nI n).toInt64 &&& 63))) (cp_msk u n)
theorem cp_msk_t {u : cp_M} {n : Nat} (h : cp_lost u n) : cp_msk u (n + 1) = cp_msk u n ||| (1 <<< ((nI n).toInt64 &&& 63)) := by
  show @ite Int64 _ (Classical.propDecidable _) _ _ = _
  rw [@if_pos _ (Classical.propDecidable _) h]
theorem cp_msk_f {u : cp_M} {n : Nat} (h : ¬ cp_lost u n) : cp_msk u (n + 1) = cp_msk u n := by
  show @ite Int64 _ (Classical.propDecidable _) _ _ = _
  rw [@if_neg _ (Classical.propDecidable _) h]
/-- the services with q, each planned -/
noncomputable def cp_pe (q : Nat → Prop) (u : cp_M) : Nat → cp_M
  | 0 => u
  | n + 1 => @ite cp_M (q n) (Classical.propDecidable _) (cp_plan (cp_pe q u n) n) (cp_pe q u n)
theorem cp_pe_t {q : Nat → Prop} {u : cp_M} {n : Nat} (h : q n) : cp_pe q u (n + 1) = cp_plan (cp_pe q u n) n := by
  show @ite cp_M _ (Classical.propDecidable _) _ _ = _
  rw [@if_pos _ (Classical.propDecidable _) h]
theorem cp_pe_f {q : Nat → Prop} {u : cp_M} {n : Nat} (h : ¬ q n) : cp_pe q u (n + 1) = cp_pe q u n := by
  show @ite cp_M _ (Classical.propDecidable _) _ _ = _
  rw [@if_neg _ (Classical.propDecidable _) h]
theorem cp_plan_r (u : cp_M) (s : Nat) {k : Nat} (h : k ≠ 13) : cp_plan u s k = u k := by
  unfold cp_plan cp_plan0
  rw [cp_up_n _ h, cp_up_n _ h]
theorem cp_pe_r (q : Nat → Prop) (u : cp_M) {k : Nat} (h : k ≠ 13) : ∀ n, cp_pe q u n k = u k
  | 0 => rfl
  | n + 1 => by
    by_cases hq : q n
    · rw [cp_pe_t hq, cp_plan_r _ _ h, cp_pe_r q u h n]
    · rw [cp_pe_f hq, cp_pe_r q u h n]
theorem cp_cn_c {u v : cp_M} {i N : Nat} (h : cp_cn u i N) (e : v 14 = u 14) : cp_cn v i N := by
  unfold cp_cn cp_n
  rw [e]
  exact h
theorem cp_n_c {u v : cp_M} {i : Nat} (e : v 14 = u 14) : cp_n v i = cp_n u i := by
  unfold cp_n
  rw [e]
theorem cp_idx {u : cp_M} {i N : Nat} {x : Int32} (h : cp_cn u i N) (c : cp_bw x 0 (u 14 i - 1)) : ∃ g : Nat, g < cp_n u i ∧ x = nI g := by
  obtain ⟨h1, h2, h3⟩ := h
  obtain ⟨c1, c2⟩ := c
  rw [h1] at c2
  have b0 : 0 ≤ x.toInt := by
    have := Int32.le_iff_toInt_le.mp c1
    have e : (0 : Int32).toInt = 0 := by decide
    omega
  refine ⟨x.toNatClampNeg, ?_, (cp_nI_of b0).symm⟩
  have e2 : x.toNatClampNeg = x.toInt.toNat := rfl
  rcases Nat.eq_zero_or_pos (cp_n u i) with q | q
  · rw [q] at c2
    have := Int32.le_iff_toInt_le.mp c2
    have e : (nI 0 - 1 : Int32).toInt = -1 := by decide
    omega
  · obtain ⟨k, hk⟩ : ∃ k, cp_n u i = k + 1 := ⟨cp_n u i - 1, by omega⟩
    rw [hk, nI_pred] at c2
    have := Int32.le_iff_toInt_le.mp c2
    rw [nI_toInt (by omega)] at this
    omega
theorem cp_idc {x : Int32} {n : Nat} (hn : n < 2 ^ 31) (c : cp_bw x 0 (nI n)) : ∃ g : Nat, g ≤ n ∧ x = nI g := by
  obtain ⟨c1, c2⟩ := c
  have h1 := Int32.le_iff_toInt_le.mp c1
  have h2 := Int32.le_iff_toInt_le.mp c2
  have e : (0 : Int32).toInt = 0 := by decide
  rw [nI_toInt hn] at h2
  have e2 : x.toNatClampNeg = x.toInt.toNat := rfl
  exact ⟨x.toNatClampNeg, by omega, (cp_nI_of (by omega)).symm⟩
def cp_td (u : cp_M) : Prop := u 14 0 = nI (cp_n u 0) ∧ cp_n u 0 ≤ 1459
-- JDK's bitCount, step by step
def cp_us (x n : Int32) : Int32 := (x.toUInt32 >>> (n.toUInt32 &&& Int32.toUInt32 31)).toInt32
def cp_usL (x : Int64) (n : Int32) : Int64 := (x.toUInt64 >>> (n.toInt64.toUInt64 &&& Int64.toUInt64 63)).toInt64
def cp_swar (x : Int32) : Int32 :=
  let a := x - (cp_us x 1 &&& 1431655765)
  let b := (a &&& 858993459) + (cp_us a 2 &&& 858993459)
  let c := (b + cp_us b 4) &&& 252645135
  let d := c + cp_us c 8
  let e := d + cp_us d 16
  e &&& 63
def cp_swarL (x : Int64) : Int32 :=
  let a := x - (cp_usL x 1 &&& 6148914691236517205)
  let b := (a &&& 3689348814741910323) + (cp_usL a 2 &&& 3689348814741910323)
  let c := (b + cp_usL b 4) &&& 1085102592571150095
  let d := c + cp_usL c 8
  let e := d + cp_usL d 16
  let f := e + cp_usL e 32
  f.toInt32 &&& 127
-- pages
/-- the last line of a full page from st on: of the i lines from st on, the last with a rest, or else st + 7 -/
noncomputable def cp_ll (q : Nat → Prop) (st : Nat) : Nat → Nat
  | 0 => st + 7
  | i + 1 => @ite Nat (q (st + i)) (Classical.propDecidable _) (st + i) (cp_ll q st i)
theorem cp_ll_t {q : Nat → Prop} {st i : Nat} (h : q (st + i)) : cp_ll q st (i + 1) = st + i := by
  show @ite Nat _ (Classical.propDecidable _) _ _ = _
  rw [@if_pos _ (Classical.propDecidable _) h]
theorem cp_ll_f {q : Nat → Prop} {st i : Nat} (h : ¬ q (st + i)) : cp_ll q st (i + 1) = cp_ll q st i := by
  show @ite Nat _ (Classical.propDecidable _) _ _ = _
  rw [@if_neg _ (Classical.propDecidable _) h]
theorem cp_ll_b (q : Nat → Prop) (st : Nat) : ∀ i, i ≤ 8 → st ≤ cp_ll q st i ∧ cp_ll q st i ≤ st + 7
  | 0, _ => ⟨Nat.le_add_right _ _, Nat.le_refl _⟩
  | i + 1, h => by
    by_cases hq : q (st + i)
    · rw [cp_ll_t hq]; omega
    · rw [cp_ll_f hq]; exact cp_ll_b q st i (by omega)
def cp_q (re : Int32) (k : Nat) : Prop := cp_inS (nI k) re.toInt64
/-- the set of the lines behind which a page turns: n pages more at most, from st on -/
noncomputable def cp_tn (q : Nat → Prop) (L : Nat) : Nat → Nat → Int32 → Int32
  | 0, _, acc => acc
  | n + 1, st, acc => if st + 8 < L then cp_tn q L n (cp_ll q st 8 + 1) (acc ||| (1 <<< (nI (cp_ll q st 8) &&& 31))) else acc
-- what the class's calls make of the memory
def cp_addH (u : cp_M) (ow se li re tu : Int32) : cp_M := cp_up (cp_up (cp_up (cp_up (cp_up (cp_up u 0 (upd (u 0) (cp_n u 1) ow)) 1 (upd (u 1) (cp_n u 1) se)) 2 (upd (u 2) (cp_n u 1) li)) 3 (upd (u 3) (cp_n u 1) re)) 4 (upd (u 4) (cp_n u 1) tu)) 14 (upd (u 14) 1 (u 14 1 + 1))
def cp_addR (u : cp_M) (x y f t : Int32) : cp_M := cp_up (cp_up (cp_up (cp_up (cp_up u 7 (upd (u 7) (cp_n u 2) x)) 8 (upd (u 8) (cp_n u 2) y)) 9 (upd (u 9) (cp_n u 2) f)) 10 (upd (u 10) (cp_n u 2) t)) 14 (upd (u 14) 2 (u 14 2 + 1))
def cp_addS (u : cp_M) (ch d : Int32) : cp_M := cp_up (cp_up (cp_up u 11 (upd (u 11) (cp_n u 3) ch)) 12 (upd (u 12) (cp_n u 3) d)) 14 (upd (u 14) 3 (u 14 3 + 1))
def cp_cut (u : cp_M) (g : Nat) (t : Int32) : cp_M := cp_up u 10 (upd (u 10) g t)
def cp_sungP (u : cp_M) (o y : Int32) (k : Nat) : Prop := cp_held u k y ∧ ∃ g, g < cp_n u 1 ∧ u 13 k = nI g ∧ u 0 g = o
noncomputable def cp_sbh (u : cp_M) (o y : Int32) : Nat → Nat
  | 0 => 0
  | n + 1 => cp_sbh u o y n + @ite Nat (u 0 n = o) (Classical.propDecidable _) (cp_times u (nI n) y) 0
theorem cp_sbh_t {u : cp_M} {o y : Int32} {n : Nat} (h : u 0 n = o) : cp_sbh u o y (n + 1) = cp_sbh u o y n + cp_times u (nI n) y := by
  show _ + @ite Nat _ (Classical.propDecidable _) _ _ = _
  rw [@if_pos _ (Classical.propDecidable _) h]
theorem cp_sbh_f {u : cp_M} {o y : Int32} {n : Nat} (h : ¬ u 0 n = o) : cp_sbh u o y (n + 1) = cp_sbh u o y n := by
  show _ + @ite Nat _ (Classical.propDecidable _) _ _ = _
  rw [@if_neg _ (Classical.propDecidable _) h]; rfl
theorem cp_i4 {g y : Nat} : nI g * 4 + nI y = nI (g * 4 + y) := by
  rw [show (4 : Int32) = nI 4 from rfl, pk_mul, nI_add]
theorem cp_4i {g y : Nat} : 4 * nI g + nI y = nI (g * 4 + y) := by
  rw [show (4 : Int32) = nI 4 from rfl, pk_mul, nI_add, Nat.mul_comm]
theorem cp_year_n {t : Nat} (h : t < 2 ^ 31) : cp_year (nI t) = nI (t / 365) := by
  unfold cp_year
  rw [show (365 : Int32) = nI 365 from rfl, pk_div h (by decide) (by decide)]
theorem cp_ll_end {st i : Nat} (h : st ≤ 64) (hi : i ≤ 8) (c : nI (st + i) - 1 < nI st) : i = 0 := by
  rcases i with _ | i
  · rfl
  · rw [show nI (st + (i + 1)) - 1 = nI (st + i) from nI_pred (st + i), nI_ltI (by omega) (by omega)] at c
    omega
theorem cp_ll_go {st i : Nat} (h : st ≤ 64) (hi : i ≤ 8) (c : ¬ nI (st + i) - 1 < nI st) : ∃ j, i = j + 1 := by
  rcases i with _ | i
  · refine absurd ?_ c
    rcases st with _ | st
    · decide
    · rw [show nI (st + 1 + 0) - 1 = nI st from nI_pred st, nI_ltI (by omega) (by omega)]
      omega
  · exact ⟨i, rfl⟩
theorem cp_sub1 (x : Int32) : x + (-1) = x - 1 := by rw [Int32.sub_eq_add_neg]
theorem cp_rng30 {x : Int32} (c : cp_bw x 1 30) : ∃ L : Nat, 1 ≤ L ∧ L ≤ 30 ∧ x = nI L := by
  obtain ⟨c1, c2⟩ := c
  have h1 := Int32.le_iff_toInt_le.mp c1
  have h2 := Int32.le_iff_toInt_le.mp c2
  have e1 : (1 : Int32).toInt = 1 := by decide
  have e30 : (30 : Int32).toInt = 30 := by decide
  have e2 : x.toNatClampNeg = x.toInt.toNat := rfl
  exact ⟨x.toNatClampNeg, by omega, by omega, (cp_nI_of (by omega)).symm⟩
theorem cp_isH {u : cp_M} {i N g : Nat} (h : cp_cn u i N) (hg : g < cp_n u i) : cp_bw (nI g) 0 (u 14 i - 1) := by
  obtain ⟨h1, h2, h3⟩ := h
  obtain ⟨k, hk⟩ : ∃ k, cp_n u i = k + 1 := ⟨cp_n u i - 1, by omega⟩
  rw [h1, hk]
  refine ⟨by rw [show (0 : Int32) = nI 0 from rfl, nI_leI (by omega) (by omega)]; omega, ?_⟩
  rw [nI_pred, nI_leI (by omega) (by omega)]
  omega
theorem cp_nIinj {a b : Nat} (ha : a < 2 ^ 31) (hb : b < 2 ^ 31) (h : nI a = nI b) : a = b := (nI_eq ha hb).mp h
