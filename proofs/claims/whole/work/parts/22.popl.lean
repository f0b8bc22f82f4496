theorem wb_tb (n : Nat) : (lN n).toBitVec = BitVec.ofNat 64 n := rfl
theorem wb_inj {a b : Int64} (h : a.toBitVec = b.toBitVec) : a = b := Int64.toBitVec_inj.mp h
theorem wb_tn {n : Nat} (h : n < 2 ^ 64) : (lN n).toBitVec.toNat = n := by rw [wb_tb, BitVec.toNat_ofNat, Nat.mod_eq_of_lt h]
theorem wb_of (x : Int64) : ∃ n, n < 2 ^ 64 ∧ x = lN n := ⟨x.toBitVec.toNat, x.toBitVec.isLt, wb_inj (by rw [wb_tb]; simp)⟩
theorem wb_of32 (x : Int32) : ∃ n, n < 2 ^ 32 ∧ x = nI n := ⟨x.toBitVec.toNat, x.toBitVec.isLt, Int32.toBitVec_inj.mp (by show _ = BitVec.ofNat 32 _; simp)⟩
theorem wb_c : ∀ k, k < 64 → ((nI k).toInt64 &&& 63) = lN k := by decide +kernel
theorem wb_cu : ∀ k, k < 64 → ((nI k).toInt64.toUInt64 &&& Int64.toUInt64 63) = UInt64.ofNat k := by decide +kernel
theorem wb_sm : ∀ k, k < 64 → (BitVec.ofNat 64 k).smod 64 = BitVec.ofNat 64 k := by decide +kernel
theorem wb_pw {a b : Nat} (h : a ≤ b) : 2 ^ b = 2 ^ a * 2 ^ (b - a) := by rw [← Nat.pow_add]; congr 1; omega
theorem wb_lt2 {a b : Nat} (h : a < b) : 2 ^ a < 2 ^ b := Nat.pow_lt_pow_right (by decide) h
theorem wb_mod (n : Nat) : lN n = lN (n % 2 ^ 64) := wb_inj (by rw [wb_tb, wb_tb]; apply BitVec.eq_of_toNat_eq; rw [BitVec.toNat_ofNat, BitVec.toNat_ofNat, Nat.mod_mod])
theorem wb_shr {n k : Nat} (hn : n < 2 ^ 64) (hk : k < 64) : ((lN n).toUInt64 >>> ((nI k).toInt64.toUInt64 &&& Int64.toUInt64 63)).toInt64 = lN (n / 2 ^ k) := by
  rw [wb_cu k hk]
  apply wb_inj
  apply BitVec.eq_of_toNat_eq
  show ((lN n).toUInt64 >>> UInt64.ofNat k).toNat = (BitVec.ofNat 64 _).toNat
  have h1 : (UInt64.ofNat k).toNat = k := by
    show (BitVec.ofNat 64 k).toNat = k
    rw [BitVec.toNat_ofNat, Nat.mod_eq_of_lt (by omega)]
  have h2 : (lN n).toUInt64.toNat = n := wb_tn hn
  rw [UInt64.toNat_shiftRight, h1, h2, Nat.mod_eq_of_lt hk, Nat.shiftRight_eq_div_pow, BitVec.toNat_ofNat, Nat.mod_eq_of_lt (Nat.lt_of_le_of_lt (Nat.div_le_self _ _) hn)]
theorem cp_ws8 (X : Nat) : cp_ws 8 X = 256 * (256 * (256 * (256 * (256 * (256 * (256 * (256 * 0 + cp_p8 (X / 256 / 256 / 256 / 256 / 256 / 256 / 256 % 256)) + cp_p8 (X / 256 / 256 / 256 / 256 / 256 / 256 % 256)) + cp_p8 (X / 256 / 256 / 256 / 256 / 256 % 256)) + cp_p8 (X / 256 / 256 / 256 / 256 % 256)) + cp_p8 (X / 256 / 256 / 256 % 256)) + cp_p8 (X / 256 / 256 % 256)) + cp_p8 (X / 256 % 256)) + cp_p8 (X % 256) := rfl
theorem cp_bq64b (X : Nat) : cp_bq X 64 = cp_p8 (X % 256) + (cp_p8 (X / 256 % 256) + (cp_p8 (X / 256 / 256 % 256) + (cp_p8 (X / 256 / 256 / 256 % 256) + (cp_p8 (X / 256 / 256 / 256 / 256 % 256) + (cp_p8 (X / 256 / 256 / 256 / 256 / 256 % 256) + (cp_p8 (X / 256 / 256 / 256 / 256 / 256 / 256 % 256) + (cp_p8 (X / 256 / 256 / 256 / 256 / 256 / 256 / 256 % 256) + 0))))))) := by
  rw [show 64 = 8 + (8 + (8 + (8 + (8 + (8 + (8 + (8 + 0))))))) from rfl, cp_bq_s, cp_bq_s, cp_bq_s, cp_bq_s, cp_bq_s, cp_bq_s, cp_bq_s, cp_bq_s, cp_bq0]
theorem cp_dv1 {w W a : Nat} (h : w = 256 * W + a) (ha : a ≤ 8) : w / 256 = W := by omega
theorem cp_dv2 {x Z m n : Nat} (h : x = 65536 * Z + 256 * m + n) (hm : m ≤ 16) (hn : n ≤ 16) : x / 65536 = Z := by omega
theorem cp_dv3 {y T R : Nat} (h : y = 4294967296 * T + R) (hR : R < 4294967296) : y / 4294967296 = T := by omega
theorem cp_md {k s : Nat} (h : s ≤ 64) : (256 * k + s) % 128 = s := by omega
theorem cp_lx {w W1 W2 W3 a b c : Nat} (hw : w = 256 * W1 + a) (h1 : W1 = 256 * W2 + b) (h2 : W2 = 256 * W3 + c) : w + W1 = 65536 * (W2 + W3) + 256 * (b + c) + (a + b) := by
  subst h2; subst h1; subst hw; omega
theorem cp_lz {W2 W3 W4 W5 c d e : Nat} (h2 : W2 = 256 * W3 + c) (h3 : W3 = 256 * W4 + d) (h4 : W4 = 256 * W5 + e) : W2 + W3 = 65536 * (W4 + W5) + (256 * (d + e) + (c + d)) := by
  subst h4; subst h3; subst h2; omega
theorem cp_ly {x Z U V m n r t q : Nat} (hx : x = 65536 * Z + 256 * m + n) (hZ : Z = 65536 * U + (256 * r + t)) (hU : U = 65536 * V + q) : x + Z = 4294967296 * (U + V) + (65536 * (q + (256 * r + t)) + (256 * r + t) + (256 * m + n)) := by
  subst hZ; subst hx; omega
theorem cp_bd {w W a n k : Nat} (h : w = 256 * W + a) (ha : a ≤ 8) (hW : W ≤ n) (hk : 256 * n + 8 ≤ k) : w ≤ k := by omega
theorem cp_ls {w W1 W2 W3 W4 W5 W6 a b c d e f g h : Nat} (hw : w = 256 * W1 + a) (h1 : W1 = 256 * W2 + b) (h2 : W2 = 256 * W3 + c) (h3 : W3 = 256 * W4 + d) (h4 : W4 = 256 * W5 + e) (h5 : W5 = 256 * W6 + f) (h6 : W6 = 256 * h + g) : w + W1 + (W2 + W3) + (W4 + W5 + (W6 + h)) = 256 * (W1 + W2 + W3 + W4 + W5 + W6 + h) + (a + (b + (c + (d + (e + (f + (g + (h + 0)))))))) := by
  have k : w + W1 + (W2 + W3) + (W4 + W5 + (W6 + h)) = (256 * W1 + a) + (256 * W2 + b) + ((256 * W3 + c) + (256 * W4 + d)) + ((256 * W5 + e) + (256 * W6 + f) + ((256 * h + g) + h)) := by rw [← hw, ← h1, ← h2, ← h3, ← h4, ← h5, ← h6]
  rw [k]
  clear k hw h1 h2 h3 h4 h5 h6
  omega
theorem cp_R32 {q r t m n : Nat} (hq : q ≤ 8000) (hr : r ≤ 16) (ht : t ≤ 16) (hm : m ≤ 16) (hn : n ≤ 16) : 65536 * (q + (256 * r + t)) + (256 * r + t) + (256 * m + n) < 4294967296 := by omega
theorem cp_q8 {e f g : Nat} (he : e ≤ 8) (hf : f ≤ 8) (hg : g ≤ 8) : 256 * (f + g) + (e + f) ≤ 8000 := by omega
theorem cp_s8 {a b c d e f g h : Nat} (ha : a ≤ 8) (hb : b ≤ 8) (hc : c ≤ 8) (hd : d ≤ 8) (he : e ≤ 8) (hf : f ≤ 8) (hg : g ≤ 8) (hh : h ≤ 8) : a + (b + (c + (d + (e + (f + (g + (h + 0))))))) ≤ 64 := by omega
theorem cp_fold8n (a b c d e f g h : Nat) (ha : a ≤ 8) (hb : b ≤ 8) (hc : c ≤ 8) (hd : d ≤ 8) (he : e ≤ 8) (hf : f ≤ 8) (hg : g ≤ 8) (hh : h ≤ 8) (w W1 W2 W3 W4 W5 W6 : Nat) (hw : w = 256 * W1 + a) (h1 : W1 = 256 * W2 + b) (h2 : W2 = 256 * W3 + c) (h3 : W3 = 256 * W4 + d) (h4 : W4 = 256 * W5 + e) (h5 : W5 = 256 * W6 + f) (h6 : W6 = 256 * h + g) :
    (w + w / 256 + (w + w / 256) / 65536 + (w + w / 256 + (w + w / 256) / 65536) / 4294967296) % 128 = a + (b + (c + (d + (e + (f + (g + (h + 0))))))) ∧ w < 2 ^ 60 := by
  have b6 : W6 ≤ 2056 := cp_bd h6 hg hh (by decide)
  have b5 : W5 ≤ 526344 := cp_bd h5 hf b6 (by decide)
  have b4 : W4 ≤ 134744072 := cp_bd h4 he b5 (by decide)
  have b3 : W3 ≤ 34494482440 := cp_bd h3 hd b4 (by decide)
  have b2 : W2 ≤ 8830587504648 := cp_bd h2 hc b3 (by decide)
  have b1 : W1 ≤ 2260630401189896 := cp_bd h1 hb b2 (by decide)
  have bw : w ≤ 578721382704613384 := cp_bd hw ha b1 (by decide)
  refine ⟨?_, Nat.lt_of_le_of_lt bw (by decide)⟩
  have hx := cp_lx hw h1 h2
  have hz := cp_lz h2 h3 h4
  have hu := cp_lz h4 h5 h6
  have hy := cp_ly hx hz hu
  rw [cp_dv1 hw ha, cp_dv2 hx (Nat.add_le_add hb hc) (Nat.add_le_add ha hb), cp_dv3 hy (cp_R32 (cp_q8 he hf hg) (Nat.add_le_add hd he) (Nat.add_le_add hc hd) (Nat.add_le_add hb hc) (Nat.add_le_add ha hb)), cp_ls hw h1 h2 h3 h4 h5 h6]
  exact cp_md (cp_s8 ha hb hc hd he hf hg hh)
theorem cp_fold8 (X : Nat) : (cp_ws 8 X + cp_ws 8 X / 256 + (cp_ws 8 X + cp_ws 8 X / 256) / 65536 + (cp_ws 8 X + cp_ws 8 X / 256 + (cp_ws 8 X + cp_ws 8 X / 256) / 65536) / 4294967296) % 128 = cp_bq X 64 ∧ cp_ws 8 X < 2 ^ 60 := by
  rw [cp_bq64b]
  exact cp_fold8n _ _ _ _ _ _ _ _ (cp_p8_le _) (cp_p8_le _) (cp_p8_le _) (cp_p8_le _) (cp_p8_le _) (cp_p8_le _) (cp_p8_le _) (cp_p8_le _) _ _ _ _ _ _ _ (cp_ws8 X) rfl rfl rfl rfl rfl (by rw [Nat.mul_zero, Nat.zero_add])
theorem cp_landL (a b : Nat) : lN a &&& lN b = lN (a &&& b) := by
  apply Int64.toBitVec_inj.mp
  rw [Int64.toBitVec_and]
  show BitVec.ofNat 64 a &&& BitVec.ofNat 64 b = BitVec.ofNat 64 (a &&& b)
  exact (BitVec.ofNat_and).symm
theorem cp_usL_n {n k : Nat} (hn : n < 2 ^ 64) (hk : k < 64) : cp_usL (lN n) (nI k) = lN (n / 2 ^ k) := wb_shr hn hk
theorem cp_swarL_pc {X : Nat} (hX : X < 2 ^ 64) : cp_swarL (lN X) = nI (cp_bq X 64) := by
  rw [← (cp_fold8 X).1]
  have hs := cp_sw_ws 8 X (by omega)
  have hW := (cp_fold8 X).2
  rw [← hs] at hW ⊢
  unfold cp_sw at hW ⊢
  have m1 : cp_mk8 85 8 = 6148914691236517205 := rfl
  have m2 : cp_mk8 51 8 = 3689348814741910323 := rfl
  have m3 : cp_mk8 15 8 = 1085102592571150095 := rfl
  have hA : cp_s1 8 X ≤ X := by unfold cp_s1; omega
  have e1 : lN X - (cp_usL (lN X) 1 &&& 6148914691236517205) = lN (cp_s1 8 X) := by
    rw [show (1 : Int32) = nI 1 from rfl, cp_usL_n hX (by decide), show (6148914691236517205 : Int64) = lN 6148914691236517205 from rfl, cp_landL, lN_sub (Nat.le_trans Nat.and_le_left (Nat.div_le_self _ _))]
    unfold cp_s1
    rw [m1]
  have hA2 : cp_s1 8 X < 2 ^ 64 := by omega
  generalize cp_s1 8 X = a at *
  have e2 : (lN a &&& 3689348814741910323) + (cp_usL (lN a) 2 &&& 3689348814741910323) = lN (cp_s2 8 a) := by
    rw [show (2 : Int32) = nI 2 from rfl, cp_usL_n hA2 (by decide), show (3689348814741910323 : Int64) = lN 3689348814741910323 from rfl, cp_landL, cp_landL, lN_add]
    unfold cp_s2
    rw [m2]
  have hB : cp_s2 8 a < 2 ^ 64 := by
    unfold cp_s2
    rw [m2]
    have q1 : (a &&& 3689348814741910323) ≤ 3689348814741910323 := Nat.and_le_right
    have q2 : (a / 4 &&& 3689348814741910323) ≤ 3689348814741910323 := Nat.and_le_right
    omega
  generalize cp_s2 8 a = b at *
  have e3 : (lN b + cp_usL (lN b) 4) &&& 1085102592571150095 = lN (cp_s3 8 b) := by
    rw [show (4 : Int32) = nI 4 from rfl, cp_usL_n hB (by decide), lN_add, show (1085102592571150095 : Int64) = lN 1085102592571150095 from rfl, cp_landL]
    unfold cp_s3
    rw [m3]
  generalize cp_s3 8 b = c at *
  have e4 : lN c + cp_usL (lN c) 8 = lN (c + c / 256) := by
    rw [show (8 : Int32) = nI 8 from rfl, cp_usL_n (by omega) (by decide), lN_add]
  have e5 : lN (c + c / 256) + cp_usL (lN (c + c / 256)) 16 = lN (c + c / 256 + (c + c / 256) / 65536) := by
    rw [show (16 : Int32) = nI 16 from rfl, cp_usL_n (by omega) (by decide), lN_add]
  have e6 : lN (c + c / 256 + (c + c / 256) / 65536) + cp_usL (lN (c + c / 256 + (c + c / 256) / 65536)) 32 = lN (c + c / 256 + (c + c / 256) / 65536 + (c + c / 256 + (c + c / 256) / 65536) / 4294967296) := by
    rw [show (32 : Int32) = nI 32 from rfl, cp_usL_n (by omega) (by decide), lN_add]
  generalize c + c / 256 + (c + c / 256) / 65536 + (c + c / 256 + (c + c / 256) / 65536) / 4294967296 = f at *
  have e7 : (lN f).toInt32 &&& 127 = nI (f % 128) := by
    rw [lN_i, show (127 : Int32) = nI 127 from rfl, cp_nand]
    congr 1
    exact Nat.and_two_pow_sub_one_eq_mod _ 7
  unfold cp_swarL
  simp only [e1, e2, e3, e4, e5, e6, e7]
theorem cp_cnt_cut (p : Nat → Prop) {n : Nat} : ∀ m, n ≤ m → cp_cnt (fun i => i < n ∧ p i) m = cp_cnt p n
  | 0, h => by
    obtain rfl : n = 0 := by omega
    rfl
  | m + 1, h => by
    rcases Nat.lt_or_ge m n with q | q
    · obtain rfl : n = m + 1 := by omega
      exact cp_cnt_c (fun k hk => ⟨fun z => z.2, fun z => ⟨hk, z⟩⟩)
    · rw [cp_cnt_f (p := fun i => i < n ∧ p i) (fun z => by omega)]
      exact cp_cnt_cut p m q
/-- the answer of end -/
theorem cp_end_cnt (u : cp_M) {n : Nat} (hn : n ≤ 64) : cp_swarL (cp_msk u n) = nI (cp_cnt (cp_lost u) n) := by
  obtain ⟨X, hX, e⟩ := wb_of (cp_msk u n)
  have hb : ∀ i, i < 64 → (X.testBit i = true ↔ i < n ∧ cp_lost u i) := fun i hi => by
    rw [← cp_msk_b u n hn i hi, e]
    show X.testBit i = true ↔ (BitVec.ofNat 64 X).getLsbD i = true
    rw [BitVec.getLsbD_ofNat]
    simp [hi]
  rw [e, cp_swarL_pc hX]
  congr 1
  unfold cp_bq
  rw [cp_cnt_c (q := fun i => i < n ∧ cp_lost u i) hb, cp_cnt_cut _ 64 hn]
