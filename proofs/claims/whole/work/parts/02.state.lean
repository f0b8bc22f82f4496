/-! What a state is: a memory u (rows 0 .. 13 the arrays, row 14 the whole numbers), a class's cells made of it, steps and calls over such worlds. -/
abbrev cp_M : Type := Nat → Nat → Int32
def cp_up (u : cp_M) (k : Nat) (f : Nat → Int32) : cp_M := fun a => if a = k then f else u a
theorem cp_up_s (u : cp_M) (k : Nat) (f : Nat → Int32) : cp_up u k f k = f := if_pos rfl
theorem cp_up_n (u : cp_M) {k a : Nat} (h : a ≠ k) (f : Nat → Int32) : cp_up u k f a = u a := if_neg h
noncomputable def cp_b (P : Prop) : Int32 := @ite Int32 P (Classical.propDecidable P) 1 0
theorem cp_bt {P : Prop} (h : P) : cp_b P = 1 := @if_pos P (Classical.propDecidable P) h Int32 1 0
theorem cp_bf {P : Prop} (h : ¬ P) : cp_b P = 0 := @if_neg P (Classical.propDecidable P) h Int32 1 0
theorem cp_b0 {P : Prop} : cp_b P = 0 ↔ ¬ P := by
  by_cases h : P
  · rw [cp_bt h]; exact ⟨fun e => absurd e (by decide), fun e => absurd h e⟩
  · rw [cp_bf h]; exact ⟨fun _ => h, fun _ => rfl⟩
theorem cp_bn (P : Prop) : narrow .boolean (.int (cp_b P)) = .int (cp_b P) := by
  by_cases h : P
  · rw [cp_bt h]; rfl
  · rw [cp_bf h]; rfl
theorem cp_bc {P Q : Prop} (h : P ↔ Q) : cp_b P = cp_b Q := by rw [propext h]
/-- a place of an array: i is the number j, which is below n -/
def cp_ix (i : Int32) (j n : Nat) : Prop := i.toNatClampNeg = j ∧ vp_in i n
theorem cp_ix_n {j n : Nat} (h : j < n) (hn : n < 2 ^ 31) : cp_ix (nI j) j n := ⟨nI_clamp (Nat.lt_trans h hn), vp_in_nI h hn⟩
theorem cp_ix_e {i : Int32} {j n : Nat} (e : i = nI j) (h : j < n) (hn : n < 2 ^ 31) : cp_ix i j n := by rw [e]; exact cp_ix_n h hn
theorem cp_ix_a {i : Int32} {n : Nat} (h0 : 0 ≤ i.toInt) (h1 : i.toInt < n) : cp_ix i i.toNatClampNeg n := ⟨rfl, vp_in_iff.mpr ⟨h0, h1⟩⟩
theorem cp_nI_of {i : Int32} (h0 : 0 ≤ i.toInt) : nI i.toNatClampNeg = i := by
  have h1 := Int32.toInt_lt i
  apply Int32.toInt_inj.mp
  have h2 : i.toNatClampNeg = i.toInt.toNat := rfl
  rw [nI_toInt (by omega)]
  omega
-- the class's cells
def cp_oX (a : Nat → Nat) (u : cp_M) : List Value := [.int (u 14 0), .int (u 14 1), .ref (a 0), .ref (a 1), .ref (a 2), .ref (a 3), .ref (a 4), .ref (a 5), .ref (a 6), .int (u 14 2), .ref (a 7), .ref (a 8), .ref (a 9), .ref (a 10), .int (u 14 3), .ref (a 11), .ref (a 12), .ref (a 13)]
def cp_wX (cI : ClassId) (h : Nat) (a : Nat → Nat) (u : cp_M) : va_W := [(h, .inr (0, cp_oX a u)), (a 0, .inl (cI, 16, .inl (u 0))), (a 1, .inl (cI, 16, .inl (u 1))), (a 2, .inl (cI, 16, .inl (u 2))), (a 3, .inl (cI, 16, .inl (u 3))), (a 4, .inl (cI, 16, .inl (u 4))), (a 5, .inl (cI, 16, .inl (u 5))), (a 6, .inl (cI, 64, .inl (u 6))), (a 7, .inl (cI, 40, .inl (u 7))), (a 8, .inl (cI, 40, .inl (u 8))), (a 9, .inl (cI, 40, .inl (u 9))), (a 10, .inl (cI, 40, .inl (u 10))), (a 11, .inl (cI, 40, .inl (u 11))), (a 12, .inl (cI, 40, .inl (u 12))), (a 13, .inl (cI, 40, .inl (u 13)))]
-- the reference's cells: row 4 is isAnew, row 5 known, 14 4 is thrown
def cp_oY (a : Nat → Nat) (u : cp_M) : List Value := [.int (u 14 4), .int (u 14 0), .int (u 14 1), .ref (a 0), .ref (a 1), .ref (a 2), .ref (a 3), .ref (a 6), .int (u 14 2), .ref (a 7), .ref (a 8), .ref (a 9), .ref (a 10), .ref (a 5), .int (u 14 3), .ref (a 11), .ref (a 12), .ref (a 13), .ref (a 4)]
def cp_wY (cI cZ : ClassId) (h : Nat) (a : Nat → Nat) (u : cp_M) : va_W := [(h, .inr (1, cp_oY a u)), (a 0, .inl (cI, 16, .inl (u 0))), (a 1, .inl (cI, 16, .inl (u 1))), (a 2, .inl (cI, 16, .inl (u 2))), (a 3, .inl (cI, 16, .inl (u 3))), (a 4, .inl (cZ, 40, .inl (u 4))), (a 5, .inl (cI, 4, .inl (u 5))), (a 6, .inl (cI, 64, .inl (u 6))), (a 7, .inl (cI, 40, .inl (u 7))), (a 8, .inl (cI, 40, .inl (u 8))), (a 9, .inl (cI, 40, .inl (u 9))), (a 10, .inl (cI, 40, .inl (u 10))), (a 11, .inl (cI, 40, .inl (u 11))), (a 12, .inl (cI, 40, .inl (u 12))), (a 13, .inl (cI, 40, .inl (u 13)))]
theorem cp_sX_0 (cI : ClassId) (h : Nat) (a : Nat → Nat) (u : cp_M) (f : Nat → Int32) : (cp_wX cI h a u).set 1 (a 0, .inl (cI, 16, .inl f)) = cp_wX cI h a (cp_up u 0 f) := rfl
theorem cp_aX_0 (cI : ClassId) (h : Nat) (a : Nat → Nat) (u : cp_M) : (cp_wX cI h a u)[1]? = some (a 0, .inl (cI, 16, .inl (u 0))) := rfl
theorem cp_sY_0 (cI cZ : ClassId) (h : Nat) (a : Nat → Nat) (u : cp_M) (f : Nat → Int32) : (cp_wY cI cZ h a u).set 1 (a 0, .inl (cI, 16, .inl f)) = cp_wY cI cZ h a (cp_up u 0 f) := rfl
theorem cp_aY_0 (cI cZ : ClassId) (h : Nat) (a : Nat → Nat) (u : cp_M) : (cp_wY cI cZ h a u)[1]? = some (a 0, .inl (cI, 16, .inl (u 0))) := rfl
theorem cp_sX_1 (cI : ClassId) (h : Nat) (a : Nat → Nat) (u : cp_M) (f : Nat → Int32) : (cp_wX cI h a u).set 2 (a 1, .inl (cI, 16, .inl f)) = cp_wX cI h a (cp_up u 1 f) := rfl
theorem cp_aX_1 (cI : ClassId) (h : Nat) (a : Nat → Nat) (u : cp_M) : (cp_wX cI h a u)[2]? = some (a 1, .inl (cI, 16, .inl (u 1))) := rfl
theorem cp_sY_1 (cI cZ : ClassId) (h : Nat) (a : Nat → Nat) (u : cp_M) (f : Nat → Int32) : (cp_wY cI cZ h a u).set 2 (a 1, .inl (cI, 16, .inl f)) = cp_wY cI cZ h a (cp_up u 1 f) := rfl
theorem cp_aY_1 (cI cZ : ClassId) (h : Nat) (a : Nat → Nat) (u : cp_M) : (cp_wY cI cZ h a u)[2]? = some (a 1, .inl (cI, 16, .inl (u 1))) := rfl
theorem cp_sX_2 (cI : ClassId) (h : Nat) (a : Nat → Nat) (u : cp_M) (f : Nat → Int32) : (cp_wX cI h a u).set 3 (a 2, .inl (cI, 16, .inl f)) = cp_wX cI h a (cp_up u 2 f) := rfl
theorem cp_aX_2 (cI : ClassId) (h : Nat) (a : Nat → Nat) (u : cp_M) : (cp_wX cI h a u)[3]? = some (a 2, .inl (cI, 16, .inl (u 2))) := rfl
theorem cp_sY_2 (cI cZ : ClassId) (h : Nat) (a : Nat → Nat) (u : cp_M) (f : Nat → Int32) : (cp_wY cI cZ h a u).set 3 (a 2, .inl (cI, 16, .inl f)) = cp_wY cI cZ h a (cp_up u 2 f) := rfl
theorem cp_aY_2 (cI cZ : ClassId) (h : Nat) (a : Nat → Nat) (u : cp_M) : (cp_wY cI cZ h a u)[3]? = some (a 2, .inl (cI, 16, .inl (u 2))) := rfl
theorem cp_sX_3 (cI : ClassId) (h : Nat) (a : Nat → Nat) (u : cp_M) (f : Nat → Int32) : (cp_wX cI h a u).set 4 (a 3, .inl (cI, 16, .inl f)) = cp_wX cI h a (cp_up u 3 f) := rfl
theorem cp_aX_3 (cI : ClassId) (h : Nat) (a : Nat → Nat) (u : cp_M) : (cp_wX cI h a u)[4]? = some (a 3, .inl (cI, 16, .inl (u 3))) := rfl
theorem cp_sY_3 (cI cZ : ClassId) (h : Nat) (a : Nat → Nat) (u : cp_M) (f : Nat → Int32) : (cp_wY cI cZ h a u).set 4 (a 3, .inl (cI, 16, .inl f)) = cp_wY cI cZ h a (cp_up u 3 f) := rfl
theorem cp_aY_3 (cI cZ : ClassId) (h : Nat) (a : Nat → Nat) (u : cp_M) : (cp_wY cI cZ h a u)[4]? = some (a 3, .inl (cI, 16, .inl (u 3))) := rfl
theorem cp_sX_4 (cI : ClassId) (h : Nat) (a : Nat → Nat) (u : cp_M) (f : Nat → Int32) : (cp_wX cI h a u).set 5 (a 4, .inl (cI, 16, .inl f)) = cp_wX cI h a (cp_up u 4 f) := rfl
theorem cp_aX_4 (cI : ClassId) (h : Nat) (a : Nat → Nat) (u : cp_M) : (cp_wX cI h a u)[5]? = some (a 4, .inl (cI, 16, .inl (u 4))) := rfl
theorem cp_sY_4 (cI cZ : ClassId) (h : Nat) (a : Nat → Nat) (u : cp_M) (f : Nat → Int32) : (cp_wY cI cZ h a u).set 5 (a 4, .inl (cZ, 40, .inl f)) = cp_wY cI cZ h a (cp_up u 4 f) := rfl
theorem cp_aY_4 (cI cZ : ClassId) (h : Nat) (a : Nat → Nat) (u : cp_M) : (cp_wY cI cZ h a u)[5]? = some (a 4, .inl (cZ, 40, .inl (u 4))) := rfl
theorem cp_sX_5 (cI : ClassId) (h : Nat) (a : Nat → Nat) (u : cp_M) (f : Nat → Int32) : (cp_wX cI h a u).set 6 (a 5, .inl (cI, 16, .inl f)) = cp_wX cI h a (cp_up u 5 f) := rfl
theorem cp_aX_5 (cI : ClassId) (h : Nat) (a : Nat → Nat) (u : cp_M) : (cp_wX cI h a u)[6]? = some (a 5, .inl (cI, 16, .inl (u 5))) := rfl
theorem cp_sY_5 (cI cZ : ClassId) (h : Nat) (a : Nat → Nat) (u : cp_M) (f : Nat → Int32) : (cp_wY cI cZ h a u).set 6 (a 5, .inl (cI, 4, .inl f)) = cp_wY cI cZ h a (cp_up u 5 f) := rfl
theorem cp_aY_5 (cI cZ : ClassId) (h : Nat) (a : Nat → Nat) (u : cp_M) : (cp_wY cI cZ h a u)[6]? = some (a 5, .inl (cI, 4, .inl (u 5))) := rfl
theorem cp_sX_6 (cI : ClassId) (h : Nat) (a : Nat → Nat) (u : cp_M) (f : Nat → Int32) : (cp_wX cI h a u).set 7 (a 6, .inl (cI, 64, .inl f)) = cp_wX cI h a (cp_up u 6 f) := rfl
theorem cp_aX_6 (cI : ClassId) (h : Nat) (a : Nat → Nat) (u : cp_M) : (cp_wX cI h a u)[7]? = some (a 6, .inl (cI, 64, .inl (u 6))) := rfl
theorem cp_sY_6 (cI cZ : ClassId) (h : Nat) (a : Nat → Nat) (u : cp_M) (f : Nat → Int32) : (cp_wY cI cZ h a u).set 7 (a 6, .inl (cI, 64, .inl f)) = cp_wY cI cZ h a (cp_up u 6 f) := rfl
theorem cp_aY_6 (cI cZ : ClassId) (h : Nat) (a : Nat → Nat) (u : cp_M) : (cp_wY cI cZ h a u)[7]? = some (a 6, .inl (cI, 64, .inl (u 6))) := rfl
theorem cp_sX_7 (cI : ClassId) (h : Nat) (a : Nat → Nat) (u : cp_M) (f : Nat → Int32) : (cp_wX cI h a u).set 8 (a 7, .inl (cI, 40, .inl f)) = cp_wX cI h a (cp_up u 7 f) := rfl
theorem cp_aX_7 (cI : ClassId) (h : Nat) (a : Nat → Nat) (u : cp_M) : (cp_wX cI h a u)[8]? = some (a 7, .inl (cI, 40, .inl (u 7))) := rfl
theorem cp_sY_7 (cI cZ : ClassId) (h : Nat) (a : Nat → Nat) (u : cp_M) (f : Nat → Int32) : (cp_wY cI cZ h a u).set 8 (a 7, .inl (cI, 40, .inl f)) = cp_wY cI cZ h a (cp_up u 7 f) := rfl
theorem cp_aY_7 (cI cZ : ClassId) (h : Nat) (a : Nat → Nat) (u : cp_M) : (cp_wY cI cZ h a u)[8]? = some (a 7, .inl (cI, 40, .inl (u 7))) := rfl
theorem cp_sX_8 (cI : ClassId) (h : Nat) (a : Nat → Nat) (u : cp_M) (f : Nat → Int32) : (cp_wX cI h a u).set 9 (a 8, .inl (cI, 40, .inl f)) = cp_wX cI h a (cp_up u 8 f) := rfl
theorem cp_aX_8 (cI : ClassId) (h : Nat) (a : Nat → Nat) (u : cp_M) : (cp_wX cI h a u)[9]? = some (a 8, .inl (cI, 40, .inl (u 8))) := rfl
theorem cp_sY_8 (cI cZ : ClassId) (h : Nat) (a : Nat → Nat) (u : cp_M) (f : Nat → Int32) : (cp_wY cI cZ h a u).set 9 (a 8, .inl (cI, 40, .inl f)) = cp_wY cI cZ h a (cp_up u 8 f) := rfl
theorem cp_aY_8 (cI cZ : ClassId) (h : Nat) (a : Nat → Nat) (u : cp_M) : (cp_wY cI cZ h a u)[9]? = some (a 8, .inl (cI, 40, .inl (u 8))) := rfl
theorem cp_sX_9 (cI : ClassId) (h : Nat) (a : Nat → Nat) (u : cp_M) (f : Nat → Int32) : (cp_wX cI h a u).set 10 (a 9, .inl (cI, 40, .inl f)) = cp_wX cI h a (cp_up u 9 f) := rfl
theorem cp_aX_9 (cI : ClassId) (h : Nat) (a : Nat → Nat) (u : cp_M) : (cp_wX cI h a u)[10]? = some (a 9, .inl (cI, 40, .inl (u 9))) := rfl
theorem cp_sY_9 (cI cZ : ClassId) (h : Nat) (a : Nat → Nat) (u : cp_M) (f : Nat → Int32) : (cp_wY cI cZ h a u).set 10 (a 9, .inl (cI, 40, .inl f)) = cp_wY cI cZ h a (cp_up u 9 f) := rfl
theorem cp_aY_9 (cI cZ : ClassId) (h : Nat) (a : Nat → Nat) (u : cp_M) : (cp_wY cI cZ h a u)[10]? = some (a 9, .inl (cI, 40, .inl (u 9))) := rfl
theorem cp_sX_10 (cI : ClassId) (h : Nat) (a : Nat → Nat) (u : cp_M) (f : Nat → Int32) : (cp_wX cI h a u).set 11 (a 10, .inl (cI, 40, .inl f)) = cp_wX cI h a (cp_up u 10 f) := rfl
theorem cp_aX_10 (cI : ClassId) (h : Nat) (a : Nat → Nat) (u : cp_M) : (cp_wX cI h a u)[11]? = some (a 10, .inl (cI, 40, .inl (u 10))) := rfl
theorem cp_sY_10 (cI cZ : ClassId) (h : Nat) (a : Nat → Nat) (u : cp_M) (f : Nat → Int32) : (cp_wY cI cZ h a u).set 11 (a 10, .inl (cI, 40, .inl f)) = cp_wY cI cZ h a (cp_up u 10 f) := rfl
theorem cp_aY_10 (cI cZ : ClassId) (h : Nat) (a : Nat → Nat) (u : cp_M) : (cp_wY cI cZ h a u)[11]? = some (a 10, .inl (cI, 40, .inl (u 10))) := rfl
theorem cp_sX_11 (cI : ClassId) (h : Nat) (a : Nat → Nat) (u : cp_M) (f : Nat → Int32) : (cp_wX cI h a u).set 12 (a 11, .inl (cI, 40, .inl f)) = cp_wX cI h a (cp_up u 11 f) := rfl
theorem cp_aX_11 (cI : ClassId) (h : Nat) (a : Nat → Nat) (u : cp_M) : (cp_wX cI h a u)[12]? = some (a 11, .inl (cI, 40, .inl (u 11))) := rfl
theorem cp_sY_11 (cI cZ : ClassId) (h : Nat) (a : Nat → Nat) (u : cp_M) (f : Nat → Int32) : (cp_wY cI cZ h a u).set 12 (a 11, .inl (cI, 40, .inl f)) = cp_wY cI cZ h a (cp_up u 11 f) := rfl
theorem cp_aY_11 (cI cZ : ClassId) (h : Nat) (a : Nat → Nat) (u : cp_M) : (cp_wY cI cZ h a u)[12]? = some (a 11, .inl (cI, 40, .inl (u 11))) := rfl
theorem cp_sX_12 (cI : ClassId) (h : Nat) (a : Nat → Nat) (u : cp_M) (f : Nat → Int32) : (cp_wX cI h a u).set 13 (a 12, .inl (cI, 40, .inl f)) = cp_wX cI h a (cp_up u 12 f) := rfl
theorem cp_aX_12 (cI : ClassId) (h : Nat) (a : Nat → Nat) (u : cp_M) : (cp_wX cI h a u)[13]? = some (a 12, .inl (cI, 40, .inl (u 12))) := rfl
theorem cp_sY_12 (cI cZ : ClassId) (h : Nat) (a : Nat → Nat) (u : cp_M) (f : Nat → Int32) : (cp_wY cI cZ h a u).set 13 (a 12, .inl (cI, 40, .inl f)) = cp_wY cI cZ h a (cp_up u 12 f) := rfl
theorem cp_aY_12 (cI cZ : ClassId) (h : Nat) (a : Nat → Nat) (u : cp_M) : (cp_wY cI cZ h a u)[13]? = some (a 12, .inl (cI, 40, .inl (u 12))) := rfl
theorem cp_sX_13 (cI : ClassId) (h : Nat) (a : Nat → Nat) (u : cp_M) (f : Nat → Int32) : (cp_wX cI h a u).set 14 (a 13, .inl (cI, 40, .inl f)) = cp_wX cI h a (cp_up u 13 f) := rfl
theorem cp_aX_13 (cI : ClassId) (h : Nat) (a : Nat → Nat) (u : cp_M) : (cp_wX cI h a u)[14]? = some (a 13, .inl (cI, 40, .inl (u 13))) := rfl
theorem cp_sY_13 (cI cZ : ClassId) (h : Nat) (a : Nat → Nat) (u : cp_M) (f : Nat → Int32) : (cp_wY cI cZ h a u).set 14 (a 13, .inl (cI, 40, .inl f)) = cp_wY cI cZ h a (cp_up u 13 f) := rfl
theorem cp_aY_13 (cI cZ : ClassId) (h : Nat) (a : Nat → Nat) (u : cp_M) : (cp_wY cI cZ h a u)[14]? = some (a 13, .inl (cI, 40, .inl (u 13))) := rfl
theorem cp_hX (cI : ClassId) (h : Nat) (a : Nat → Nat) (u : cp_M) : (cp_wX cI h a u)[0]? = some (h, .inr (0, cp_oX a u)) := rfl
theorem cp_hY (cI cZ : ClassId) (h : Nat) (a : Nat → Nat) (u : cp_M) : (cp_wY cI cZ h a u)[0]? = some (h, .inr (1, cp_oY a u)) := rfl
theorem cp_iX_0 (cI : ClassId) (h : Nat) (a : Nat → Nat) (u : cp_M) (v : Int32) : (cp_wX cI h a u).set 0 (h, .inr (0, (cp_oX a u).set 0 (.int v))) = cp_wX cI h a (cp_up u 14 (upd (u 14) 0 v)) := rfl
theorem cp_iX_1 (cI : ClassId) (h : Nat) (a : Nat → Nat) (u : cp_M) (v : Int32) : (cp_wX cI h a u).set 0 (h, .inr (0, (cp_oX a u).set 1 (.int v))) = cp_wX cI h a (cp_up u 14 (upd (u 14) 1 v)) := rfl
theorem cp_iX_2 (cI : ClassId) (h : Nat) (a : Nat → Nat) (u : cp_M) (v : Int32) : (cp_wX cI h a u).set 0 (h, .inr (0, (cp_oX a u).set 9 (.int v))) = cp_wX cI h a (cp_up u 14 (upd (u 14) 2 v)) := rfl
theorem cp_iX_3 (cI : ClassId) (h : Nat) (a : Nat → Nat) (u : cp_M) (v : Int32) : (cp_wX cI h a u).set 0 (h, .inr (0, (cp_oX a u).set 14 (.int v))) = cp_wX cI h a (cp_up u 14 (upd (u 14) 3 v)) := rfl
theorem cp_iY_0 (cI cZ : ClassId) (h : Nat) (a : Nat → Nat) (u : cp_M) (v : Int32) : (cp_wY cI cZ h a u).set 0 (h, .inr (1, (cp_oY a u).set 1 (.int v))) = cp_wY cI cZ h a (cp_up u 14 (upd (u 14) 0 v)) := rfl
theorem cp_iY_1 (cI cZ : ClassId) (h : Nat) (a : Nat → Nat) (u : cp_M) (v : Int32) : (cp_wY cI cZ h a u).set 0 (h, .inr (1, (cp_oY a u).set 2 (.int v))) = cp_wY cI cZ h a (cp_up u 14 (upd (u 14) 1 v)) := rfl
theorem cp_iY_2 (cI cZ : ClassId) (h : Nat) (a : Nat → Nat) (u : cp_M) (v : Int32) : (cp_wY cI cZ h a u).set 0 (h, .inr (1, (cp_oY a u).set 8 (.int v))) = cp_wY cI cZ h a (cp_up u 14 (upd (u 14) 2 v)) := rfl
theorem cp_iY_3 (cI cZ : ClassId) (h : Nat) (a : Nat → Nat) (u : cp_M) (v : Int32) : (cp_wY cI cZ h a u).set 0 (h, .inr (1, (cp_oY a u).set 14 (.int v))) = cp_wY cI cZ h a (cp_up u 14 (upd (u 14) 3 v)) := rfl
theorem cp_iY_4 (cI cZ : ClassId) (h : Nat) (a : Nat → Nat) (u : cp_M) (v : Int32) : (cp_wY cI cZ h a u).set 0 (h, .inr (1, (cp_oY a u).set 0 (.int v))) = cp_wY cI cZ h a (cp_up u 14 (upd (u 14) 4 v)) := rfl
/-- the world's cells are there, apart, and what else was there is as it was -/
def cp_I (D : va_G) (w : va_W) (A : Nat → Prop) (H0 H : Heap) (locs : List Loc) : Prop := va_P D vwCl w H ∧ va_D A w ∧ va_S A H0 H locs
def cp_pre (D : va_G) (tys : List (ClassId × FieldType)) (w : va_W) (sz : Nat) : State → Prop := fun U => U.heap.size = sz ∧ va_P D vwCl w U.heap ∧ va_K D vwCl tys U ∧ va_D (fun _ => True) w
def cp_at (D : va_G) (tys : List (ClassId × FieldType)) (A : Nat → Prop) (w : cp_M → va_W) (u : cp_M) (t : State) : Prop := va_P D vwCl (w u) t.heap ∧ va_K D vwCl tys t ∧ va_D A (w u)
/-- what a method's walk knows of its start -/
def cp_C (p : Program) (s : State) (m : MethodId) (args : Array Value) (meth : Method) (c : Code) (cc : ByteArray) (nL : Nat) (Ts : List Cond) (ret : Option FieldType) (own : String) : Prop :=
  p.tables.exec = Jvm.exec ∧ c.code = cc ∧ c.maxLocals = nL ∧ s.vm.findClass own = some m.cls ∧ (∀ w ∈ Ts, w.before args s = true) ∧ meth.sig.returnType = ret ∧ meth.locks = false
theorem cp_blind (D : va_G) (tys : List (ClassId × FieldType)) (w : va_W) (sz : Nat) (As : List Value) : FrameBlind (va_Pc As (cp_pre D tys w sz)) := fun a U g mk q => by
  obtain ⟨q0, q1, qP, qK, qD⟩ := q
  exact ⟨q0, q1, qP, va_K.moved (u := U) (U := U.calling g mk a) (Vm.Alike.refl U.vm) qK, qD⟩
theorem cp_MetI {l : Launch} {y : MethodName} {ws ws' : List Cond} {rm : Room} {cc : ByteArray} {maxL mc ms : Nat} {ret : Option FieldType} {As : List Value} {D : va_G} {tys : List (ClassId × FieldType)} {w0 : va_W} {Qk : (Nat → Prop) → Array Value → State → Outcome → State → Prop}
    (hy : plainName y.cls = true) (hw : ws = Cond.code y cc maxL ret :: ws') (hnL : (lg_sl As).length ≤ maxL)
    (body : ∀ (p : Program) (e : Env) (s : State) (m : MethodId) (args : Array Value) (below : List Frame) (meth : Method) (c : Code) (A : Nat → Prop), cp_C p s m args meth c cc maxL ws ret y.cls → (∀ q, s.heap.size ≤ q → A q) → va_K D vwCl tys s → cp_I D w0 A s.heap s.heap [] →
      ∀ ls, lv_has ls maxL (lv_args 0 As) → W p l e rm s m args below meth c s.heap [] 0 0 (MQ below (Qk A) args s mc ms A) (F0 m 0 ls [])) (sz : Nat) : Met l y ws rm (va_Pc As (cp_pre D tys w0 sz)) (Qk (va_A w0 sz)) mc ms (va_A w0 sz) := by
  refine Met.ofW (cc := cc) (maxL := maxL) (ret := ret) hy hw ?_
  intro p e s m args below meth c s₁ B hml hv
  obtain ⟨rfl, hsz, hP, hK, hD0⟩ := hv
  subst hsz
  have hts := atoms_spec (ws := ws) B.pre
  have hl := lv_entry As (n := maxL) hnL
  rw [lg_entry_eq]
  exact body p e s m _ below meth c (va_A w0 s.heap.size) ⟨B.exec, B.bytes, hml, findClass_of_methodNamed B.named, hts, B.returns, B.notSynchronized⟩ (fun q h => Or.inr h) hK ⟨hP, hD0.self, va_S.rf⟩ _ hl
section CPS
variable {p : Program} {l : Launch} {e : Env} {R : Room} {s : State} {m : MethodId} {args : Array Value} {below : List Frame} {meth : Method} {c : Code} {H : Heap} {locs : List Loc} {cells slots : Nat} {Q : State → Prop}
variable {cc : ByteArray} {pc : Nat} {ls : Array Slot} {rest : List Value} {D : va_G} {A : Nat → Prop} {a : Nat} {tys : List (ClassId × FieldType)} {w : va_W} {H0 : Heap} {wf : cp_M → va_W} {u : cp_M}
theorem cp_reti {post : Int32 → cp_M → Prop} {v : Int32} (hx : p.tables.exec = Jvm.exec) (hb : c.code = cc) (hr : meth.sig.returnType = some .int) (hlocks : meth.locks = false) (hK : va_K D vwCl tys s) (hI : cp_I D (wf u) A s.heap H locs) (hp : post v u) (hdg : decode cc pc = .ok (.ireturn, 1)) :
    W p l e R s m args below meth c H locs cells slots (MQ below (va_Qi post (cp_at D tys A wf) A) args s cells slots A) (F0 m pc ls [.int v]) :=
  W.iret hx hb hr (fun t ht hW => ⟨⟨v, u, rfl, hp, by rw [ht]; exact hI.1, va_K.moved hW.alike hK, hI.2.1⟩, hI.2.2.F ht⟩) hI.2.2.2.2 hdg hlocks
theorem cp_retz {post : Int32 → cp_M → Prop} {v : Int32} (hx : p.tables.exec = Jvm.exec) (hb : c.code = cc) (hr : meth.sig.returnType = some .boolean) (hlocks : meth.locks = false) (hK : va_K D vwCl tys s) (hI : cp_I D (wf u) A s.heap H locs) (hn : narrow .boolean (.int v) = .int v) (hp : post v u) (hdg : decode cc pc = .ok (.ireturn, 1)) :
    W p l e R s m args below meth c H locs cells slots (MQ below (va_Qi post (cp_at D tys A wf) A) args s cells slots A) (F0 m pc ls [.int v]) :=
  W.zret hx hb hr hn (fun t ht hW => ⟨⟨v, u, rfl, hp, by rw [ht]; exact hI.1, va_K.moved hW.alike hK, hI.2.1⟩, hI.2.2.F ht⟩) hI.2.2.2.2 hdg hlocks
theorem cp_retl {post : Int64 → cp_M → Prop} {v : Int64} (hx : p.tables.exec = Jvm.exec) (hb : c.code = cc) (hr : meth.sig.returnType = some .long) (hlocks : meth.locks = false) (hK : va_K D vwCl tys s) (hI : cp_I D (wf u) A s.heap H locs) (hp : post v u) (hdg : decode cc pc = .ok (.lreturn, 1)) :
    W p l e R s m args below meth c H locs cells slots (MQ below (va_Ql post (cp_at D tys A wf) A) args s cells slots A) (F0 m pc ls [.long v]) :=
  W.lret hx hb hr (fun t ht hW => ⟨⟨v, u, rfl, hp, by rw [ht]; exact hI.1, va_K.moved hW.alike hK, hI.2.1⟩, hI.2.2.F ht⟩) hI.2.2.2.2 hdg hlocks
theorem cp_retv {post : cp_M → Prop} (hx : p.tables.exec = Jvm.exec) (hb : c.code = cc) (hr : meth.sig.returnType = none) (hlocks : meth.locks = false) (hK : va_K D vwCl tys s) (hI : cp_I D (wf u) A s.heap H locs) (hp : post u) (hdg : decode cc pc = .ok (.return_, 1)) :
    W p l e R s m args below meth c H locs cells slots (MQ below (va_Qv post (cp_at D tys A wf) A) args s cells slots A) (F0 m pc ls []) :=
  W.vret hx hb hr (fun t ht hW => ⟨⟨u, rfl, hp, by rw [ht]; exact hI.1, va_K.moved hW.alike hK, hI.2.1⟩, hI.2.2.F ht⟩) hI.2.2.2.2 hdg hlocks
theorem cp_iald (hx : p.tables.exec = Jvm.exec) (hb : c.code = cc) (hK : va_K D vwCl tys s) (hI : cp_I D w A H0 H locs) {q0 : Nat} (t0 : Nat) {cA : ClassId} {n : Nat} {f : Nat → Int32} (ha : w[q0]? = some (a, .inl (cA, n, .inl f))) (ht : tys[t0]? = some (cA, .int)) {i : Int32} {j : Nat} (hij : cp_ix i j n) (hdg : decode cc pc = .ok (.iaload, 1))
    (kk : W p l e R s m args below meth c H locs cells slots Q (F0 m (pc + 1) ls (.int (f j) :: rest))) : W p l e R s m args below meth c H locs cells slots Q (F0 m pc ls (.int i :: .ref a :: rest)) := by
  obtain ⟨rfl, hin⟩ := hij
  exact va_iald hx hb hK hI.1 q0 t0 ha ht hin hdg kk
theorem cp_zald (hx : p.tables.exec = Jvm.exec) (hb : c.code = cc) (hK : va_K D vwCl tys s) (hI : cp_I D w A H0 H locs) {q0 : Nat} (t0 : Nat) {cA : ClassId} {n : Nat} {f : Nat → Int32} (ha : w[q0]? = some (a, .inl (cA, n, .inl f))) (ht : tys[t0]? = some (cA, .boolean)) {i : Int32} {j : Nat} (hij : cp_ix i j n) (hdg : decode cc pc = .ok (.baload, 1))
    (kk : W p l e R s m args below meth c H locs cells slots Q (F0 m (pc + 1) ls (.int (f j) :: rest))) : W p l e R s m args below meth c H locs cells slots Q (F0 m pc ls (.int i :: .ref a :: rest)) := by
  obtain ⟨rfl, hin⟩ := hij
  exact va_zald hx hb hK hI.1 q0 t0 ha ht hin hdg kk
theorem cp_iast (hx : p.tables.exec = Jvm.exec) (hb : c.code = cc) (hK : va_K D vwCl tys s) (hI : cp_I D w A H0 H locs) {q0 : Nat} (t0 : Nat) {cA : ClassId} {n : Nat} {f : Nat → Int32} (ha : w[q0]? = some (a, .inl (cA, n, .inl f))) (ht : tys[t0]? = some (cA, .int)) {i : Int32} {j : Nat} (hij : cp_ix i j n) {x : Int32} (hdg : decode cc pc = .ok (.iastore, 1)) {w' : va_W} (hw : w.set q0 (a, .inl (cA, n, .inl (upd f j x))) = w')
    (kk : ∀ (H1 : Heap) (locs1 : List Loc), cp_I D w' A H0 H1 locs1 → W p l e R s m args below meth c H1 locs1 cells slots Q (F0 m (pc + 1) ls rest)) : W p l e R s m args below meth c H locs cells slots Q (F0 m pc ls (.int x :: .int i :: .ref a :: rest)) := by
  obtain ⟨rfl, hin⟩ := hij
  subst hw
  exact va_iast hx hb hK hI.1 hI.2.1 hI.2.2 q0 t0 ha ht hin hdg (fun H1 locs1 h1 h2 h3 => kk H1 locs1 ⟨h1, h2, h3⟩)
theorem cp_zast (hx : p.tables.exec = Jvm.exec) (hb : c.code = cc) (hK : va_K D vwCl tys s) (hI : cp_I D w A H0 H locs) {q0 : Nat} (t0 : Nat) {cA : ClassId} {n : Nat} {f : Nat → Int32} (ha : w[q0]? = some (a, .inl (cA, n, .inl f))) (ht : tys[t0]? = some (cA, .boolean)) {i : Int32} {j : Nat} (hij : cp_ix i j n) {x y : Int32} (hy : vp_nar .boolean x = y) (hdg : decode cc pc = .ok (.bastore, 1)) {w' : va_W} (hw : w.set q0 (a, .inl (cA, n, .inl (upd f j y))) = w')
    (kk : ∀ (H1 : Heap) (locs1 : List Loc), cp_I D w' A H0 H1 locs1 → W p l e R s m args below meth c H1 locs1 cells slots Q (F0 m (pc + 1) ls rest)) : W p l e R s m args below meth c H locs cells slots Q (F0 m pc ls (.int x :: .int i :: .ref a :: rest)) := by
  obtain ⟨rfl, hin⟩ := hij
  subst hy
  subst hw
  exact va_zast hx hb hK hI.1 hI.2.1 hI.2.2 q0 t0 ha ht hin hdg (fun H1 locs1 h1 h2 h3 => kk H1 locs1 ⟨h1, h2, h3⟩)
theorem cp_get {Ts : List Cond} {own ref C : String} {T : u_T} {N ci index : Nat} (hx : p.tables.exec = Jvm.exec) (hb : c.code = cc) (hts : ∀ w ∈ Ts, w.before args s = true) (hin : ∀ w ∈ u_ws C T N, w ∈ Ts) (hown : s.vm.findClass own = some m.cls) (hK : va_K D vwCl tys s) (hI : cp_I D w A H0 H locs) {q0 : Nat} {fs : List Value} (he : w[q0]? = some (a, .inr (ci, fs))) (hc : vwCl[ci]? = some (C, T, N)) (k : Nat) (hk : k < N) (hlink : (Cond.fieldLink own index ref (T k).2.1 (T k).2.2.1) ∈ Ts) (href : (T k).1 = ref) {v : Value} (hv : fs[k]? = some v) (hdg : decode cc pc = .ok (.getfield index, 3))
    (kk : W p l e R s m args below meth c H locs cells slots Q (F0 m (pc + 3) ls (v :: rest))) : W p l e R s m args below meth c H locs cells slots Q (F0 m pc ls (.ref a :: rest)) := by
  subst href
  exact va_get hx hb hts hin hown hK hI.1 q0 he hc k hk (hts _ hlink) (fun _ h9 => h9) hv hdg kk
theorem cp_puti {Ts : List Cond} {own ref C : String} {T : u_T} {N ci index : Nat} (hx : p.tables.exec = Jvm.exec) (hb : c.code = cc) (hts : ∀ w ∈ Ts, w.before args s = true) (hin : ∀ w ∈ u_ws C T N, w ∈ Ts) (ty0 : Nat → FieldType) (hty : ∀ k, k < N → parseFieldDescriptor (T k).2.2.1 = some (ty0 k)) (hnm : ∀ a, a < N → ∀ b, b < N → a ≠ b → (T a).2.1 ≠ (T b).2.1) (hown : s.vm.findClass own = some m.cls) (hK : va_K D vwCl tys s) (hI : cp_I D w A H0 H locs) {q0 : Nat} {fs : List Value} (he : w[q0]? = some (a, .inr (ci, fs))) (hc : vwCl[ci]? = some (C, T, N)) (k : Nat) (hk : k < N) (hlink : (Cond.fieldLink own index ref (T k).2.1 (T k).2.2.1) ∈ Ts) (href : (T k).1 = ref) (hfin : (T k).2.2.2 = false) (hd : parseFieldDescriptor (T k).2.2.1 = some .int) (hl : k < fs.length) {x : Int32}
    (hdg : decode cc pc = .ok (.putfield index, 3)) {w' : va_W} (hw : w.set q0 (a, .inr (ci, fs.set k (.int x))) = w') (kk : ∀ (H1 : Heap) (locs1 : List Loc), cp_I D w' A H0 H1 locs1 → W p l e R s m args below meth c H1 locs1 cells slots Q (F0 m (pc + 3) ls rest)) : W p l e R s m args below meth c H locs cells slots Q (F0 m pc ls (.int x :: .ref a :: rest)) := by
  subst hw
  subst href
  exact va_put hx hb hts hin ty0 hty hnm hown hK hI.1 hI.2.1 hI.2.2 q0 he hc k hk (hts _ hlink) (fun _ h9 => h9) hfin hd rfl rfl hl hdg (fun H1 locs1 h1 h2 h3 => kk H1 locs1 ⟨h1, h2, h3⟩)
/-- behind a call whose world is the first part of ours -/
theorem cp_behind {wc wr w1 : va_W} {locs1 : List Loc} {H1 : Heap} (hI : cp_I D (wc ++ wr) A H0 H locs) (hA : ∀ q, H0.size ≤ q → A q) (hP1 : va_P D vwCl w1 H1) (hD1 : va_D (va_A wc H.size) w1) (hk : ∀ q : Nat, q < H.size → ¬ va_A wc H.size q → H1[q]? = H[q]?) (hS : va_S A H0 H1 locs1) : cp_I D (w1 ++ wr) A H0 H1 locs1 := by
  obtain ⟨hP, hD, hS0⟩ := hI
  have hF : ∀ q, va_A wc H.size q → A q := fun q h => by
    rcases h with ⟨k, e, h⟩ | h
    · exact hD.2 k (q, e) (by rw [List.getElem?_append_left (List.getElem?_eq_some_iff.mp h).1]; exact h)
    · exact hA q (Nat.le_trans hS0.1 h)
  have hPr : ∀ (k : Nat) (q : Nat × va_E), wr[k]? = some q → (wc ++ wr)[wc.length + k]? = some q := fun k q h => by
    rw [List.getElem?_append_right (Nat.le_add_right _ _), Nat.add_sub_cancel_left]
    exact h
  have hout : ∀ (k : Nat) (q : Nat × va_E), wr[k]? = some q → q.1 < H.size ∧ ¬ va_A wc H.size q.1 := fun k q h => by
    have hlt : q.1 < H.size := (hP _ q (hPr k q h)).lt
    refine ⟨hlt, ?_⟩
    rintro (⟨j, e9, h2⟩ | h2)
    · have hj := (List.getElem?_eq_some_iff.mp h2).1
      have := hD.1 j (wc.length + k) (q.1, e9) q (by rw [List.getElem?_append_left hj]; exact h2) (hPr k q h) rfl
      omega
    · omega
  refine ⟨hP1.app (fun k q h => (hP _ q (hPr k q h)).kept (hk q.1 (hout k q h).1 (hout k q h).2)), (hD1.weaken (fun k q _ h => hF q.1 h)).app ⟨fun i j x y hi hj hxy => ?_, fun k q h => hD.2 _ q (hPr k q h)⟩ (fun i j x y hi hj hxy => ?_), hS⟩
  · have := hD.1 _ _ x y (hPr i x hi) (hPr j y hj) hxy
    omega
  · exact (hout j y hj).2 (hxy ▸ hD1.2 i x hi)
theorem cp_callee {wc wr : va_W} (hI : cp_I D (wc ++ wr) A H0 H locs) : va_P D vwCl wc H ∧ va_D (fun _ => True) wc := by
  obtain ⟨hP, hD, hS0⟩ := hI
  have h : ∀ (k : Nat) (q : Nat × va_E), wc[k]? = some q → (wc ++ wr)[k]? = some q := fun k q h => by
    rw [List.getElem?_append_left (List.getElem?_eq_some_iff.mp h).1]
    exact h
  exact ⟨fun k q hq => hP k q (h k q hq), fun i j x y hi hj => hD.1 i j x y (h i x hi) (h j y hj), fun _ _ _ => trivial⟩
theorem cp_fr {wc wr : va_W} (hI : cp_I D (wc ++ wr) A H0 H locs) (hA : ∀ q, H0.size ≤ q → A q) : ∀ q, va_A wc H.size q → A q := fun q h => by
  rcases h with ⟨k, e, h⟩ | h
  · exact hI.2.1.2 k (q, e) (by rw [List.getElem?_append_left (List.getElem?_eq_some_iff.mp h).1]; exact h)
  · exact hA q (Nat.le_trans hI.2.2.1 h)
theorem cp_nil {wc : va_W} (hI : cp_I D wc A H0 H locs) : cp_I D (wc ++ []) A H0 H locs := by rw [List.append_nil]; exact hI
theorem cp_lin {wc : va_W} (hI : cp_I D (wc ++ []) A H0 H locs) : cp_I D wc A H0 H locs := by rw [List.append_nil] at hI; exact hI
section CPC
variable {y : MethodName} {bytes : ByteArray} {maxL nL mc ms n index ci : Nat} {ret : Option FieldType} {wsy : List Cond} {rm : Room} {Ts : List Cond} {own C : String} {b : Nat} {As st0 : List Value} {wc : cp_M → va_W} {wr : va_W} {tc : List (ClassId × FieldType)} {vq : vw_C}
theorem cp_preS (hK : va_K D vwCl tc s) (hI : cp_I D (wc u ++ wr) A H0 H locs) : PreS s H (va_Pc As (cp_pre D tc (wc u) H.size)) As :=
  ⟨cp_blind _ _ _ _ _, fun U hU hW => ⟨rfl, by rw [hU], by rw [hU]; exact (cp_callee hI).1, va_K.moved hW.alike hK, (cp_callee hI).2⟩⟩
theorem cp_preV (hK : va_K D vwCl tc s) (hI : cp_I D (wc u ++ wr) A H0 H locs) (hrv : ∃ fs, (wc u)[0]? = some (b, .inr (ci, fs))) (hci : vwCl[ci]? = some vq) (hq : vq.1 = C) : PreV s H C b (va_Pc (.ref b :: As) (cp_pre D tc (wc u) H.size)) As := by
  obtain ⟨fs, hrv⟩ := hrv
  subst hq
  exact ⟨cp_blind _ _ _ _ _, va_recv hK (cp_callee hI).1 hci hrv, fun U hU hW => ⟨rfl, by rw [hU], by rw [hU]; exact (cp_callee hI).1, va_K.moved hW.alike hK, (cp_callee hI).2⟩⟩
theorem cp_cVi {post : Int32 → cp_M → Prop} (S : CallFix p m c cc nL s args Ts own) (hM : ∀ sz, Met l y wsy rm (va_Pc (.ref b :: As) (cp_pre D tc (wc u) sz)) (va_Qi post (cp_at D tc (va_A (wc u) sz) wc) (va_A (wc u) sz)) mc ms (va_A (wc u) sz)) (cw : CallW R s args own C index y bytes maxL ret wsy rm mc ms n) (hK : va_K D vwCl tc s) (hI : cp_I D (wc u ++ wr) A H0 H locs) (hA : ∀ q, H0.size ≤ q → A q) (hrv : ∃ fs, (wc u)[0]? = some (b, .inr (ci, fs))) (hci : vwCl[ci]? = some vq) (hq : vq.1 = C) (hn : As.length = n) (hsz : ls.size = nL) (hst : st0 = As.reverse ++ .ref b :: rest) (hr : (rest.map fun v => v.category).sum ≤ 8) (hdg : decode cc pc = .ok (.invokevirtual index, 3)) (hf : cells + mc ≤ R.cells ∧ slots + ms ≤ R.slots)
    (kk : ∀ (r : Int32) (u1 : cp_M) (H1 : Heap) (locs1 : List Loc), post r u1 → cp_I D (wc u1 ++ wr) A H0 H1 locs1 → W p l e R s m args below meth c H1 locs1 (cells + mc) (slots + ms) Q (F0 m (pc + 3) ls (.int r :: rest))) : W p l e R s m args below meth c H locs cells slots Q (F0 m pc ls st0) := by
  refine va_calli (va_runV (g := F0 m pc ls st0) (As := As) (rest := rest) S (hM H.size) cw (cp_preV hK hI hrv hci hq) rfl hn hsz hst (lv_room hr) hdg hf) hI.2.2 (fun q _ h => cp_fr hI hA q h) (cp_fr hI hA) (fun r u1 t H1 locs1 ht hvm hp hB hz hk hS => ?_)
  exact kk r u1 H1 locs1 hp (cp_behind hI hA (ht ▸ hB.1) hB.2.2 hk hS)
theorem cp_cVi0 {post : Int32 → cp_M → Prop} (S : CallFix p m c cc nL s args Ts own) (hM : ∀ sz, Met l y wsy rm (va_Pc (.ref b :: As) (cp_pre D tc (wc u) sz)) (va_Qi post (cp_at D tc (va_A (wc u) sz) wc) (va_A (wc u) sz)) mc ms (va_A (wc u) sz)) (cw : CallW R s args own C index y bytes maxL ret wsy rm mc ms n) (hK : va_K D vwCl tc s) (hI : cp_I D (wc u) A H0 H locs) (hA : ∀ q, H0.size ≤ q → A q) (hrv : ∃ fs, (wc u)[0]? = some (b, .inr (ci, fs))) (hci : vwCl[ci]? = some vq) (hq : vq.1 = C) (hn : As.length = n) (hsz : ls.size = nL) (hst : st0 = As.reverse ++ .ref b :: rest) (hr : (rest.map fun v => v.category).sum ≤ 8) (hdg : decode cc pc = .ok (.invokevirtual index, 3)) (hf : cells + mc ≤ R.cells ∧ slots + ms ≤ R.slots)
    (kk : ∀ (r : Int32) (u1 : cp_M) (H1 : Heap) (locs1 : List Loc), post r u1 → cp_I D (wc u1) A H0 H1 locs1 → W p l e R s m args below meth c H1 locs1 (cells + mc) (slots + ms) Q (F0 m (pc + 3) ls (.int r :: rest))) : W p l e R s m args below meth c H locs cells slots Q (F0 m pc ls st0) :=
  cp_cVi (wr := []) S hM cw hK (cp_nil hI) hA hrv hci hq hn hsz hst hr hdg hf (fun r u1 H1 locs1 hp h => kk r u1 H1 locs1 hp (cp_lin h))
theorem cp_cVl {post : Int64 → cp_M → Prop} (S : CallFix p m c cc nL s args Ts own) (hM : ∀ sz, Met l y wsy rm (va_Pc (.ref b :: As) (cp_pre D tc (wc u) sz)) (va_Ql post (cp_at D tc (va_A (wc u) sz) wc) (va_A (wc u) sz)) mc ms (va_A (wc u) sz)) (cw : CallW R s args own C index y bytes maxL ret wsy rm mc ms n) (hK : va_K D vwCl tc s) (hI : cp_I D (wc u ++ wr) A H0 H locs) (hA : ∀ q, H0.size ≤ q → A q) (hrv : ∃ fs, (wc u)[0]? = some (b, .inr (ci, fs))) (hci : vwCl[ci]? = some vq) (hq : vq.1 = C) (hn : As.length = n) (hsz : ls.size = nL) (hst : st0 = As.reverse ++ .ref b :: rest) (hr : (rest.map fun v => v.category).sum ≤ 8) (hdg : decode cc pc = .ok (.invokevirtual index, 3)) (hf : cells + mc ≤ R.cells ∧ slots + ms ≤ R.slots)
    (kk : ∀ (r : Int64) (u1 : cp_M) (H1 : Heap) (locs1 : List Loc), post r u1 → cp_I D (wc u1 ++ wr) A H0 H1 locs1 → W p l e R s m args below meth c H1 locs1 (cells + mc) (slots + ms) Q (F0 m (pc + 3) ls (.long r :: rest))) : W p l e R s m args below meth c H locs cells slots Q (F0 m pc ls st0) := by
  refine va_calll (va_runV (g := F0 m pc ls st0) (As := As) (rest := rest) S (hM H.size) cw (cp_preV hK hI hrv hci hq) rfl hn hsz hst (lv_room hr) hdg hf) hI.2.2 (fun q _ h => cp_fr hI hA q h) (cp_fr hI hA) (fun r u1 t H1 locs1 ht hvm hp hB hz hk hS => ?_)
  exact kk r u1 H1 locs1 hp (cp_behind hI hA (ht ▸ hB.1) hB.2.2 hk hS)
theorem cp_cVl0 {post : Int64 → cp_M → Prop} (S : CallFix p m c cc nL s args Ts own) (hM : ∀ sz, Met l y wsy rm (va_Pc (.ref b :: As) (cp_pre D tc (wc u) sz)) (va_Ql post (cp_at D tc (va_A (wc u) sz) wc) (va_A (wc u) sz)) mc ms (va_A (wc u) sz)) (cw : CallW R s args own C index y bytes maxL ret wsy rm mc ms n) (hK : va_K D vwCl tc s) (hI : cp_I D (wc u) A H0 H locs) (hA : ∀ q, H0.size ≤ q → A q) (hrv : ∃ fs, (wc u)[0]? = some (b, .inr (ci, fs))) (hci : vwCl[ci]? = some vq) (hq : vq.1 = C) (hn : As.length = n) (hsz : ls.size = nL) (hst : st0 = As.reverse ++ .ref b :: rest) (hr : (rest.map fun v => v.category).sum ≤ 8) (hdg : decode cc pc = .ok (.invokevirtual index, 3)) (hf : cells + mc ≤ R.cells ∧ slots + ms ≤ R.slots)
    (kk : ∀ (r : Int64) (u1 : cp_M) (H1 : Heap) (locs1 : List Loc), post r u1 → cp_I D (wc u1) A H0 H1 locs1 → W p l e R s m args below meth c H1 locs1 (cells + mc) (slots + ms) Q (F0 m (pc + 3) ls (.long r :: rest))) : W p l e R s m args below meth c H locs cells slots Q (F0 m pc ls st0) :=
  cp_cVl (wr := []) S hM cw hK (cp_nil hI) hA hrv hci hq hn hsz hst hr hdg hf (fun r u1 H1 locs1 hp h => kk r u1 H1 locs1 hp (cp_lin h))
theorem cp_cVv {post : cp_M → Prop} (S : CallFix p m c cc nL s args Ts own) (hM : ∀ sz, Met l y wsy rm (va_Pc (.ref b :: As) (cp_pre D tc (wc u) sz)) (va_Qv post (cp_at D tc (va_A (wc u) sz) wc) (va_A (wc u) sz)) mc ms (va_A (wc u) sz)) (cw : CallW R s args own C index y bytes maxL ret wsy rm mc ms n) (hK : va_K D vwCl tc s) (hI : cp_I D (wc u ++ wr) A H0 H locs) (hA : ∀ q, H0.size ≤ q → A q) (hrv : ∃ fs, (wc u)[0]? = some (b, .inr (ci, fs))) (hci : vwCl[ci]? = some vq) (hq : vq.1 = C) (hn : As.length = n) (hsz : ls.size = nL) (hst : st0 = As.reverse ++ .ref b :: rest) (hr : (rest.map fun v => v.category).sum ≤ 8) (hdg : decode cc pc = .ok (.invokevirtual index, 3)) (hf : cells + mc ≤ R.cells ∧ slots + ms ≤ R.slots)
    (kk : ∀ (u1 : cp_M) (H1 : Heap) (locs1 : List Loc), post u1 → cp_I D (wc u1 ++ wr) A H0 H1 locs1 → W p l e R s m args below meth c H1 locs1 (cells + mc) (slots + ms) Q (F0 m (pc + 3) ls rest)) : W p l e R s m args below meth c H locs cells slots Q (F0 m pc ls st0) := by
  refine va_callv (va_runV (g := F0 m pc ls st0) (As := As) (rest := rest) S (hM H.size) cw (cp_preV hK hI hrv hci hq) rfl hn hsz hst (lv_room hr) hdg hf) hI.2.2 (fun q _ h => cp_fr hI hA q h) (cp_fr hI hA) (fun u1 t H1 locs1 ht hvm hp hB hz hk hS => ?_)
  exact kk u1 H1 locs1 hp (cp_behind hI hA (ht ▸ hB.1) hB.2.2 hk hS)
theorem cp_cVv0 {post : cp_M → Prop} (S : CallFix p m c cc nL s args Ts own) (hM : ∀ sz, Met l y wsy rm (va_Pc (.ref b :: As) (cp_pre D tc (wc u) sz)) (va_Qv post (cp_at D tc (va_A (wc u) sz) wc) (va_A (wc u) sz)) mc ms (va_A (wc u) sz)) (cw : CallW R s args own C index y bytes maxL ret wsy rm mc ms n) (hK : va_K D vwCl tc s) (hI : cp_I D (wc u) A H0 H locs) (hA : ∀ q, H0.size ≤ q → A q) (hrv : ∃ fs, (wc u)[0]? = some (b, .inr (ci, fs))) (hci : vwCl[ci]? = some vq) (hq : vq.1 = C) (hn : As.length = n) (hsz : ls.size = nL) (hst : st0 = As.reverse ++ .ref b :: rest) (hr : (rest.map fun v => v.category).sum ≤ 8) (hdg : decode cc pc = .ok (.invokevirtual index, 3)) (hf : cells + mc ≤ R.cells ∧ slots + ms ≤ R.slots)
    (kk : ∀ (u1 : cp_M) (H1 : Heap) (locs1 : List Loc), post u1 → cp_I D (wc u1) A H0 H1 locs1 → W p l e R s m args below meth c H1 locs1 (cells + mc) (slots + ms) Q (F0 m (pc + 3) ls rest)) : W p l e R s m args below meth c H locs cells slots Q (F0 m pc ls st0) :=
  cp_cVv (wr := []) S hM cw hK (cp_nil hI) hA hrv hci hq hn hsz hst hr hdg hf (fun u1 H1 locs1 hp h => kk u1 H1 locs1 hp (cp_lin h))
theorem cp_cSi {post : Int32 → cp_M → Prop} (S : CallFix p m c cc nL s args Ts own) (hM : ∀ sz, Met l y wsy rm (va_Pc As (cp_pre D tc (wc u) sz)) (va_Qi post (cp_at D tc (va_A (wc u) sz) wc) (va_A (wc u) sz)) mc ms (va_A (wc u) sz)) (cw : CallB R s args own index y bytes maxL ret wsy rm mc ms n ∧ (Cond.static y).before args s = true) (hK : va_K D vwCl tc s) (hI : cp_I D (wc u ++ wr) A H0 H locs) (hA : ∀ q, H0.size ≤ q → A q) (hn : As.length = n) (hsz : ls.size = nL) (hst : st0 = As.reverse ++ rest) (hr : (rest.map fun v => v.category).sum ≤ 8) (hdg : decode cc pc = .ok (.invokestatic index, 3)) (hf : cells + mc ≤ R.cells ∧ slots + ms ≤ R.slots)
    (kk : ∀ (r : Int32) (u1 : cp_M) (H1 : Heap) (locs1 : List Loc), post r u1 → cp_I D (wc u1 ++ wr) A H0 H1 locs1 → W p l e R s m args below meth c H1 locs1 (cells + mc) (slots + ms) Q (F0 m (pc + 3) ls (.int r :: rest))) : W p l e R s m args below meth c H locs cells slots Q (F0 m pc ls st0) := by
  refine va_calli (va_runS (g := F0 m pc ls st0) (As := As) (rest := rest) S (hM H.size) cw (cp_preS hK hI) rfl hn hsz hst (lv_room hr) hdg hf) hI.2.2 (fun q _ h => cp_fr hI hA q h) (cp_fr hI hA) (fun r u1 t H1 locs1 ht hvm hp hB hz hk hS => ?_)
  exact kk r u1 H1 locs1 hp (cp_behind hI hA (ht ▸ hB.1) hB.2.2 hk hS)
/-- a static method that looks at no cell -/
theorem cp_cSi0 {post : Int32 → cp_M → Prop} (S : CallFix p m c cc nL s args Ts own) (hM : ∀ sz, Met l y wsy rm (va_Pc As (cp_pre D [] [] sz)) (va_Qi post (cp_at D [] (va_A [] sz) (fun _ => [])) (va_A [] sz)) mc ms (va_A [] sz)) (cw : CallB R s args own index y bytes maxL ret wsy rm mc ms n ∧ (Cond.static y).before args s = true) (hK : va_K D vwCl tc s) (hI : cp_I D wr A H0 H locs) (hA : ∀ q, H0.size ≤ q → A q) (hn : As.length = n) (hsz : ls.size = nL) (hst : st0 = As.reverse ++ rest) (hr : (rest.map fun v => v.category).sum ≤ 8) (hdg : decode cc pc = .ok (.invokestatic index, 3)) (hf : cells + mc ≤ R.cells ∧ slots + ms ≤ R.slots)
    (kk : ∀ (r : Int32) (u1 : cp_M) (H1 : Heap) (locs1 : List Loc), post r u1 → cp_I D wr A H0 H1 locs1 → W p l e R s m args below meth c H1 locs1 (cells + mc) (slots + ms) Q (F0 m (pc + 3) ls (.int r :: rest))) : W p l e R s m args below meth c H locs cells slots Q (F0 m pc ls st0) :=
  cp_cSi (wc := fun _ => []) (u := fun _ _ => 0) (wr := wr) (tc := []) S hM cw (hK.sub [] rfl) hI hA hn hsz hst hr hdg hf kk
theorem cp_cSl {post : Int64 → cp_M → Prop} (S : CallFix p m c cc nL s args Ts own) (hM : ∀ sz, Met l y wsy rm (va_Pc As (cp_pre D tc (wc u) sz)) (va_Ql post (cp_at D tc (va_A (wc u) sz) wc) (va_A (wc u) sz)) mc ms (va_A (wc u) sz)) (cw : CallB R s args own index y bytes maxL ret wsy rm mc ms n ∧ (Cond.static y).before args s = true) (hK : va_K D vwCl tc s) (hI : cp_I D (wc u ++ wr) A H0 H locs) (hA : ∀ q, H0.size ≤ q → A q) (hn : As.length = n) (hsz : ls.size = nL) (hst : st0 = As.reverse ++ rest) (hr : (rest.map fun v => v.category).sum ≤ 8) (hdg : decode cc pc = .ok (.invokestatic index, 3)) (hf : cells + mc ≤ R.cells ∧ slots + ms ≤ R.slots)
    (kk : ∀ (r : Int64) (u1 : cp_M) (H1 : Heap) (locs1 : List Loc), post r u1 → cp_I D (wc u1 ++ wr) A H0 H1 locs1 → W p l e R s m args below meth c H1 locs1 (cells + mc) (slots + ms) Q (F0 m (pc + 3) ls (.long r :: rest))) : W p l e R s m args below meth c H locs cells slots Q (F0 m pc ls st0) := by
  refine va_calll (va_runS (g := F0 m pc ls st0) (As := As) (rest := rest) S (hM H.size) cw (cp_preS hK hI) rfl hn hsz hst (lv_room hr) hdg hf) hI.2.2 (fun q _ h => cp_fr hI hA q h) (cp_fr hI hA) (fun r u1 t H1 locs1 ht hvm hp hB hz hk hS => ?_)
  exact kk r u1 H1 locs1 hp (cp_behind hI hA (ht ▸ hB.1) hB.2.2 hk hS)
/-- a static method that looks at no cell -/
theorem cp_cSl0 {post : Int64 → cp_M → Prop} (S : CallFix p m c cc nL s args Ts own) (hM : ∀ sz, Met l y wsy rm (va_Pc As (cp_pre D [] [] sz)) (va_Ql post (cp_at D [] (va_A [] sz) (fun _ => [])) (va_A [] sz)) mc ms (va_A [] sz)) (cw : CallB R s args own index y bytes maxL ret wsy rm mc ms n ∧ (Cond.static y).before args s = true) (hK : va_K D vwCl tc s) (hI : cp_I D wr A H0 H locs) (hA : ∀ q, H0.size ≤ q → A q) (hn : As.length = n) (hsz : ls.size = nL) (hst : st0 = As.reverse ++ rest) (hr : (rest.map fun v => v.category).sum ≤ 8) (hdg : decode cc pc = .ok (.invokestatic index, 3)) (hf : cells + mc ≤ R.cells ∧ slots + ms ≤ R.slots)
    (kk : ∀ (r : Int64) (u1 : cp_M) (H1 : Heap) (locs1 : List Loc), post r u1 → cp_I D wr A H0 H1 locs1 → W p l e R s m args below meth c H1 locs1 (cells + mc) (slots + ms) Q (F0 m (pc + 3) ls (.long r :: rest))) : W p l e R s m args below meth c H locs cells slots Q (F0 m pc ls st0) :=
  cp_cSl (wc := fun _ => []) (u := fun _ _ => 0) (wr := wr) (tc := []) S hM cw (hK.sub [] rfl) hI hA hn hsz hst hr hdg hf kk
theorem cp_cSv {post : cp_M → Prop} (S : CallFix p m c cc nL s args Ts own) (hM : ∀ sz, Met l y wsy rm (va_Pc As (cp_pre D tc (wc u) sz)) (va_Qv post (cp_at D tc (va_A (wc u) sz) wc) (va_A (wc u) sz)) mc ms (va_A (wc u) sz)) (cw : CallB R s args own index y bytes maxL ret wsy rm mc ms n ∧ (Cond.static y).before args s = true) (hK : va_K D vwCl tc s) (hI : cp_I D (wc u ++ wr) A H0 H locs) (hA : ∀ q, H0.size ≤ q → A q) (hn : As.length = n) (hsz : ls.size = nL) (hst : st0 = As.reverse ++ rest) (hr : (rest.map fun v => v.category).sum ≤ 8) (hdg : decode cc pc = .ok (.invokestatic index, 3)) (hf : cells + mc ≤ R.cells ∧ slots + ms ≤ R.slots)
    (kk : ∀ (u1 : cp_M) (H1 : Heap) (locs1 : List Loc), post u1 → cp_I D (wc u1 ++ wr) A H0 H1 locs1 → W p l e R s m args below meth c H1 locs1 (cells + mc) (slots + ms) Q (F0 m (pc + 3) ls rest)) : W p l e R s m args below meth c H locs cells slots Q (F0 m pc ls st0) := by
  refine va_callv (va_runS (g := F0 m pc ls st0) (As := As) (rest := rest) S (hM H.size) cw (cp_preS hK hI) rfl hn hsz hst (lv_room hr) hdg hf) hI.2.2 (fun q _ h => cp_fr hI hA q h) (cp_fr hI hA) (fun u1 t H1 locs1 ht hvm hp hB hz hk hS => ?_)
  exact kk u1 H1 locs1 hp (cp_behind hI hA (ht ▸ hB.1) hB.2.2 hk hS)
/-- a static method that looks at no cell -/
theorem cp_cSv0 {post : cp_M → Prop} (S : CallFix p m c cc nL s args Ts own) (hM : ∀ sz, Met l y wsy rm (va_Pc As (cp_pre D [] [] sz)) (va_Qv post (cp_at D [] (va_A [] sz) (fun _ => [])) (va_A [] sz)) mc ms (va_A [] sz)) (cw : CallB R s args own index y bytes maxL ret wsy rm mc ms n ∧ (Cond.static y).before args s = true) (hK : va_K D vwCl tc s) (hI : cp_I D wr A H0 H locs) (hA : ∀ q, H0.size ≤ q → A q) (hn : As.length = n) (hsz : ls.size = nL) (hst : st0 = As.reverse ++ rest) (hr : (rest.map fun v => v.category).sum ≤ 8) (hdg : decode cc pc = .ok (.invokestatic index, 3)) (hf : cells + mc ≤ R.cells ∧ slots + ms ≤ R.slots)
    (kk : ∀ (u1 : cp_M) (H1 : Heap) (locs1 : List Loc), post u1 → cp_I D wr A H0 H1 locs1 → W p l e R s m args below meth c H1 locs1 (cells + mc) (slots + ms) Q (F0 m (pc + 3) ls rest)) : W p l e R s m args below meth c H locs cells slots Q (F0 m pc ls st0) :=
  cp_cSv (wc := fun _ => []) (u := fun _ _ => 0) (wr := wr) (tc := []) S hM cw (hK.sub [] rfl) hI hA hn hsz hst hr hdg hf kk
end CPC
end CPS
