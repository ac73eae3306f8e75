/-! counting bits -/
theorem hb_nI (n : Nat) {k : Nat} (hk : k < 32) : hb (nI n) k = n.testBit k := by
  unfold hb nI
  have : (Int32.ofNat n).toBitVec = BitVec.ofNat 32 n := rfl
  rw [this, BitVec.getLsbD_ofNat]
  simp [hk]
theorem nI_sub {a b : Nat} (h : b ≤ a) : nI a - nI b = nI (a - b) := by
  have e : nI a = nI (a - b) + nI b := by rw [nI_add]; congr 1; omega
  rw [e]
  apply Int32.toBitVec_inj.mp
  simp
theorem nI_and (a b : Nat) : nI a &&& nI b = nI (a &&& b) := by
  apply Int32.toBitVec_inj.mp
  rw [Int32.toBitVec_and]
  apply BitVec.eq_of_getLsbD_eq
  intro i hi
  rw [BitVec.getLsbD_and]
  have e : ∀ n, (nI n).toBitVec.getLsbD i = n.testBit i := fun n => hb_nI n hi
  rw [e, e, e, Nat.testBit_and]
theorem nI_ushr {a k : Nat} (ha : a < 2 ^ 31) (hk : k < 32) : ((nI a).toUInt32 >>> (nI k).toUInt32).toInt32 = nI (a >>> k) := by
  apply Int32.toBitVec_inj.mp
  have h1 : (((nI a).toUInt32 >>> (nI k).toUInt32).toInt32).toBitVec = (nI a).toBitVec >>> ((nI k).toBitVec.toNat % 32) := rfl
  have h2 : (nI k).toBitVec.toNat = k := by
    show (BitVec.ofNat 32 k).toNat = k
    rw [BitVec.toNat_ofNat]; omega
  rw [h1, h2, Nat.mod_eq_of_lt hk]
  apply BitVec.eq_of_toNat_eq
  show ((BitVec.ofNat 32 a) >>> k).toNat = (BitVec.ofNat 32 (a >>> k)).toNat
  rw [BitVec.toNat_ushiftRight, BitVec.toNat_ofNat, BitVec.toNat_ofNat, Nat.mod_eq_of_lt (show a < 2 ^ 32 by omega)]
  have : a >>> k ≤ a := by rw [Nat.shiftRight_eq_div_pow]; exact Nat.div_le_self _ _
  rw [Nat.mod_eq_of_lt (by omega)]
def gbc (x : Nat) : Nat :=
  let z1 := x - (x >>> 1 &&& 1431655765)
  let z2 := (z1 &&& 858993459) + (z1 >>> 2 &&& 858993459)
  let z3 := (z2 + (z2 >>> 4)) &&& 252645135
  let z4 := z3 + (z3 >>> 8)
  let z5 := z4 + (z4 >>> 16)
  z5 &&& 63
theorem and_le (a b : Nat) : a &&& b ≤ a := Nat.and_le_left
theorem shr_le (a k : Nat) : a >>> k ≤ a := by rw [Nat.shiftRight_eq_div_pow]; exact Nat.div_le_self _ _
theorem f_bc {x : Nat} (hx : x < 2 ^ 20) : f_J6_bitCount_0f7a4 (nI x) = some (nI (gbc x)) := by
  unfold f_J6_bitCount_0f7a4 gbc
  have e1 : (1 : Int32).toUInt32 &&& Int32.toUInt32 31 = (nI 1).toUInt32 := by decide
  have e2 : (2 : Int32).toUInt32 &&& Int32.toUInt32 31 = (nI 2).toUInt32 := by decide
  have e4 : (4 : Int32).toUInt32 &&& Int32.toUInt32 31 = (nI 4).toUInt32 := by decide
  have e8 : (8 : Int32).toUInt32 &&& Int32.toUInt32 31 = (nI 8).toUInt32 := by decide
  have e16 : (16 : Int32).toUInt32 &&& Int32.toUInt32 31 = (nI 16).toUInt32 := by decide
  rw [e1, e2, e4, e8, e16, show (1431655765 : Int32) = nI 1431655765 from rfl, show (858993459 : Int32) = nI 858993459 from rfl, show (252645135 : Int32) = nI 252645135 from rfl, show (63 : Int32) = nI 63 from rfl]
  simp only [Option.bind_some]
  have l1 : x >>> 1 &&& 1431655765 ≤ x := Nat.le_trans (and_le _ _) (shr_le _ _)
  rw [nI_ushr (show x < 2 ^ 31 by omega) (by decide), nI_and, nI_sub l1]
  have b1 : x - (x >>> 1 &&& 1431655765) < 2 ^ 20 := by omega
  generalize x - (x >>> 1 &&& 1431655765) = z1 at b1
  have l2 := shr_le z1 2
  have a1 := and_le z1 858993459
  have a2 := and_le (z1 >>> 2) 858993459
  rw [nI_ushr (show z1 < 2 ^ 31 by omega) (by decide), nI_and, nI_and, nI_add]
  have b2 : (z1 &&& 858993459) + (z1 >>> 2 &&& 858993459) < 2 ^ 21 := by omega
  generalize (z1 &&& 858993459) + (z1 >>> 2 &&& 858993459) = z2 at b2
  have l3 := shr_le z2 4
  rw [nI_ushr (show z2 < 2 ^ 31 by omega) (by decide), nI_add, nI_and]
  have b3 : (z2 + (z2 >>> 4)) &&& 252645135 < 2 ^ 22 := by have := and_le (z2 + (z2 >>> 4)) 252645135; omega
  generalize (z2 + (z2 >>> 4)) &&& 252645135 = z3 at b3
  have l4 := shr_le z3 8
  rw [nI_ushr (show z3 < 2 ^ 31 by omega) (by decide), nI_add]
  have b4 : z3 + (z3 >>> 8) < 2 ^ 23 := by omega
  generalize z3 + (z3 >>> 8) = z4 at b4
  rw [nI_ushr (show z4 < 2 ^ 31 by omega) (by decide), nI_add, nI_and]
def pop8 (a : Nat) : Nat := (if a.testBit 0 then 1 else 0) + (if a.testBit 1 then 1 else 0) + (if a.testBit 2 then 1 else 0) + (if a.testBit 3 then 1 else 0) + (if a.testBit 4 then 1 else 0) + (if a.testBit 5 then 1 else 0) + (if a.testBit 6 then 1 else 0) + (if a.testBit 7 then 1 else 0)
def tbl8 : List Nat := (List.range 256).map pop8
set_option maxRecDepth 100000 in
theorem gbc_tab : ∀ a, a < 256 → ∀ b, b < 256 → Nat.beq (gbc (1024 * b + a)) (pop8 a + pop8 b) = true := by decide +kernel
