/-! ===== the count of bits of a long ===== -/
def nJ (x : Nat) : Int64 := Int64.ofNat x
theorem nJ_add (a b : Nat) : nJ a + nJ b = nJ (a + b) := (Int64.ofNat_add a b).symm
theorem j_and (a b : Nat) : nJ a &&& nJ b = nJ (a &&& b) := by
  apply Int64.toBitVec_inj.mp
  rw [Int64.toBitVec_and]
  show BitVec.ofNat 64 a &&& BitVec.ofNat 64 b = BitVec.ofNat 64 (a &&& b)
  exact (BitVec.ofNat_and).symm
theorem j_or (a b : Nat) : nJ a ||| nJ b = nJ (a ||| b) := by
  apply Int64.toBitVec_inj.mp
  rw [Int64.toBitVec_or]
  show BitVec.ofNat 64 a ||| BitVec.ofNat 64 b = BitVec.ofNat 64 (a ||| b)
  exact (BitVec.ofNat_or).symm
theorem j_sub {a b : Nat} (h : b ≤ a) : nJ a - nJ b = nJ (a - b) := by
  have : nJ (a - b) + nJ b = nJ a := by rw [nJ_add, Nat.sub_add_cancel h]
  rw [← this, Int64.add_sub_cancel]
theorem j_ushr {x s : Nat} (k : UInt64) (hk : (k.toBitVec % 64#64).toNat = s) (hx : x < 2 ^ 64) : ((nJ x).toUInt64 >>> k).toInt64 = nJ (x / 2 ^ s) := by
  apply Int64.toBitVec_inj.mp
  show (BitVec.ofNat 64 x >>> (k.toBitVec % 64#64)) = BitVec.ofNat 64 (x / 2 ^ s)
  apply BitVec.eq_of_toNat_eq
  rw [BitVec.ushiftRight_eq', BitVec.toNat_ushiftRight, hk, BitVec.toNat_ofNat, BitVec.toNat_ofNat, Nat.mod_eq_of_lt hx, Nat.shiftRight_eq_div_pow, Nat.mod_eq_of_lt (Nat.lt_of_le_of_lt (Nat.div_le_self _ _) hx)]
theorem j_toI (y : Nat) : (nJ y).toInt32 = nI y := by
  apply Int32.toBitVec_inj.mp
  show (BitVec.ofNat 64 y).signExtend 32 = BitVec.ofNat 32 y
  rw [BitVec.signExtend_eq_setWidth_of_le _ (by decide)]
  apply BitVec.eq_of_toNat_eq
  rw [BitVec.toNat_setWidth, BitVec.toNat_ofNat, BitVec.toNat_ofNat]
  omega
theorem g_and127 (y : Nat) : y &&& 127 = y % 128 := Nat.and_two_pow_sub_one_eq_mod y 7
theorem g_pc_64 (x : Nat) (hx : x < 2 ^ 64) : g_pc 64 x = g_pc 8 (x % 256) + (g_pc 8 (x / 256 % 256) + (g_pc 8 (x / 256 / 256 % 256) + (g_pc 8 (x / 256 / 256 / 256 % 256) + (g_pc 8 (x / 256 / 256 / 256 / 256 % 256) + (g_pc 8 (x / 256 / 256 / 256 / 256 / 256 % 256) + (g_pc 8 (x / 256 / 256 / 256 / 256 / 256 / 256 % 256) + g_pc 8 (x / 256 / 256 / 256 / 256 / 256 / 256 / 256 % 256))))))) := by
  have e1 : ∀ y, g_pc 64 y = g_pc 8 (y % 256) + g_pc 56 (y / 256) := fun y => g_pc_add 56 8 y
  have e2 : ∀ y, g_pc 56 y = g_pc 8 (y % 256) + g_pc 48 (y / 256) := fun y => g_pc_add 48 8 y
  have e3 : ∀ y, g_pc 48 y = g_pc 8 (y % 256) + g_pc 40 (y / 256) := fun y => g_pc_add 40 8 y
  have e4 : ∀ y, g_pc 40 y = g_pc 8 (y % 256) + g_pc 32 (y / 256) := fun y => g_pc_add 32 8 y
  have e5 : ∀ y, g_pc 32 y = g_pc 8 (y % 256) + g_pc 24 (y / 256) := fun y => g_pc_add 24 8 y
  have e6 : ∀ y, g_pc 24 y = g_pc 8 (y % 256) + g_pc 16 (y / 256) := fun y => g_pc_add 16 8 y
  have e7 : ∀ y, g_pc 16 y = g_pc 8 (y % 256) + g_pc 8 (y / 256) := fun y => g_pc_add 8 8 y
  rw [e1, e2, e3, e4, e5, e6, e7, show x / 256 / 256 / 256 / 256 / 256 / 256 / 256 % 256 = x / 256 / 256 / 256 / 256 / 256 / 256 / 256 by omega]
theorem g_last {q0 q1 q2 q3 q4 q5 q6 q7 V : Nat} (h0 : q0 ≤ 8) (h1 : q1 ≤ 8) (h2 : q2 ≤ 8) (h3 : q3 ≤ 8) (h4 : q4 ≤ 8) (h5 : q5 ≤ 8) (h6 : q6 ≤ 8) (h7 : q7 ≤ 8)
    (hV : V = q0 + 256 * (q1 + 256 * (q2 + 256 * (q3 + 256 * (q4 + 256 * (q5 + 256 * (q6 + 256 * (q7 + 256 * 0)))))))) : V < 2 ^ 60 ∧ V + V / 256 < 2 ^ 61 ∧ V + V / 256 + (V + V / 256) / 65536 < 2 ^ 62 ∧ (V + V / 256 + (V + V / 256) / 65536 + (V + V / 256 + (V + V / 256) / 65536) / 4294967296) % 128 = q0 + (q1 + (q2 + (q3 + (q4 + (q5 + (q6 + q7)))))) := by
  have f1 : V / 256 = q1 + 256 * (q2 + 256 * (q3 + 256 * (q4 + 256 * (q5 + 256 * (q6 + 256 * q7))))) := by omega
  rw [f1]
  have f2 : V + (q1 + 256 * (q2 + 256 * (q3 + 256 * (q4 + 256 * (q5 + 256 * (q6 + 256 * q7)))))) = (q0 + q1) + 256 * (q1 + q2) + 65536 * ((q2 + q3) + 256 * (q3 + q4) + 65536 * ((q4 + q5) + 256 * (q5 + q6) + 65536 * ((q6 + q7) + 256 * q7))) := by omega
  have f3 : ((q0 + q1) + 256 * (q1 + q2) + 65536 * ((q2 + q3) + 256 * (q3 + q4) + 65536 * ((q4 + q5) + 256 * (q5 + q6) + 65536 * ((q6 + q7) + 256 * q7)))) / 65536 = (q2 + q3) + 256 * (q3 + q4) + 65536 * ((q4 + q5) + 256 * (q5 + q6) + 65536 * ((q6 + q7) + 256 * q7)) := by omega
  rw [f2, f3]
  have f4 : (q0 + q1) + 256 * (q1 + q2) + 65536 * ((q2 + q3) + 256 * (q3 + q4) + 65536 * ((q4 + q5) + 256 * (q5 + q6) + 65536 * ((q6 + q7) + 256 * q7))) + ((q2 + q3) + 256 * (q3 + q4) + 65536 * ((q4 + q5) + 256 * (q5 + q6) + 65536 * ((q6 + q7) + 256 * q7))) = (q0 + q1 + q2 + q3) + 256 * (q1 + q2 + q3 + q4) + 65536 * (q2 + q3 + q4 + q5) + 16777216 * (q3 + q4 + q5 + q6) + 4294967296 * ((q4 + q5 + q6 + q7) + 256 * (q5 + q6 + q7) + 65536 * (q6 + q7) + 16777216 * q7) := by omega
  rw [f4]
  have f5 : ((q0 + q1 + q2 + q3) + 256 * (q1 + q2 + q3 + q4) + 65536 * (q2 + q3 + q4 + q5) + 16777216 * (q3 + q4 + q5 + q6) + 4294967296 * ((q4 + q5 + q6 + q7) + 256 * (q5 + q6 + q7) + 65536 * (q6 + q7) + 16777216 * q7)) / 4294967296 = (q4 + q5 + q6 + q7) + 256 * (q5 + q6 + q7) + 65536 * (q6 + q7) + 16777216 * q7 := by omega
  rw [f5]
  clear f1 f2 f3 f4 f5
  refine ⟨by omega, by omega, by omega, by omega⟩
theorem c_bitCountL {x : Nat} {I : Nat → Nat → Int32} {L : Nat → Int64} {Q : Option Value → (Nat → Nat → Int32) → (Nat → Int64) → Prop} (hx : x < 2 ^ 64) (K : Q (some (.int (nI (g_pc 64 x)))) I L) : XS mJ13_bitCount_95d88 0 [(0, .long (nJ x))] [] I L Q := by
  have h1 := g_s1 32 x (by omega)
  have h2 := g_s2 16 x
  have h3 := g_s3 8 x
  have m1 : g_ms 2 1 32 = 6148914691236517205 := by decide +kernel
  have m2 : g_ms 4 3 16 = 3689348814741910323 := by decide +kernel
  have m3 : g_ms 8 15 8 = 1085102592571150095 := by decide +kernel
  rw [m1] at h1
  rw [m2] at h2
  rw [m3] at h3
  have b1 : g_dg 2 (2 * 16) x < 2 ^ 64 := by rw [← h1.2]; omega
  have b2 : g_dg 4 (2 * 8) x < 2 ^ 64 := by
    have e : g_dg 4 16 x ≤ 3689348814741910323 + 3689348814741910323 := by
      rw [← h2]
      have a1 : (g_dg 2 (2 * 16) x &&& 3689348814741910323) ≤ 3689348814741910323 := Nat.and_le_right
      have a2 : (g_dg 2 (2 * 16) x / 4 &&& 3689348814741910323) ≤ 3689348814741910323 := Nat.and_le_right
      omega
    have e' : g_dg 4 (2 * 8) x ≤ 3689348814741910323 + 3689348814741910323 := e
    omega
  have hp := g_pc_64 x hx
  have hl := g_last (g_pc_le 8 (x % 256)) (g_pc_le 8 (x / 256 % 256)) (g_pc_le 8 (x / 256 / 256 % 256)) (g_pc_le 8 (x / 256 / 256 / 256 % 256)) (g_pc_le 8 (x / 256 / 256 / 256 / 256 % 256)) (g_pc_le 8 (x / 256 / 256 / 256 / 256 / 256 % 256)) (g_pc_le 8 (x / 256 / 256 / 256 / 256 / 256 / 256 % 256)) (g_pc_le 8 (x / 256 / 256 / 256 / 256 / 256 / 256 / 256 % 256)) (V := g_dg 8 8 x) rfl
  rw [← hp] at hl
  obtain ⟨l1, l2, l3, l4⟩ := hl
  generalize g_dg 8 8 x = V at h3 l1 l2 l3 l4
  refine bJ13_bitCount_95d88_0 (bJ13_bitCount_95d88_10 (bJ13_bitCount_95d88_24 (bJ13_bitCount_95d88_34 (bJ13_bitCount_95d88_41 (bJ13_bitCount_95d88_48 (bJ13_bitCount_95d88_55 ?_))))))
  have s1 : nJ x - (((nJ x).toUInt64 >>> ((1 : Int32).toInt64.toUInt64 &&& Int64.toUInt64 63)).toInt64 &&& (6148914691236517205 : Int64)) = nJ (g_dg 2 (2 * 16) x) := by
    rw [j_ushr (s := 1) _ (by decide +kernel) hx, show (6148914691236517205 : Int64) = nJ 6148914691236517205 from rfl, j_and, j_sub h1.1]
    rw [h1.2]
  rw [s1]
  have s2 : (nJ (g_dg 2 (2 * 16) x) &&& (3689348814741910323 : Int64)) + (((nJ (g_dg 2 (2 * 16) x)).toUInt64 >>> ((2 : Int32).toInt64.toUInt64 &&& Int64.toUInt64 63)).toInt64 &&& (3689348814741910323 : Int64)) = nJ (g_dg 4 (2 * 8) x) := by
    rw [j_ushr (s := 2) _ (by decide +kernel) b1, show (3689348814741910323 : Int64) = nJ 3689348814741910323 from rfl, j_and, j_and, nJ_add]
    rw [show (2 : Nat) ^ 2 = 4 from rfl, h2]
  rw [s2]
  have s3 : (nJ (g_dg 4 (2 * 8) x) + ((nJ (g_dg 4 (2 * 8) x)).toUInt64 >>> ((4 : Int32).toInt64.toUInt64 &&& Int64.toUInt64 63)).toInt64) &&& (1085102592571150095 : Int64) = nJ V := by
    rw [j_ushr (s := 4) _ (by decide +kernel) b2, show (1085102592571150095 : Int64) = nJ 1085102592571150095 from rfl, nJ_add, j_and]
    rw [show (2 : Nat) ^ 4 = 16 from rfl, h3]
  rw [s3]
  have s4 : nJ V + ((nJ V).toUInt64 >>> ((8 : Int32).toInt64.toUInt64 &&& Int64.toUInt64 63)).toInt64 = nJ (V + V / 256) := by
    rw [j_ushr (s := 8) _ (by decide +kernel) (by omega), nJ_add]
  rw [s4]
  have s5 : nJ (V + V / 256) + ((nJ (V + V / 256)).toUInt64 >>> ((16 : Int32).toInt64.toUInt64 &&& Int64.toUInt64 63)).toInt64 = nJ (V + V / 256 + (V + V / 256) / 65536) := by
    rw [j_ushr (s := 16) _ (by decide +kernel) (by omega), nJ_add]
  rw [s5]
  have s6 : nJ (V + V / 256 + (V + V / 256) / 65536) + ((nJ (V + V / 256 + (V + V / 256) / 65536)).toUInt64 >>> ((32 : Int32).toInt64.toUInt64 &&& Int64.toUInt64 63)).toInt64 = nJ (V + V / 256 + (V + V / 256) / 65536 + (V + V / 256 + (V + V / 256) / 65536) / 4294967296) := by
    rw [j_ushr (s := 32) _ (by decide +kernel) (by omega), nJ_add]
  rw [s6, j_toI, show (127 : Int32) = nI 127 from rfl, i_and, g_and127, l4]
  exact K
