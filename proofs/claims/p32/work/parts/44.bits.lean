/-! ===== the count of bits ===== -/
def g_dg (s : Nat) : Nat → Nat → Nat
  | 0, _ => 0
  | m + 1, x => g_pc s (x % 2 ^ s) + 2 ^ s * g_dg s m (x / 2 ^ s)
def g_ms (s c : Nat) : Nat → Nat
  | 0 => 0
  | m + 1 => c + 2 ^ s * g_ms s c m
theorem g_and_low {a c M s : Nat} (hc : c < 2 ^ s) : a &&& (c + 2 ^ s * M) = (a % 2 ^ s &&& c) + 2 ^ s * ((a / 2 ^ s) &&& M) := by
  have hlt : (a % 2 ^ s &&& c) < 2 ^ s := Nat.lt_of_le_of_lt Nat.and_le_right hc
  apply Nat.eq_of_testBit_eq
  intro i
  rw [Nat.add_comm c, Nat.add_comm (a % 2 ^ s &&& c), Nat.testBit_and, Nat.testBit_two_pow_mul_add _ hc, Nat.testBit_two_pow_mul_add _ hlt]
  by_cases hi : i < s
  · rw [if_pos hi, if_pos hi, Nat.testBit_and, Nat.testBit_mod_two_pow]
    simp [hi]
  · rw [if_neg hi, if_neg hi, Nat.testBit_and, Nat.testBit_div_two_pow]
    rw [show i - s + s = i by omega]
theorem g_pc_4 (y : Nat) : g_pc 4 y = g_pc 2 (y % 4) + g_pc 2 (y / 4) := by
  show y % 2 + (y / 2 % 2 + (y / 2 / 2 % 2 + (y / 2 / 2 / 2 % 2 + 0))) = (y % 4 % 2 + (y % 4 / 2 % 2 + 0)) + (y / 4 % 2 + (y / 4 / 2 % 2 + 0))
  omega
theorem g_pc_add (b : Nat) : ∀ a x, g_pc (a + b) x = g_pc a (x % 2 ^ a) + g_pc b (x / 2 ^ a) := by
  intro a
  induction a with
  | zero => intro x; simp [g_pc]
  | succ a ih =>
    intro x
    rw [show a + 1 + b = (a + b) + 1 by omega]
    show x % 2 + g_pc (a + b) (x / 2) = (x % 2 ^ (a + 1) % 2 + g_pc a (x % 2 ^ (a + 1) / 2)) + g_pc b (x / 2 ^ (a + 1))
    rw [ih, Nat.pow_succ, Nat.mul_comm (2 ^ a) 2, ← Nat.div_div_eq_div_mul, Nat.mod_mul_right_mod, Nat.mod_mul_right_div_self]
    omega
theorem g_pc_le : ∀ k x, g_pc k x ≤ k := by
  intro k
  induction k with
  | zero => intro x; exact Nat.le_refl _
  | succ k ih =>
    intro x
    have := ih (x / 2)
    show x % 2 + g_pc k (x / 2) ≤ k + 1
    omega
theorem g_pc_ext : ∀ k m x, x < 2 ^ k → k ≤ m → g_pc m x = g_pc k x := by
  intro k m x hx hkm
  obtain ⟨d, rfl⟩ : ∃ d, m = k + d := ⟨m - k, by omega⟩
  rw [g_pc_add, Nat.mod_eq_of_lt hx, Nat.div_eq_of_lt hx, g_pc_0]
  rfl
theorem g_s1 : ∀ m x, x < 4 ^ m → ((x / 2) &&& g_ms 2 1 m) ≤ x ∧ x - ((x / 2) &&& g_ms 2 1 m) = g_dg 2 m x := by
  intro m
  induction m with
  | zero => intro x hx; simp at hx; subst hx; simp [g_ms, g_dg]
  | succ m ih =>
    intro x hx
    have h1 := ih (x / 4) (by rw [Nat.pow_succ] at hx; omega)
    have e : (x / 2) &&& g_ms 2 1 (m + 1) = ((x / 2) % 4 &&& 1) + 4 * ((x / 2 / 4) &&& g_ms 2 1 m) := g_and_low (s := 2) (c := 1) (by decide)
    rw [Nat.and_one_is_mod, show x / 2 / 4 = x / 4 / 2 by omega] at e
    have d : g_dg 2 (m + 1) x = (x % 4 % 2 + (x % 4 / 2 % 2 + 0)) + 4 * g_dg 2 m (x / 4) := rfl
    rw [e, d, ← h1.2]
    have := h1.1
    generalize (x / 4 / 2 &&& g_ms 2 1 m) = Y at *
    omega
theorem g_dg_b (s : Nat) (hs : s < 2 ^ s) : ∀ m x, g_dg s m x % 2 ^ s ≤ s := by
  intro m
  cases m with
  | zero => intro x; show 0 % 2 ^ s ≤ s; simp
  | succ m =>
    intro x
    show (g_pc s (x % 2 ^ s) + 2 ^ s * g_dg s m (x / 2 ^ s)) % 2 ^ s ≤ s
    have := g_pc_le s (x % 2 ^ s)
    rw [Nat.add_mul_mod_self_left, Nat.mod_eq_of_lt (by omega)]
    exact this
theorem g_and3 (y : Nat) : y &&& 3 = y % 4 := Nat.and_two_pow_sub_one_eq_mod y 2
theorem g_and15 (y : Nat) : y &&& 15 = y % 16 := Nat.and_two_pow_sub_one_eq_mod y 4
theorem g_s2 : ∀ m x, (g_dg 2 (2 * m) x &&& g_ms 4 3 m) + (g_dg 2 (2 * m) x / 4 &&& g_ms 4 3 m) = g_dg 4 m x := by
  intro m
  induction m with
  | zero => intro x; simp [g_ms, g_dg]
  | succ m ih =>
    intro x
    have h1 := ih (x / 4 / 4)
    have d : g_dg 2 (2 * (m + 1)) x = g_pc 2 (x % 4) + 4 * (g_pc 2 (x / 4 % 4) + 4 * g_dg 2 (2 * m) (x / 4 / 4)) := rfl
    have d4 : g_dg 4 (m + 1) x = g_pc 4 (x % 16) + 16 * g_dg 4 m (x / 16) := rfl
    have b0 := g_pc_le 2 (x % 4)
    have b1 := g_pc_le 2 (x / 4 % 4)
    have bv := g_dg_b 2 (by decide) (2 * m) (x / 4 / 4)
    have e : ∀ a, a &&& g_ms 4 3 (m + 1) = (a % 16) % 4 + 16 * ((a / 16) &&& g_ms 4 3 m) := fun a => by
      have := g_and_low (a := a) (s := 4) (c := 3) (M := g_ms 4 3 m) (by decide)
      rw [g_and3] at this
      exact this
    rw [d, d4, e, e, g_pc_4, show x % 16 % 4 = x % 4 by omega, show x % 16 / 4 = x / 4 % 4 by omega, show x / 16 = x / 4 / 4 by omega, ← h1]
    generalize g_pc 2 (x % 4) = p0 at *
    generalize g_pc 2 (x / 4 % 4) = p1 at *
    generalize g_dg 2 (2 * m) (x / 4 / 4) = v at *
    rw [show (p0 + 4 * (p1 + 4 * v)) / 16 = v by omega, show (p0 + 4 * (p1 + 4 * v)) / 4 / 16 = v / 4 by omega]
    generalize (v &&& g_ms 4 3 m) = A
    generalize (v / 4 &&& g_ms 4 3 m) = B
    omega
theorem g_s3 : ∀ m x, ((g_dg 4 (2 * m) x + g_dg 4 (2 * m) x / 16) &&& g_ms 8 15 m) = g_dg 8 m x := by
  intro m
  induction m with
  | zero => intro x; simp [g_ms, g_dg]
  | succ m ih =>
    intro x
    have h1 := ih (x / 16 / 16)
    have d : g_dg 4 (2 * (m + 1)) x = g_pc 4 (x % 16) + 16 * (g_pc 4 (x / 16 % 16) + 16 * g_dg 4 (2 * m) (x / 16 / 16)) := rfl
    have d8 : g_dg 8 (m + 1) x = g_pc (4 + 4) (x % 256) + 256 * g_dg 8 m (x / 256) := rfl
    have b0 := g_pc_le 4 (x % 16)
    have b1 := g_pc_le 4 (x / 16 % 16)
    have bv := g_dg_b 4 (by decide) (2 * m) (x / 16 / 16)
    have e : ∀ a, a &&& g_ms 8 15 (m + 1) = (a % 256) % 16 + 256 * ((a / 256) &&& g_ms 8 15 m) := fun a => by
      have := g_and_low (a := a) (s := 8) (c := 15) (M := g_ms 8 15 m) (by decide)
      rw [g_and15] at this
      exact this
    rw [d, d8, e, g_pc_add, show x % 256 % 2 ^ 4 = x % 16 by omega, show x % 256 / 2 ^ 4 = x / 16 % 16 by omega, show x / 256 = x / 16 / 16 by omega, ← h1]
    generalize g_pc 4 (x % 16) = p0 at *
    generalize g_pc 4 (x / 16 % 16) = p1 at *
    generalize g_dg 4 (2 * m) (x / 16 / 16) = v at *
    have bv' : v % 16 ≤ 4 := bv
    rw [show (p0 + 16 * (p1 + 16 * v) + (p0 + 16 * (p1 + 16 * v)) / 16) / 256 = v + v / 16 by omega]
    generalize (v + v / 16 &&& g_ms 8 15 m) = A
    omega
theorem i_ushr {x s : Nat} (hx : x < 2 ^ 32) (hs : s < 32) : ((nI x).toUInt32 >>> ((nI s).toUInt32 &&& Int32.toUInt32 31)).toInt32 = nI (x / 2 ^ s) := by
  apply Int32.toBitVec_inj.mp
  show (BitVec.ofNat 32 x >>> ((BitVec.ofNat 32 s &&& 31#32) % 32#32)) = BitVec.ofNat 32 (x / 2 ^ s)
  apply BitVec.eq_of_toNat_eq
  have h1 : ((BitVec.ofNat 32 s &&& 31#32) % 32#32).toNat = s := by
    have : ∀ s, s < 32 → ((BitVec.ofNat 32 s &&& 31#32) % 32#32).toNat = s := by decide +kernel
    exact this s hs
  rw [BitVec.ushiftRight_eq', BitVec.toNat_ushiftRight, h1, BitVec.toNat_ofNat, BitVec.toNat_ofNat, Nat.mod_eq_of_lt hx, Nat.shiftRight_eq_div_pow, Nat.mod_eq_of_lt (Nat.lt_of_le_of_lt (Nat.div_le_self _ _) hx)]
theorem g_and63 (y : Nat) : y &&& 63 = y % 64 := Nat.and_two_pow_sub_one_eq_mod y 6
theorem c_bitCount {x : Nat} {I : Nat → Nat → Int32} {L : Nat → Int64} {Q : Option Value → (Nat → Nat → Int32) → (Nat → Int64) → Prop} (hx : x < 2 ^ 32) (K : Q (some (.int (nI (g_pc 32 x)))) I L) : XS mJ6_bitCount_0f7a4 0 [(0, .int (nI x))] [] I L Q := by
  have h1 := g_s1 16 x (by omega)
  have h2 := g_s2 8 x
  have h3 := g_s3 4 x
  have m1 : g_ms 2 1 16 = 1431655765 := by decide
  have m2 : g_ms 4 3 8 = 858993459 := by decide
  have m3 : g_ms 8 15 4 = 252645135 := by decide
  rw [m1] at h1
  rw [m2] at h2
  rw [m3] at h3
  have b1 : g_dg 2 (2 * 8) x < 2 ^ 32 := by rw [← h1.2]; omega
  have b2 : g_dg 4 (2 * 4) x < 2 ^ 32 := by
    have e : g_dg 4 8 x ≤ 858993459 + 858993459 := by
      rw [← h2]
      have a1 : (g_dg 2 (2 * 8) x &&& 858993459) ≤ 858993459 := Nat.and_le_right
      have a2 : (g_dg 2 (2 * 8) x / 4 &&& 858993459) ≤ 858993459 := Nat.and_le_right
      omega
    have e' : g_dg 4 (2 * 4) x ≤ 858993459 + 858993459 := e
    omega
  have hp : g_pc 32 x = g_pc 8 (x % 256) + (g_pc 8 (x / 256 % 256) + (g_pc 8 (x / 256 / 256 % 256) + g_pc 8 (x / 256 / 256 / 256 % 256))) := by
    have e1 := g_pc_add 24 8 x
    have e2 := g_pc_add 16 8 (x / 256)
    have e3 := g_pc_add 8 8 (x / 256 / 256)
    have e4 : x / 256 / 256 / 256 % 256 = x / 256 / 256 / 256 := by omega
    rw [e4]
    have e1' : g_pc 32 x = g_pc 8 (x % 256) + g_pc 24 (x / 256) := e1
    have e2' : g_pc 24 (x / 256) = g_pc 8 (x / 256 % 256) + g_pc 16 (x / 256 / 256) := e2
    have e3' : g_pc 16 (x / 256 / 256) = g_pc 8 (x / 256 / 256 % 256) + g_pc 8 (x / 256 / 256 / 256) := e3
    rw [e1', e2', e3']
  have hd : g_dg 8 4 x = g_pc 8 (x % 256) + 256 * (g_pc 8 (x / 256 % 256) + 256 * (g_pc 8 (x / 256 / 256 % 256) + 256 * (g_pc 8 (x / 256 / 256 / 256 % 256) + 256 * 0))) := rfl
  have l0 := g_pc_le 8 (x % 256)
  have l1 := g_pc_le 8 (x / 256 % 256)
  have l2 := g_pc_le 8 (x / 256 / 256 % 256)
  have l3 := g_pc_le 8 (x / 256 / 256 / 256 % 256)
  rw [hd] at h3
  rw [hp] at K
  generalize g_pc 8 (x % 256) = q0 at *
  generalize g_pc 8 (x / 256 % 256) = q1 at *
  generalize g_pc 8 (x / 256 / 256 % 256) = q2 at *
  generalize g_pc 8 (x / 256 / 256 / 256 % 256) = q3 at *
  refine bJ6_bitCount_0f7a4_0 (bJ6_bitCount_0f7a4_10 (bJ6_bitCount_0f7a4_24 (bJ6_bitCount_0f7a4_34 (bJ6_bitCount_0f7a4_41 (bJ6_bitCount_0f7a4_48 ?_)))))
  have s1 : nI x - (((nI x).toUInt32 >>> ((1 : Int32).toUInt32 &&& Int32.toUInt32 31)).toInt32 &&& (1431655765 : Int32)) = nI (g_dg 2 (2 * 8) x) := by
    have e := i_ushr (x := x) (s := 1) hx (by decide)
    rw [show (1 : Int32) = nI 1 from rfl, e, show (1431655765 : Int32) = nI 1431655765 from rfl, i_and, i_sub h1.1]
    rw [h1.2]
  rw [s1]
  have s2 : (nI (g_dg 2 (2 * 8) x) &&& (858993459 : Int32)) + (((nI (g_dg 2 (2 * 8) x)).toUInt32 >>> ((2 : Int32).toUInt32 &&& Int32.toUInt32 31)).toInt32 &&& (858993459 : Int32)) = nI (g_dg 4 (2 * 4) x) := by
    have e := i_ushr (x := g_dg 2 (2 * 8) x) (s := 2) b1 (by decide)
    rw [show (2 : Int32) = nI 2 from rfl, e, show (858993459 : Int32) = nI 858993459 from rfl, i_and, i_and, nI_add]
    rw [show (2 : Nat) ^ 2 = 4 from rfl, h2]
  rw [s2]
  have s3 : (nI (g_dg 4 (2 * 4) x) + ((nI (g_dg 4 (2 * 4) x)).toUInt32 >>> ((4 : Int32).toUInt32 &&& Int32.toUInt32 31)).toInt32) &&& (252645135 : Int32) = nI (q0 + 256 * (q1 + 256 * (q2 + 256 * (q3 + 256 * 0)))) := by
    have e := i_ushr (x := g_dg 4 (2 * 4) x) (s := 4) b2 (by decide)
    rw [show (4 : Int32) = nI 4 from rfl, e, show (252645135 : Int32) = nI 252645135 from rfl, nI_add, i_and]
    rw [show (2 : Nat) ^ 4 = 16 from rfl, h3]
  rw [s3]
  have s4 : ∀ y, y < 2 ^ 32 → nI y + ((nI y).toUInt32 >>> ((8 : Int32).toUInt32 &&& Int32.toUInt32 31)).toInt32 = nI (y + y / 256) := fun y hy => by
    have e := i_ushr (x := y) (s := 8) hy (by decide)
    rw [show (8 : Int32) = nI 8 from rfl, e, nI_add]
  have s5 : ∀ y, y < 2 ^ 32 → nI y + ((nI y).toUInt32 >>> ((16 : Int32).toUInt32 &&& Int32.toUInt32 31)).toInt32 = nI (y + y / 65536) := fun y hy => by
    have e := i_ushr (x := y) (s := 16) hy (by decide)
    rw [show (16 : Int32) = nI 16 from rfl, e, nI_add]
  rw [s4 _ (by clear h1 h2 h3 b1 b2; omega), s5 _ (by clear h1 h2 h3 b1 b2; omega), show (63 : Int32) = nI 63 from rfl, i_and, g_and63]
  have f1 : (q0 + 256 * (q1 + 256 * (q2 + 256 * (q3 + 256 * 0)))) / 256 = q1 + 256 * (q2 + 256 * q3) := by omega
  rw [f1]
  have f2 : (q0 + 256 * (q1 + 256 * (q2 + 256 * (q3 + 256 * 0))) + (q1 + 256 * (q2 + 256 * q3))) / 65536 = (q2 + q3) + 256 * q3 := by clear f1 h1 h2 h3 b1 b2; omega
  rw [f2]
  have f3 : (q0 + 256 * (q1 + 256 * (q2 + 256 * (q3 + 256 * 0))) + (q1 + 256 * (q2 + 256 * q3)) + ((q2 + q3) + 256 * q3)) % 64 = q0 + (q1 + (q2 + q3)) := by clear f1 f2 h1 h2 h3 b1 b2; omega
  rw [f3]
  exact K
