/-! ===== numbers, bits, what stays ===== -/
def i_b (b : Bool) : Int32 := if b = true then 1 else 0
def i_o (o : Option Nat) : Int32 := match o with
  | some l => nI l
  | none => -1
theorem i_b01 (b : Bool) : i_b b = 0 ∨ i_b b = 1 := by cases b <;> simp [i_b]
theorem i_b0 {b : Bool} : i_b b = 0 ↔ b = false := by cases b <;> simp [i_b]
theorem i_b1 {b : Bool} : i_b b = 1 ↔ b = true := by cases b <;> simp [i_b]
theorem i_lt {x y : Int32} (a b : Nat) (hx : x = nI a) (hy : y = nI b) (ha : a < 2 ^ 31) (hb : b < 2 ^ 31) : x < y ↔ a < b := by subst hx; subst hy; exact nI_ltI ha hb
theorem i_le {x y : Int32} (a b : Nat) (hx : x = nI a) (hy : y = nI b) (ha : a < 2 ^ 31) (hb : b < 2 ^ 31) : x ≤ y ↔ a ≤ b := by subst hx; subst hy; exact nI_leI ha hb
theorem i_eq {x y : Int32} (a b : Nat) (hx : x = nI a) (hy : y = nI b) (ha : a < 2 ^ 31) (hb : b < 2 ^ 31) : x = y ↔ a = b := by subst hx; subst hy; exact nI_eq ha hb
theorem i_vp {x : Int32} {n : Nat} (a : Nat) (hx : x = nI a) (h : a < n) (hn : n < 2 ^ 31) : vp_in x n := by subst hx; exact vp_in_nI h hn
theorem i_cl {x : Int32} (a : Nat) (hx : x = nI a) (ha : a < 2 ^ 31) : x.toNatClampNeg = a := by subst hx; exact nI_clamp ha
theorem i_m1ne {a : Nat} (ha : a < 2 ^ 31) : ¬ nI a = (-1 : Int32) := by
  intro h
  have h1 := congrArg Int32.toInt h
  rw [nI_toInt ha] at h1
  have h2 : (-1 : Int32).toInt = -1 := by decide
  omega
theorem i_m1lt {a : Nat} (ha : a < 2 ^ 31) : (-1 : Int32) < nI a := by
  rw [Int32.lt_iff_toInt_lt, nI_toInt ha]
  have h2 : (-1 : Int32).toInt = -1 := by decide
  omega
theorem i_neg {x : Int32} (h : x < 0) {a : Nat} (ha : a < 2 ^ 31) : ¬ x = nI a := by
  rintro rfl
  exact nI_pos ha h
/-- a number that is told: below 0, or a natural one -/
theorem i_cases (x : Int32) : x < 0 ∨ ∃ a, a < 2 ^ 31 ∧ x = nI a := by
  by_cases h : x < 0
  · exact Or.inl h
  · exact Or.inr (nI_of h)
theorem i_sub {a b : Nat} (h : b ≤ a) : nI a - nI b = nI (a - b) := pk_sub h
theorem i_sl : ∀ n, n < 32 → ((nI n &&& 31).toBitVec.smod 32).toNat = n := by decide +kernel
theorem i_1shl {l : Nat} (hl : l < 31) : (1 : Int32) <<< (nI l &&& 31) = nI (2 ^ l) := by
  have h := pk_shlN (n := 1) (nI l &&& 31) l (i_sl l (by omega)) (by
    have : 2 ^ l < 2 ^ 32 := Nat.pow_lt_pow_right (by omega) (by omega)
    omega)
  rw [Nat.one_mul] at h
  exact h
theorem i_and (a b : Nat) : nI a &&& nI b = nI (a &&& b) := by
  apply Int32.toBitVec_inj.mp
  rw [Int32.toBitVec_and]
  show BitVec.ofNat 32 a &&& BitVec.ofNat 32 b = BitVec.ofNat 32 (a &&& b)
  exact (BitVec.ofNat_and).symm
theorem i_or (a b : Nat) : nI a ||| nI b = nI (a ||| b) := by
  apply Int32.toBitVec_inj.mp
  rw [Int32.toBitVec_or]
  show BitVec.ofNat 32 a ||| BitVec.ofNat 32 b = BitVec.ofNat 32 (a ||| b)
  exact (BitVec.ofNat_or).symm
theorem i_xor (a b : Nat) : nI a ^^^ nI b = nI (a ^^^ b) := by
  apply Int32.toBitVec_inj.mp
  rw [Int32.toBitVec_xor]
  show BitVec.ofNat 32 a ^^^ BitVec.ofNat 32 b = BitVec.ofNat 32 (a ^^^ b)
  exact (BitVec.ofNat_xor).symm
theorem i_m1 : (-1 : Int32) = nI (2 ^ 32 - 1) := by decide
theorem i_shr {S l : Nat} (hS : S < 2 ^ 31) (hl : l < 31) : nI S >>> (nI l &&& 31) = nI (S / 2 ^ l) := pk_shrN hS (nI l &&& 31) l (i_sl l (by omega))
theorem i_bit {S l : Nat} (hS : S < 2 ^ 31) (hl : l < 31) : (nI S >>> (nI l &&& 31)) &&& (1 : Int32) = i_b (S.testBit l) := by
  rw [i_shr hS hl, show (1 : Int32) = nI 1 from rfl, i_and]
  rw [Nat.and_one_is_mod, Nat.testBit_eq_decide_div_mod_eq]
  rcases Nat.mod_two_eq_zero_or_one (S / 2 ^ l) with h | h <;> rw [h] <;> rfl
/-- regions outside S stay -/
def Sm (S : List Nat) (I I' : Nat → Nat → Int32) : Prop := ∀ r, r ∉ S → I' r = I r
theorem Sm.rf {S : List Nat} {I : Nat → Nat → Int32} : Sm S I I := fun _ _ => rfl
theorem Sm.tr {S : List Nat} {I I' I'' : Nat → Nat → Int32} (h : Sm S I I') (h' : Sm S I' I'') : Sm S I I'' := fun r hr => (h' r hr).trans (h r hr)
theorem Sm.up {S : List Nat} {I I' : Nat → Nat → Int32} {r i : Nat} {v : Int32} (h : Sm S I I') (hr : r ∈ S) : Sm S I (x_up I' r i v) := fun q hq => by
  have : q ≠ r := by rintro rfl; exact hq hr
  simp only [x_up, if_neg this]
  exact h q hq
theorem Sm.mono {S T : List Nat} {I I' : Nat → Nat → Int32} (h : Sm S I I') (hs : ∀ r, r ∈ S → r ∈ T) : Sm T I I' := fun r hr => h r (fun z => hr (hs r z))
theorem x_up_eq {I : Nat → Nat → Int32} {r i : Nat} {v : Int32} : x_up I r i v r = upd (I r) i v := by simp [x_up]
theorem x_up_ne {I : Nat → Nat → Int32} {r i q : Nat} {v : Int32} (h : q ≠ r) : x_up I r i v q = I q := by simp [x_up, h]
theorem x_up_at {I : Nat → Nat → Int32} {r i : Nat} {v : Int32} : x_up I r i v r i = v := by simp [x_up, upd]
theorem x_up_off {I : Nat → Nat → Int32} {r i j : Nat} {v : Int32} (h : j ≠ i) : x_up I r i v r j = I r j := by simp [x_up, upd, h]
theorem x_up_app {I : Nat → Nat → Int32} {r i q j : Nat} {v : Int32} : x_up I r i v q j = if q = r ∧ j = i then v else I q j := by
  by_cases h : q = r
  · subst h
    by_cases hj : j = i <;> simp [x_up, upd, hj]
  · simp [x_up, h]
