/-! ===== the reference reads a clause of nodes, a clause of a link ===== -/
theorem nI_any (x : Int32) : ∃ z, x = nI z := ⟨x.toBitVec.toNat, by
  apply Int32.toBitVec_inj.mp
  show x.toBitVec = BitVec.ofNat 32 x.toBitVec.toNat
  rw [BitVec.ofNat_toNat, BitVec.setWidth_eq]⟩
