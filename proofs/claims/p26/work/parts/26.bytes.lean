/-! a reading's bytes -/
def bb (x : Int64) (b : Nat) : BitVec 8 := x.toBitVec.extractLsb' (8 * b) 8
theorem bb_sh : ∀ k : Nat, k < 8 → ((nI (8 * k)).toInt64 &&& 63).toBitVec.smod 64 = BitVec.ofNat 64 (8 * k) := by decide +kernel
theorem bb_v : ∀ n : Nat, n < 20 → ((nI n ^^^ Int32.ofInt 255).toInt64).toBitVec = BitVec.ofNat 64 (255 - n) := by decide +kernel
theorem bb_c : ∀ n : Nat, n < 20 → ∀ k : Nat, k < 8 → ∀ t : Nat, t < 8 → (BitVec.ofNat 64 (255 - n) <<< (8 * k)).extractLsb' (8 * t) 8 = if t = k then BitVec.ofNat 8 (255 - n) else 0#8 := by decide +kernel
theorem bb_x : ∀ n : Nat, n < 20 → (255#8 ^^^ BitVec.ofNat 8 (255 - n)).toNat = n := by decide +kernel
theorem bb_xor (x y : BitVec 64) (t : Nat) : (x ^^^ y).extractLsb' (8 * t) 8 = x.extractLsb' (8 * t) 8 ^^^ y.extractLsb' (8 * t) 8 := by
  apply BitVec.eq_of_getLsbD_eq
  intro i hi
  simp [hi]
theorem bb_put {x : Int64} {p c : Int32} {k t : Nat} (hp0 : 0 ≤ p.toInt) (hp : p.toInt < 20) (hc : c.toInt = 8 * k) (hk : k < 8) (ht : t < 8) : bb (x ^^^ ((p ^^^ Int32.ofInt 255).toInt64 <<< (c.toInt64 &&& 63))) t = if t = k then bb x t ^^^ BitVec.ofNat 8 (255 - p.toInt.toNat) else bb x t := by
  have ep : p = nI p.toInt.toNat := t_nI hp0
  have ec : c = nI (8 * k) := by
    have := t_nI (x := c) (by omega)
    rw [this, hc]
    congr 1
  show (x.toBitVec ^^^ (((p ^^^ Int32.ofInt 255).toInt64).toBitVec <<< ((c.toInt64 &&& 63).toBitVec.smod 64))).extractLsb' (8 * t) 8 = _
  rw [bb_xor]
  generalize hn : p.toInt.toNat = n at *
  rw [ep, bb_v n (by omega), ec, bb_sh k hk]
  have e : (BitVec.ofNat 64 (255 - n) <<< BitVec.ofNat 64 (8 * k)) = BitVec.ofNat 64 (255 - n) <<< (8 * k) := by
    show BitVec.ofNat 64 (255 - n) <<< (BitVec.ofNat 64 (8 * k)).toNat = _
    rw [BitVec.toNat_ofNat, Nat.mod_eq_of_lt (by omega)]
  rw [e, bb_c n (by omega) k hk t ht]
  split
  · rfl
  · show _ ^^^ 0#8 = _
    rw [BitVec.xor_zero]
    rfl
theorem bb_get {x : Int64} {c : Int32} {k : Nat} (hc : c.toInt = 8 * k) (hk : k < 8) : ((x >>> (c.toInt64 &&& 63)).toInt32 &&& Int32.ofInt 255).toInt = ((bb x k).toNat : Int) := by
  have ec : c = nI (8 * k) := by
    have := t_nI (x := c) (by omega)
    rw [this, hc]
    congr 1
  have h : ((x >>> (c.toInt64 &&& 63)).toInt32 &&& Int32.ofInt 255).toBitVec = (bb x k).setWidth 32 := by
    show ((x.toBitVec.sshiftRight' ((c.toInt64 &&& 63).toBitVec.smod 64)).signExtend 32) &&& 255#32 = _
    rw [ec, bb_sh k hk]
    show ((x.toBitVec.sshiftRight (BitVec.ofNat 64 (8 * k)).toNat).signExtend 32) &&& 255#32 = _
    rw [BitVec.toNat_ofNat, Nat.mod_eq_of_lt (by omega)]
    apply BitVec.eq_of_getLsbD_eq
    intro i hi
    have h255 : (255#32).getLsbD i = decide (i < 8) := by
      have : ∀ i : Nat, i < 32 → (255#32).getLsbD i = decide (i < 8) := by decide +kernel
      exact this i hi
    rw [BitVec.getLsbD_and, h255]
    by_cases h8 : i < 8
    · rw [BitVec.getLsbD_signExtend, BitVec.getLsbD_sshiftRight]
      simp [bb, h8, hi, show i < 64 by omega, show 8 * k + i < 64 by omega]
      try omega
    · simp [bb, h8, hi]
  show (((x >>> (c.toInt64 &&& 63)).toInt32 &&& Int32.ofInt 255).toBitVec).toInt = _
  rw [h, BitVec.toInt_setWidth]
  have := (bb x k).isLt
  simp [Int.bmod]
  omega
/-- byte s of reading r -/
def kb (L : fN) (r s : Nat) : Int := ((bb (L 70 (8 * r + s / 8)) (s % 8)).toNat : Int)
theorem kb_rng (L : fN) (r s : Nat) : 0 ≤ kb L r s ∧ kb L r s ≤ 255 := by
  unfold kb
  have := (bb (L 70 (8 * r + s / 8)) (s % 8)).isLt
  omega
theorem kb_put {M M' : fN} {r s : Nat} (hs : s < 64) {p c : Int32} (hp0 : 0 ≤ p.toInt) (hp : p.toInt < 20) (hc : c.toInt = 8 * (s % 8 : Nat)) (h255 : kb M r s = 255) (hM : M' 70 = vp_updL (M 70) (8 * r + s / 8) (M 70 (8 * r + s / 8) ^^^ ((p ^^^ Int32.ofInt 255).toInt64 <<< (c.toInt64 &&& 63)))) :
    kb M' r s = p.toInt ∧ (∀ t, t ≠ s → kb M' r t = kb M r t) ∧ ∀ j, (j < 8 * r ∨ 8 * r + 8 ≤ j) → M' 70 j = M 70 j := by
  refine ⟨?_, fun t ht => ?_, fun j hj => ?_⟩
  · unfold kb at *
    rw [hM, pk_uLs, bb_put hp0 hp hc (by omega) (by omega), if_pos rfl]
    have e : bb (M 70 (8 * r + s / 8)) (s % 8) = 255#8 := by
      apply BitVec.eq_of_toNat_eq
      show _ = 255
      omega
    rw [e, bb_x _ (by omega)]
    omega
  · unfold kb
    rw [hM]
    by_cases e : 8 * r + t / 8 = 8 * r + s / 8
    · rw [e, pk_uLs, bb_put hp0 hp hc (by omega) (by omega), if_neg (by omega)]
    · rw [pk_uLn e]
  · rw [hM, pk_uLn (by omega)]
