/-! Bits of embedded integers. -/
section MBITS
theorem iI_bv (z : Int) : (iI z).toBitVec = BitVec.ofInt 32 z := rfl
theorem and_mask (v : Int32) (m : Nat) (hm : m ≤ 31) : v &&& iI (2 ^ m - 1) = iI (v.toInt % 2 ^ m) := by
  apply Int32.toBitVec_inj.mp
  rw [Int32.toBitVec_and, iI_bv, iI_bv]
  apply BitVec.eq_of_toNat_eq
  have hp : (2 : Int) ^ m = ((2 ^ m : Nat) : Int) := by simp
  have h2 : (2 : Nat) ^ m ≤ 2 ^ 31 := Nat.pow_le_pow_right (by decide) hm
  have h3 : 0 < (2 : Nat) ^ m := Nat.pow_pos (by decide)
  have e1 : (BitVec.ofInt 32 (2 ^ m - 1)).toNat = 2 ^ m - 1 := by
    rw [BitVec.toNat_ofInt, hp]
    omega
  have e2 : (BitVec.ofInt 32 (v.toInt % 2 ^ m)).toNat = v.toBitVec.toNat % 2 ^ m := by
    rw [BitVec.toNat_ofInt]
    have hv : v.toInt = v.toBitVec.toInt := rfl
    rw [hv, BitVec.toInt_eq_toNat_bmod, hp]
    have hd : ((2 ^ m : Nat) : Int) ∣ (2 ^ 32 : Nat) := by
      exact Int.natCast_dvd_natCast.mpr (Nat.pow_dvd_pow 2 (by omega))
    have e3 : ((v.toBitVec.toNat : Int).bmod (2 ^ 32)) % ((2 ^ m : Nat) : Int) = (v.toBitVec.toNat : Int) % ((2 ^ m : Nat) : Int) := by
      rw [Int.bmod_def]
      obtain ⟨c, hc⟩ := hd
      split
      · rw [Int.emod_emod_of_dvd _ ⟨c, hc⟩]
      · rw [show ((v.toBitVec.toNat : Int) % ((2 ^ 32 : Nat) : Int) - ((2 ^ 32 : Nat) : Int)) = (v.toBitVec.toNat : Int) % ((2 ^ 32 : Nat) : Int) + ((2 ^ m : Nat) : Int) * (-c) by rw [hc, Int.mul_neg]; omega, Int.add_mul_emod_self_left, Int.emod_emod_of_dvd _ ⟨c, hc⟩]
    rw [e3]
    have : ((v.toBitVec.toNat : Int) % ((2 ^ m : Nat) : Int)) = ((v.toBitVec.toNat % 2 ^ m : Nat) : Int) := by simp
    rw [this]
    have := Nat.mod_lt v.toBitVec.toNat h3
    omega
  rw [BitVec.toNat_and, e1, e2, Nat.and_two_pow_sub_one_eq_mod]
theorem shr_am : ∀ s, s < 32 → ((iI (s : Nat) &&& 31).toBitVec.smod 32) = BitVec.ofNat 32 s := by decide +kernel
theorem iI_shr (w : Int) (s : Nat) (hs : s < 32) (h1 : -2147483648 ≤ w) (h2 : w < 2147483648) : iI w >>> (iI s &&& 31) = iI (w / 2 ^ s) := by
  apply Int32.toInt_inj.mp
  have e : (iI w >>> (iI s &&& 31)).toInt = (iI w >>> (iI s &&& 31)).toBitVec.toInt := rfl
  rw [e, Int32.toBitVec_shiftRight, shr_am s hs, BitVec.sshiftRight', BitVec.toInt_sshiftRight, BitVec.toNat_ofNat, Nat.mod_eq_of_lt (by omega)]
  have e2 : (iI w).toBitVec.toInt = w := Int32.toInt_ofInt_of_le (by omega) (by omega)
  rw [e2, Int.shiftRight_eq_div_pow]
  have hp : ((2 ^ s : Nat) : Int) = 2 ^ s := by simp
  have h3 : (1 : Int) ≤ 2 ^ s := by rw [← hp]; have : 0 < (2 : Nat) ^ s := Nat.pow_pos (by decide); omega
  rw [hp]
  refine (Int32.toInt_ofInt_of_le ?_ ?_).symm
  · rcases Int.lt_or_le w 0 with q | q
    · have := Int.ediv_nonneg_iff_of_pos (a := w) (b := 2 ^ s) (by omega)
      have h5 : w / 2 ^ s * 2 ^ s ≤ w := Int.ediv_mul_le w (by omega)
      have h6 : w ≤ w / 2 ^ s := by
        refine Int.le_ediv_of_mul_le (by omega) ?_
        have : w * 2 ^ s ≤ w * 1 := Int.mul_le_mul_of_nonpos_left (by omega) h3
        omega
      omega
    · have := Int.ediv_nonneg q (b := 2 ^ s) (by omega)
      omega
  · rcases Int.lt_or_le w 0 with q | q
    · have : w / 2 ^ s < 0 := Int.ediv_neg_of_neg_of_pos q (by omega)
      omega
    · have := Int.ediv_le_self (a := w) (2 ^ s) q
      omega
theorem iI_shr4 {w : Int} (h1 : -2147483648 ≤ w) (h2 : w < 2147483648) : iI w >>> (iI 4 &&& 31) = iI (w / 16) := iI_shr w 4 (by decide) h1 h2
theorem iI_shr8 {w : Int} (h1 : -2147483648 ≤ w) (h2 : w < 2147483648) : iI w >>> (iI 8 &&& 31) = iI (w / 256) := iI_shr w 8 (by decide) h1 h2
theorem iI_shr16 {w : Int} (h1 : -2147483648 ≤ w) (h2 : w < 2147483648) : iI w >>> (iI 16 &&& 31) = iI (w / 65536) := iI_shr w 16 (by decide) h1 h2
theorem iI_shr24 {w : Int} (h1 : -2147483648 ≤ w) (h2 : w < 2147483648) : iI w >>> (iI 24 &&& 31) = iI (w / 16777216) := iI_shr w 24 (by decide) h1 h2
theorem iI_shr0 {w : Int} (h1 : -2147483648 ≤ w) (h2 : w < 2147483648) : iI w >>> (iI 0 &&& 31) = iI w := by have := iI_shr w 0 (by decide) h1 h2; simpa using this
theorem iI_and255 (v : Int32) : v &&& iI 255 = iI (v.toInt % 256) := and_mask v 8 (by decide)
theorem iI_and127 (v : Int32) : v &&& iI 127 = iI (v.toInt % 128) := and_mask v 7 (by decide)
theorem iI_and31 (v : Int32) : v &&& iI 31 = iI (v.toInt % 32) := and_mask v 5 (by decide)
theorem iI_and1 (v : Int32) : v &&& iI 1 = iI (v.toInt % 2) := and_mask v 1 (by decide)
theorem shl_am : ∀ s, s < 32 → ((iI (s : Nat) &&& 31).toBitVec.smod 32) = BitVec.ofNat 32 s := shr_am
theorem iI_shl8 (w : Int) : iI w <<< (iI 8 &&& 31) = iI (w * 256) := by
  apply Int32.toBitVec_inj.mp
  rw [Int32.toBitVec_shiftLeft, show ((iI 8 &&& 31).toBitVec.smod 32) = BitVec.ofNat 32 8 from shr_am 8 (by decide), BitVec.shiftLeft_eq', BitVec.toNat_ofNat, Nat.mod_eq_of_lt (by decide), BitVec.shiftLeft_eq_mul_twoPow, iI_bv, iI_bv, BitVec.ofInt_mul]
  rfl
theorem iI_shl4 (w : Int) : iI w <<< (iI 4 &&& 31) = iI (w * 16) := by
  apply Int32.toBitVec_inj.mp
  rw [Int32.toBitVec_shiftLeft, show ((iI 4 &&& 31).toBitVec.smod 32) = BitVec.ofNat 32 4 from shr_am 4 (by decide), BitVec.shiftLeft_eq', BitVec.toNat_ofNat, Nat.mod_eq_of_lt (by decide), BitVec.shiftLeft_eq_mul_twoPow, iI_bv, iI_bv, BitVec.ofInt_mul]
  rfl
/-- bits that don't meet -/
theorem iI_or (m : Nat) (x y : Int) (hm : m ≤ 30) (hx : 0 ≤ x) (hy : 0 ≤ y) (hy2 : y < 2 ^ m) (hx2 : x * 2 ^ m < 2147483648) : iI (x * 2 ^ m) ||| iI y = iI (x * 2 ^ m + y) := by
  obtain ⟨a, rfl⟩ := Int.eq_ofNat_of_zero_le hx
  obtain ⟨c, rfl⟩ := Int.eq_ofNat_of_zero_le hy
  have hp : (2 : Int) ^ m = ((2 ^ m : Nat) : Int) := by simp
  rw [hp] at hy2 hx2 ⊢
  have hc : c < 2 ^ m := Int.ofNat_lt.mp hy2
  have h2 : (2 : Nat) ^ m ≤ 2 ^ 30 := Nat.pow_le_pow_right (by decide) hm
  have ha : a * 2 ^ m < 2147483648 := by rw [← Int.natCast_mul] at hx2; exact Int.ofNat_lt.mp hx2
  apply Int32.toBitVec_inj.mp
  rw [Int32.toBitVec_or, iI_bv, iI_bv, iI_bv]
  apply BitVec.eq_of_toNat_eq
  rw [BitVec.toNat_or, ← Int.natCast_mul, ← Int.natCast_add, BitVec.ofInt_natCast, BitVec.ofInt_natCast, BitVec.ofInt_natCast, BitVec.toNat_ofNat, BitVec.toNat_ofNat, BitVec.toNat_ofNat, Nat.mod_eq_of_lt (by omega), Nat.mod_eq_of_lt (by omega), Nat.mod_eq_of_lt (by omega), Nat.mul_comm a, Nat.two_pow_add_eq_or_of_lt hc]
theorem iI_or8 {x y : Int} (hx : 0 ≤ x) (hx2 : x < 8388608) (hy : 0 ≤ y) (hy2 : y < 256) : iI (x * 256) ||| iI y = iI (x * 256 + y) := iI_or 8 x y (by decide) hx hy (by omega) (by omega)
theorem iI_or4 {x y : Int} (hx : 0 ≤ x) (hx2 : x < 8388608) (hy : 0 ≤ y) (hy2 : y < 16) : iI (x * 16) ||| iI y = iI (x * 16 + y) := iI_or 4 x y (by decide) hx hy (by omega) (by omega)
theorem iI_div {a c : Int} (h1 : 0 ≤ a) (h2 : a < 2147483648) (h3 : 0 < c) (h4 : c < 2147483648) : iI a / iI c = iI (a / c) := by
  apply Int32.toInt_inj.mp
  rw [Int32.toInt_div, show (iI a).toInt = a from Int32.toInt_ofInt_of_le (by omega) (by omega), show (iI c).toInt = c from Int32.toInt_ofInt_of_le (by omega) (by omega), Int.tdiv_eq_ediv_of_nonneg h1]
  have q1 := Int.ediv_nonneg h1 (b := c) (by omega)
  have q2 := Int.ediv_le_self (a := a) c h1
  rw [show (iI (a / c)).toInt = a / c from Int32.toInt_ofInt_of_le (by omega) (by omega)]
  exact Int.bmod_eq_of_le (by simp; omega) (by simp; omega)
theorem iI_rem {a c : Int} (h1 : 0 ≤ a) (h2 : a < 2147483648) (h3 : 0 < c) (h4 : c < 2147483648) : iI a - iI a / iI c * iI c = iI (a % c) := by
  rw [iI_div h1 h2 h3 h4]
  unfold iI
  rw [← Int32.ofInt_mul, ← Int32.ofInt_sub, Int.emod_def, Int.mul_comm]
end MBITS
