/-! bits for the reference: bytes of a long or an int by shifts and masks -/
theorem iI_and255' (z : Int) : iI z &&& iI 255 = iI (z % 256) := by
  rw [← iI_mod z, iI_and255 (by omega), show z % 4294967296 % 256 = z % 256 by omega]
def un (x : Int64) : Nat := x.toUInt64.toNat
theorem un_int (x : Int64) : x.toInt = if 2 * un x < 18446744073709551616 then (un x : Int) else (un x : Int) - 18446744073709551616 := BitVec.toInt_eq_toNat_cond _
theorem un_lt (x : Int64) : un x < 18446744073709551616 := x.toUInt64.toNat_lt
theorem un_shr (x : Int64) (s : UInt64) : un (x.toUInt64 >>> s).toInt64 = un x / 2 ^ (s.toNat % 64) := by
  show (x.toUInt64 >>> s).toNat = _
  rw [UInt64.toNat_shiftRight, Nat.shiftRight_eq_div_pow]
  rfl
theorem un_amt : ∀ k : Nat, k < 8 → ((iI (8 * (k : Int))).toInt64.toUInt64 &&& Int64.toUInt64 63).toNat % 64 = 8 * k := by decide +kernel
theorem byt_u (b : Int64) (k : Nat) (hk : k < 8) : (((b.toUInt64 >>> ((iI (8 * (k : Int))).toInt64.toUInt64 &&& Int64.toUInt64 63)).toInt64).toInt32 &&& iI 255) = iI (byt b k) := by
  have h0 : ∀ y : Int64, y.toInt32 = iI y.toInt := fun y => (Int32.ofInt_int64ToInt y).symm
  rw [h0, iI_and255']
  apply congrArg
  unfold byt
  have h1 := un_shr b ((iI (8 * (k : Int))).toInt64.toUInt64 &&& Int64.toUInt64 63)
  rw [un_amt k hk] at h1
  rw [un_int, un_int b, h1]
  have h2 := un_lt b
  match k, hk with
  | 0, _ => simp only [Nat.mul_zero, Nat.pow_zero, Int.pow_zero]; split <;> split <;> omega
  | 1, _ => simp only [Nat.mul_one, show (2:Nat) ^ 8 = 256 from rfl, show (256:Int) ^ 1 = 256 from rfl]; split <;> split <;> omega
  | 2, _ => simp only [show (2:Nat) ^ (8 * 2) = 65536 from rfl, show (256:Int) ^ 2 = 65536 from rfl]; split <;> split <;> omega
  | 3, _ => simp only [show (2:Nat) ^ (8 * 3) = 16777216 from rfl, show (256:Int) ^ 3 = 16777216 from rfl]; split <;> split <;> omega
  | 4, _ => simp only [show (2:Nat) ^ (8 * 4) = 4294967296 from rfl, show (256:Int) ^ 4 = 4294967296 from rfl]; split <;> split <;> omega
  | 5, _ => simp only [show (2:Nat) ^ (8 * 5) = 1099511627776 from rfl, show (256:Int) ^ 5 = 1099511627776 from rfl]; split <;> split <;> omega
  | 6, _ => simp only [show (2:Nat) ^ (8 * 6) = 281474976710656 from rfl, show (256:Int) ^ 6 = 281474976710656 from rfl]; split <;> split <;> omega
  | 7, _ => simp only [show (2:Nat) ^ (8 * 7) = 72057594037927936 from rfl, show (256:Int) ^ 7 = 72057594037927936 from rfl]; split <;> split <;> omega
theorem sh_amt : ∀ k : Nat, k < 4 → ((iI (8 * (k : Int)) &&& 31).toBitVec.smod 32).toNat = 8 * k := by decide +kernel
theorem shr_byt (v : Int) (k : Nat) (hk : k < 4) : (iI v >>> (iI (8 * (k : Int)) &&& 31)) &&& iI 255 = iI (byt ((iI v).toInt64) k) := by
  rw [← iI_of (iI v >>> (iI (8 * (k : Int)) &&& 31)), iI_and255', pk_shr _ _ _ (sh_amt k hk)]
  apply congrArg
  unfold byt
  rw [Int32.toInt_toInt64, Int.shiftRight_eq_div_pow]
  match k, hk with
  | 0, _ => rfl
  | 1, _ => rfl
  | 2, _ => rfl
  | 3, _ => rfl
theorem iI_shlw {z : Int} (h0 : 0 ≤ z) (h : z < 16777216) : iI z <<< (iI 8 &&& 31) = iI (z * 256) := by
  obtain ⟨n, rfl⟩ := Int.eq_ofNat_of_zero_le h0
  have hn : n < 2 ^ 32 := by omega
  rw [iI_nI n, show ((n : Int) * 256) = ((n * 2 ^ 8 : Nat) : Int) by omega, iI_nI (n * 2 ^ 8)]
  apply Int32.toBitVec_inj.mp
  apply BitVec.eq_of_toNat_eq
  rw [pk_shl _ _ 8 (by decide), pk_tn hn]
  show _ = (BitVec.ofNat 32 (n * 2 ^ 8)).toNat
  simp
theorem iI_acc {v b : Int} (h0 : 0 ≤ v) (b0 : 0 ≤ b) (b1 : b < 256) : iI (v * 256) ||| iI b = iI (b + v * 256) := by
  rw [Int32.or_comm]; exact iI_or8 b0 b1 h0
