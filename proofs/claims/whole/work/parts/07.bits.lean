/-! bits and masks over iI -/
theorem bI_and' {z : Int} (h0 : 0 ≤ z) (h : z < 256) : bI z &&& iI 255 = iI z := bI_and h0 h
theorem nx_or (a b : Nat) : nI a ||| nI b = nI (a ||| b) := by
  apply Int32.toBitVec_inj.1
  show BitVec.ofNat 32 a ||| BitVec.ofNat 32 b = BitVec.ofNat 32 (a ||| b)
  apply BitVec.eq_of_getLsbD_eq
  intro i hi
  simp [hi]
theorem nx_and' (a b : Nat) : nI a &&& nI b = nI (a &&& b) := by
  apply Int32.toBitVec_inj.1
  show BitVec.ofNat 32 a &&& BitVec.ofNat 32 b = BitVec.ofNat 32 (a &&& b)
  apply BitVec.eq_of_getLsbD_eq
  intro i hi
  simp [hi]
theorem nI_mod (a : Nat) : nI (a % 4294967296) = nI a := by
  apply Int32.toBitVec_inj.1
  show BitVec.ofNat 32 (a % 4294967296) = BitVec.ofNat 32 a
  apply BitVec.eq_of_toNat_eq
  simp
/-- a small number, shifted by 8, 16 or 24 -/
theorem iI_shl {z : Int} (k : Nat) (hk : k < 32) (h0 : 0 ≤ z) (h : z < 65536) (hs : ((iI k &&& 31).toBitVec.smod 32).toNat = k) : iI z <<< (iI k &&& 31) = iI (z * 2 ^ k) := by
  obtain ⟨n, rfl⟩ := Int.eq_ofNat_of_zero_le h0
  have hn : n < 2 ^ 32 := by omega
  have e : ((n : Int) * 2 ^ k) = ((n * 2 ^ k : Nat) : Int) := by simp
  rw [iI_nI n, e, iI_nI (n * 2 ^ k)]
  apply Int32.toBitVec_inj.mp
  apply BitVec.eq_of_toNat_eq
  rw [pk_shl _ _ k hs, pk_tn hn]
  show _ = (BitVec.ofNat 32 (n * 2 ^ k)).toNat
  simp
theorem iI_shl8 {z : Int} (h0 : 0 ≤ z) (h : z < 65536) : iI z <<< (iI 8 &&& 31) = iI (z * 256) := iI_shl 8 (by decide) h0 h (by decide)
theorem iI_shl16 {z : Int} (h0 : 0 ≤ z) (h : z < 65536) : iI z <<< (iI 16 &&& 31) = iI (z * 65536) := iI_shl 16 (by decide) h0 h (by decide)
theorem iI_shl24 {z : Int} (h0 : 0 ≤ z) (h : z < 65536) : iI z <<< (iI 24 &&& 31) = iI (z * 16777216) := iI_shl 24 (by decide) h0 h (by decide)
theorem iI_or {a b : Int} (k : Nat) (ha : 0 ≤ a) (ha2 : a < 2 ^ k) (hb : 0 ≤ b) : iI a ||| iI (b * 2 ^ k) = iI (a + b * 2 ^ k) := by
  obtain ⟨x, rfl⟩ := Int.eq_ofNat_of_zero_le ha
  obtain ⟨y, rfl⟩ := Int.eq_ofNat_of_zero_le hb
  have e : ((y : Int) * 2 ^ k) = ((y * 2 ^ k : Nat) : Int) := by simp
  have e2 : ((x : Int) + ((y * 2 ^ k : Nat) : Int)) = ((x + y * 2 ^ k : Nat) : Int) := by simp
  have hx : x < 2 ^ k := by
    have h3 : ((2 ^ k : Nat) : Int) = 2 ^ k := by simp
    omega
  have h1 : y * 2 ^ k ||| x = y * 2 ^ k + x := by rw [← Nat.shiftLeft_eq, Nat.shiftLeft_add_eq_or_of_lt hx]
  rw [e, e2, iI_nI, iI_nI, iI_nI, nx_or, Nat.or_comm, h1, Nat.add_comm]
theorem iI_or8 {a b : Int} (ha : 0 ≤ a) (ha2 : a < 256) (hb : 0 ≤ b) : iI a ||| iI (b * 256) = iI (a + b * 256) := iI_or 8 ha (by simpa using ha2) hb
theorem iI_or16 {a b : Int} (ha : 0 ≤ a) (ha2 : a < 65536) (hb : 0 ≤ b) : iI a ||| iI (b * 65536) = iI (a + b * 65536) := iI_or 16 ha (by simpa using ha2) hb
theorem iI_or24 {a b : Int} (ha : 0 ≤ a) (ha2 : a < 16777216) (hb : 0 ≤ b) : iI a ||| iI (b * 16777216) = iI (a + b * 16777216) := iI_or 24 ha (by simpa using ha2) hb
/-- the low k bits of a number that isn't negative -/
theorem iI_low {z : Int} (k : Nat) (h0 : 0 ≤ z) : iI z &&& iI (2 ^ k - 1) = iI (z % 2 ^ k) := by
  obtain ⟨n, rfl⟩ := Int.eq_ofNat_of_zero_le h0
  have h1 : 0 < 2 ^ k := Nat.two_pow_pos k
  have e : ((2 : Int) ^ k - 1) = ((2 ^ k - 1 : Nat) : Int) := by
    have h3 : ((2 ^ k : Nat) : Int) = 2 ^ k := by simp
    omega
  have e2 : ((n : Int) % 2 ^ k) = ((n % 2 ^ k : Nat) : Int) := by simp
  rw [e, e2, iI_nI, iI_nI, iI_nI, nx_and', Nat.and_two_pow_sub_one_eq_mod]
theorem iI_and4095 {z : Int} (h0 : 0 ≤ z) : iI z &&& iI 4095 = iI (z % 4096) := iI_low 12 h0
theorem iI_and255 {z : Int} (h0 : 0 ≤ z) : iI z &&& iI 255 = iI (z % 256) := iI_low 8 h0
/-- a bit of a byte -/
def bit (z : Int) (k : Int) : Int := z / k % 2
theorem bit8_n : ∀ n : Nat, n < 256 → nI n &&& nI 8 = nI (8 * (n / 8 % 2)) := by decide +kernel
theorem bit16_n : ∀ n : Nat, n < 256 → nI n &&& nI 16 = nI (16 * (n / 16 % 2)) := by decide +kernel
theorem iI_bit8 {z : Int} (h0 : 0 ≤ z) (h : z < 256) : iI z &&& iI 8 = iI (8 * (z / 8 % 2)) := by
  obtain ⟨n, rfl⟩ := Int.eq_ofNat_of_zero_le h0
  have e : (8 * ((n : Int) / 8 % 2)) = ((8 * (n / 8 % 2) : Nat) : Int) := by simp
  rw [e, iI_nI, iI_nI, show iI 8 = nI 8 from rfl]
  exact bit8_n n (by omega)
theorem iI_bit16 {z : Int} (h0 : 0 ≤ z) (h : z < 256) : iI z &&& iI 16 = iI (16 * (z / 16 % 2)) := by
  obtain ⟨n, rfl⟩ := Int.eq_ofNat_of_zero_le h0
  have e : (16 * ((n : Int) / 16 % 2)) = ((16 * (n / 16 % 2) : Nat) : Int) := by simp
  rw [e, iI_nI, iI_nI, show iI 16 = nI 16 from rfl]
  exact bit16_n n (by omega)
/-- ints that agree modulo 2 ^ 32 -/
theorem iI_mod (z : Int) : iI (z % 4294967296) = iI z := by
  apply Int32.toInt_inj.mp
  show (Int32.ofInt _).toInt = (Int32.ofInt _).toInt
  rw [Int32.toInt_ofInt, Int32.toInt_ofInt]
  exact Int.emod_bmod z 4294967296
theorem iI_inj32 {a b : Int} (ha : 0 ≤ a) (ha2 : a < 4294967296) (hb : 0 ≤ b) (hb2 : b < 4294967296) : iI a = iI b ↔ a = b := by
  constructor
  · intro h
    have h1 := congrArg Int32.toInt h
    have h2 : (Int32.ofInt a).toInt = (Int32.ofInt b).toInt := h1
    rw [Int32.toInt_ofInt, Int32.toInt_ofInt] at h2
    have h3 : Int.bmod a 4294967296 = Int.bmod b 4294967296 := h2
    rw [Int.bmod_def, Int.bmod_def] at h3
    split at h3 <;> split at h3 <;> omega
  · intro h; rw [h]
/-- byte k of a long -/
def byt (b : Int64) (k : Nat) : Int := b.toInt / 256 ^ k % 256
theorem byt_range (b : Int64) (k : Nat) : 0 ≤ byt b k ∧ byt b k < 256 := by unfold byt; omega
theorem byt_amt : ∀ k : Nat, k < 8 → (((iI (8 * (k : Int))).toInt64 &&& 63).toBitVec.smod 64).toNat = 8 * k := by decide +kernel
theorem lsh_toInt (b s : Int64) (k : Nat) (hs : (s.toBitVec.smod 64).toNat = k) : (b >>> s).toInt = b.toInt / 2 ^ k := by
  show (b.toBitVec.sshiftRight (s.toBitVec.smod 64).toNat).toInt = _
  rw [hs, BitVec.toInt_sshiftRight, Int.shiftRight_eq_div_pow]
  rfl
theorem i8_mod (z : Int) : Int8.ofInt (z % 256) = Int8.ofInt z := by
  apply Int8.toInt_inj.mp
  rw [Int8.toInt_ofInt, Int8.toInt_ofInt]
  exact Int.emod_bmod z 256
theorem i8_of (z : Int) : (iI z).toInt8 = Int8.ofInt z := Int32.toInt8_ofInt
theorem i8_idem (x : Int8) : x.toInt32.toInt8 = x := by simp
theorem l8_of (y : Int64) : y.toInt32.toInt8 = Int8.ofInt y.toInt := by
  rw [← Int32.ofInt_int64ToInt]
  exact Int32.toInt8_ofInt
theorem byt_eq (b : Int64) (k : Nat) (hk : k < 8) : (((b >>> ((iI (8 * (k : Int))).toInt64 &&& 63)).toInt32).toInt8.toInt32).toInt8.toInt32 = bI (byt b k) := by
  unfold bI byt
  rw [i8_idem, l8_of, i8_of, i8_mod, lsh_toInt _ _ (8 * k) (byt_amt k hk)]
  have e : (2 : Int) ^ (8 * k) = 256 ^ k := by
    rw [Int.pow_mul]; rfl
  rw [e]
/-- k bytes of b onto d from z on -/
def putK (d : Nat → Int) (z : Int) (b : Int64) : Nat → Nat → Int
  | 0 => d
  | k + 1 => va_up (putK d z b k) (z + (k : Int)).toNat (byt b k)
theorem By_putK {d : Nat → Int} (h : By d) (z : Int) (b : Int64) : ∀ k, By (putK d z b k)
  | 0 => h
  | k + 1 => by
    intro j
    unfold putK va_up
    split
    · exact byt_range b k
    · exact By_putK h z b k j
def putOk (n : Nat) (z m : Int) : Prop := 1 ≤ m ∧ m ≤ 8 ∧ 0 ≤ z ∧ z ≤ n - m
