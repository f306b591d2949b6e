/-! the reference's files: rows that it needs -/
theorem flM_dir {d px : Nat → Int} {n : Nat} (h : 0 ≤ fnM d px n) (h2 : isD d (fnM d px n)) : flM d px n = -7 := by
  classical
  unfold flM; rw [if_pos ⟨h, h2⟩]
theorem flM_no {d px : Nat → Int} {n : Nat} (h : ¬ (0 ≤ fnM d px n ∧ isD d (fnM d px n))) : flM d px n = fnM d px n := by
  classical
  unfold flM; rw [if_neg h]
/-- a file is broken -/
theorem opn_neg {d : Nat → Int} {a : Int} (hd : By d) : (opn d a < 0 ↔ opn d a = -9) ∧ -9 ≤ opn d a ∧ opn d a < 65536 ∧ (0 ≤ opn d a → opn d a = wrd d (a + 6)) := by
  have hw := By_wrd hd (a + 6)
  by_cases h0 : wrd d (a + 6) = 0
  · rw [opn_0 h0]; omega
  · by_cases h2 : 0 ≤ chn d (rd d (a + 5)) ∧ wrd d (a + 6) ≤ chn d (rd d (a + 5)) * gSz d
    · rw [opn_ok h0 h2.1 h2.2]; omega
    · rw [opn_no h0 h2]; omega
/-- a search of the reference: before name k of m -/
def FM (d ks : Nat → Int) (m k : Nat) (first a : Int) : Prop := (k < m ∧ fnd d ks m = fnF d ks (m - k) k first) ∨ (k = m ∧ fnd d ks m = a ∧ 0 ≤ a ∧ a + 8 ≤ 2048)
theorem l_mask {z : Int} (h0 : 0 ≤ z) (h1 : z < 4294967296) : (iI z).toInt64 &&& (4294967295 : Int64) = lI z := by
  have e0 : (iI z).toInt64 = lI (iI z).toInt := by
    apply Int64.toInt_inj.mp
    rw [Int32.toInt_toInt64]
    exact (Int64.toInt_ofInt_of_le (by have := Int32.le_toInt (iI z); omega) (by have := Int32.toInt_lt (iI z); omega)).symm
  obtain ⟨n, rfl⟩ := Int.eq_ofNat_of_zero_le h0
  rw [lI_lN]
  apply Int64.toBitVec_inj.mp
  rw [Int64.toBitVec_and]
  apply BitVec.eq_of_toNat_eq
  rw [BitVec.toNat_and]
  have e1 : (4294967295 : Int64).toBitVec.toNat = 2 ^ 32 - 1 := by decide
  rw [e1, Nat.and_two_pow_sub_one_eq_mod]
  have e2 : (lN n).toBitVec.toNat = n := by
    show (BitVec.ofNat 64 n).toNat = n
    rw [BitVec.toNat_ofNat]; omega
  rw [e2]
  have e3 : (iI (n : Int)).toInt64.toBitVec = (iI (n : Int)).toBitVec.signExtend 64 := rfl
  rw [e3, BitVec.toNat_signExtend]
  have e4 : (iI (n : Int)).toBitVec.toNat = n := by rw [iI_nI]; exact pk_tn (by omega)
  simp only [BitVec.toNat_setWidth, e4]
  split <;> omega
