/-! files: what stands at a path, how it is opened; the entries of a directory by number -/
noncomputable def fil (d : Nat → Int) (ks : Nat → Int) (n : Nat) : Int := by
  classical
  exact if 0 ≤ fnd d ks n ∧ isD d (fnd d ks n) then -7 else fnd d ks n
noncomputable def opn (d : Nat → Int) (a : Int) : Int := by
  classical
  exact if wrd d (a + 6) = 0 then 0 else if 0 ≤ chn d (rd d (a + 5)) ∧ wrd d (a + 6) ≤ chn d (rd d (a + 5)) * gSz d then wrd d (a + 6) else -9
theorem opn_0 {d : Nat → Int} {a : Int} (h : wrd d (a + 6) = 0) : opn d a = 0 := by
  classical
  unfold opn; rw [if_pos h]
theorem opn_ok {d : Nat → Int} {a : Int} (h : ¬ wrd d (a + 6) = 0) (h2 : 0 ≤ chn d (rd d (a + 5))) (h3 : wrd d (a + 6) ≤ chn d (rd d (a + 5)) * gSz d) : opn d a = wrd d (a + 6) := by
  classical
  unfold opn; rw [if_neg h, if_pos ⟨h2, h3⟩]
theorem opn_no {d : Nat → Int} {a : Int} (h : ¬ wrd d (a + 6) = 0) (h2 : ¬ (0 ≤ chn d (rd d (a + 5)) ∧ wrd d (a + 6) ≤ chn d (rd d (a + 5)) * gSz d)) : opn d a = -9 := by
  classical
  unfold opn; rw [if_neg h, if_neg h2]
theorem opn_pos {d : Nat → Int} {a : Int} (h : 0 < opn d a) : opn d a = wrd d (a + 6) ∧ 0 ≤ chn d (rd d (a + 5)) ∧ wrd d (a + 6) ≤ chn d (rd d (a + 5)) * gSz d := by
  by_cases h0 : wrd d (a + 6) = 0
  · rw [opn_0 h0] at h; omega
  · by_cases h2 : 0 ≤ chn d (rd d (a + 5)) ∧ wrd d (a + 6) ≤ chn d (rd d (a + 5)) * gSz d
    · exact ⟨opn_ok h0 h2.1 h2.2, h2⟩
    · rw [opn_no h0 h2] at h; omega
noncomputable def lsF (d : Nat → Int) (first len : Int) : Nat → Int → Int → Int
  | 0, _, _ => -1
  | f + 1, j, k => by
    classical
    exact if ent d first len j < 0 then -1 else if pas d (ent d first len j) then lsF d first len f (j + 1) k else if k = 0 then n4 d (ent d first len j) else lsF d first len f (j + 1) (k - 1)
noncomputable def lst (d : Nat → Int) (first len j k : Int) : Int := lsF d first len ((nsl d len - j).toNat + 1) j k
theorem ent_lt {d : Nat → Int} {first len j : Int} (h : ¬ ent d first len j < 0) : j < nsl d len := by
  rcases ent_cases d first len j with e | ⟨e, -, -⟩
  · omega
  · exact e
theorem lst_none {d : Nat → Int} {first len j k : Int} (h : ent d first len j < 0) : lst d first len j k = -1 := by
  classical
  unfold lst lsF; rw [if_pos h]
theorem lst_hit {d : Nat → Int} {first len j k : Int} (h : ¬ ent d first len j < 0) (h1 : ¬ pas d (ent d first len j)) (h2 : k = 0) : lst d first len j k = n4 d (ent d first len j) := by
  classical
  unfold lst lsF; rw [if_neg h, if_neg h1, if_pos h2]
theorem lst_pas {d : Nat → Int} {first len j k : Int} (h : ¬ ent d first len j < 0) (h1 : pas d (ent d first len j)) : lst d first len j k = lst d first len (j + 1) k := by
  classical
  have hj := ent_lt h
  unfold lst
  conv => lhs; unfold lsF
  rw [if_neg h, if_pos h1, show (nsl d len - j).toNat = (nsl d len - (j + 1)).toNat + 1 by omega]
theorem lst_step {d : Nat → Int} {first len j k : Int} (h : ¬ ent d first len j < 0) (h1 : ¬ pas d (ent d first len j)) (h2 : ¬ k = 0) : lst d first len j k = lst d first len (j + 1) (k - 1) := by
  classical
  have hj := ent_lt h
  unfold lst
  conv => lhs; unfold lsF
  rw [if_neg h, if_neg h1, if_neg h2, show (nsl d len - j).toNat = (nsl d len - (j + 1)).toNat + 1 by omega]
theorem lsF_neg {d : Nat → Int} {first len : Int} : ∀ (f : Nat) (j k : Int), k < 0 → lsF d first len f j k = -1 := by
  classical
  intro f
  induction f with
  | zero => intro j k _; rfl
  | succ f ih =>
    intro j k hk
    unfold lsF
    split
    · rfl
    · split
      · exact ih _ _ hk
      · rw [if_neg (by omega)]; exact ih _ _ (by omega)
theorem lst_neg {d : Nat → Int} {first len j k : Int} (hk : k < 0) : lst d first len j k = -1 := lsF_neg _ _ _ hk
def lI (z : Int) : Int64 := Int64.ofInt z
theorem lI_of32 {z : Int} (h : ir z) : (iI z).toInt64 = lI z := by
  apply Int64.toInt_inj.mp
  rw [Int32.toInt_toInt64, iI_toInt h]
  obtain ⟨h1, h2⟩ := h
  exact (Int64.toInt_ofInt_of_le (by omega) (by omega)).symm
theorem lI_inj {a b : Int} (ha : -9000000000 ≤ a ∧ a < 9000000000) (hb : -9000000000 ≤ b ∧ b < 9000000000) : lI a = lI b ↔ a = b := by
  constructor
  · intro h
    have h1 : (Int64.ofInt a).toInt = (Int64.ofInt b).toInt := congrArg Int64.toInt h
    rwa [Int64.toInt_ofInt_of_le (by omega) (by omega), Int64.toInt_ofInt_of_le (by omega) (by omega)] at h1
  · intro h; rw [h]
theorem lI_lN (n : Nat) : lI (n : Int) = lN n := Int64.ofInt_eq_ofNat
theorem l_or_n (a b : Nat) : lN a ||| lN b = lN (a ||| b) := by
  apply Int64.toBitVec_inj.1
  show BitVec.ofNat 64 a ||| BitVec.ofNat 64 b = BitVec.ofNat 64 (a ||| b)
  apply BitVec.eq_of_getLsbD_eq
  intro i hi
  simp [hi]
theorem l_shl_n (n : Nat) : lN n <<< ((iI 16).toInt64 &&& 63) = lN (n * 65536) := by
  apply Int64.toBitVec_inj.mp
  apply BitVec.eq_of_toNat_eq
  show ((BitVec.ofNat 64 n) <<< ((((iI 16).toInt64 &&& 63).toBitVec).smod 64).toNat).toNat = (BitVec.ofNat 64 (n * 65536)).toNat
  rw [show ((((iI 16).toInt64 &&& 63).toBitVec).smod 64).toNat = 16 by decide, BitVec.toNat_shiftLeft, BitVec.toNat_ofNat, BitVec.toNat_ofNat, Nat.shiftLeft_eq]
  omega
theorem l_name {a b : Int} (ha : 0 ≤ a) (ha2 : a < 65536) (hb : 0 ≤ b) (hb2 : b < 65536) : (iI a).toInt64 ||| ((iI b).toInt64 <<< ((iI 16).toInt64 &&& 63)) = lI (a + b * 65536) := by
  rw [lI_of32 ⟨by omega, by omega⟩, lI_of32 ⟨by omega, by omega⟩]
  obtain ⟨x, rfl⟩ := Int.eq_ofNat_of_zero_le ha
  obtain ⟨y, rfl⟩ := Int.eq_ofNat_of_zero_le hb
  rw [lI_lN, lI_lN, l_shl_n, l_or_n, show ((x : Int) + (y : Int) * 65536) = ((x + y * 65536 : Nat) : Int) by omega, lI_lN]
  have h1 : y * 2 ^ 16 ||| x = y * 2 ^ 16 + x := by rw [← Nat.shiftLeft_eq, Nat.shiftLeft_add_eq_or_of_lt (by omega)]
  rw [Nat.or_comm, show (65536 : Nat) = 2 ^ 16 from rfl, h1, Nat.add_comm]
noncomputable def lnm (d : Nat → Int) (first i : Int) : Int := by
  classical
  exact if 0 ≤ chn d first then lst d first (chn d first) 0 i else -9
theorem lnm_ok {d : Nat → Int} {first i : Int} (h : 0 ≤ chn d first) : lnm d first i = lst d first (chn d first) 0 i := by
  classical
  unfold lnm; rw [if_pos h]
theorem lnm_no {d : Nat → Int} {first i : Int} (h : ¬ 0 ≤ chn d first) : lnm d first i = -9 := by
  classical
  unfold lnm; rw [if_neg h]
