/-! the mathematical value that both sides are tied to: functions of the disk d (2048 bytes as ints) -/
abbrev kTys (cA : Nat → ClassId) : List (ClassId × FieldType) := [(cA 0, .int), (cA 1, .byte), (cA 2, .object "ChainLoader$Chain")]
def rd (d : Nat → Int) (z : Int) : Int := d z.toNat
def By (d : Nat → Int) : Prop := ∀ j, 0 ≤ d j ∧ d j < 256
theorem By.rd {d : Nat → Int} (h : By d) (z : Int) : 0 ≤ rd d z ∧ rd d z < 256 := h z.toNat
/-- a checked read -/
def bAt (n : Nat) (d : Nat → Int) (z : Int) : Int := if 0 ≤ z ∧ z < n then rd d z else -1
def wAt (n : Nat) (d : Nat → Int) (z : Int) : Int := if z < 0 ∨ (n : Int) - 1 ≤ z then 0 else rd d z + 256 * rd d (z + 1)
def wrd (d : Nat → Int) (z : Int) : Int := rd d z + 256 * rd d (z + 1)
theorem By_bAt {d : Nat → Int} (h : By d) (n : Nat) (z : Int) : -1 ≤ bAt n d z ∧ bAt n d z < 256 := by
  have := h.rd z
  unfold bAt
  split <;> omega
theorem bAt_in {n : Nat} {d : Nat → Int} {z : Int} (h0 : 0 ≤ z) (h1 : z < n) : bAt n d z = rd d z := by
  unfold bAt; rw [if_pos ⟨h0, h1⟩]
theorem wAt_in {n : Nat} {d : Nat → Int} {z : Int} (h0 : 0 ≤ z) (h1 : z + 1 < n) : wAt n d z = wrd d z := by
  unfold wAt wrd; rw [if_neg (by omega)]
theorem By_wrd {d : Nat → Int} (h : By d) (z : Int) : 0 ≤ wrd d z ∧ wrd d z < 65536 := by
  have h1 := h.rd z
  have h2 := h.rd (z + 1)
  unfold wrd; omega
theorem By_wAt {d : Nat → Int} (h : By d) (n : Nat) (z : Int) : 0 ≤ wAt n d z ∧ wAt n d z < 65536 := by
  have h1 := h.rd z
  have h2 := h.rd (z + 1)
  unfold wAt; split <;> omega
-- the partition
def us (d : Nat → Int) (r : Int) : Prop := rd d (6 + 8 * r + 1) = 12 ∧ 1 ≤ rd d (6 + 8 * r + 2) ∧ 1 ≤ rd d (6 + 8 * r + 3) ∧ rd d (6 + 8 * r + 2) + rd d (6 + 8 * r + 3) ≤ 64
def ac (d : Nat → Int) (r : Int) : Prop := rd d (6 + 8 * r) = 128
noncomputable def chs (d : Nat → Int) : Int := by
  classical
  exact if us d 0 ∧ ac d 0 then 0 else if us d 1 ∧ ac d 1 then 1 else if us d 2 ∧ ac d 2 then 2 else if us d 0 then 0 else if us d 1 then 1 else if us d 2 then 2 else -1
noncomputable def gP (d : Nat → Int) : Int := rd d (6 + 8 * chs d + 2) * 32
noncomputable def gMany (d : Nat → Int) : Int := rd d (6 + 8 * chs d + 3)
noncomputable def gCS (d : Nat → Int) : Int := rd d (gP d + 1)
noncomputable def gBef (d : Nat → Int) : Int := rd d (gP d + 2)
noncomputable def gT (d : Nat → Int) : Int := rd d (gP d + 3)
noncomputable def gTS (d : Nat → Int) : Int := rd d (gP d + 4)
noncomputable def gRoot (d : Nat → Int) : Int := rd d (gP d + 5)
noncomputable def gLeft (d : Nat → Int) : Int := gMany d - (gBef d + gT d * gTS d)
noncomputable def gN (d : Nat → Int) : Int := (gLeft d).tdiv (gCS d)
noncomputable def gTA (d : Nat → Int) : Int := gP d + gBef d * 32
noncomputable def gTB (d : Nat → Int) : Int := gTS d * 32
noncomputable def gCA (d : Nat → Int) : Int := gP d + (gBef d + gT d * gTS d) * 32
noncomputable def gSz (d : Nat → Int) : Int := gCS d * 32
def gSig (d : Nat → Int) : Prop := rd d 30 = 85 ∧ rd d 31 = 170
def gOk1 (d : Nat → Int) : Prop := rd d (gP d) = 235 ∧ (rd d (gP d + 30) = 85 ∧ rd d (gP d + 31) = 170) ∧ (gCS d = 1 ∨ gCS d = 2 ∨ gCS d = 4) ∧ 1 ≤ gBef d ∧ 1 ≤ gT d ∧ gT d ≤ 2 ∧ 1 ≤ gTS d
def gOk2 (d : Nat → Int) : Prop := 1 ≤ gN d ∧ 2 * (gN d + 2) ≤ gTB d ∧ 2 ≤ gRoot d ∧ gRoot d ≤ gN d + 1
noncomputable def vol (d : Nat → Int) : Int := by
  classical
  exact if gSig d then (if chs d < 0 then -3 else if gOk1 d ∧ gOk2 d then gN d else -4) else -2
def Good (d : Nat → Int) : Prop := gSig d ∧ 0 ≤ chs d ∧ gOk1 d ∧ gOk2 d
theorem chs_cases (d : Nat → Int) : chs d = -1 ∨ (0 ≤ chs d ∧ chs d ≤ 2 ∧ us d (chs d)) := by
  classical
  unfold chs
  split
  · rename_i h; exact Or.inr ⟨by decide, by decide, h.1⟩
  split
  · rename_i h; exact Or.inr ⟨by decide, by decide, h.1⟩
  split
  · rename_i h; exact Or.inr ⟨by decide, by decide, h.1⟩
  split
  · rename_i h; exact Or.inr ⟨by decide, by decide, h⟩
  split
  · rename_i h; exact Or.inr ⟨by decide, by decide, h⟩
  split
  · rename_i h; exact Or.inr ⟨by decide, by decide, h⟩
  exact Or.inl rfl
theorem vol_of_good {d : Nat → Int} (h : Good d) : vol d = gN d := by
  classical
  obtain ⟨h1, h2, h3, h4⟩ := h
  unfold vol
  rw [if_pos h1, if_neg (by omega), if_pos ⟨h3, h4⟩]
theorem good_of_vol {d : Nat → Int} (h : 0 ≤ vol d) : Good d := by
  classical
  unfold vol at h
  split at h
  · rename_i h1
    split at h
    · exact absurd h (by decide)
    · rename_i h2
      split at h
      · rename_i h3
        exact ⟨h1, by omega, h3.1, h3.2⟩
      · exact absurd h (by decide)
  · exact absurd h (by decide)
/-- the bounds of a good volume -/
def gB (d : Nat → Int) : Prop := (0 ≤ chs d ∧ chs d ≤ 2) ∧ (gSz d = 32 ∨ gSz d = 64 ∨ gSz d = 128) ∧ (gT d = 1 ∨ gT d = 2) ∧ (1 ≤ gN d ∧ gN d ≤ 62) ∧ 2 * (gN d + 2) ≤ gTB d ∧ (0 ≤ gTA d ∧ gTA d + gTB d * gT d = gCA d) ∧ gCA d + gN d * gSz d ≤ 2048 ∧ (2 ≤ gRoot d ∧ gRoot d ≤ gN d + 1) ∧ gTB d ≤ 2048
theorem Good.bounds {d : Nat → Int} (hd : By d) (h : Good d) : gB d := by
  obtain ⟨h1, h2, ⟨k1, k2, k3, k4, k5, k6, k7⟩, ⟨m1, m2, m3, m4⟩⟩ := h
  rcases chs_cases d with hc | ⟨-, hc2, hu⟩
  · omega
  obtain ⟨u1, u2, u3, u4⟩ := hu
  have e1 : gP d = rd d (6 + 8 * chs d + 2) * 32 := rfl
  have e2 : gMany d = rd d (6 + 8 * chs d + 3) := rfl
  have e3 : gLeft d = gMany d - (gBef d + gT d * gTS d) := rfl
  have e4 : gN d = (gLeft d).tdiv (gCS d) := rfl
  have e5 : gTA d = gP d + gBef d * 32 := rfl
  have e6 : gTB d = gTS d * 32 := rfl
  have e7 : gCA d = gP d + (gBef d + gT d * gTS d) * 32 := rfl
  have e8 : gSz d = gCS d * 32 := rfl
  have b4 := hd.rd (gP d + 4)
  have b4' : gTS d = rd d (gP d + 4) := rfl
  have hL : 0 ≤ gLeft d := by
    rcases Int.lt_or_le (gLeft d) 0 with hl | hl
    · have : (-gLeft d).tdiv (gCS d) = -((gLeft d).tdiv (gCS d)) := Int.neg_tdiv _ _
      have h0 := Int.tdiv_nonneg (show (0:Int) ≤ -gLeft d by omega) (show (0:Int) ≤ gCS d by omega)
      omega
    · exact hl
  rw [Int.tdiv_eq_ediv_of_nonneg hL] at e4
  have hT : gT d = 1 ∨ gT d = 2 := by omega
  refine ⟨⟨h2, hc2⟩, ?_, hT, ?_, m2, ?_, ?_, ⟨m3, m4⟩, ?_⟩
  · rcases k3 with k | k | k <;> rw [k] at e8 <;> omega
  · rcases k3 with k | k | k <;> rcases hT with t | t <;> rw [k] at e4 <;> rw [t] at e3 <;> omega
  · rcases hT with t | t <;> rw [t] at e7 ⊢ <;> omega
  · rcases k3 with k | k | k <;> rcases hT with t | t <;> rw [k] at e4 e8 <;> rw [t] at e3 e7 <;> rw [e8] <;> omega
  · rcases hT with t | t <;> rw [t] at e3 <;> omega
-- chains
def isCl (d : Nat → Int) (k : Int) : Prop := 2 ≤ k ∧ k ≤ gN d + 1
noncomputable def beh (d : Nat → Int) (k : Int) : Int := by
  classical
  exact if isCl d (wrd d (gTA d + 2 * k) % 4096) ∨ 4088 ≤ wrd d (gTA d + 2 * k) % 4096 ∨ gT d = 1 then wrd d (gTA d + 2 * k) % 4096 else wrd d (gTA d + 2 * k + gTB d) % 4096
theorem beh_range {d : Nat → Int} (k : Int) : 0 ≤ beh d k ∧ beh d k < 4096 := by
  classical
  unfold beh; split <;> omega
noncomputable def kth (d : Nat → Int) (first : Int) : Nat → Int
  | 0 => first
  | k + 1 => beh d (kth d first k)
/-- how many clusters the chain has; -1 if it is broken: n steps at most -/
noncomputable def chnF (d : Nat → Int) : Nat → Int → Int → Int
  | 0, _, _ => -1
  | f + 1, m, k => by
    classical
    exact if isCl d k then chnF d f (m + 1) (beh d k) else if 0 < m ∧ 4088 ≤ k then m else -1
noncomputable def chn (d : Nat → Int) (first : Int) : Int := chnF d ((gN d).toNat + 1) 0 first
/-- the place of byte i of the chain from first -/
noncomputable def plc (d : Nat → Int) (first : Int) (i : Int) : Int := gCA d + (kth d first (i / gSz d).toNat - 2) * gSz d + i % gSz d
