/-! settings and headers -/
abbrev SS : Type := Int × Int × Int × Int × Int × Int
def lnOk (g : Nat → Int) (fr to : Int) : Prop := (to ≤ fr ∨ rd g fr = 35) ∨ (2 ≤ to - fr ∧ rd g (fr + 1) = 61 ∧ (rd g fr = 65 → to - fr - 2 ≤ 24))
noncomputable def lnS (g : Nat → Int) (fr to : Int) (S : SS) : SS := by
  classical
  exact if to ≤ fr ∨ rd g fr = 35 then S
    else if rd g fr = 75 then (fr + 2, to - fr - 2, S.2.2)
    else if rd g fr = 70 then (S.1, S.2.1, fr + 2, to - fr - 2, S.2.2.2.2)
    else if rd g fr = 65 then (S.1, S.2.1, S.2.2.1, S.2.2.2.1, fr + 2, to - fr - 2) else S
theorem lnS_no {g : Nat → Int} {fr to : Int} {S : SS} (h : to ≤ fr ∨ rd g fr = 35) : lnS g fr to S = S := by
  classical
  unfold lnS; rw [if_pos h]
theorem lnS_K {g : Nat → Int} {fr to : Int} {S : SS} (h : ¬ (to ≤ fr ∨ rd g fr = 35)) (h2 : rd g fr = 75) : lnS g fr to S = (fr + 2, to - fr - 2, S.2.2) := by
  classical
  unfold lnS; rw [if_neg h, if_pos h2]
theorem lnS_F {g : Nat → Int} {fr to : Int} {S : SS} (h : ¬ (to ≤ fr ∨ rd g fr = 35)) (h2 : rd g fr = 70) : lnS g fr to S = (S.1, S.2.1, fr + 2, to - fr - 2, S.2.2.2.2) := by
  classical
  unfold lnS; rw [if_neg h, if_neg (by omega), if_pos h2]
theorem lnS_A {g : Nat → Int} {fr to : Int} {S : SS} (h : ¬ (to ≤ fr ∨ rd g fr = 35)) (h2 : rd g fr = 65) : lnS g fr to S = (S.1, S.2.1, S.2.2.1, S.2.2.2.1, fr + 2, to - fr - 2) := by
  classical
  unfold lnS; rw [if_neg h, if_neg (by omega), if_neg (by omega), if_pos h2]
theorem lnS_other {g : Nat → Int} {fr to : Int} {S : SS} (h1 : ¬ rd g fr = 65) (h2 : ¬ rd g fr = 70) (h3 : ¬ rd g fr = 75) : lnS g fr to S = S := by
  classical
  unfold lnS; rw [if_neg h3, if_neg h2, if_neg h1, ite_self]
noncomputable def stF (g : Nat → Int) (len : Int) : Nat → Int → Int → SS → Option SS
  | 0, _, _, S => by
    classical
    exact if 0 ≤ S.2.1 then some S else none
  | f + 1, i, fr, S => by
    classical
    exact if i = len ∨ rd g i = 10 then (if lnOk g fr i then stF g len f (i + 1) (i + 1) (lnS g fr i S) else none) else stF g len f (i + 1) fr S
noncomputable def stg (g : Nat → Int) (len : Int) : Option SS := by
  classical
  exact if len ≤ 200 then stF g len (len.toNat + 1) 0 0 (0, -1, 0, -1, 0, -1) else none
theorem stF_end {g : Nat → Int} {len i fr : Int} {S : SS} (h : 0 ≤ S.2.1) : stF g len 0 i fr S = some S := by
  classical
  unfold stF; rw [if_pos h]
theorem stF_end_no {g : Nat → Int} {len i fr : Int} {S : SS} (h : ¬ 0 ≤ S.2.1) : stF g len 0 i fr S = none := by
  classical
  unfold stF; rw [if_neg h]
theorem stF_line {g : Nat → Int} {len i fr : Int} {S : SS} {f : Nat} (h : i = len ∨ rd g i = 10) (h2 : lnOk g fr i) : stF g len (f + 1) i fr S = stF g len f (i + 1) (i + 1) (lnS g fr i S) := by
  classical
  conv => lhs; unfold stF
  rw [if_pos h, if_pos h2]
theorem stF_bad {g : Nat → Int} {len i fr : Int} {S : SS} {f : Nat} (h : i = len ∨ rd g i = 10) (h2 : ¬ lnOk g fr i) : stF g len (f + 1) i fr S = none := by
  classical
  unfold stF; rw [if_pos h, if_neg h2]
theorem stF_on {g : Nat → Int} {len i fr : Int} {S : SS} {f : Nat} (h : ¬ (i = len ∨ rd g i = 10)) : stF g len (f + 1) i fr S = stF g len f (i + 1) fr S := by
  classical
  conv => lhs; unfold stF
  rw [if_neg h]
/-- the bounds of what the lines say -/
def SB (S : SS) (len : Int) : Prop := (S.2.1 = -1 ∨ (0 ≤ S.1 ∧ 0 ≤ S.2.1 ∧ S.1 + S.2.1 ≤ len)) ∧ (S.2.2.2.1 = -1 ∨ (0 ≤ S.2.2.1 ∧ 0 ≤ S.2.2.2.1 ∧ S.2.2.1 + S.2.2.2.1 ≤ len)) ∧ (S.2.2.2.2.2 = -1 ∨ (0 ≤ S.2.2.2.2.1 ∧ 0 ≤ S.2.2.2.2.2 ∧ S.2.2.2.2.1 + S.2.2.2.2.2 ≤ len ∧ S.2.2.2.2.2 ≤ 24))
theorem SB_ln {g : Nat → Int} {fr to len : Int} {S : SS} (h : SB S len) (h0 : 0 ≤ fr) (h1 : to ≤ len) (hk : lnOk g fr to) : SB (lnS g fr to S) len := by
  by_cases e0 : to ≤ fr ∨ rd g fr = 35
  · rw [lnS_no e0]; exact h
  · have hk2 : 2 ≤ to - fr ∧ rd g (fr + 1) = 61 ∧ (rd g fr = 65 → to - fr - 2 ≤ 24) := by
      rcases hk with q | q
      · exact absurd q e0
      · exact q
    obtain ⟨q1, q2, q3⟩ := hk2
    obtain ⟨a, b, c⟩ := h
    by_cases e1 : rd g fr = 75
    · rw [lnS_K e0 e1]; exact ⟨Or.inr ⟨by dsimp only; omega, by dsimp only; omega, by dsimp only; omega⟩, b, c⟩
    · by_cases e2 : rd g fr = 70
      · rw [lnS_F e0 e2]; exact ⟨a, Or.inr ⟨by dsimp only; omega, by dsimp only; omega, by dsimp only; omega⟩, c⟩
      · by_cases e3 : rd g fr = 65
        · rw [lnS_A e0 e3]; exact ⟨a, b, Or.inr ⟨by dsimp only; omega, by dsimp only; omega, by dsimp only; omega, by dsimp only; exact q3 e3⟩⟩
        · rw [lnS_other e3 e2 e1]; exact ⟨a, b, c⟩
/-- a Value's cell and what it stands for -/
def VR (g f t F N : Int) : Prop := (g = 1 ∧ 0 ≤ N ∧ f = F ∧ t = F + N) ∨ (g = 0 ∧ N = -1 ∧ f = 0 ∧ t = 0)
noncomputable def ctn (d : Nat → Int) (first : Int) (j : Nat) : Int := rd d (plc d first (j : Int))
theorem By_ctn {d : Nat → Int} (h : By d) (first : Int) : By (ctn d first) := fun j => h.rd _
theorem ctn_rd (d : Nat → Int) (first : Int) {z : Int} (h : 0 ≤ z) : rd (ctn d first) z = rd d (plc d first z) := by
  unfold rd ctn rd
  rw [show ((z.toNat : Nat) : Int) = z by omega]
theorem stg_long {g : Nat → Int} {len : Int} (h : ¬ len ≤ 200) : stg g len = none := by
  classical
  unfold stg; rw [if_neg h]
theorem stg_short {g : Nat → Int} {len : Int} (h : len ≤ 200) : stg g len = stF g len (len.toNat + 1) 0 0 (0, -1, 0, -1, 0, -1) := by
  classical
  unfold stg; rw [if_pos h]
-- headers
noncomputable def cS (d : Nat → Int) (first i : Int) : Int := (iI (cInt d first i)).toInt
noncomputable def hdF (d : Nat → Int) (first len : Int) : Nat → Int → Int
  | 0, _ => -1
  | f + 1, p => by
    classical
    exact if len < p + 20 then -1 else if cS d first p = 464367618 then p else hdF d first len f (p + 4)
noncomputable def hdr (d : Nat → Int) (first len : Int) : Int := hdF d first len 8 0
theorem hdF_end {d : Nat → Int} {first len p : Int} {f : Nat} (h : len < p + 20) : hdF d first len (f + 1) p = -1 := by
  classical
  unfold hdF; rw [if_pos h]
theorem hdF_hit {d : Nat → Int} {first len p : Int} {f : Nat} (h : ¬ len < p + 20) (h2 : cS d first p = 464367618) : hdF d first len (f + 1) p = p := by
  classical
  unfold hdF; rw [if_neg h, if_pos h2]
theorem hdF_step {d : Nat → Int} {first len p : Int} {f : Nat} (h : ¬ len < p + 20) (h2 : ¬ cS d first p = 464367618) : hdF d first len (f + 1) p = hdF d first len f (p + 4) := by
  classical
  conv => lhs; unfold hdF
  rw [if_neg h, if_neg h2]
theorem hdF_range {d : Nat → Int} {first len : Int} : ∀ (f : Nat) (p : Int), 0 ≤ p → hdF d first len f p = -1 ∨ (0 ≤ hdF d first len f p ∧ hdF d first len f p + 20 ≤ len) := by
  intro f
  induction f with
  | zero => intro p _; exact Or.inl rfl
  | succ f ih =>
    intro p hp
    by_cases h : len < p + 20
    · exact Or.inl (hdF_end h)
    · by_cases h2 : cS d first p = 464367618
      · rw [hdF_hit h h2]; exact Or.inr ⟨hp, by omega⟩
      · rw [hdF_step h h2]; exact ih _ (by omega)
theorem hdr_range {d : Nat → Int} {first len : Int} : hdr d first len = -1 ∨ (0 ≤ hdr d first len ∧ hdr d first len + 20 ≤ len) := hdF_range 8 0 (by decide)
noncomputable def kFl (d : Nat → Int) (first len : Int) : Int := cS d first (hdr d first len + 4)
noncomputable def kCk (d : Nat → Int) (first len : Int) : Int := cS d first (hdr d first len + 8)
noncomputable def kAd (d : Nat → Int) (first len : Int) : Int := cS d first (hdr d first len + 12)
noncomputable def kSt (d : Nat → Int) (first len : Int) : Int := cS d first (hdr d first len + 16)
def hdOk (d : Nat → Int) (first len : Int) : Prop := 0 ≤ hdr d first len ∧ iI (464367618 + kFl d first len + kCk d first len) = 0 ∧ (iI (kFl d first len) &&& iI (-4)) = 0 ∧ ((iI (kFl d first len) &&& iI 1) = 0 ∨ iI (kAd d first len - (kAd d first len).tdiv 16 * 16) = 0)
def rmOk (ad st len : Int) : Prop := 64 ≤ ad ∧ ad ≤ 1024 - len ∧ ad ≤ st ∧ st < ad + len
