/-! the reference's paths -/
theorem shl_pw {c : Int} (h0 : 0 ≤ c) (h1 : c < 65536) (l2 : Nat) (hl : l2 < 4) : iI c <<< (iI (8 * (l2 : Int)) &&& 31) = iI (c * pw l2) := by
  match l2, hl with
  | 0, _ =>
    show iI c <<< (iI 0 &&& 31) = iI (c * 1)
    have := iI_shl 0 (by decide) h0 h1 (by decide)
    rw [show c * 2 ^ 0 = c * 1 by omega] at this
    exact this
  | 1, _ => exact iI_shl8 h0 h1
  | 2, _ => exact iI_shl16 h0 h1
  | 3, _ => exact iI_shl24 h0 h1
def pwr : Nat → Int
  | 0 => 1
  | 1 => 256
  | 2 => 65536
  | 3 => 16777216
  | _ => 4294967296
theorem pwr_up {w c : Int} {l2 : Nat} (hl : l2 < 4) (h0 : 0 ≤ w) (h1 : w < pwr l2) (c0 : 0 ≤ c) (c1 : c < 256) : 0 ≤ w + c * pw l2 ∧ w + c * pw l2 < pwr (l2 + 1) := by
  match l2, hl with
  | 0, _ => simp only [pwr, pw] at *; omega
  | 1, _ => simp only [pwr, pw] at *; omega
  | 2, _ => simp only [pwr, pw] at *; omega
  | 3, _ => simp only [pwr, pw] at *; omega
theorem padk_range {w : Int} {l2 : Nat} (hl : 1 ≤ l2) (hl2 : l2 ≤ 4) (h0 : 0 ≤ w) (h1 : w < pwr l2) : 0 ≤ padk w l2 ∧ padk w l2 < 4294967296 := by
  match l2, hl, hl2 with
  | 1, _, _ => simp only [pwr, padk] at *; omega
  | 2, _, _ => simp only [pwr, padk] at *; omega
  | 3, _, _ => simp only [pwr, padk] at *; omega
  | 4, _, _ => simp only [pwr, padk] at *; omega
noncomputable def fnM (d px : Nat → Int) (n : Nat) : Int := match psr px n with
  | none => -5
  | some (m, ks) => fnd d ks m
theorem fnM_none {d px : Nat → Int} {n : Nat} (h : psr px n = none) : fnM d px n = -5 := by unfold fnM; rw [h]
theorem fnM_some {d px ks : Nat → Int} {n m : Nat} (h : psr px n = some (m, ks)) : fnM d px n = fnd d ks m := by unfold fnM; rw [h]
noncomputable def flM (d px : Nat → Int) (n : Nat) : Int := by
  classical
  exact if 0 ≤ fnM d px n ∧ isD d (fnM d px n) then -7 else fnM d px n
theorem flM_fot {d px ty : Nat → Int} {tc : Int} (h : ∀ j : Nat, (j : Int) < tc → px j = ty j) : flM d px tc.toNat = fot d ty tc ∧ (psr px tc.toNat = psr (gtx ty 0) (tc - 0).toNat) := by
  have e : psr px tc.toNat = psr (gtx ty 0) (tc - 0).toNat := by
    rw [show (tc - 0).toNat = tc.toNat by omega]
    refine psr_congr (fun j hj => ?_)
    rw [h j (by omega)]
    unfold gtx
    rw [show (0 + (j : Int)).toNat = j by omega]
  refine ⟨?_, e⟩
  classical
  unfold flM fot fnM
  rw [e]
  cases hp : psr (gtx ty 0) (tc - 0).toNat with
  | none => simp only; rw [if_neg (by omega)]
  | some v => obtain ⟨m, ks⟩ := v; rfl
