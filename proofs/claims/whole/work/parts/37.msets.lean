/-! the reference's settings: arrays of values -/
def AR (arr : Nat → Int) (n : Int) (g : Nat → Int) (F N : Int) : Prop := n = N ∧ ∀ j : Nat, (j : Int) < N → arr j = gtx g F j
def AR3 (kk oo ar : Nat → Int) (kl ol al : Int) (g : Nat → Int) (S : SS) : Prop := AR kk kl g S.1 S.2.1 ∧ AR oo ol g S.2.2.1 S.2.2.2.1 ∧ AR ar al g S.2.2.2.2.1 S.2.2.2.2.2
theorem ln_fin {g kk oo ar kk2 oo2 ar2 : Nat → Int} {fr to kl ol al kl2 ol2 al2 : Int} (h0 : ¬ (to ≤ fr ∨ rd g fr = 35))
    (hk : (rd g fr = 75 → kl2 = to - fr - 2 ∧ ∀ j : Nat, (j : Int) < to - fr - 2 → kk2 j = gtx g (fr + 2) j) ∧ (¬ rd g fr = 75 → kl2 = kl ∧ kk2 = kk))
    (ho : (rd g fr = 70 → ol2 = to - fr - 2 ∧ ∀ j : Nat, (j : Int) < to - fr - 2 → oo2 j = gtx g (fr + 2) j) ∧ (¬ rd g fr = 70 → ol2 = ol ∧ oo2 = oo))
    (ha : (rd g fr = 65 → al2 = to - fr - 2 ∧ ∀ j : Nat, (j : Int) < to - fr - 2 → ar2 j = gtx g (fr + 2) j) ∧ (¬ rd g fr = 65 → al2 = al ∧ ar2 = ar))
    (S : SS) (hS : AR3 kk oo ar kl ol al g S) : AR3 kk2 oo2 ar2 kl2 ol2 al2 g (lnS g fr to S) := by
  obtain ⟨s1, s2, s3⟩ := hS
  by_cases e1 : rd g fr = 75
  · obtain ⟨b1, b2⟩ := hk.1 e1
    obtain ⟨b3, b4⟩ := ho.2 (by omega)
    obtain ⟨b5, b6⟩ := ha.2 (by omega)
    rw [lnS_K h0 e1, b3, b4, b5, b6]
    exact ⟨⟨b1, b2⟩, s2, s3⟩
  · obtain ⟨b1, b2⟩ := hk.2 e1
    by_cases e2 : rd g fr = 70
    · obtain ⟨b3, b4⟩ := ho.1 e2
      obtain ⟨b5, b6⟩ := ha.2 (by omega)
      rw [lnS_F h0 e2, b1, b2, b5, b6]
      exact ⟨s1, ⟨b3, b4⟩, s3⟩
    · obtain ⟨b3, b4⟩ := ho.2 e2
      by_cases e3 : rd g fr = 65
      · obtain ⟨b5, b6⟩ := ha.1 e3
        rw [lnS_A h0 e3, b1, b2, b3, b4]
        exact ⟨s1, s2, ⟨b5, b6⟩⟩
      · obtain ⟨b5, b6⟩ := ha.2 e3
        rw [lnS_other e3 e2 e1, b1, b2, b3, b4, b5, b6]
        exact ⟨s1, s2, s3⟩
theorem psr_boot {px : Nat → Int} (h0 : px 0 = 66) (h1 : px 1 = 79) (h2 : px 2 = 79) (h3 : px 3 = 84) : psr px 4 = some (1, bkey) := by
  show psF px 4 0 0 0 0 (fun _ => 0) = some (1, bkey)
  rw [psF_let (by rw [h0]; decide) (by rw [h0]; unfold isLet; omega) (by decide), psF_let (by rw [h1]; decide) (by rw [h1]; unfold isLet; omega) (by decide), psF_let (by rw [h2]; decide) (by rw [h2]; unfold isLet; omega) (by decide), psF_let (by rw [h3]; decide) (by rw [h3]; unfold isLet; omega) (by decide), psF_end (by decide), h0, h1, h2, h3]
  rfl
