/-! chains: rows about kth, chn, plc, ent -/
theorem gB.lin {d : Nat → Int} (h : gB d) : (1 ≤ gN d ∧ gN d ≤ 62) ∧ 2 * (gN d + 2) ≤ gTB d ∧ (0 ≤ gTA d ∧ gTA d + gTB d ≤ 2016) ∧ (gT d = 1 ∨ gT d = 2 ∧ gTA d + gTB d + gTB d ≤ 2016) ∧ (0 ≤ gCA d ∧ gCA d ≤ 2016) ∧ (2 ≤ gRoot d ∧ gRoot d ≤ gN d + 1) ∧ (gSz d = 32 ∨ gSz d = 64 ∨ gSz d = 128) ∧ (0 ≤ chs d ∧ chs d ≤ 2) ∧ gTB d ≤ 2048 := by
  obtain ⟨h1, h2, h3, h4, h5, h6, h7, h8, h9⟩ := h
  have k : gCA d + 32 ≤ 2048 := by
    rcases h2 with e | e | e <;> rw [e] at h7 <;> omega
  rcases h3 with t | t
  · rw [t] at h6
    exact ⟨h4, h5, ⟨h6.1, by omega⟩, Or.inl t, ⟨by omega, by omega⟩, h8, h2, h1, h9⟩
  · rw [t] at h6
    exact ⟨h4, h5, ⟨h6.1, by omega⟩, Or.inr ⟨t, by omega⟩, ⟨by omega, by omega⟩, h8, h2, h1, h9⟩
theorem chnF_cl {d : Nat → Int} {f : Nat} {m k : Int} (h : isCl d k) : chnF d (f + 1) m k = chnF d f (m + 1) (beh d k) := by
  classical
  conv => lhs; unfold chnF
  rw [if_pos h]
theorem chnF_end {d : Nat → Int} {f : Nat} {m k : Int} (h : ¬ isCl d k) (hm : 0 < m) (hk : 4088 ≤ k) : chnF d (f + 1) m k = m := by
  classical
  unfold chnF
  rw [if_neg h, if_pos ⟨hm, hk⟩]
theorem chnF_bad {d : Nat → Int} {f : Nat} {m k : Int} (h : ¬ isCl d k) (hk : ¬ (0 < m ∧ 4088 ≤ k)) : chnF d (f + 1) m k = -1 := by
  classical
  unfold chnF
  rw [if_neg h, if_neg hk]
theorem chnF_one {d : Nat → Int} {m k : Int} (hk : k < 4088) : chnF d 1 m k = -1 := by
  by_cases h : isCl d k
  · rw [chnF_cl h]; rfl
  · exact chnF_bad h (by omega)
/-- what a chain's number of clusters says of each of them -/
theorem chnF_all {d : Nat → Int} {first : Int} (hN : gN d ≤ 62) : ∀ (f : Nat) (m : Nat) , (∀ j, j < m → isCl d (kth d first j)) → 0 ≤ chnF d f m (kth d first m) → (m : Int) ≤ chnF d f m (kth d first m) ∧ chnF d f m (kth d first m) < m + f ∧ 1 ≤ chnF d f m (kth d first m) ∧ ∀ j : Nat, (j : Int) < chnF d f m (kth d first m) → isCl d (kth d first j) := by
  intro f
  induction f with
  | zero => intro m _ h; unfold chnF at h; exact absurd h (by decide)
  | succ f ih =>
    intro m hm h
    by_cases hc : isCl d (kth d first m)
    · rw [chnF_cl hc] at h ⊢
      have e : ((m : Int) + 1) = ((m + 1 : Nat) : Int) := rfl
      have e2 : beh d (kth d first m) = kth d first (m + 1) := rfl
      rw [e, e2] at h ⊢
      obtain ⟨a, b, c, g⟩ := ih (m + 1) (fun j hj => by
        rcases Nat.lt_or_ge j m with q | q
        · exact hm j q
        · rw [show j = m by omega]; exact hc) h
      exact ⟨by omega, by omega, c, g⟩
    · by_cases hk : 0 < (m : Int) ∧ 4088 ≤ kth d first m
      · rw [chnF_end hc hk.1 hk.2]
        exact ⟨by omega, by omega, by omega, fun j hj => hm j (by omega)⟩
      · rw [chnF_bad hc hk] at h
        exact absurd h (by decide)
theorem chn_all {d : Nat → Int} {first : Int} (hB : gB d) (h : 0 ≤ chn d first) : (1 ≤ chn d first ∧ chn d first ≤ gN d) ∧ ∀ j : Nat, (j : Int) < chn d first → isCl d (kth d first j) := by
  have hl := hB.lin
  obtain ⟨a, b, c, g⟩ := chnF_all (d := d) (first := first) (by omega) ((gN d).toNat + 1) 0 (fun j hj => absurd hj (Nat.not_lt_zero _)) h
  refine ⟨⟨c, ?_⟩, g⟩
  have : chn d first < ((0 : Nat) : Int) + (((gN d).toNat + 1 : Nat) : Int) := b
  omega
/-- a chain as it was traced -/
def Tr (d : Nat → Int) (first cnt : Int) (pl : Nat → Int) : Prop := 0 ≤ chn d first ∧ cnt = chn d first ∧ ∀ j : Nat, (j : Int) < cnt → pl j = gCA d + (kth d first j - 2) * gSz d
theorem cl_place {d : Nat → Int} (hB : gB d) {k : Int} (hk : isCl d k) : gCA d ≤ gCA d + (k - 2) * gSz d ∧ gCA d + (k - 2) * gSz d + gSz d ≤ 2048 := by
  obtain ⟨h1, h2, h3, h4, h5, h6, h7, h8, h9⟩ := hB
  obtain ⟨k1, k2⟩ := hk
  rcases h2 with e | e | e <;> rw [e] at h7 ⊢ <;> omega
theorem plc_range {d : Nat → Int} (hB : gB d) {first i : Int} (h : 0 ≤ chn d first) (h0 : 0 ≤ i) (h1 : i < chn d first * gSz d) : (0 ≤ plc d first i ∧ plc d first i < 2048) ∧ (0 ≤ i / gSz d ∧ i / gSz d < chn d first) ∧ (i % 8 = 0 → plc d first i + 8 ≤ 2048) := by
  have hl := hB.lin
  obtain ⟨ha, hc⟩ := chn_all hB h
  have hs : 0 < gSz d := by omega
  have q0 : 0 ≤ i / gSz d := Int.ediv_nonneg h0 (by omega)
  have q1 : i / gSz d < chn d first := Int.ediv_lt_of_lt_mul hs h1
  have hk := cl_place hB (hc (i / gSz d).toNat (by omega))
  have r0 := Int.emod_nonneg i (show gSz d ≠ 0 by omega)
  have r1 := Int.emod_lt_of_pos i hs
  have e : plc d first i = gCA d + (kth d first (i / gSz d).toNat - 2) * gSz d + i % gSz d := rfl
  refine ⟨⟨by omega, by omega⟩, ⟨q0, q1⟩, fun h8 => ?_⟩
  rcases hl.2.2.2.2.2.2.1 with g | g | g <;> rw [g] at r0 r1 e hk <;> omega
-- directories
noncomputable def nsl (d : Nat → Int) (len : Int) : Int := 4 * gCS d * len
noncomputable def ent (d : Nat → Int) (first len j : Int) : Int := by
  classical
  exact if nsl d len ≤ j then -1 else if rd d (plc d first (8 * j)) = 0 then -1 else plc d first (8 * j)
def pas (d : Nat → Int) (a : Int) : Prop := rd d a = 229 ∨ rd d (a + 4) / 8 % 2 = 1
def isD (d : Nat → Int) (a : Int) : Prop := rd d (a + 4) / 16 % 2 = 1
theorem nsl_bytes {d : Nat → Int} (len : Int) : 8 * nsl d len = len * gSz d := by
  unfold nsl gSz
  rw [show len * (gCS d * 32) = (gCS d * len) * 32 by rw [← Int.mul_assoc, Int.mul_comm len], show 4 * gCS d * len = 4 * (gCS d * len) by rw [Int.mul_assoc]]
  omega
theorem nsl_range {d : Nat → Int} (hB : gB d) {first : Int} (h : 0 ≤ chn d first) : 0 ≤ nsl d (chn d first) ∧ nsl d (chn d first) ≤ 256 := by
  have h1 := nsl_bytes (d := d) (chn d first)
  obtain ⟨a1, a2⟩ := (chn_all hB h).1
  have hca := hB.lin.2.2.2.2.1
  obtain ⟨b1, b2, b3, b4, b5, b6, b7, b8, b9⟩ := hB
  rcases b2 with e | e | e <;> rw [e] at h1 b7 <;> omega
theorem ent_neg {d : Nat → Int} {first len j : Int} (h : nsl d len ≤ j) : ent d first len j = -1 := by
  classical
  unfold ent; rw [if_pos h]
theorem ent_zero {d : Nat → Int} {first len j : Int} (h : rd d (plc d first (8 * j)) = 0) : ent d first len j = -1 := by
  classical
  unfold ent
  rw [if_pos h, ite_self]
theorem ent_at {d : Nat → Int} {first len j : Int} (h : ¬ nsl d len ≤ j) (h2 : ¬ rd d (plc d first (8 * j)) = 0) : ent d first len j = plc d first (8 * j) := by
  classical
  unfold ent; rw [if_neg h, if_neg h2]
theorem ent_cases (d : Nat → Int) (first len j : Int) : ent d first len j = -1 ∨ (j < nsl d len ∧ ¬ rd d (plc d first (8 * j)) = 0 ∧ ent d first len j = plc d first (8 * j)) := by
  by_cases h : nsl d len ≤ j
  · exact Or.inl (ent_neg h)
  · by_cases h2 : rd d (plc d first (8 * j)) = 0
    · exact Or.inl (ent_zero h2)
    · exact Or.inr ⟨by omega, h2, ent_at h h2⟩
/-- an entry lies on the disk -/
theorem ent_range {d : Nat → Int} (hB : gB d) {first : Int} (h : 0 ≤ chn d first) {j : Int} (h0 : 0 ≤ j) : ent d first (chn d first) j = -1 ∨ (0 ≤ ent d first (chn d first) j ∧ ent d first (chn d first) j + 8 ≤ 2048) := by
  rcases ent_cases d first (chn d first) j with e | ⟨h1, h2, e⟩
  · exact Or.inl e
  · have hb := nsl_bytes (d := d) (chn d first)
    have hp := plc_range hB h (i := 8 * j) (by omega) (by omega)
    rw [e]
    exact Or.inr ⟨hp.1.1, hp.2.2 (by omega)⟩
/-- the next entry that is not passed over, from slot s on: a (or -1), and the slot t that is next -/
def NX (d : Nat → Int) (first len s a t : Int) : Prop := (a = -1 ∧ s ≤ t ∧ ent d first len t = -1 ∧ ∀ j, s ≤ j → j < t → 0 ≤ ent d first len j ∧ pas d (ent d first len j)) ∨ (0 ≤ a ∧ s < t ∧ ent d first len (t - 1) = a ∧ ¬ pas d a ∧ ∀ j, s ≤ j → j < t - 1 → 0 ≤ ent d first len j ∧ pas d (ent d first len j))
/-- what doesn't see passed entries: from s to where the search ends -/
theorem skip_to {α : Type} {d : Nat → Int} {first len : Int} {F : Int → α} (hF : ∀ j, 0 ≤ j → 0 ≤ ent d first len j → pas d (ent d first len j) → F j = F (j + 1)) : ∀ (n : Nat) (s : Int), 0 ≤ s → (∀ j, s ≤ j → j < s + n → 0 ≤ ent d first len j ∧ pas d (ent d first len j)) → F s = F (s + n) := by
  intro n
  induction n with
  | zero => intro s _ _; rw [show s + ((0 : Nat) : Int) = s by omega]
  | succ n ih =>
    intro s h0 h
    have h1 := h s (by omega) (by omega)
    rw [hF s h0 h1.1 h1.2, ih (s + 1) (by omega) (fun j a b => h j (by omega) (by omega))]
    rw [show s + 1 + (n : Int) = s + ((n + 1 : Nat) : Int) by omega]
theorem NX.skip {α : Type} {d : Nat → Int} {first len s a t : Int} (h : NX d first len s a t) (h0 : 0 ≤ s) {F : Int → α} (hF : ∀ j, 0 ≤ j → 0 ≤ ent d first len j → pas d (ent d first len j) → F j = F (j + 1)) : (a = -1 ∧ s ≤ t ∧ ent d first len t = -1 ∧ F s = F t) ∨ (0 ≤ a ∧ s < t ∧ ent d first len (t - 1) = a ∧ ¬ pas d a ∧ F s = F (t - 1)) := by
  rcases h with ⟨h1, h2, h3, h4⟩ | ⟨h1, h2, h3, h4, h5⟩
  · refine Or.inl ⟨h1, h2, h3, ?_⟩
    have := skip_to hF (t - s).toNat s h0 (fun j p q => h4 j p (by omega))
    rw [this, show s + ((t - s).toNat : Int) = t by omega]
  · refine Or.inr ⟨h1, h2, h3, h4, ?_⟩
    have := skip_to hF (t - 1 - s).toNat s h0 (fun j p q => h5 j p (by omega))
    rw [this, show s + ((t - 1 - s).toNat : Int) = t - 1 by omega]
