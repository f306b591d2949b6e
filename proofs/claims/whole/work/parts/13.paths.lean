/-! paths: reading a text as names; looking names up -/
def isLet (c : Int) : Prop := (65 ≤ c ∧ c ≤ 90) ∨ (48 ≤ c ∧ c ≤ 57)
def pw : Nat → Int
  | 0 => 1
  | 1 => 256
  | 2 => 65536
  | _ => 16777216
/-- a name of l letters with the sum w, filled up with blanks -/
def padk (w : Int) : Nat → Int
  | 0 => w + 538976288
  | 1 => w + 538976256
  | 2 => w + 538968064
  | 3 => w + 536870912
  | _ => w
noncomputable def psF (g : Nat → Int) : Nat → Nat → Nat → Nat → Int → (Nat → Int) → Option (Nat × (Nat → Int))
  | 0, _, nc, l, w, ks => by
    classical
    exact if l < 1 ∨ nc = 4 then none else some (nc + 1, va_up ks nc (padk w l))
  | f + 1, i, nc, l, w, ks => by
    classical
    exact if g i = 47 then (if l < 1 ∨ nc = 4 then none else psF g f (i + 1) (nc + 1) 0 0 (va_up ks nc (padk w l)))
      else if ¬ isLet (g i) ∨ l = 4 then none else psF g f (i + 1) nc (l + 1) (w + g i * pw l) ks
noncomputable def psr (g : Nat → Int) (n : Nat) : Option (Nat × (Nat → Int)) := psF g n 0 0 0 0 (fun _ => 0)
theorem psF_4 (g : Nat → Int) : ∀ (f i l : Nat) (w : Int) (ks : Nat → Int), psF g f i 4 l w ks = none := by
  classical
  intro f
  induction f with
  | zero => intro i l w ks; unfold psF; rw [if_pos (Or.inr rfl)]
  | succ f ih =>
    intro i l w ks
    unfold psF
    split
    · rw [if_pos (Or.inr rfl)]
    · split
      · rfl
      · exact ih _ _ _ _
theorem psF_end {g : Nat → Int} {i nc l : Nat} {w : Int} {ks : Nat → Int} (h : ¬ (l < 1 ∨ nc = 4)) : psF g 0 i nc l w ks = some (nc + 1, va_up ks nc (padk w l)) := by
  classical
  unfold psF; rw [if_neg h]
theorem psF_end_no {g : Nat → Int} {i nc l : Nat} {w : Int} {ks : Nat → Int} (h : l < 1 ∨ nc = 4) : psF g 0 i nc l w ks = none := by
  classical
  unfold psF; rw [if_pos h]
theorem psF_sl {g : Nat → Int} {f i nc l : Nat} {w : Int} {ks : Nat → Int} (h47 : g i = 47) (h : ¬ (l < 1 ∨ nc = 4)) : psF g (f + 1) i nc l w ks = psF g f (i + 1) (nc + 1) 0 0 (va_up ks nc (padk w l)) := by
  classical
  conv => lhs; unfold psF
  rw [if_pos h47, if_neg h]
theorem psF_sl_no {g : Nat → Int} {f i nc l : Nat} {w : Int} {ks : Nat → Int} (h47 : g i = 47) (h : l < 1 ∨ nc = 4) : psF g (f + 1) i nc l w ks = none := by
  classical
  unfold psF; rw [if_pos h47, if_pos h]
theorem psF_let {g : Nat → Int} {f i nc l : Nat} {w : Int} {ks : Nat → Int} (h47 : ¬ g i = 47) (h : isLet (g i)) (hl : ¬ l = 4) : psF g (f + 1) i nc l w ks = psF g f (i + 1) nc (l + 1) (w + g i * pw l) ks := by
  classical
  conv => lhs; unfold psF
  rw [if_neg h47, if_neg (by rintro (q | q); exact q h; exact hl q)]
theorem psF_let_no {g : Nat → Int} {f i nc l : Nat} {w : Int} {ks : Nat → Int} (h47 : ¬ g i = 47) (h : ¬ isLet (g i) ∨ l = 4) : psF g (f + 1) i nc l w ks = none := by
  classical
  unfold psF; rw [if_neg h47, if_pos h]
/-- how many names at most -/
theorem psF_count (g : Nat → Int) : ∀ (f i nc l : Nat) (w : Int) (ks : Nat → Int) (n : Nat) (ks2 : Nat → Int), psF g f i nc l w ks = some (n, ks2) → nc < n ∧ n ≤ 4 ∨ 4 < nc := by
  intro f
  induction f with
  | zero =>
    intro i nc l w ks n ks2 h
    by_cases q : l < 1 ∨ nc = 4
    · rw [psF_end_no q] at h; cases h
    · rw [psF_end q] at h
      cases h
      omega
  | succ f ih =>
    intro i nc l w ks n ks2 h
    by_cases h47 : g i = 47
    · by_cases q : l < 1 ∨ nc = 4
      · rw [psF_sl_no h47 q] at h; cases h
      · rw [psF_sl h47 q] at h
        rcases ih _ _ _ _ _ _ _ h with r | r <;> omega
    · by_cases q : ¬ isLet (g i) ∨ l = 4
      · rw [psF_let_no h47 q] at h; cases h
      · rw [psF_let h47 (Classical.not_not.mp fun z => q (Or.inl z)) (fun z => q (Or.inr z))] at h
        exact ih _ _ _ _ _ _ _ h
theorem psr_count {g : Nat → Int} {n m : Nat} {ks : Nat → Int} (h : psr g n = some (m, ks)) : 1 ≤ m ∧ m ≤ 4 := by
  rcases psF_count g _ _ _ _ _ _ _ _ h with r | r <;> omega
theorem psF_congr {g g2 : Nat → Int} : ∀ (f i nc l : Nat) (w : Int) (ks : Nat → Int), (∀ j, i ≤ j → j < i + f → g j = g2 j) → psF g f i nc l w ks = psF g2 f i nc l w ks := by
  intro f
  induction f with
  | zero => intro i nc l w ks _; unfold psF; rfl
  | succ f ih =>
    intro i nc l w ks h
    have h0 := h i (by omega) (by omega)
    unfold psF
    rw [h0]
    rw [ih (i + 1) (nc + 1) 0 0 _ (fun j a b => h j (by omega) (by omega)), ih (i + 1) nc (l + 1) _ _ (fun j a b => h j (by omega) (by omega))]
theorem psr_congr {g g2 : Nat → Int} {n : Nat} (h : ∀ j, j < n → g j = g2 j) : psr g n = psr g2 n := psF_congr n 0 0 0 0 _ (fun j _ b => h j (by omega))
-- looking up
def n4 (d : Nat → Int) (a : Int) : Int := rd d a + rd d (a + 1) * 256 + rd d (a + 2) * 65536 + rd d (a + 3) * 16777216
theorem By_n4 {d : Nat → Int} (h : By d) (a : Int) : 0 ≤ n4 d a ∧ n4 d a < 4294967296 := by
  have h0 := h.rd a
  have h1 := h.rd (a + 1)
  have h2 := h.rd (a + 2)
  have h3 := h.rd (a + 3)
  unfold n4; omega
noncomputable def lkF (d : Nat → Int) (first len key : Int) : Nat → Int → Int
  | 0, _ => -6
  | f + 1, j => by
    classical
    exact if ent d first len j < 0 then -6 else if ¬ pas d (ent d first len j) ∧ n4 d (ent d first len j) = key then ent d first len j else lkF d first len key f (j + 1)
noncomputable def lk (d : Nat → Int) (first len key j : Int) : Int := lkF d first len key ((nsl d len - j).toNat + 1) j
theorem lk_none {d : Nat → Int} {first len key j : Int} (h : ent d first len j < 0) : lk d first len key j = -6 := by
  classical
  unfold lk lkF; rw [if_pos h]
theorem lk_hit {d : Nat → Int} {first len key j : Int} (h : ¬ ent d first len j < 0) (h1 : ¬ pas d (ent d first len j)) (h2 : n4 d (ent d first len j) = key) : lk d first len key j = ent d first len j := by
  classical
  unfold lk lkF; rw [if_neg h, if_pos ⟨h1, h2⟩]
theorem lk_step {d : Nat → Int} {first len key j : Int} (h : ¬ ent d first len j < 0) (h1 : pas d (ent d first len j) ∨ ¬ n4 d (ent d first len j) = key) : lk d first len key j = lk d first len key (j + 1) := by
  classical
  have hj : j < nsl d len := by
    rcases ent_cases d first len j with e | ⟨e, -, -⟩
    · omega
    · exact e
  unfold lk
  conv => lhs; unfold lkF
  rw [if_neg h, if_neg (by rintro ⟨a, b⟩; rcases h1 with c | c; exact a c; exact c b), show (nsl d len - j).toNat = (nsl d len - (j + 1)).toNat + 1 by omega]
noncomputable def lkp (d : Nat → Int) (first key : Int) : Int := by
  classical
  exact if 0 ≤ chn d first then lk d first (chn d first) key 0 else -9
theorem lkp_ok {d : Nat → Int} {first key : Int} (h : 0 ≤ chn d first) : lkp d first key = lk d first (chn d first) key 0 := by
  classical
  unfold lkp; rw [if_pos h]
theorem lkp_no {d : Nat → Int} {first key : Int} (h : ¬ 0 ≤ chn d first) : lkp d first key = -9 := by
  classical
  unfold lkp; rw [if_neg h]
noncomputable def fnF (d : Nat → Int) (ks : Nat → Int) : Nat → Nat → Int → Int
  | 0, _, _ => -6
  | r + 1, k, first => by
    classical
    exact if lkp d first (ks k) < 0 then lkp d first (ks k) else if r = 0 then lkp d first (ks k) else if isD d (lkp d first (ks k)) then fnF d ks r (k + 1) (rd d (lkp d first (ks k) + 5)) else -8
noncomputable def fnd (d : Nat → Int) (ks : Nat → Int) (n : Nat) : Int := fnF d ks n 0 (gRoot d)
theorem fnF_neg {d : Nat → Int} {ks : Nat → Int} {r k : Nat} {first : Int} (h : lkp d first (ks k) < 0) : fnF d ks (r + 1) k first = lkp d first (ks k) := by
  classical
  unfold fnF; rw [if_pos h]
theorem fnF_last {d : Nat → Int} {ks : Nat → Int} {k : Nat} {first : Int} (h : ¬ lkp d first (ks k) < 0) : fnF d ks 1 k first = lkp d first (ks k) := by
  classical
  unfold fnF; rw [if_neg h, if_pos rfl]
theorem fnF_dir {d : Nat → Int} {ks : Nat → Int} {r k : Nat} {first : Int} (h : ¬ lkp d first (ks k) < 0) (h2 : isD d (lkp d first (ks k))) : fnF d ks (r + 2) k first = fnF d ks (r + 1) (k + 1) (rd d (lkp d first (ks k) + 5)) := by
  classical
  conv => lhs; unfold fnF
  rw [if_neg h, if_neg (by omega), if_pos h2]
theorem fnF_nodir {d : Nat → Int} {ks : Nat → Int} {r k : Nat} {first : Int} (h : ¬ lkp d first (ks k) < 0) (h2 : ¬ isD d (lkp d first (ks k))) : fnF d ks (r + 2) k first = -8 := by
  classical
  unfold fnF
  rw [if_neg h, if_neg (by omega), if_neg h2]
def gtx (tx : Nat → Int) (fr : Int) (i : Nat) : Int := tx (fr + (i : Int)).toNat
/-- name k among letters -/
def lkey (L : Nat → Int) (k : Nat) : Int := L (4 * k) + L (4 * k + 1) * 256 + L (4 * k + 2) * 65536 + L (4 * k + 3) * 16777216
theorem lkey_ne {L : Nat → Int} {k i : Nat} {c : Int} (h : 4 * k + 4 ≤ i) : lkey (va_up L i c) k = lkey L k := by
  unfold lkey
  rw [va_up_ne _ _ (by omega), va_up_ne _ _ (by omega), va_up_ne _ _ (by omega), va_up_ne _ _ (by omega)]
theorem lkey_up {L : Nat → Int} {k l : Nat} {c : Int} (hl : l < 4) (h : L (4 * k + l) = 32) : lkey (va_up L (4 * k + l) c) k = lkey L k + (c - 32) * pw l := by
  unfold lkey va_up
  match l, hl with
  | 0, _ => rw [if_pos (by omega), if_neg (by omega), if_neg (by omega), if_neg (by omega)]; simp only [pw]; rw [Nat.add_zero] at h; omega
  | 1, _ => rw [if_neg (by omega), if_pos rfl, if_neg (by omega), if_neg (by omega)]; simp only [pw]; omega
  | 2, _ => rw [if_neg (by omega), if_neg (by omega), if_pos rfl, if_neg (by omega)]; simp only [pw]; omega
  | 3, _ => rw [if_neg (by omega), if_neg (by omega), if_neg (by omega), if_pos rfl]; simp only [pw]; omega
theorem padk_up {w c : Int} {l : Nat} (hl : l < 4) : padk (w + c * pw l) (l + 1) = padk w l + (c - 32) * pw l := by
  match l, hl with
  | 0, _ => simp only [padk, pw]; omega
  | 1, _ => simp only [padk, pw]; omega
  | 2, _ => simp only [padk, pw]; omega
  | 3, _ => simp only [padk, pw]; omega
theorem By_up {L : Nat → Int} (h : By L) {i : Nat} {c : Int} (h0 : 0 ≤ c) (h1 : c < 256) : By (va_up L i c) := by
  intro j
  unfold va_up
  split
  · exact ⟨h0, h1⟩
  · exact h j
def By16 (L : Nat → Int) : Prop := ∀ j, j < 16 → 0 ≤ L j ∧ L j < 256
theorem By16_up {L : Nat → Int} (h : By16 L) {i : Nat} {c : Int} (h0 : 0 ≤ c) (h1 : c < 256) : By16 (va_up L i c) := by
  intro j hj
  unfold va_up
  split
  · exact ⟨h0, h1⟩
  · exact h j hj
