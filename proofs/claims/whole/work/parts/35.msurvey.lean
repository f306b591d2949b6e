/-! the reference's survey: open directories on a row of levels -/
noncomputable def top (d oA oN : Nat → Int) : Nat → Int → Int → Int
  | 0, m, k => m - k + 1000 * k
  | L + 1, m, k => by
    classical
    exact if (cl_ d (oA L) (chn d (oA L)) (cen d (4 - L)) (oN L) m k).1 < 0 then (cl_ d (oA L) (chn d (oA L)) (cen d (4 - L)) (oN L) m k).1 else top d oA oN L (cl_ d (oA L) (chn d (oA L)) (cen d (4 - L)) (oN L) m k).2.1 (cl_ d (oA L) (chn d (oA L)) (cen d (4 - L)) (oN L) m k).2.2
theorem top_congr {d oA oN oA2 oN2 : Nat → Int} : ∀ (L : Nat) (m k : Int), (∀ l, l < L → oA l = oA2 l ∧ oN l = oN2 l) → top d oA oN L m k = top d oA2 oN2 L m k := by
  intro L
  induction L with
  | zero => intro m k _; rfl
  | succ L ih =>
    intro m k h
    unfold top
    rw [(h L (by omega)).1, (h L (by omega)).2, ih _ _ (fun l hl => h l (by omega))]
theorem top_1 {d oA oN : Nat → Int} {L : Nat} {m k c m2 k2 : Int} (h : cl_ d (oA L) (chn d (oA L)) (cen d (4 - L)) (oN L) m k = (c, m2, k2)) (hc : c < 0) : top d oA oN (L + 1) m k = c := by
  classical
  unfold top; rw [h]; exact if_pos hc
theorem top_2 {d oA oN : Nat → Int} {L : Nat} {m k c m2 k2 : Int} (h : cl_ d (oA L) (chn d (oA L)) (cen d (4 - L)) (oN L) m k = (c, m2, k2)) (hc : ¬ c < 0) : top d oA oN (L + 1) m k = top d oA oN L m2 k2 := by
  classical
  conv => lhs; unfold top
  rw [h]; exact if_neg hc
/-- the same, one frame's slot further -/
theorem top_slot {d oA oN : Nat → Int} {L : Nat} {m k m2 k2 : Int} (h : cl_ d (oA L) (chn d (oA L)) (cen d (4 - L)) (oN L) m k = cl_ d (oA L) (chn d (oA L)) (cen d (4 - L)) (oN L + 1) m2 k2) : top d oA oN (L + 1) m k = top d oA (va_up oN L (oN L + 1)) (L + 1) m2 k2 := by
  unfold top
  rw [h, va_up_self]
  rw [top_congr (oN := oN) (oN2 := va_up oN L (oN L + 1)) (oA2 := oA) L _ _ (fun l hl => ⟨rfl, (va_up_ne _ _ (by omega)).symm⟩)]
theorem top_pop {d oA oN : Nat → Int} {L : Nat} {m k : Int} (h : ent d (oA L) (chn d (oA L)) (oN L) < 0) : top d oA oN (L + 1) m k = top d oA (va_up oN L (oN L + 1)) L m k := by
  rw [top_2 (cl_none h) (by decide)]
  exact top_congr _ _ _ (fun l hl => ⟨rfl, (va_up_ne _ _ (by omega)).symm⟩)
theorem top_push {d oA oN : Nat → Int} {L : Nat} (hL : L ≤ 3) {m k : Int} (h : ¬ ent d (oA L) (chn d (oA L)) (oN L) < 0) (h1 : ¬ pas d (ent d (oA L) (chn d (oA L)) (oN L))) (h2 : ¬ 250 < m + 1) (h3 : isD d (ent d (oA L) (chn d (oA L)) (oN L))) (h4 : 0 ≤ chn d (rd d (ent d (oA L) (chn d (oA L)) (oN L) + 5))) :
    top d oA oN (L + 1) m k = top d (va_up oA (L + 1) (rd d (ent d (oA L) (chn d (oA L)) (oN L) + 5))) (va_up (va_up oN L (oN L + 1)) (L + 1) 0) (L + 2) (m + 1) (k + 1) := by
  classical
  have e4 : 4 - L = (4 - (L + 1)) + 1 := by omega
  have ec := cet_dir (r := 4 - L) (k := k) h2 h3
  rw [e4, cen_ok h4, ← e4] at ec
  generalize hR : cl_ d (rd d (ent d (oA L) (chn d (oA L)) (oN L) + 5)) (chn d (rd d (ent d (oA L) (chn d (oA L)) (oN L) + 5))) (cen d (4 - (L + 1))) 0 (m + 1) (k + 1) = R at ec
  have hrhs : ∀ c m2 k2, R = (c, m2, k2) → top d (va_up oA (L + 1) (rd d (ent d (oA L) (chn d (oA L)) (oN L) + 5))) (va_up (va_up oN L (oN L + 1)) (L + 1) 0) (L + 2) (m + 1) (k + 1) = if c < 0 then c else top d oA (va_up oN L (oN L + 1)) (L + 1) m2 k2 := by
    intro c m2 k2 hc
    have hx : cl_ d (va_up oA (L + 1) (rd d (ent d (oA L) (chn d (oA L)) (oN L) + 5)) (L + 1)) (chn d (va_up oA (L + 1) (rd d (ent d (oA L) (chn d (oA L)) (oN L) + 5)) (L + 1))) (cen d (4 - (L + 1))) (va_up (va_up oN L (oN L + 1)) (L + 1) 0 (L + 1)) (m + 1) (k + 1) = (c, m2, k2) := by
      rw [va_up_self, va_up_self, hR, hc]
    by_cases hn : c < 0
    · rw [top_1 hx hn, if_pos hn]
    · rw [top_2 hx hn, if_neg hn]
      exact top_congr _ _ _ (fun l hl => ⟨va_up_ne _ _ (by omega), va_up_ne _ _ (by omega)⟩)
  obtain ⟨c, m2, k2⟩ := R
  rw [hrhs c m2 k2 rfl]
  by_cases hn : c < 0
  · rw [if_pos hn]
    exact top_1 ((cl_bad h h1 (by rw [ec]; exact hn)).trans ec) hn
  · rw [if_neg hn]
    have e := cl_on h h1 (r := 4 - L) (m := m) (k := k) (by rw [ec]; exact hn)
    rw [ec] at e
    exact top_slot e
def sumN (f : Nat → Int) : Nat → Nat
  | 0 => 0
  | L + 1 => sumN f L + (257 - f L).toNat
theorem sumN_up {f : Nat → Int} {i : Nat} {v : Int} : ∀ L, L ≤ i → sumN (va_up f i v) L = sumN f L
  | 0, _ => rfl
  | L + 1, h => by
    unfold sumN
    rw [sumN_up L (by omega), va_up_ne _ _ (by omega)]
/-- a chain that counts from the root -/
theorem svy_top {d oA oN : Nat → Int} (h : 0 ≤ chn d (gRoot d)) (hA : oA 0 = gRoot d) (hN : oN 0 = 0) : svy d = top d oA oN 1 0 0 := by
  classical
  unfold svy top
  rw [hA, hN, cen_ok h]
  rfl
-- the reference's list
theorem ftdM {d px ty : Nat → Int} {tc : Int} (h0 : ¬ tc = 0) (h : psr px tc.toNat = psr (gtx ty 0) (tc - 0).toNat) : (fnM d px tc.toNat < 0 → ftd d ty tc = fnM d px tc.toNat) ∧ (¬ fnM d px tc.toNat < 0 → isD d (fnM d px tc.toNat) → ftd d ty tc = rd d (fnM d px tc.toNat + 5)) ∧ (¬ fnM d px tc.toNat < 0 → ¬ isD d (fnM d px tc.toNat) → ftd d ty tc = -8) := by
  cases hp : psr px tc.toNat with
  | none =>
    rw [fnM_none hp]
    rw [h] at hp
    exact ⟨fun _ => ftd_none h0 hp, fun q => absurd (show (-5 : Int) < 0 by decide) q, fun q => absurd (show (-5 : Int) < 0 by decide) q⟩
  | some v =>
    obtain ⟨m, ks⟩ := v
    rw [fnM_some hp]
    rw [h] at hp
    exact ⟨fun q => (ftd_some h0 hp).trans (dirS_1 q), fun q q2 => (ftd_some h0 hp).trans (dirS_2 q q2), fun q q2 => (ftd_some h0 hp).trans (dirS_3 q q2)⟩
theorem l_mask2 {z : Int} (h0 : 0 ≤ z) (h1 : z < 4294967296) : (iI z).toInt64 &&& lI 4294967295 = lI z := l_mask h0 h1
