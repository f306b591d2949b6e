/-! the whole loader's answers, and memory as it is written -/
theorem arrV_congr {cA : ClassId} {n : Nat} {f g : Nat → Value} (h : ∀ j, j < n → f j = g j) : arrV cA n f = arrV cA n g := by
  unfold arrV
  congr 1
  congr 1
  funext j
  exact h j.val j.isLt
/-- an array's contents by another function that agrees within -/
theorem kS.re {D : va_G} {cl : List vw_C} {tys : List (ClassId × FieldType)} {A : Nat → Prop} {s : State} {ws ws' : va_W} {H : Heap} {locs : List Loc} (S : kS D cl tys A s ws H locs) (q0 : Nat) {a n : Nat} {cA : ClassId} {f g : Nat → Int32} (ha : ws[q0]? = some (a, .inl (cA, n, .inl f))) (h : ∀ j, j < n → f j = g j) (hw : ws.set q0 (a, .inl (cA, n, .inl g)) = ws') : kS D cl tys A s ws' H locs := by
  subst hw
  obtain ⟨hK, hP, hD, hS, hA⟩ := S
  refine ⟨hK, hP.set hD ha ?_ (fun _ _ => rfl), hD.set ha, hS, hA⟩
  have h1 : H[a]? = some (vp_cell cA (n, .inl f)) := hP q0 _ ha
  show H[a]? = some (vp_cell cA (n, .inl g))
  rw [h1, vp_cell_i, vp_cell_i]
  exact congrArg some (arrV_congr (fun j hj => by rw [h j hj]))
/-- k numbers g 0, g 1 .. onto f from z on -/
def cpK (f : Nat → Int) (z : Int) (g : Nat → Int) : Nat → Nat → Int
  | 0 => f
  | k + 1 => va_up (cpK f z g k) (z + (k : Int)).toNat (g k)
theorem cpK_congr {f : Nat → Int} {z : Int} {g g2 : Nat → Int} : ∀ k, (∀ j, j < k → g j = g2 j) → cpK f z g k = cpK f z g2 k
  | 0, _ => rfl
  | k + 1, h => by
    unfold cpK
    rw [cpK_congr k (fun j hj => h j (by omega)), h k (by omega)]
theorem By_cpK {f g : Nat → Int} (z : Int) (hf : By f) (hg : By g) : ∀ k, By (cpK f z g k)
  | 0 => hf
  | k + 1 => by
    intro j
    unfold cpK va_up
    split
    · exact hg k
    · exact By_cpK z hf hg k j
theorem byt_small {v : Int} (h0 : 0 ≤ v) (h1 : v < 256) : byt ((iI v).toInt64) 0 = v := by
  unfold byt
  rw [lI_of32 ⟨by omega, by omega⟩]
  have : (lI v).toInt = v := Int64.toInt_ofInt_of_le (by omega) (by omega)
  rw [this]
  omega
theorem putK_1 (f : Nat → Int) (z : Int) {v : Int} (h0 : 0 ≤ v) (h1 : v < 256) : putK f z ((iI v).toInt64) 1 = va_up f z.toNat v := by
  unfold putK putK
  rw [byt_small h0 h1, show z + ((0 : Nat) : Int) = z by omega]
-- answers that need the path text
noncomputable def fot (d ty : Nat → Int) (tc : Int) : Int := match psr (gtx ty 0) (tc - 0).toNat with
  | none => -5
  | some (m, ks) => fil d ks m
noncomputable def fotV (d ty : Nat → Int) (tc : Int) : Int := by
  classical
  exact if vol d < 0 then vol d else fot d ty tc
noncomputable def sizS (d ty : Nat → Int) (tc : Int) : Int := by
  classical
  exact if fotV d ty tc < 0 then fotV d ty tc else wrd d (fotV d ty tc + 6)
noncomputable def reaS (d ty : Nat → Int) (tc i : Int) : Int := by
  classical
  exact if fotV d ty tc < 0 then fotV d ty tc else if opn d (fotV d ty tc) < 0 then opn d (fotV d ty tc) else if 0 ≤ i ∧ i < opn d (fotV d ty tc) then rd d (plc d (rd d (fotV d ty tc + 5)) i) else -1
noncomputable def dirS (d : Nat → Int) (ks : Nat → Int) (m : Nat) : Int := by
  classical
  exact if fnd d ks m < 0 then fnd d ks m else if isD d (fnd d ks m) then rd d (fnd d ks m + 5) else -8
noncomputable def ftd (d ty : Nat → Int) (tc : Int) : Int := by
  classical
  exact if tc = 0 then gRoot d else match psr (gtx ty 0) (tc - 0).toNat with
    | none => -5
    | some (m, ks) => dirS d ks m
noncomputable def lisS (d ty : Nat → Int) (tc i : Int) : Int := by
  classical
  exact if vol d < 0 then vol d else if ftd d ty tc < 0 then ftd d ty tc else lnm d (ftd d ty tc) i
noncomputable def surS (d : Nat → Int) : Int := by
  classical
  exact if vol d < 0 then vol d else svy d
theorem vol_range {d : Nat → Int} (hd : By d) : -4 ≤ vol d ∧ vol d ≤ 62 ∧ ¬ vol d = 0 := by
  rcases Int.lt_or_le (vol d) 0 with h | h
  · classical
    unfold vol at h ⊢
    split
    · split
      · omega
      · split
        · rename_i h1 h2 h3; obtain ⟨k1, k2⟩ := h3; have := k2.1; rw [if_pos h1, if_neg h2, if_pos ⟨k1, k2⟩] at h; omega
        · omega
    · omega
  · have hg := good_of_vol h
    have hb := (hg.bounds hd).lin
    rw [vol_of_good hg]
    omega
theorem fot_none {d ty : Nat → Int} {tc : Int} (h : psr (gtx ty 0) (tc - 0).toNat = none) : fot d ty tc = -5 := by unfold fot; rw [h]
theorem fot_some {d ty : Nat → Int} {tc : Int} {m : Nat} {ks : Nat → Int} (h : psr (gtx ty 0) (tc - 0).toNat = some (m, ks)) : fot d ty tc = fil d ks m := by unfold fot; rw [h]
theorem fotV_bad {d ty : Nat → Int} {tc : Int} (h : vol d < 0) : fotV d ty tc = vol d := by
  classical
  unfold fotV; rw [if_pos h]
theorem fotV_ok {d ty : Nat → Int} {tc : Int} (h : ¬ vol d < 0) : fotV d ty tc = fot d ty tc := by
  classical
  unfold fotV; rw [if_neg h]
theorem sizS_bad {d ty : Nat → Int} {tc : Int} (h : fotV d ty tc < 0) : sizS d ty tc = fotV d ty tc := by
  classical
  unfold sizS; rw [if_pos h]
theorem sizS_ok {d ty : Nat → Int} {tc : Int} (h : ¬ fotV d ty tc < 0) : sizS d ty tc = wrd d (fotV d ty tc + 6) := by
  classical
  unfold sizS; rw [if_neg h]
theorem reaS_1 {d ty : Nat → Int} {tc i : Int} (h : fotV d ty tc < 0) : reaS d ty tc i = fotV d ty tc := by
  classical
  unfold reaS; rw [if_pos h]
theorem reaS_2 {d ty : Nat → Int} {tc i : Int} (h : ¬ fotV d ty tc < 0) (h2 : opn d (fotV d ty tc) < 0) : reaS d ty tc i = opn d (fotV d ty tc) := by
  classical
  unfold reaS; rw [if_neg h, if_pos h2]
theorem reaS_3 {d ty : Nat → Int} {tc i : Int} (h : ¬ fotV d ty tc < 0) (h2 : ¬ opn d (fotV d ty tc) < 0) (h3 : 0 ≤ i ∧ i < opn d (fotV d ty tc)) : reaS d ty tc i = rd d (plc d (rd d (fotV d ty tc + 5)) i) := by
  classical
  unfold reaS; rw [if_neg h, if_neg h2, if_pos h3]
theorem reaS_4 {d ty : Nat → Int} {tc i : Int} (h : ¬ fotV d ty tc < 0) (h2 : ¬ opn d (fotV d ty tc) < 0) (h3 : ¬ (0 ≤ i ∧ i < opn d (fotV d ty tc))) : reaS d ty tc i = -1 := by
  classical
  unfold reaS; rw [if_neg h, if_neg h2, if_neg h3]
theorem dirS_1 {d ks : Nat → Int} {m : Nat} (h : fnd d ks m < 0) : dirS d ks m = fnd d ks m := by
  classical
  unfold dirS; rw [if_pos h]
theorem dirS_2 {d ks : Nat → Int} {m : Nat} (h : ¬ fnd d ks m < 0) (h2 : isD d (fnd d ks m)) : dirS d ks m = rd d (fnd d ks m + 5) := by
  classical
  unfold dirS; rw [if_neg h, if_pos h2]
theorem dirS_3 {d ks : Nat → Int} {m : Nat} (h : ¬ fnd d ks m < 0) (h2 : ¬ isD d (fnd d ks m)) : dirS d ks m = -8 := by
  classical
  unfold dirS; rw [if_neg h, if_neg h2]
theorem ftd_0 {d ty : Nat → Int} {tc : Int} (h : tc = 0) : ftd d ty tc = gRoot d := by
  classical
  unfold ftd; rw [if_pos h]
theorem ftd_none {d ty : Nat → Int} {tc : Int} (h0 : ¬ tc = 0) (h : psr (gtx ty 0) (tc - 0).toNat = none) : ftd d ty tc = -5 := by
  classical
  unfold ftd; rw [if_neg h0, h]
theorem ftd_some {d ty : Nat → Int} {tc : Int} {m : Nat} {ks : Nat → Int} (h0 : ¬ tc = 0) (h : psr (gtx ty 0) (tc - 0).toNat = some (m, ks)) : ftd d ty tc = dirS d ks m := by
  classical
  unfold ftd; rw [if_neg h0, h]
theorem lisS_1 {d ty : Nat → Int} {tc i : Int} (h : vol d < 0) : lisS d ty tc i = vol d := by
  classical
  unfold lisS; rw [if_pos h]
theorem lisS_2 {d ty : Nat → Int} {tc i : Int} (h : ¬ vol d < 0) (h2 : ftd d ty tc < 0) : lisS d ty tc i = ftd d ty tc := by
  classical
  unfold lisS; rw [if_neg h, if_pos h2]
theorem lisS_3 {d ty : Nat → Int} {tc i : Int} (h : ¬ vol d < 0) (h2 : ¬ ftd d ty tc < 0) : lisS d ty tc i = lnm d (ftd d ty tc) i := by
  classical
  unfold lisS; rw [if_neg h, if_neg h2]
theorem surS_1 {d : Nat → Int} (h : vol d < 0) : surS d = vol d := by
  classical
  unfold surS; rw [if_pos h]
theorem surS_2 {d : Nat → Int} (h : ¬ vol d < 0) : surS d = svy d := by
  classical
  unfold surS; rw [if_neg h]
-- booting
noncomputable def bkey : Nat → Int := va_up (fun _ => 0) 0 1414483778
/-- what loading a path answers, and memory and entry behind it; S: the settings, g: their text -/
noncomputable def ldC (d g : Nat → Int) (F N : Int) : Int := match psr (gtx g F) N.toNat with
  | none => -5
  | some (m, ks) => by
    classical
    exact if fil d ks m < 0 then fil d ks m else if opn d (fil d ks m) < 0 then opn d (fil d ks m) else if ¬ hdOk d (rd d (fil d ks m + 5)) (opn d (fil d ks m)) then -11 else if ¬ rmOk (kAd d (rd d (fil d ks m + 5)) (opn d (fil d ks m))) (kSt d (rd d (fil d ks m + 5)) (opn d (fil d ks m))) (opn d (fil d ks m)) then -12 else 0
/-- where the file of a path stands -/
noncomputable def ldA (d g : Nat → Int) (F N : Int) : Int := match psr (gtx g F) N.toNat with
  | none => 0
  | some (m, ks) => fil d ks m
noncomputable def inf (f : Nat → Int) (lim arg ad en rc : Int) : Nat → Int :=
  putK (putK (putK (putK (putK (putK (putK f 0 ((iI 732803074).toInt64) 4) 4 ((iI lim).toInt64) 4) 8 ((iI arg).toInt64) 4) 12 ((iI ad).toInt64) 4) 16 ((iI en).toInt64) 4) 20 ((iI rc).toInt64) 4) 24 ((iI (-(732803074 + lim + arg + ad + en + rc))).toInt64) 4
noncomputable def limS (fl : Int) : Int := 1024 * bz (¬ (iI fl &&& iI 2) = 0)
noncomputable def argS (n : Int) : Int := 32 * bz (0 < n)
noncomputable def ramS (d g : Nat → Int) (a aF aN : Int) : Nat → Int :=
  cpK (inf (cpK (fun _ => 0) (kAd d (rd d (a + 5)) (opn d a)) (ctn d (rd d (a + 5))) (opn d a).toNat) (limS (kFl d (rd d (a + 5)) (opn d a))) (argS aN) (kAd d (rd d (a + 5)) (opn d a)) (kAd d (rd d (a + 5)) (opn d a) + opn d a) (chs d)) 32 (gtx g aF) aN.toNat
