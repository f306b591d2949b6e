/-! the survey: directories in directories -/
abbrev CR : Type := Int × Int × Int
noncomputable def clF (d : Nat → Int) (first len : Int) (sub : Int → Int → Int → CR) : Nat → Int → Int → Int → CR
  | 0, _, m, k => (0, m, k)
  | f + 1, j, m, k => by
    classical
    exact if ent d first len j < 0 then (0, m, k)
      else if pas d (ent d first len j) then clF d first len sub f (j + 1) m k
      else if 250 < m + 1 then (-14, m + 1, k)
      else if isD d (ent d first len j) then (if (sub (rd d (ent d first len j + 5)) (m + 1) (k + 1)).1 < 0 then sub (rd d (ent d first len j + 5)) (m + 1) (k + 1) else clF d first len sub f (j + 1) (sub (rd d (ent d first len j + 5)) (m + 1) (k + 1)).2.1 (sub (rd d (ent d first len j + 5)) (m + 1) (k + 1)).2.2)
      else clF d first len sub f (j + 1) (m + 1) k
noncomputable def cl_ (d : Nat → Int) (first len : Int) (sub : Int → Int → Int → CR) (j m k : Int) : CR := clF d first len sub ((nsl d len - j).toNat + 1) j m k
noncomputable def cen (d : Nat → Int) : Nat → Int → Int → Int → CR
  | 0 => fun _ m k => (-13, m, k)
  | r + 1 => fun first m k => by
    classical
    exact if 0 ≤ chn d first then cl_ d first (chn d first) (cen d r) 0 m k else (-9, m, k)
/-- what an entry gives -/
noncomputable def cet (d : Nat → Int) (r : Nat) (a m k : Int) : CR := by
  classical
  exact if 250 < m + 1 then (-14, m + 1, k) else if isD d a then cen d r (rd d (a + 5)) (m + 1) (k + 1) else (0, m + 1, k)
theorem cet_many {d : Nat → Int} {r : Nat} {a m k : Int} (h : 250 < m + 1) : cet d r a m k = (-14, m + 1, k) := by
  classical
  unfold cet; rw [if_pos h]
theorem cet_dir {d : Nat → Int} {r : Nat} {a m k : Int} (h : ¬ 250 < m + 1) (h2 : isD d a) : cet d r a m k = cen d r (rd d (a + 5)) (m + 1) (k + 1) := by
  classical
  unfold cet; rw [if_neg h, if_pos h2]
theorem cet_file {d : Nat → Int} {r : Nat} {a m k : Int} (h : ¬ 250 < m + 1) (h2 : ¬ isD d a) : cet d r a m k = (0, m + 1, k) := by
  classical
  unfold cet; rw [if_neg h, if_neg h2]
theorem cen_deep {d : Nat → Int} {first m k : Int} : cen d 0 first m k = (-13, m, k) := rfl
theorem cen_no {d : Nat → Int} {r : Nat} {first m k : Int} (h : ¬ 0 ≤ chn d first) : cen d (r + 1) first m k = (-9, m, k) := by
  classical
  unfold cen; exact if_neg h
theorem cen_ok {d : Nat → Int} {r : Nat} {first m k : Int} (h : 0 ≤ chn d first) : cen d (r + 1) first m k = cl_ d first (chn d first) (cen d r) 0 m k := by
  classical
  conv => lhs; unfold cen
  exact if_pos h
theorem cl_none {d : Nat → Int} {first len : Int} {sub : Int → Int → Int → CR} {j m k : Int} (h : ent d first len j < 0) : cl_ d first len sub j m k = (0, m, k) := by
  classical
  unfold cl_ clF; rw [if_pos h]
theorem cl_pas {d : Nat → Int} {first len : Int} {sub : Int → Int → Int → CR} {j m k : Int} (h : ¬ ent d first len j < 0) (h1 : pas d (ent d first len j)) : cl_ d first len sub j m k = cl_ d first len sub (j + 1) m k := by
  classical
  have hj := ent_lt h
  unfold cl_
  conv => lhs; unfold clF
  rw [if_neg h, if_pos h1, show (nsl d len - j).toNat = (nsl d len - (j + 1)).toNat + 1 by omega]
theorem cl_bad {d : Nat → Int} {first len : Int} {r : Nat} {j m k : Int} (h : ¬ ent d first len j < 0) (h1 : ¬ pas d (ent d first len j)) (h2 : (cet d r (ent d first len j) m k).1 < 0) : cl_ d first len (cen d r) j m k = cet d r (ent d first len j) m k := by
  classical
  unfold cl_ clF
  rw [if_neg h, if_neg h1]
  by_cases c1 : 250 < m + 1
  · rw [if_pos c1, cet_many c1]
  · rw [if_neg c1]
    by_cases c2 : isD d (ent d first len j)
    · rw [cet_dir c1 c2] at h2 ⊢
      rw [if_pos c2, if_pos h2]
    · rw [cet_file c1 c2] at h2
      exact absurd h2 (show ¬ (0 : Int) < 0 by decide)
theorem cl_on {d : Nat → Int} {first len : Int} {r : Nat} {j m k : Int} (h : ¬ ent d first len j < 0) (h1 : ¬ pas d (ent d first len j)) (h2 : ¬ (cet d r (ent d first len j) m k).1 < 0) : cl_ d first len (cen d r) j m k = cl_ d first len (cen d r) (j + 1) (cet d r (ent d first len j) m k).2.1 (cet d r (ent d first len j) m k).2.2 := by
  classical
  have hj := ent_lt h
  unfold cl_
  conv => lhs; unfold clF
  rw [if_neg h, if_neg h1, show (nsl d len - j).toNat = (nsl d len - (j + 1)).toNat + 1 by omega]
  by_cases c1 : 250 < m + 1
  · rw [cet_many c1] at h2
    exact absurd (show (-14 : Int) < 0 by decide) h2
  · rw [if_neg c1]
    by_cases c2 : isD d (ent d first len j)
    · rw [cet_dir c1 c2] at h2 ⊢
      rw [if_pos c2, if_neg h2]
    · rw [cet_file c1 c2, if_neg c2]
def lvf (g0 g1 g2 g3 g4 : Nat) (j : Nat) : Option Nat := match j with
  | 0 => some g0
  | 1 => some g1
  | 2 => some g2
  | 3 => some g3
  | 4 => some g4
  | _ => none
/-- bounds of a count -/
def CB (c m k : Int) : Prop := (-100 ≤ c ∧ c ≤ 0) ∧ (0 ≤ k ∧ k ≤ m ∧ m ≤ 251) ∧ (0 ≤ c → m ≤ 250)
section KQ
variable {p : Program} {l : Launch} {e : Env} {R : Room} {s : State} {m : MethodId} {args : Array Value} {below : List Frame} {meth : Method} {c : Code} {H : Heap} {locs : List Loc} {cells slots : Nat} {Q : State → Prop}
variable {cc : ByteArray} {nL pc : Nat} {ls : Array Slot} {rest : List Value} {D : va_G} {cl : List vw_C} {A : Nat → Prop} {a : Nat} {tys : List (ClassId × FieldType)} {ws ws' : va_W} {Ts : List Cond} {own : String}
theorem k_aald (C0 : CallFix p m c cc nL s args Ts own) (S : kS D cl tys A s ws H locs) (q0 t0 : Nat) {cA : ClassId} {C : String} {n : Nat} {f : Nat → Option Nat} (ha : ws[q0]? = some (a, .inl (cA, n, .inr (.inr (.inr (.inr f)))))) (ht : tys[t0]? = some (cA, .object C)) {z : Int} (h0 : 0 ≤ z) (h1 : z < n) (hn : n < 2147483648) {v : Value} (hv : va_rf (f z.toNat) = v) (hdg : decode cc pc = .ok (.aaload, 1))
    (kk : W p l e R s m args below meth c H locs cells slots Q (F0 m (pc + 1) ls (v :: rest))) : W p l e R s m args below meth c H locs cells slots Q (F0 m pc ls (.int (iI z) :: .ref a :: rest)) := by
  refine va_aldq C0.1 C0.2.1 S.1 S.2.1 q0 t0 ha ht (iI_in h0 h1 hn) hdg ?_
  rw [iI_clamp h0 (by omega), hv]
  exact kk
end KQ
