def rmX10_isLetter : Room := { frames := 0, cells := 0, slots := 0, locals := 0 }
set_option maxHeartbeats 4000000 in
set_option maxRecDepth 100000 in
theorem c_X10_isLetter (l : Launch) (D : va_G) (cA : Nat → ClassId) (hM aD aM aX aP aQ aK aO aA a1 a2 a3 : Nat) (st r3 r4 r5 r6 r7 r8 r9 r10 tl pn nc kl ol al : Int) (d : Nat → Int) (z : Int) (hz : ir z) : kCi l D vwCl (kTys cA) yX10_isLetter wsX10_isLetter rmX10_isLetter [.ref hM, .int (iI (z))] [(hM, .inr (10, [.ref aD, .ref aM, .int (iI (st)), .int (iI (r3)), .int (iI (r4)), .int (iI (r5)), .int (iI (r6)), .int (iI (r7)), .int (iI (r8)), .int (iI (r9)), .int (iI (r10)), .ref aX, .int (iI (tl)), .ref aP, .int (iI (pn)), .ref aQ, .int (iI (nc)), .ref aK, .ref aO, .ref aA, .int (iI (kl)), .int (iI (ol)), .int (iI (al)), .ref a1, .ref a2, .ref a3]))] (fun r u => r = iI (bz (isLet z)) ∧ u = [(hM, .inr (10, [.ref aD, .ref aM, .int (iI (st)), .int (iI (r3)), .int (iI (r4)), .int (iI (r5)), .int (iI (r6)), .int (iI (r7)), .int (iI (r8)), .int (iI (r9)), .int (iI (r10)), .ref aX, .int (iI (tl)), .ref aP, .int (iI (pn)), .ref aQ, .int (iI (nc)), .ref aK, .ref aO, .ref aA, .int (iI (kl)), .int (iI (ol)), .int (iI (al)), .ref a1, .ref a2, .ref a3]))]) := by
  intro sz
  refine kEntry (cc := cX10_isLetter) (maxL := 2) (ret := (some .boolean)) (by decide) rfl (Nat.le_of_ble_eq_true rfl) ?_
  intro p e s m args below meth c A Q hAe hQ C0 hr hlk S hsz ls hl
  have hl : lv_has ls 2 [(0, .ref hM), (1, .int (iI (z)))] := hl
  obtain ⟨hz1, hz2⟩ := hz
  refine lv_iload_n C0.1 C0.2.1 dX10_isLetter_0 rfl (lv_at hl 1 rfl) ?_
  refine lv_bipush (v := iI (65)) C0.1 C0.2.1 dX10_isLetter_1 (by decide) ?_
  refine k_icmp_lt (tgt := 12) C0 (by constructor <;> omega) ⟨by decide, by decide⟩ dX10_isLetter_3 (by decide) (fun c1 => ?_) (fun c1 => ?_)
  · refine lv_iload_n C0.1 C0.2.1 dX10_isLetter_12 rfl (lv_at hl 1 rfl) ?_
    refine lv_bipush (v := iI (48)) C0.1 C0.2.1 dX10_isLetter_13 (by decide) ?_
    refine k_icmp_lt (tgt := 28) C0 (by constructor <;> omega) ⟨by decide, by decide⟩ dX10_isLetter_15 (by decide) (fun c2 => ?_) (fun c2 => ?_)
    · refine lv_iconst (v := iI (0)) C0.1 C0.2.1 dX10_isLetter_28 rfl ?_
      subst hQ
      refine k_zret C0 S hAe hsz hr hlk (by rfl) dX10_isLetter_29 ?_
      exact ⟨congrArg iI (bz_f (by unfold isLet; omega)).symm, rfl⟩
    · refine lv_iload_n C0.1 C0.2.1 dX10_isLetter_18 rfl (lv_at hl 1 rfl) ?_
      refine lv_bipush (v := iI (57)) C0.1 C0.2.1 dX10_isLetter_19 (by decide) ?_
      refine k_icmp_gt (tgt := 28) C0 (by constructor <;> omega) ⟨by decide, by decide⟩ dX10_isLetter_21 (by decide) (fun c3 => ?_) (fun c3 => ?_)
      · refine lv_iconst (v := iI (0)) C0.1 C0.2.1 dX10_isLetter_28 rfl ?_
        subst hQ
        refine k_zret C0 S hAe hsz hr hlk (by rfl) dX10_isLetter_29 ?_
        exact ⟨congrArg iI (bz_f (by unfold isLet; omega)).symm, rfl⟩
      · refine lv_iconst (v := iI (1)) C0.1 C0.2.1 dX10_isLetter_24 rfl ?_
        refine lv_goto (tgt := 29) C0.1 C0.2.1 dX10_isLetter_25 (by decide) ?_
        subst hQ
        refine k_zret C0 S hAe hsz hr hlk (by rfl) dX10_isLetter_29 ?_
        exact ⟨congrArg iI (bz_t (by unfold isLet; omega)).symm, rfl⟩
  · refine lv_iload_n C0.1 C0.2.1 dX10_isLetter_6 rfl (lv_at hl 1 rfl) ?_
    refine lv_bipush (v := iI (90)) C0.1 C0.2.1 dX10_isLetter_7 (by decide) ?_
    refine k_icmp_le (tgt := 24) C0 (by constructor <;> omega) ⟨by decide, by decide⟩ dX10_isLetter_9 (by decide) (fun c4 => ?_) (fun c4 => ?_)
    · refine lv_iconst (v := iI (1)) C0.1 C0.2.1 dX10_isLetter_24 rfl ?_
      refine lv_goto (tgt := 29) C0.1 C0.2.1 dX10_isLetter_25 (by decide) ?_
      subst hQ
      refine k_zret C0 S hAe hsz hr hlk (by rfl) dX10_isLetter_29 ?_
      exact ⟨congrArg iI (bz_t (by unfold isLet; omega)).symm, rfl⟩
    · refine lv_iload_n C0.1 C0.2.1 dX10_isLetter_12 rfl (lv_at hl 1 rfl) ?_
      refine lv_bipush (v := iI (48)) C0.1 C0.2.1 dX10_isLetter_13 (by decide) ?_
      refine k_icmp_lt (tgt := 28) C0 (by constructor <;> omega) ⟨by decide, by decide⟩ dX10_isLetter_15 (by decide) (fun c5 => ?_) (fun c5 => ?_)
      · refine lv_iconst (v := iI (0)) C0.1 C0.2.1 dX10_isLetter_28 rfl ?_
        subst hQ
        refine k_zret C0 S hAe hsz hr hlk (by rfl) dX10_isLetter_29 ?_
        exact ⟨congrArg iI (bz_f (by unfold isLet; omega)).symm, rfl⟩
      · refine lv_iload_n C0.1 C0.2.1 dX10_isLetter_18 rfl (lv_at hl 1 rfl) ?_
        refine lv_bipush (v := iI (57)) C0.1 C0.2.1 dX10_isLetter_19 (by decide) ?_
        refine k_icmp_gt (tgt := 28) C0 (by constructor <;> omega) ⟨by decide, by decide⟩ dX10_isLetter_21 (by decide) (fun c6 => ?_) (fun c6 => ?_)
        · refine lv_iconst (v := iI (0)) C0.1 C0.2.1 dX10_isLetter_28 rfl ?_
          subst hQ
          refine k_zret C0 S hAe hsz hr hlk (by rfl) dX10_isLetter_29 ?_
          exact ⟨congrArg iI (bz_f (by unfold isLet; omega)).symm, rfl⟩
        · refine lv_iconst (v := iI (1)) C0.1 C0.2.1 dX10_isLetter_24 rfl ?_
          refine lv_goto (tgt := 29) C0.1 C0.2.1 dX10_isLetter_25 (by decide) ?_
          subst hQ
          refine k_zret C0 S hAe hsz hr hlk (by rfl) dX10_isLetter_29 ?_
          exact ⟨congrArg iI (bz_t (by unfold isLet; omega)).symm, rfl⟩
def rmX10_parse : Room := { frames := 1, cells := 0, slots := 0, locals := 21 }
set_option maxHeartbeats 4000000 in
set_option maxRecDepth 100000 in
theorem c_X10_parse (l : Launch) (D : va_G) (cA : Nat → ClassId) (hM aD aM aX aP aQ aK aO aA a1 a2 a3 : Nat) (st r3 r4 r5 r6 r7 r8 r9 r10 tl pn nc kl ol al : Int) (d : Nat → Int) (px nm : Nat → Int) (hpx : By px) (hp0 : 0 ≤ pn) (hp1 : pn ≤ 200) : kCi l D vwCl (kTys cA) yX10_parse wsX10_parse rmX10_parse [.ref hM] [(hM, .inr (10, [.ref aD, .ref aM, .int (iI (st)), .int (iI (r3)), .int (iI (r4)), .int (iI (r5)), .int (iI (r6)), .int (iI (r7)), .int (iI (r8)), .int (iI (r9)), .int (iI (r10)), .ref aX, .int (iI (tl)), .ref aP, .int (iI (pn)), .ref aQ, .int (iI (nc)), .ref aK, .ref aO, .ref aA, .int (iI (kl)), .int (iI (ol)), .int (iI (al)), .ref a1, .ref a2, .ref a3])), (aP, .inl (cA 0, 200, .inl (fun y_ => iI (px y_)))), (aQ, .inl (cA 0, 4, .inl (fun y_ => iI (nm y_))))] (fun r u => ∃ (nc2 : Int) (nm2 : Nat → Int), r = iI (bz (psr px pn.toNat ≠ none)) ∧ u = [(hM, .inr (10, [.ref aD, .ref aM, .int (iI (st)), .int (iI (r3)), .int (iI (r4)), .int (iI (r5)), .int (iI (r6)), .int (iI (r7)), .int (iI (r8)), .int (iI (r9)), .int (iI (r10)), .ref aX, .int (iI (tl)), .ref aP, .int (iI (pn)), .ref aQ, .int (iI (nc2)), .ref aK, .ref aO, .ref aA, .int (iI (kl)), .int (iI (ol)), .int (iI (al)), .ref a1, .ref a2, .ref a3])), (aP, .inl (cA 0, 200, .inl (fun y_ => iI (px y_)))), (aQ, .inl (cA 0, 4, .inl (fun y_ => iI (nm2 y_))))] ∧ ∀ m ks, psr px pn.toNat = some (m, ks) → nc2 = (m : Int) ∧ (∀ k, k < m → nm2 k = ks k) ∧ ∀ k, k < m → 0 ≤ ks k ∧ ks k < 4294967296) := by
  intro sz
  refine kEntry (cc := cX10_parse) (maxL := 6) (ret := (some .boolean)) (by decide) rfl (Nat.le_of_ble_eq_true rfl) ?_
  intro p e s m args below meth c A Q hAe hQ C0 hr hlk S hsz ls hl
  have hl : lv_has ls 6 [(0, .ref hM)] := hl
  refine lv_aload_n C0.1 C0.2.1 dX10_parse_0 rfl (lv_at hl 0 rfl) ?_
  refine lv_iconst (v := iI (0)) C0.1 C0.2.1 dX10_parse_1 rfl ?_
  refine k_put (ws' := [(hM, .inr (10, [.ref aD, .ref aM, .int (iI (st)), .int (iI (r3)), .int (iI (r4)), .int (iI (r5)), .int (iI (r6)), .int (iI (r7)), .int (iI (r8)), .int (iI (r9)), .int (iI (r10)), .ref aX, .int (iI (tl)), .ref aP, .int (iI (pn)), .ref aQ, .int (iI (0)), .ref aK, .ref aO, .ref aA, .int (iI (kl)), .int (iI (ol)), .int (iI (al)), .ref a1, .ref a2, .ref a3])), (aP, .inl (cA 0, 200, .inl (fun y_ => iI (px y_)))), (aQ, .inl (cA 0, 4, .inl (fun y_ => iI (nm y_))))]) C0 S (C := RX10) (T := TX10) (N := 26) (ci := 10) (by decide +kernel) tyX10 tyX10_ok nmX10 0 rfl rfl 16 (by decide) (by decide +kernel) rfl (v := .int (iI (0))) rfl rfl (Nat.le_of_ble_eq_true rfl) dX10_parse_2 rfl (fun H locs S => ?_)
  refine lv_iconst (v := iI (0)) C0.1 C0.2.1 dX10_parse_5 rfl ?_
  refine lv_istore_n (lv' := [(1, .int (iI (0))), (0, .ref hM)]) C0.1 C0.2.1 dX10_parse_6 rfl hl (by decide) rfl (fun ls hl => ?_)
  refine lv_iconst (v := iI (0)) C0.1 C0.2.1 dX10_parse_7 rfl ?_
  refine lv_istore_n (lv' := [(2, .int (iI (0))), (1, .int (iI (0))), (0, .ref hM)]) C0.1 C0.2.1 dX10_parse_8 rfl hl (by decide) rfl (fun ls hl => ?_)
  refine lv_iconst (v := iI (0)) C0.1 C0.2.1 dX10_parse_9 rfl ?_
  refine lv_istore_n (lv' := [(3, .int (iI (0))), (2, .int (iI (0))), (1, .int (iI (0))), (0, .ref hM)]) C0.1 C0.2.1 dX10_parse_10 rfl hl (by decide) rfl (fun ls hl => ?_)
  have L11 : ∀ (n_ : Nat) (i : Nat) (nc2 : Nat) (l2 : Nat) (w : Int) (ks : Nat → Int) (nm2 : Nat → Int), (i ≤ pn.toNat + 1) → (nc2 ≤ 4) → (l2 ≤ 4) → ((i ≤ pn.toNat ∧ psr px pn.toNat = psF px (pn.toNat - i) i nc2 l2 w ks) ∨ (i = pn.toNat + 1 ∧ psr px pn.toNat = some (nc2, ks))) → (∀ k, k < nc2 → nm2 k = ks k) → (0 ≤ w ∧ w < pwr l2) → (∀ k, k < nc2 → 0 ≤ ks k ∧ ks k < 4294967296) → (pn.toNat + 1 - i < n_) → ∀ (H : Heap) (locs : List Loc), kS D vwCl (kTys cA) A s [(hM, .inr (10, [.ref aD, .ref aM, .int (iI (st)), .int (iI (r3)), .int (iI (r4)), .int (iI (r5)), .int (iI (r6)), .int (iI (r7)), .int (iI (r8)), .int (iI (r9)), .int (iI (r10)), .ref aX, .int (iI (tl)), .ref aP, .int (iI (pn)), .ref aQ, .int (iI ((nc2 : Int))), .ref aK, .ref aO, .ref aA, .int (iI (kl)), .int (iI (ol)), .int (iI (al)), .ref a1, .ref a2, .ref a3])), (aP, .inl (cA 0, 200, .inl (fun y_ => iI (px y_)))), (aQ, .inl (cA 0, 4, .inl (fun y_ => iI (nm2 y_))))] H locs → ∀ ls : Array Slot, lv_has ls 6 [(3, .int (iI ((i : Int)))), (2, .int (iI (w))), (1, .int (iI ((l2 : Int)))), (0, .ref hM)] → W p l e rmX10_parse s m args below meth c H locs 0 0 Q (F0 m 11 ls []) := by
    intro n_
    induction n_ with
    | zero => intro i nc2 l2 w ks nm2 hi11_0 hi11_1 hi11_2 hi11_3 hi11_4 hi11_5 hi11_6 hm; exact absurd hm (Nat.not_lt_zero _)
    | succ n_ ih11 =>
      intro i nc2 l2 w ks nm2 hi11_0 hi11_1 hi11_2 hi11_3 hi11_4 hi11_5 hi11_6 hm H locs S ls hl
      refine lv_iload_n C0.1 C0.2.1 dX10_parse_11 rfl (lv_at hl 0 rfl) ?_
      refine lv_aload_n C0.1 C0.2.1 dX10_parse_12 rfl (lv_at hl 3 rfl) ?_
      refine k_get C0 S (C := RX10) (T := TX10) (N := 26) (ci := 10) (by decide +kernel) 0 rfl rfl 14 (by decide) (by decide +kernel) (v := .int (iI (pn))) rfl dX10_parse_13 ?_
      refine k_icmp_gt (tgt := 161) C0 (by constructor <;> omega) (by constructor <;> omega) dX10_parse_16 (by decide) (fun c16 => ?_) (fun c16 => ?_)
      · refine lv_iconst (v := iI (1)) C0.1 C0.2.1 dX10_parse_161 rfl ?_
        subst hQ
        refine k_zret C0 S hAe hsz hr hlk (by rfl) dX10_parse_162 ?_
        have hq : psr px pn.toNat = some (nc2, ks) := by rcases hi11_3 with ⟨e, _⟩ | ⟨_, e⟩; omega; exact e
        exact ⟨_, _, congrArg iI (bz_t (by rw [hq]; exact fun h => by cases h)).symm, rfl, fun m ks2 h => by rw [hq] at h; cases h; exact ⟨rfl, hi11_4, hi11_6⟩⟩
      · refine lv_iload_n C0.1 C0.2.1 dX10_parse_19 rfl (lv_at hl 0 rfl) ?_
        refine lv_aload_n C0.1 C0.2.1 dX10_parse_20 rfl (lv_at hl 3 rfl) ?_
        refine k_get C0 S (C := RX10) (T := TX10) (N := 26) (ci := 10) (by decide +kernel) 0 rfl rfl 14 (by decide) (by decide +kernel) (v := .int (iI (pn))) rfl dX10_parse_21 ?_
        refine k_icmp_eq (tgt := 38) C0 (by constructor <;> omega) (by constructor <;> omega) dX10_parse_24 (by decide) (fun c24 => ?_) (fun c24 => ?_)
        · refine lv_iconst (v := iI (1)) C0.1 C0.2.1 dX10_parse_38 rfl ?_
          refine lv_goto (tgt := 43) C0.1 C0.2.1 dX10_parse_39 (by decide) ?_
          refine lv_istore (lv' := [(4, .int (iI (1))), (3, .int (iI ((i : Int)))), (2, .int (iI (w))), (1, .int (iI ((l2 : Int)))), (0, .ref hM)]) C0.1 C0.2.1 dX10_parse_43 hl (by decide) rfl (fun ls hl => ?_)
          refine lv_iload C0.1 C0.2.1 dX10_parse_45 (lv_at hl 0 rfl) ?_
          refine k_if_eq (tgt := 118) C0 ⟨by decide, by decide⟩ dX10_parse_47 (by decide) (fun hc => absurd hc (by decide)) (fun _ => ?_)
          refine lv_iload_n C0.1 C0.2.1 dX10_parse_50 rfl (lv_at hl 3 rfl) ?_
          refine lv_iconst (v := iI (1)) C0.1 C0.2.1 dX10_parse_51 rfl ?_
          refine k_icmp_lt (tgt := 63) C0 (by constructor <;> omega) ⟨by decide, by decide⟩ dX10_parse_52 (by decide) (fun c52 => ?_) (fun c52 => ?_)
          · refine lv_iconst (v := iI (0)) C0.1 C0.2.1 dX10_parse_63 rfl ?_
            subst hQ
            refine k_zret C0 S hAe hsz hr hlk (by rfl) dX10_parse_64 ?_
            have hq : psr px pn.toNat = none := by rcases hi11_3 with ⟨_, e⟩ | ⟨e, _⟩; (rw [e]; rw [show pn.toNat - i = 0 by omega]; exact psF_end_no (by omega)); omega
            exact ⟨_, _, congrArg iI (bz_f (fun h => h hq)).symm, rfl, fun m ks h => by rw [hq] at h; cases h⟩
          · refine lv_aload_n C0.1 C0.2.1 dX10_parse_55 rfl (lv_at hl 4 rfl) ?_
            refine k_get C0 S (C := RX10) (T := TX10) (N := 26) (ci := 10) (by decide +kernel) 0 rfl rfl 16 (by decide) (by decide +kernel) (v := .int (iI ((nc2 : Int)))) rfl dX10_parse_56 ?_
            refine lv_iconst (v := iI (4)) C0.1 C0.2.1 dX10_parse_59 rfl ?_
            refine k_icmp_ne (tgt := 65) C0 (by constructor <;> omega) ⟨by decide, by decide⟩ dX10_parse_60 (by decide) (fun c60 => ?_) (fun c60 => ?_)
            · refine lv_iload_n C0.1 C0.2.1 dX10_parse_65 rfl (lv_at hl 3 rfl) ?_
              refine lv_istore (lv' := [(5, .int (iI ((l2 : Int)))), (4, .int (iI (1))), (3, .int (iI ((i : Int)))), (2, .int (iI (w))), (1, .int (iI ((l2 : Int)))), (0, .ref hM)]) C0.1 C0.2.1 dX10_parse_66 hl (by decide) rfl (fun ls hl => ?_)
              have L68 : ∀ (n_ : Nat) (k : Nat) (w3 : Int), (l2 ≤ k ∧ k ≤ 4) → (padk w3 k = padk w l2) → (4 - k < n_) → ∀ (H : Heap) (locs : List Loc), kS D vwCl (kTys cA) A s [(hM, .inr (10, [.ref aD, .ref aM, .int (iI (st)), .int (iI (r3)), .int (iI (r4)), .int (iI (r5)), .int (iI (r6)), .int (iI (r7)), .int (iI (r8)), .int (iI (r9)), .int (iI (r10)), .ref aX, .int (iI (tl)), .ref aP, .int (iI (pn)), .ref aQ, .int (iI ((nc2 : Int))), .ref aK, .ref aO, .ref aA, .int (iI (kl)), .int (iI (ol)), .int (iI (al)), .ref a1, .ref a2, .ref a3])), (aP, .inl (cA 0, 200, .inl (fun y_ => iI (px y_)))), (aQ, .inl (cA 0, 4, .inl (fun y_ => iI (nm2 y_))))] H locs → ∀ ls : Array Slot, lv_has ls 6 [(5, .int (iI ((k : Int)))), (4, .int (iI (1))), (3, .int (iI ((i : Int)))), (2, .int (iI (w3))), (1, .int (iI ((l2 : Int)))), (0, .ref hM)] → W p l e rmX10_parse s m args below meth c H locs 0 0 Q (F0 m 68 ls []) := by
                intro n_
                induction n_ with
                | zero => intro k w3 hi68_0 hi68_1 hm; exact absurd hm (Nat.not_lt_zero _)
                | succ n_ ih68 =>
                  intro k w3 hi68_0 hi68_1 hm H locs S ls hl
                  refine lv_iload C0.1 C0.2.1 dX10_parse_68 (lv_at hl 0 rfl) ?_
                  refine lv_iconst (v := iI (4)) C0.1 C0.2.1 dX10_parse_70 rfl ?_
                  refine k_icmp_ge (tgt := 91) C0 (by constructor <;> omega) ⟨by decide, by decide⟩ dX10_parse_71 (by decide) (fun c71 => ?_) (fun c71 => ?_)
                  · refine lv_aload_n C0.1 C0.2.1 dX10_parse_91 rfl (lv_at hl 5 rfl) ?_
                    refine k_get C0 S (C := RX10) (T := TX10) (N := 26) (ci := 10) (by decide +kernel) 0 rfl rfl 15 (by decide) (by decide +kernel) (v := .ref aQ) rfl dX10_parse_92 ?_
                    refine lv_aload_n C0.1 C0.2.1 dX10_parse_95 rfl (lv_at hl 5 rfl) ?_
                    refine k_get C0 S (C := RX10) (T := TX10) (N := 26) (ci := 10) (by decide +kernel) 0 rfl rfl 16 (by decide) (by decide +kernel) (v := .int (iI ((nc2 : Int)))) rfl dX10_parse_96 ?_
                    refine lv_iload_n C0.1 C0.2.1 dX10_parse_99 rfl (lv_at hl 3 rfl) ?_
                    refine k_iast (ws' := [(hM, .inr (10, [.ref aD, .ref aM, .int (iI (st)), .int (iI (r3)), .int (iI (r4)), .int (iI (r5)), .int (iI (r6)), .int (iI (r7)), .int (iI (r8)), .int (iI (r9)), .int (iI (r10)), .ref aX, .int (iI (tl)), .ref aP, .int (iI (pn)), .ref aQ, .int (iI ((nc2 : Int))), .ref aK, .ref aO, .ref aA, .int (iI (kl)), .int (iI (ol)), .int (iI (al)), .ref a1, .ref a2, .ref a3])), (aP, .inl (cA 0, 200, .inl (fun y_ => iI (px y_)))), (aQ, .inl (cA 0, 4, .inl (fun y_ => iI ((va_up nm2 ((nc2 : Int)).toNat (w3)) y_))))]) C0 S 2 0 rfl rfl (z := (nc2 : Int)) (by omega) (by omega) (by omega) dX10_parse_100 rfl (fun H locs S => ?_)
                    refine lv_aload_n C0.1 C0.2.1 dX10_parse_101 rfl (lv_at hl 5 rfl) ?_
                    refine lv_dup C0.1 C0.2.1 dX10_parse_102 rfl ?_
                    refine k_get C0 S (C := RX10) (T := TX10) (N := 26) (ci := 10) (by decide +kernel) 0 rfl rfl 16 (by decide) (by decide +kernel) (v := .int (iI ((nc2 : Int)))) rfl dX10_parse_103 ?_
                    refine lv_iconst (v := iI (1)) C0.1 C0.2.1 dX10_parse_106 rfl ?_
                    refine k_iadd C0 dX10_parse_107 ?_
                    refine k_put (ws' := [(hM, .inr (10, [.ref aD, .ref aM, .int (iI (st)), .int (iI (r3)), .int (iI (r4)), .int (iI (r5)), .int (iI (r6)), .int (iI (r7)), .int (iI (r8)), .int (iI (r9)), .int (iI (r10)), .ref aX, .int (iI (tl)), .ref aP, .int (iI (pn)), .ref aQ, .int (iI (((nc2 : Int)) + 1)), .ref aK, .ref aO, .ref aA, .int (iI (kl)), .int (iI (ol)), .int (iI (al)), .ref a1, .ref a2, .ref a3])), (aP, .inl (cA 0, 200, .inl (fun y_ => iI (px y_)))), (aQ, .inl (cA 0, 4, .inl (fun y_ => iI ((va_up nm2 ((nc2 : Int)).toNat (w3)) y_))))]) C0 S (C := RX10) (T := TX10) (N := 26) (ci := 10) (by decide +kernel) tyX10 tyX10_ok nmX10 0 rfl rfl 16 (by decide) (by decide +kernel) rfl (v := .int (iI (((nc2 : Int)) + 1))) rfl rfl (Nat.le_of_ble_eq_true rfl) dX10_parse_108 rfl (fun H locs S => ?_)
                    refine lv_iconst (v := iI (0)) C0.1 C0.2.1 dX10_parse_111 rfl ?_
                    refine lv_istore_n (lv' := [(1, .int (iI (0))), (5, .int (iI ((k : Int)))), (4, .int (iI (1))), (3, .int (iI ((i : Int)))), (2, .int (iI (w3))), (0, .ref hM)]) C0.1 C0.2.1 dX10_parse_112 rfl hl (by decide) rfl (fun ls hl => ?_)
                    refine lv_iconst (v := iI (0)) C0.1 C0.2.1 dX10_parse_113 rfl ?_
                    refine lv_istore_n (lv' := [(2, .int (iI (0))), (1, .int (iI (0))), (5, .int (iI ((k : Int)))), (4, .int (iI (1))), (3, .int (iI ((i : Int)))), (0, .ref hM)]) C0.1 C0.2.1 dX10_parse_114 rfl hl (by decide) rfl (fun ls hl => ?_)
                    refine lv_goto (tgt := 155) C0.1 C0.2.1 dX10_parse_115 (by decide) ?_
                    refine lv_iinc (v := iI ((i : Int) + 1)) (lv' := [(3, .int (iI ((i : Int) + 1))), (2, .int (iI (0))), (1, .int (iI (0))), (5, .int (iI ((k : Int)))), (4, .int (iI (1))), (0, .ref hM)]) C0.1 C0.2.1 dX10_parse_155 hl (k := 4) rfl (iI_add _ _) (by decide) rfl (fun ls hl => ?_)
                    refine lv_goto (tgt := 11) C0.1 C0.2.1 dX10_parse_158 (by decide) ?_
                    have ew : w3 = padk w l2 := by rw [← hi68_1, show k = 4 by omega]; rfl
                    have hpr := padk_range (show 1 ≤ l2 by omega) (show l2 ≤ 4 by omega) hi11_5.1 hi11_5.2
                    have hq3 : (i + 1 ≤ pn.toNat ∧ psr px pn.toNat = psF px (pn.toNat - (i + 1)) (i + 1) (nc2 + 1) 0 0 (va_up ks nc2 w3)) ∨ (i + 1 = pn.toNat + 1 ∧ psr px pn.toNat = some (nc2 + 1, va_up ks nc2 w3)) := by
                      rcases hi11_3 with ⟨_, e⟩ | ⟨e, _⟩
                      · exact Or.inr ⟨by omega, by rw [e, ew, show pn.toNat - i = 0 by omega]; exact psF_end (by omega)⟩
                      · omega
                    have hq4 : ∀ k, k < nc2 + 1 → va_up nm2 (nc2 : Int).toNat w3 k = va_up ks nc2 w3 k := by
                      intro k hk
                      rw [show (nc2 : Int).toNat = nc2 by omega]
                      unfold va_up
                      split
                      · rfl
                      · exact hi11_4 k (by omega)
                    have hq5 : (0 : Int) ≤ 0 ∧ (0 : Int) < pwr 0 := ⟨by decide, by decide⟩
                    have hq6 : ∀ k, k < nc2 + 1 → 0 ≤ va_up ks nc2 w3 k ∧ va_up ks nc2 w3 k < 4294967296 := by
                      intro k hk
                      unfold va_up
                      split
                      · rw [ew]; exact hpr
                      · exact hi11_6 k (by omega)
                    have hq7 : 0 ≤ 4 := by omega
                    have hq8 : nc2 + 1 ≤ 4 := by omega
                    exact ih11 (i + 1) (nc2 + 1) (0) (0) (va_up ks nc2 w3) (va_up nm2 (nc2 : Int).toNat w3) (by omega) hq8 hq7 hq3 hq4 hq5 hq6 (by omega) _ _ S _ (lv_sub hl [0, 1, 2, 5] rfl)
                  · refine lv_iload_n C0.1 C0.2.1 dX10_parse_74 rfl (lv_at hl 3 rfl) ?_
                    refine lv_bipush (v := iI (32)) C0.1 C0.2.1 dX10_parse_75 (by decide) ?_
                    refine lv_bipush (v := iI (8)) C0.1 C0.2.1 dX10_parse_77 (by decide) ?_
                    refine lv_iload C0.1 C0.2.1 dX10_parse_79 (lv_at hl 0 rfl) ?_
                    refine k_imul C0 dX10_parse_81 ?_
                    refine lv_ishl C0.1 C0.2.1 dX10_parse_82 ?_
                    refine k_topeq (v := iI (32 * pw k)) (shl_pw (by decide) (by decide) k (by omega)) ?_
                    refine k_iadd C0 dX10_parse_83 ?_
                    refine lv_istore_n (lv' := [(2, .int (iI (w3 + (32 * pw k)))), (5, .int (iI ((k : Int)))), (4, .int (iI (1))), (3, .int (iI ((i : Int)))), (1, .int (iI ((l2 : Int)))), (0, .ref hM)]) C0.1 C0.2.1 dX10_parse_84 rfl hl (by decide) rfl (fun ls hl => ?_)
                    refine lv_iinc (v := iI ((k : Int) + 1)) (lv' := [(5, .int (iI ((k : Int) + 1))), (2, .int (iI (w3 + (32 * pw k)))), (4, .int (iI (1))), (3, .int (iI ((i : Int)))), (1, .int (iI ((l2 : Int)))), (0, .ref hM)]) C0.1 C0.2.1 dX10_parse_85 hl (k := 1) rfl (iI_add _ _) (by decide) rfl (fun ls hl => ?_)
                    refine lv_goto (tgt := 68) C0.1 C0.2.1 dX10_parse_88 (by decide) ?_
                    exact ih68 (k + 1) (w3 + 32 * pw k) ⟨by omega, by omega⟩ (by rw [padk_up (by omega), ← hi68_1]; omega) (by omega) _ _ S _ (lv_sub hl [0, 2, 3, 1, 4, 5] rfl)
              exact L68 (5) (l2) (w) ⟨by omega, by omega⟩ rfl (by omega) _ _ S _ (lv_sub hl [0, 1, 2, 3, 4, 5] rfl)
            · refine lv_iconst (v := iI (0)) C0.1 C0.2.1 dX10_parse_63 rfl ?_
              subst hQ
              refine k_zret C0 S hAe hsz hr hlk (by rfl) dX10_parse_64 ?_
              have hq : psr px pn.toNat = none := by rcases hi11_3 with ⟨_, e⟩ | ⟨e, _⟩; (rw [e]; rw [show pn.toNat - i = 0 by omega]; exact psF_end_no (by omega)); omega
              exact ⟨_, _, congrArg iI (bz_f (fun h => h hq)).symm, rfl, fun m ks h => by rw [hq] at h; cases h⟩
        · refine lv_aload_n C0.1 C0.2.1 dX10_parse_27 rfl (lv_at hl 3 rfl) ?_
          refine k_get C0 S (C := RX10) (T := TX10) (N := 26) (ci := 10) (by decide +kernel) 0 rfl rfl 13 (by decide) (by decide +kernel) (v := .ref aP) rfl dX10_parse_28 ?_
          refine lv_iload_n C0.1 C0.2.1 dX10_parse_31 rfl (lv_at hl 0 rfl) ?_
          refine k_iald C0 S 1 0 rfl rfl (z := (i : Int)) (by omega) (by omega) (by omega) dX10_parse_32 ?_
          refine k_topeq (v := iI (px i)) (by rw [show (i : Int).toNat = i by omega]) ?_
          have hpi := hpx i
          refine lv_bipush (v := iI (47)) C0.1 C0.2.1 dX10_parse_33 (by decide) ?_
          refine k_icmp_ne (tgt := 42) C0 (by constructor <;> omega) ⟨by decide, by decide⟩ dX10_parse_35 (by decide) (fun c35 => ?_) (fun c35 => ?_)
          · refine lv_iconst (v := iI (0)) C0.1 C0.2.1 dX10_parse_42 rfl ?_
            refine lv_istore (lv' := [(4, .int (iI (0))), (3, .int (iI ((i : Int)))), (2, .int (iI (w))), (1, .int (iI ((l2 : Int)))), (0, .ref hM)]) C0.1 C0.2.1 dX10_parse_43 hl (by decide) rfl (fun ls hl => ?_)
            refine lv_iload C0.1 C0.2.1 dX10_parse_45 (lv_at hl 0 rfl) ?_
            refine k_if_eq (tgt := 118) C0 ⟨by decide, by decide⟩ dX10_parse_47 (by decide) (fun _ => ?_) (fun hc => absurd hc (by decide))
            refine lv_aload_n C0.1 C0.2.1 dX10_parse_118 rfl (lv_at hl 4 rfl) ?_
            refine lv_aload_n C0.1 C0.2.1 dX10_parse_119 rfl (lv_at hl 4 rfl) ?_
            refine k_get C0 S (C := RX10) (T := TX10) (N := 26) (ci := 10) (by decide +kernel) 0 rfl rfl 13 (by decide) (by decide +kernel) (v := .ref aP) rfl dX10_parse_120 ?_
            refine lv_iload_n C0.1 C0.2.1 dX10_parse_123 rfl (lv_at hl 1 rfl) ?_
            refine k_iald C0 S 1 0 rfl rfl (z := (i : Int)) (by omega) (by omega) (by omega) dX10_parse_124 ?_
            refine k_topeq (v := iI (px i)) (by rw [show (i : Int).toNat = i by omega]) ?_
            have hpi := hpx i
            refine k_calli (n := 1) (wr := [(aP, .inl (cA 0, 200, .inl (fun y_ => iI (px y_)))), (aQ, .inl (cA 0, 4, .inl (fun y_ => iI (nm2 y_))))]) C0 S (c_X10_isLetter l D cA hM aD aM aX aP aQ aK aO aA a1 a2 a3 (st) (r3) (r4) (r5) (r6) (r7) (r8) (r9) (r10) (tl) (pn) ((nc2 : Int)) (kl) (ol) (al) d (px i) (by constructor <;> omega)) gX10_parse_X10_isLetter rfl ⟨rfl, rfl⟩ (by decide +kernel) ⟨Nat.le_of_ble_eq_true rfl, Nat.le_of_ble_eq_true rfl⟩ [0] [1, 2] rfl rfl rfl rfl (by decide) (ci := 10) (q0 := 0) rfl rfl (As := [.int (iI (px i))]) rfl hl.1 rfl (Nat.le_of_ble_eq_true rfl) dX10_parse_125 ⟨Nat.zero_le _, Nat.zero_le _⟩ (fun r u H locs hp S => ?_)
            obtain ⟨rfl, rfl⟩ := hp
            have S := S.sub (ws' := [(hM, .inr (10, [.ref aD, .ref aM, .int (iI (st)), .int (iI (r3)), .int (iI (r4)), .int (iI (r5)), .int (iI (r6)), .int (iI (r7)), .int (iI (r8)), .int (iI (r9)), .int (iI (r10)), .ref aX, .int (iI (tl)), .ref aP, .int (iI (pn)), .ref aQ, .int (iI ((nc2 : Int))), .ref aK, .ref aO, .ref aA, .int (iI (kl)), .int (iI (ol)), .int (iI (al)), .ref a1, .ref a2, .ref a3])), (aP, .inl (cA 0, 200, .inl (fun y_ => iI (px y_)))), (aQ, .inl (cA 0, 4, .inl (fun y_ => iI (nm2 y_))))]) [2, 0, 1] rfl rfl
            refine k_bz_eq (tgt := 136) C0 dX10_parse_128 (by decide) (fun c128 => ?_) (fun c128 => ?_)
            · refine lv_iconst (v := iI (0)) C0.1 C0.2.1 dX10_parse_136 rfl ?_
              subst hQ
              refine k_zret C0 S hAe hsz hr hlk (by rfl) dX10_parse_137 ?_
              have hq : psr px pn.toNat = none := by rcases hi11_3 with ⟨_, e⟩ | ⟨e, _⟩; (rw [e]; rw [show pn.toNat - i = (pn.toNat - (i + 1)) + 1 by omega]; exact psF_let_no c35 (Or.inl c128)); omega
              exact ⟨_, _, congrArg iI (bz_f (fun h => h hq)).symm, rfl, fun m ks h => by rw [hq] at h; cases h⟩
            · refine lv_iload_n C0.1 C0.2.1 dX10_parse_131 rfl (lv_at hl 3 rfl) ?_
              refine lv_iconst (v := iI (4)) C0.1 C0.2.1 dX10_parse_132 rfl ?_
              refine k_icmp_ne (tgt := 138) C0 (by constructor <;> omega) ⟨by decide, by decide⟩ dX10_parse_133 (by decide) (fun c133 => ?_) (fun c133 => ?_)
              · refine lv_iload_n C0.1 C0.2.1 dX10_parse_138 rfl (lv_at hl 2 rfl) ?_
                refine lv_aload_n C0.1 C0.2.1 dX10_parse_139 rfl (lv_at hl 4 rfl) ?_
                refine k_get C0 S (C := RX10) (T := TX10) (N := 26) (ci := 10) (by decide +kernel) 0 rfl rfl 13 (by decide) (by decide +kernel) (v := .ref aP) rfl dX10_parse_140 ?_
                refine lv_iload_n C0.1 C0.2.1 dX10_parse_143 rfl (lv_at hl 1 rfl) ?_
                refine k_iald C0 S 1 0 rfl rfl (z := (i : Int)) (by omega) (by omega) (by omega) dX10_parse_144 ?_
                refine k_topeq (v := iI (px i)) (by rw [show (i : Int).toNat = i by omega]) ?_
                refine lv_bipush (v := iI (8)) C0.1 C0.2.1 dX10_parse_145 (by decide) ?_
                refine lv_iload_n C0.1 C0.2.1 dX10_parse_147 rfl (lv_at hl 3 rfl) ?_
                refine k_imul C0 dX10_parse_148 ?_
                refine lv_ishl C0.1 C0.2.1 dX10_parse_149 ?_
                refine k_topeq (v := iI (px i * pw l2)) (shl_pw (hpx i).1 (by have := (hpx i).2; omega) l2 (by omega)) ?_
                refine k_iadd C0 dX10_parse_150 ?_
                refine lv_istore_n (lv' := [(2, .int (iI (w + (px i * pw l2)))), (4, .int (iI (0))), (3, .int (iI ((i : Int)))), (1, .int (iI ((l2 : Int)))), (0, .ref hM)]) C0.1 C0.2.1 dX10_parse_151 rfl hl (by decide) rfl (fun ls hl => ?_)
                refine lv_iinc (v := iI ((l2 : Int) + 1)) (lv' := [(1, .int (iI ((l2 : Int) + 1))), (2, .int (iI (w + (px i * pw l2)))), (4, .int (iI (0))), (3, .int (iI ((i : Int)))), (0, .ref hM)]) C0.1 C0.2.1 dX10_parse_152 hl (k := 3) rfl (iI_add _ _) (by decide) rfl (fun ls hl => ?_)
                refine lv_iinc (v := iI ((i : Int) + 1)) (lv' := [(3, .int (iI ((i : Int) + 1))), (1, .int (iI ((l2 : Int) + 1))), (2, .int (iI (w + (px i * pw l2)))), (4, .int (iI (0))), (0, .ref hM)]) C0.1 C0.2.1 dX10_parse_155 hl (k := 3) rfl (iI_add _ _) (by decide) rfl (fun ls hl => ?_)
                refine lv_goto (tgt := 11) C0.1 C0.2.1 dX10_parse_158 (by decide) ?_
                have hq3 : (i + 1 ≤ pn.toNat ∧ psr px pn.toNat = psF px (pn.toNat - (i + 1)) (i + 1) nc2 (l2 + 1) (w + px i * pw l2) ks) ∨ (i + 1 = pn.toNat + 1 ∧ psr px pn.toNat = some (nc2, ks)) := by
                  rcases hi11_3 with ⟨_, e⟩ | ⟨e, _⟩
                  · exact Or.inl ⟨by omega, by rw [e]; rw [show pn.toNat - i = (pn.toNat - (i + 1)) + 1 by omega]; exact psF_let c35 c128 (by omega)⟩
                  · omega
                have hq4 := hi11_4
                have hq5 := pwr_up (c := px i) (show l2 < 4 by omega) hi11_5.1 hi11_5.2 (hpx i).1 (hpx i).2
                have hq6 := hi11_6
                have hq7 : l2 + 1 ≤ 4 := by omega
                have hq8 : nc2 ≤ 4 := by omega
                exact ih11 (i + 1) (nc2) (l2 + 1) (w + px i * pw l2) (ks) (nm2) (by omega) hq8 hq7 hq3 hq4 hq5 hq6 (by omega) _ _ S _ (lv_sub hl [0, 2, 1, 4] rfl)
              · refine lv_iconst (v := iI (0)) C0.1 C0.2.1 dX10_parse_136 rfl ?_
                subst hQ
                refine k_zret C0 S hAe hsz hr hlk (by rfl) dX10_parse_137 ?_
                have hq : psr px pn.toNat = none := by rcases hi11_3 with ⟨_, e⟩ | ⟨e, _⟩; (rw [e]; rw [show pn.toNat - i = (pn.toNat - (i + 1)) + 1 by omega]; exact psF_let_no c35 (Or.inr (by omega))); omega
                exact ⟨_, _, congrArg iI (bz_f (fun h => h hq)).symm, rfl, fun m ks h => by rw [hq] at h; cases h⟩
          · refine lv_iconst (v := iI (1)) C0.1 C0.2.1 dX10_parse_38 rfl ?_
            refine lv_goto (tgt := 43) C0.1 C0.2.1 dX10_parse_39 (by decide) ?_
            refine lv_istore (lv' := [(4, .int (iI (1))), (3, .int (iI ((i : Int)))), (2, .int (iI (w))), (1, .int (iI ((l2 : Int)))), (0, .ref hM)]) C0.1 C0.2.1 dX10_parse_43 hl (by decide) rfl (fun ls hl => ?_)
            refine lv_iload C0.1 C0.2.1 dX10_parse_45 (lv_at hl 0 rfl) ?_
            refine k_if_eq (tgt := 118) C0 ⟨by decide, by decide⟩ dX10_parse_47 (by decide) (fun hc => absurd hc (by decide)) (fun _ => ?_)
            refine lv_iload_n C0.1 C0.2.1 dX10_parse_50 rfl (lv_at hl 3 rfl) ?_
            refine lv_iconst (v := iI (1)) C0.1 C0.2.1 dX10_parse_51 rfl ?_
            refine k_icmp_lt (tgt := 63) C0 (by constructor <;> omega) ⟨by decide, by decide⟩ dX10_parse_52 (by decide) (fun c52 => ?_) (fun c52 => ?_)
            · refine lv_iconst (v := iI (0)) C0.1 C0.2.1 dX10_parse_63 rfl ?_
              subst hQ
              refine k_zret C0 S hAe hsz hr hlk (by rfl) dX10_parse_64 ?_
              have hq : psr px pn.toNat = none := by rcases hi11_3 with ⟨_, e⟩ | ⟨e, _⟩; (rw [e]; rw [show pn.toNat - i = (pn.toNat - (i + 1)) + 1 by omega]; exact psF_sl_no c35 (by omega)); omega
              exact ⟨_, _, congrArg iI (bz_f (fun h => h hq)).symm, rfl, fun m ks h => by rw [hq] at h; cases h⟩
            · refine lv_aload_n C0.1 C0.2.1 dX10_parse_55 rfl (lv_at hl 4 rfl) ?_
              refine k_get C0 S (C := RX10) (T := TX10) (N := 26) (ci := 10) (by decide +kernel) 0 rfl rfl 16 (by decide) (by decide +kernel) (v := .int (iI ((nc2 : Int)))) rfl dX10_parse_56 ?_
              refine lv_iconst (v := iI (4)) C0.1 C0.2.1 dX10_parse_59 rfl ?_
              refine k_icmp_ne (tgt := 65) C0 (by constructor <;> omega) ⟨by decide, by decide⟩ dX10_parse_60 (by decide) (fun c60 => ?_) (fun c60 => ?_)
              · refine lv_iload_n C0.1 C0.2.1 dX10_parse_65 rfl (lv_at hl 3 rfl) ?_
                refine lv_istore (lv' := [(5, .int (iI ((l2 : Int)))), (4, .int (iI (1))), (3, .int (iI ((i : Int)))), (2, .int (iI (w))), (1, .int (iI ((l2 : Int)))), (0, .ref hM)]) C0.1 C0.2.1 dX10_parse_66 hl (by decide) rfl (fun ls hl => ?_)
                have L68 : ∀ (n_ : Nat) (k : Nat) (w3 : Int), (l2 ≤ k ∧ k ≤ 4) → (padk w3 k = padk w l2) → (4 - k < n_) → ∀ (H : Heap) (locs : List Loc), kS D vwCl (kTys cA) A s [(hM, .inr (10, [.ref aD, .ref aM, .int (iI (st)), .int (iI (r3)), .int (iI (r4)), .int (iI (r5)), .int (iI (r6)), .int (iI (r7)), .int (iI (r8)), .int (iI (r9)), .int (iI (r10)), .ref aX, .int (iI (tl)), .ref aP, .int (iI (pn)), .ref aQ, .int (iI ((nc2 : Int))), .ref aK, .ref aO, .ref aA, .int (iI (kl)), .int (iI (ol)), .int (iI (al)), .ref a1, .ref a2, .ref a3])), (aP, .inl (cA 0, 200, .inl (fun y_ => iI (px y_)))), (aQ, .inl (cA 0, 4, .inl (fun y_ => iI (nm2 y_))))] H locs → ∀ ls : Array Slot, lv_has ls 6 [(5, .int (iI ((k : Int)))), (4, .int (iI (1))), (3, .int (iI ((i : Int)))), (2, .int (iI (w3))), (1, .int (iI ((l2 : Int)))), (0, .ref hM)] → W p l e rmX10_parse s m args below meth c H locs 0 0 Q (F0 m 68 ls []) := by
                  intro n_
                  induction n_ with
                  | zero => intro k w3 hi68_0 hi68_1 hm; exact absurd hm (Nat.not_lt_zero _)
                  | succ n_ ih68 =>
                    intro k w3 hi68_0 hi68_1 hm H locs S ls hl
                    refine lv_iload C0.1 C0.2.1 dX10_parse_68 (lv_at hl 0 rfl) ?_
                    refine lv_iconst (v := iI (4)) C0.1 C0.2.1 dX10_parse_70 rfl ?_
                    refine k_icmp_ge (tgt := 91) C0 (by constructor <;> omega) ⟨by decide, by decide⟩ dX10_parse_71 (by decide) (fun c71 => ?_) (fun c71 => ?_)
                    · refine lv_aload_n C0.1 C0.2.1 dX10_parse_91 rfl (lv_at hl 5 rfl) ?_
                      refine k_get C0 S (C := RX10) (T := TX10) (N := 26) (ci := 10) (by decide +kernel) 0 rfl rfl 15 (by decide) (by decide +kernel) (v := .ref aQ) rfl dX10_parse_92 ?_
                      refine lv_aload_n C0.1 C0.2.1 dX10_parse_95 rfl (lv_at hl 5 rfl) ?_
                      refine k_get C0 S (C := RX10) (T := TX10) (N := 26) (ci := 10) (by decide +kernel) 0 rfl rfl 16 (by decide) (by decide +kernel) (v := .int (iI ((nc2 : Int)))) rfl dX10_parse_96 ?_
                      refine lv_iload_n C0.1 C0.2.1 dX10_parse_99 rfl (lv_at hl 3 rfl) ?_
                      refine k_iast (ws' := [(hM, .inr (10, [.ref aD, .ref aM, .int (iI (st)), .int (iI (r3)), .int (iI (r4)), .int (iI (r5)), .int (iI (r6)), .int (iI (r7)), .int (iI (r8)), .int (iI (r9)), .int (iI (r10)), .ref aX, .int (iI (tl)), .ref aP, .int (iI (pn)), .ref aQ, .int (iI ((nc2 : Int))), .ref aK, .ref aO, .ref aA, .int (iI (kl)), .int (iI (ol)), .int (iI (al)), .ref a1, .ref a2, .ref a3])), (aP, .inl (cA 0, 200, .inl (fun y_ => iI (px y_)))), (aQ, .inl (cA 0, 4, .inl (fun y_ => iI ((va_up nm2 ((nc2 : Int)).toNat (w3)) y_))))]) C0 S 2 0 rfl rfl (z := (nc2 : Int)) (by omega) (by omega) (by omega) dX10_parse_100 rfl (fun H locs S => ?_)
                      refine lv_aload_n C0.1 C0.2.1 dX10_parse_101 rfl (lv_at hl 5 rfl) ?_
                      refine lv_dup C0.1 C0.2.1 dX10_parse_102 rfl ?_
                      refine k_get C0 S (C := RX10) (T := TX10) (N := 26) (ci := 10) (by decide +kernel) 0 rfl rfl 16 (by decide) (by decide +kernel) (v := .int (iI ((nc2 : Int)))) rfl dX10_parse_103 ?_
                      refine lv_iconst (v := iI (1)) C0.1 C0.2.1 dX10_parse_106 rfl ?_
                      refine k_iadd C0 dX10_parse_107 ?_
                      refine k_put (ws' := [(hM, .inr (10, [.ref aD, .ref aM, .int (iI (st)), .int (iI (r3)), .int (iI (r4)), .int (iI (r5)), .int (iI (r6)), .int (iI (r7)), .int (iI (r8)), .int (iI (r9)), .int (iI (r10)), .ref aX, .int (iI (tl)), .ref aP, .int (iI (pn)), .ref aQ, .int (iI (((nc2 : Int)) + 1)), .ref aK, .ref aO, .ref aA, .int (iI (kl)), .int (iI (ol)), .int (iI (al)), .ref a1, .ref a2, .ref a3])), (aP, .inl (cA 0, 200, .inl (fun y_ => iI (px y_)))), (aQ, .inl (cA 0, 4, .inl (fun y_ => iI ((va_up nm2 ((nc2 : Int)).toNat (w3)) y_))))]) C0 S (C := RX10) (T := TX10) (N := 26) (ci := 10) (by decide +kernel) tyX10 tyX10_ok nmX10 0 rfl rfl 16 (by decide) (by decide +kernel) rfl (v := .int (iI (((nc2 : Int)) + 1))) rfl rfl (Nat.le_of_ble_eq_true rfl) dX10_parse_108 rfl (fun H locs S => ?_)
                      refine lv_iconst (v := iI (0)) C0.1 C0.2.1 dX10_parse_111 rfl ?_
                      refine lv_istore_n (lv' := [(1, .int (iI (0))), (5, .int (iI ((k : Int)))), (4, .int (iI (1))), (3, .int (iI ((i : Int)))), (2, .int (iI (w3))), (0, .ref hM)]) C0.1 C0.2.1 dX10_parse_112 rfl hl (by decide) rfl (fun ls hl => ?_)
                      refine lv_iconst (v := iI (0)) C0.1 C0.2.1 dX10_parse_113 rfl ?_
                      refine lv_istore_n (lv' := [(2, .int (iI (0))), (1, .int (iI (0))), (5, .int (iI ((k : Int)))), (4, .int (iI (1))), (3, .int (iI ((i : Int)))), (0, .ref hM)]) C0.1 C0.2.1 dX10_parse_114 rfl hl (by decide) rfl (fun ls hl => ?_)
                      refine lv_goto (tgt := 155) C0.1 C0.2.1 dX10_parse_115 (by decide) ?_
                      refine lv_iinc (v := iI ((i : Int) + 1)) (lv' := [(3, .int (iI ((i : Int) + 1))), (2, .int (iI (0))), (1, .int (iI (0))), (5, .int (iI ((k : Int)))), (4, .int (iI (1))), (0, .ref hM)]) C0.1 C0.2.1 dX10_parse_155 hl (k := 4) rfl (iI_add _ _) (by decide) rfl (fun ls hl => ?_)
                      refine lv_goto (tgt := 11) C0.1 C0.2.1 dX10_parse_158 (by decide) ?_
                      have ew : w3 = padk w l2 := by rw [← hi68_1, show k = 4 by omega]; rfl
                      have hpr := padk_range (show 1 ≤ l2 by omega) (show l2 ≤ 4 by omega) hi11_5.1 hi11_5.2
                      have hq3 : (i + 1 ≤ pn.toNat ∧ psr px pn.toNat = psF px (pn.toNat - (i + 1)) (i + 1) (nc2 + 1) 0 0 (va_up ks nc2 w3)) ∨ (i + 1 = pn.toNat + 1 ∧ psr px pn.toNat = some (nc2 + 1, va_up ks nc2 w3)) := by
                        rcases hi11_3 with ⟨_, e⟩ | ⟨e, _⟩
                        · exact Or.inl ⟨by omega, by rw [e, ew]; rw [show pn.toNat - i = (pn.toNat - (i + 1)) + 1 by omega]; exact psF_sl c35 (by omega)⟩
                        · omega
                      have hq4 : ∀ k, k < nc2 + 1 → va_up nm2 (nc2 : Int).toNat w3 k = va_up ks nc2 w3 k := by
                        intro k hk
                        rw [show (nc2 : Int).toNat = nc2 by omega]
                        unfold va_up
                        split
                        · rfl
                        · exact hi11_4 k (by omega)
                      have hq5 : (0 : Int) ≤ 0 ∧ (0 : Int) < pwr 0 := ⟨by decide, by decide⟩
                      have hq6 : ∀ k, k < nc2 + 1 → 0 ≤ va_up ks nc2 w3 k ∧ va_up ks nc2 w3 k < 4294967296 := by
                        intro k hk
                        unfold va_up
                        split
                        · rw [ew]; exact hpr
                        · exact hi11_6 k (by omega)
                      have hq7 : 0 ≤ 4 := by omega
                      have hq8 : nc2 + 1 ≤ 4 := by omega
                      exact ih11 (i + 1) (nc2 + 1) (0) (0) (va_up ks nc2 w3) (va_up nm2 (nc2 : Int).toNat w3) (by omega) hq8 hq7 hq3 hq4 hq5 hq6 (by omega) _ _ S _ (lv_sub hl [0, 1, 2, 5] rfl)
                    · refine lv_iload_n C0.1 C0.2.1 dX10_parse_74 rfl (lv_at hl 3 rfl) ?_
                      refine lv_bipush (v := iI (32)) C0.1 C0.2.1 dX10_parse_75 (by decide) ?_
                      refine lv_bipush (v := iI (8)) C0.1 C0.2.1 dX10_parse_77 (by decide) ?_
                      refine lv_iload C0.1 C0.2.1 dX10_parse_79 (lv_at hl 0 rfl) ?_
                      refine k_imul C0 dX10_parse_81 ?_
                      refine lv_ishl C0.1 C0.2.1 dX10_parse_82 ?_
                      refine k_topeq (v := iI (32 * pw k)) (shl_pw (by decide) (by decide) k (by omega)) ?_
                      refine k_iadd C0 dX10_parse_83 ?_
                      refine lv_istore_n (lv' := [(2, .int (iI (w3 + (32 * pw k)))), (5, .int (iI ((k : Int)))), (4, .int (iI (1))), (3, .int (iI ((i : Int)))), (1, .int (iI ((l2 : Int)))), (0, .ref hM)]) C0.1 C0.2.1 dX10_parse_84 rfl hl (by decide) rfl (fun ls hl => ?_)
                      refine lv_iinc (v := iI ((k : Int) + 1)) (lv' := [(5, .int (iI ((k : Int) + 1))), (2, .int (iI (w3 + (32 * pw k)))), (4, .int (iI (1))), (3, .int (iI ((i : Int)))), (1, .int (iI ((l2 : Int)))), (0, .ref hM)]) C0.1 C0.2.1 dX10_parse_85 hl (k := 1) rfl (iI_add _ _) (by decide) rfl (fun ls hl => ?_)
                      refine lv_goto (tgt := 68) C0.1 C0.2.1 dX10_parse_88 (by decide) ?_
                      exact ih68 (k + 1) (w3 + 32 * pw k) ⟨by omega, by omega⟩ (by rw [padk_up (by omega), ← hi68_1]; omega) (by omega) _ _ S _ (lv_sub hl [0, 2, 3, 1, 4, 5] rfl)
                exact L68 (5) (l2) (w) ⟨by omega, by omega⟩ rfl (by omega) _ _ S _ (lv_sub hl [0, 1, 2, 3, 4, 5] rfl)
              · refine lv_iconst (v := iI (0)) C0.1 C0.2.1 dX10_parse_63 rfl ?_
                subst hQ
                refine k_zret C0 S hAe hsz hr hlk (by rfl) dX10_parse_64 ?_
                have hq : psr px pn.toNat = none := by rcases hi11_3 with ⟨_, e⟩ | ⟨e, _⟩; (rw [e]; rw [show pn.toNat - i = (pn.toNat - (i + 1)) + 1 by omega]; exact psF_sl_no c35 (by omega)); omega
                exact ⟨_, _, congrArg iI (bz_f (fun h => h hq)).symm, rfl, fun m ks h => by rw [hq] at h; cases h⟩
  exact L11 (pn.toNat + 2) (0) (0) (0) (0) (fun _ => 0) (nm) (by omega) (by decide) (by decide) (Or.inl ⟨by omega, rfl⟩) (fun k h => absurd h (Nat.not_lt_zero _)) ⟨by decide, by decide⟩ (fun k h => absurd h (Nat.not_lt_zero _)) (by omega) _ _ S _ (lv_sub hl [0, 1, 2, 3] rfl)
