def rmX5_isLetter : Room := { frames := 0, cells := 0, slots := 0, locals := 0 }
set_option maxHeartbeats 4000000 in
set_option maxRecDepth 100000 in
theorem c_X5_isLetter (l : Launch) (D : va_G) (cA : Nat → ClassId) (hP aL : Nat) (v1 : Int) (L : Nat → Int) (z : Int) (hz : ir z) : kCi l D vwCl (kTys cA) yX5_isLetter wsX5_isLetter rmX5_isLetter [.ref hP, .int (iI (z))] [(hP, .inr (5, [.ref aL, .int (iI (v1))])), (aL, .inl (cA 0, 16, .inl (fun y_ => iI (L y_))))] (fun r u => r = iI (bz (isLet z)) ∧ u = [(hP, .inr (5, [.ref aL, .int (iI (v1))])), (aL, .inl (cA 0, 16, .inl (fun y_ => iI (L y_))))]) := by
  intro sz
  refine kEntry (cc := cX5_isLetter) (maxL := 2) (ret := (some .boolean)) (by decide) rfl (Nat.le_of_ble_eq_true rfl) ?_
  intro p e s m args below meth c A Q hAe hQ C0 hr hlk S hsz ls hl
  have hl : lv_has ls 2 [(0, .ref hP), (1, .int (iI (z)))] := hl
  obtain ⟨hz1, hz2⟩ := hz
  refine lv_iload_n C0.1 C0.2.1 dX5_isLetter_0 rfl (lv_at hl 1 rfl) ?_
  refine lv_bipush (v := iI (65)) C0.1 C0.2.1 dX5_isLetter_1 (by decide) ?_
  refine k_icmp_lt (tgt := 12) C0 (by constructor <;> omega) ⟨by decide, by decide⟩ dX5_isLetter_3 (by decide) (fun c1 => ?_) (fun c1 => ?_)
  · refine lv_iload_n C0.1 C0.2.1 dX5_isLetter_12 rfl (lv_at hl 1 rfl) ?_
    refine lv_bipush (v := iI (48)) C0.1 C0.2.1 dX5_isLetter_13 (by decide) ?_
    refine k_icmp_lt (tgt := 28) C0 (by constructor <;> omega) ⟨by decide, by decide⟩ dX5_isLetter_15 (by decide) (fun c2 => ?_) (fun c2 => ?_)
    · refine lv_iconst (v := iI (0)) C0.1 C0.2.1 dX5_isLetter_28 rfl ?_
      subst hQ
      refine k_zret C0 S hAe hsz hr hlk (by rfl) dX5_isLetter_29 ?_
      exact ⟨congrArg iI (bz_f (by unfold isLet; omega)).symm, rfl⟩
    · refine lv_iload_n C0.1 C0.2.1 dX5_isLetter_18 rfl (lv_at hl 1 rfl) ?_
      refine lv_bipush (v := iI (57)) C0.1 C0.2.1 dX5_isLetter_19 (by decide) ?_
      refine k_icmp_gt (tgt := 28) C0 (by constructor <;> omega) ⟨by decide, by decide⟩ dX5_isLetter_21 (by decide) (fun c3 => ?_) (fun c3 => ?_)
      · refine lv_iconst (v := iI (0)) C0.1 C0.2.1 dX5_isLetter_28 rfl ?_
        subst hQ
        refine k_zret C0 S hAe hsz hr hlk (by rfl) dX5_isLetter_29 ?_
        exact ⟨congrArg iI (bz_f (by unfold isLet; omega)).symm, rfl⟩
      · refine lv_iconst (v := iI (1)) C0.1 C0.2.1 dX5_isLetter_24 rfl ?_
        refine lv_goto (tgt := 29) C0.1 C0.2.1 dX5_isLetter_25 (by decide) ?_
        subst hQ
        refine k_zret C0 S hAe hsz hr hlk (by rfl) dX5_isLetter_29 ?_
        exact ⟨congrArg iI (bz_t (by unfold isLet; omega)).symm, rfl⟩
  · refine lv_iload_n C0.1 C0.2.1 dX5_isLetter_6 rfl (lv_at hl 1 rfl) ?_
    refine lv_bipush (v := iI (90)) C0.1 C0.2.1 dX5_isLetter_7 (by decide) ?_
    refine k_icmp_le (tgt := 24) C0 (by constructor <;> omega) ⟨by decide, by decide⟩ dX5_isLetter_9 (by decide) (fun c4 => ?_) (fun c4 => ?_)
    · refine lv_iconst (v := iI (1)) C0.1 C0.2.1 dX5_isLetter_24 rfl ?_
      refine lv_goto (tgt := 29) C0.1 C0.2.1 dX5_isLetter_25 (by decide) ?_
      subst hQ
      refine k_zret C0 S hAe hsz hr hlk (by rfl) dX5_isLetter_29 ?_
      exact ⟨congrArg iI (bz_t (by unfold isLet; omega)).symm, rfl⟩
    · refine lv_iload_n C0.1 C0.2.1 dX5_isLetter_12 rfl (lv_at hl 1 rfl) ?_
      refine lv_bipush (v := iI (48)) C0.1 C0.2.1 dX5_isLetter_13 (by decide) ?_
      refine k_icmp_lt (tgt := 28) C0 (by constructor <;> omega) ⟨by decide, by decide⟩ dX5_isLetter_15 (by decide) (fun c5 => ?_) (fun c5 => ?_)
      · refine lv_iconst (v := iI (0)) C0.1 C0.2.1 dX5_isLetter_28 rfl ?_
        subst hQ
        refine k_zret C0 S hAe hsz hr hlk (by rfl) dX5_isLetter_29 ?_
        exact ⟨congrArg iI (bz_f (by unfold isLet; omega)).symm, rfl⟩
      · refine lv_iload_n C0.1 C0.2.1 dX5_isLetter_18 rfl (lv_at hl 1 rfl) ?_
        refine lv_bipush (v := iI (57)) C0.1 C0.2.1 dX5_isLetter_19 (by decide) ?_
        refine k_icmp_gt (tgt := 28) C0 (by constructor <;> omega) ⟨by decide, by decide⟩ dX5_isLetter_21 (by decide) (fun c6 => ?_) (fun c6 => ?_)
        · refine lv_iconst (v := iI (0)) C0.1 C0.2.1 dX5_isLetter_28 rfl ?_
          subst hQ
          refine k_zret C0 S hAe hsz hr hlk (by rfl) dX5_isLetter_29 ?_
          exact ⟨congrArg iI (bz_f (by unfold isLet; omega)).symm, rfl⟩
        · refine lv_iconst (v := iI (1)) C0.1 C0.2.1 dX5_isLetter_24 rfl ?_
          refine lv_goto (tgt := 29) C0.1 C0.2.1 dX5_isLetter_25 (by decide) ?_
          subst hQ
          refine k_zret C0 S hAe hsz hr hlk (by rfl) dX5_isLetter_29 ?_
          exact ⟨congrArg iI (bz_t (by unfold isLet; omega)).symm, rfl⟩
def rmX5_parse : Room := { frames := 1, cells := 0, slots := 0, locals := 23 }
set_option maxHeartbeats 4000000 in
set_option maxRecDepth 100000 in
theorem c_X5_parse (l : Launch) (D : va_G) (cA : Nat → ClassId) (hP aL aT nT : Nat) (v1 : Int) (L tx : Nat → Int) (fr to : Int) (htx : By tx) (hf0 : 0 ≤ fr) (hfr : fr ≤ to) (hf2 : to ≤ nT) (hn : nT < 100000) : kCi l D vwCl (kTys cA) yX5_parse wsX5_parse rmX5_parse [.ref hP, .ref aT, .int (iI (fr)), .int (iI (to))] [(hP, .inr (5, [.ref aL, .int (iI (v1))])), (aL, .inl (cA 0, 16, .inl (fun y_ => iI (L y_)))), (aT, .inl (cA 0, nT, .inl (fun y_ => iI (tx y_))))] (fun r u => ∃ (cnt : Int) (L2 : Nat → Int), r = iI (bz (psr (gtx tx fr) (to - fr).toNat ≠ none)) ∧ u = [(hP, .inr (5, [.ref aL, .int (iI (cnt))])), (aL, .inl (cA 0, 16, .inl (fun y_ => iI (L2 y_)))), (aT, .inl (cA 0, nT, .inl (fun y_ => iI (tx y_))))] ∧ ∀ m ks, psr (gtx tx fr) (to - fr).toNat = some (m, ks) → cnt = (m : Int) ∧ (∀ k, k < m → lkey L2 k = ks k) ∧ By16 L2) := by
  intro sz
  refine kEntry (cc := cX5_parse) (maxL := 7) (ret := (some .boolean)) (by decide) rfl (Nat.le_of_ble_eq_true rfl) ?_
  intro p e s m args below meth c A Q hAe hQ C0 hr hlk S hsz ls hl
  have hl : lv_has ls 7 [(0, .ref hP), (1, .ref aT), (2, .int (iI (fr))), (3, .int (iI (to)))] := hl
  refine lv_aload_n C0.1 C0.2.1 dX5_parse_0 rfl (lv_at hl 0 rfl) ?_
  refine k_get C0 S (C := RX5) (T := TX5) (N := 2) (ci := 5) (by decide +kernel) 0 rfl rfl 0 (by decide) (by decide +kernel) (v := .ref aL) rfl dX5_parse_1 ?_
  refine lv_bipush (v := iI (32)) C0.1 C0.2.1 dX5_parse_4 (by decide) ?_
  refine k_callSv (n := 2) (wr := [(hP, .inr (5, [.ref aL, .int (iI (v1))])), (aT, .inl (cA 0, nT, .inl (fun y_ => iI (tx y_))))]) C0 S (c_J7_fill_53178 l D cA aL 16 L (32) (by omega)) gX5_parse_J7_fill_53178 rfl ⟨rfl, rfl⟩ (by decide +kernel) ⟨Nat.le_of_ble_eq_true rfl, Nat.le_of_ble_eq_true rfl⟩ [1] [0, 2] rfl rfl rfl rfl (by decide) (As := [.ref aL, .int (iI (32))]) rfl hl.1 rfl (Nat.le_of_ble_eq_true rfl) dX5_parse_6 ⟨Nat.zero_le _, Nat.zero_le _⟩ (fun u H locs hp S => ?_)
  obtain ⟨f1, rfl, hf1⟩ := hp
  have S := S.sub (ws' := [(hP, .inr (5, [.ref aL, .int (iI (v1))])), (aL, .inl (cA 0, 16, .inl (fun y_ => iI (f1 y_)))), (aT, .inl (cA 0, nT, .inl (fun y_ => iI (tx y_))))]) [0, 2, 1] rfl rfl
  refine lv_iconst (v := iI (0)) C0.1 C0.2.1 dX5_parse_9 rfl ?_
  refine lv_istore (lv' := [(4, .int (iI (0))), (0, .ref hP), (1, .ref aT), (2, .int (iI (fr))), (3, .int (iI (to)))]) C0.1 C0.2.1 dX5_parse_10 hl (by decide) rfl (fun ls hl => ?_)
  refine lv_iconst (v := iI (0)) C0.1 C0.2.1 dX5_parse_12 rfl ?_
  refine lv_istore (lv' := [(5, .int (iI (0))), (4, .int (iI (0))), (0, .ref hP), (1, .ref aT), (2, .int (iI (fr))), (3, .int (iI (to)))]) C0.1 C0.2.1 dX5_parse_13 hl (by decide) rfl (fun ls hl => ?_)
  refine lv_iload_n C0.1 C0.2.1 dX5_parse_15 rfl (lv_at hl 4 rfl) ?_
  refine lv_istore (lv' := [(6, .int (iI (fr))), (5, .int (iI (0))), (4, .int (iI (0))), (0, .ref hP), (1, .ref aT), (2, .int (iI (fr))), (3, .int (iI (to)))]) C0.1 C0.2.1 dX5_parse_16 hl (by decide) rfl (fun ls hl => ?_)
  have L18 : ∀ (n_ : Nat) (i : Nat) (nc : Nat) (l2 : Nat) (w : Int) (ks : Nat → Int) (L2 : Nat → Int) (x : Int), (fr + (i : Int) ≤ to) → (nc ≤ 3) → (l2 ≤ 4) → (psr (gtx tx fr) (to - fr).toNat = psF (gtx tx fr) ((to - fr).toNat - i) i nc l2 w ks) → (∀ k, k < nc → lkey L2 k = ks k) → (lkey L2 nc = padk w l2) → (∀ j, 4 * nc + l2 ≤ j → j < 16 → L2 j = 32) → (By16 L2) → (x = fr + (i : Int)) → ((to - fr).toNat - i < n_) → ∀ (H : Heap) (locs : List Loc), kS D vwCl (kTys cA) A s [(hP, .inr (5, [.ref aL, .int (iI (v1))])), (aL, .inl (cA 0, 16, .inl (fun y_ => iI (L2 y_)))), (aT, .inl (cA 0, nT, .inl (fun y_ => iI (tx y_))))] H locs → ∀ ls : Array Slot, lv_has ls 7 [(6, .int (iI (x))), (4, .int (iI ((nc : Int)))), (5, .int (iI ((l2 : Int)))), (0, .ref hP), (1, .ref aT), (2, .int (iI (fr))), (3, .int (iI (to)))] → W p l e rmX5_parse s m args below meth c H locs 0 0 Q (F0 m 18 ls []) := by
    intro n_
    induction n_ with
    | zero => intro i nc l2 w ks L2 x hi18_0 hi18_1 hi18_2 hi18_3 hi18_4 hi18_5 hi18_6 hi18_7 hi18_8 hm; exact absurd hm (Nat.not_lt_zero _)
    | succ n_ ih18 =>
      intro i nc l2 w ks L2 x hi18_0 hi18_1 hi18_2 hi18_3 hi18_4 hi18_5 hi18_6 hi18_7 hi18_8 hm H locs S ls hl
      refine lv_iload C0.1 C0.2.1 dX5_parse_18 (lv_at hl 0 rfl) ?_
      refine lv_iload_n C0.1 C0.2.1 dX5_parse_20 rfl (lv_at hl 6 rfl) ?_
      refine k_icmp_ge (tgt := 99) C0 (by constructor <;> omega) (by constructor <;> omega) dX5_parse_21 (by decide) (fun c21 => ?_) (fun c21 => ?_)
      · refine lv_aload_n C0.1 C0.2.1 dX5_parse_99 rfl (lv_at hl 3 rfl) ?_
        refine lv_iload C0.1 C0.2.1 dX5_parse_100 (lv_at hl 1 rfl) ?_
        refine lv_iconst (v := iI (1)) C0.1 C0.2.1 dX5_parse_102 rfl ?_
        refine k_iadd C0 dX5_parse_103 ?_
        refine k_put (ws' := [(hP, .inr (5, [.ref aL, .int (iI (((nc : Int)) + 1))])), (aL, .inl (cA 0, 16, .inl (fun y_ => iI (L2 y_)))), (aT, .inl (cA 0, nT, .inl (fun y_ => iI (tx y_))))]) C0 S (C := RX5) (T := TX5) (N := 2) (ci := 5) (by decide +kernel) tyX5 tyX5_ok nmX5 0 rfl rfl 1 (by decide) (by decide +kernel) rfl (v := .int (iI (((nc : Int)) + 1))) rfl rfl (Nat.le_of_ble_eq_true rfl) dX5_parse_104 rfl (fun H locs S => ?_)
        refine lv_iload C0.1 C0.2.1 dX5_parse_107 (lv_at hl 2 rfl) ?_
        refine k_if_le (tgt := 116) C0 (by constructor <;> omega) dX5_parse_109 (by decide) (fun c109 => ?_) (fun c109 => ?_)
        · refine lv_iconst (v := iI (0)) C0.1 C0.2.1 dX5_parse_116 rfl ?_
          subst hQ
          refine k_zret C0 S hAe hsz hr hlk (by rfl) dX5_parse_117 ?_
          have hq : psr (gtx tx fr) (to - fr).toNat = none := by rw [hi18_3, show (to - fr).toNat - i = 0 by omega]; exact psF_end_no (Or.inl (by omega))
          exact ⟨_, _, congrArg iI (bz_f (fun h => h hq)).symm, rfl, fun m ks h => by rw [hq] at h; cases h⟩
        · refine lv_iconst (v := iI (1)) C0.1 C0.2.1 dX5_parse_112 rfl ?_
          refine lv_goto (tgt := 117) C0.1 C0.2.1 dX5_parse_113 (by decide) ?_
          subst hQ
          refine k_zret C0 S hAe hsz hr hlk (by rfl) dX5_parse_117 ?_
          have hq : psr (gtx tx fr) (to - fr).toNat = some (nc + 1, va_up ks nc (padk w l2)) := by rw [hi18_3, show (to - fr).toNat - i = 0 by omega]; exact psF_end (by omega)
          refine ⟨_, _, congrArg iI (bz_t (by rw [hq]; exact fun h => by cases h)).symm, rfl, fun m ks2 h => ?_⟩
          rw [hq] at h
          cases h
          refine ⟨rfl, fun k hk => ?_, hi18_7⟩
          unfold va_up
          split
          · rename_i e; rw [e]; exact hi18_5
          · rename_i e; exact hi18_4 k (by omega)
      · refine lv_aload_n C0.1 C0.2.1 dX5_parse_24 rfl (lv_at hl 4 rfl) ?_
        refine lv_iload C0.1 C0.2.1 dX5_parse_25 (lv_at hl 0 rfl) ?_
        refine k_iald C0 S 2 0 rfl rfl (z := x) (by omega) (by omega) (by omega) dX5_parse_27 ?_
        refine k_topeq (v := iI (gtx tx fr i)) (by rw [hi18_8]; rfl) ?_
        have hg : 0 ≤ gtx tx fr i ∧ gtx tx fr i < 256 := htx _
        refine lv_bipush (v := iI (47)) C0.1 C0.2.1 dX5_parse_28 (by decide) ?_
        refine k_icmp_ne (tgt := 55) C0 (by constructor <;> omega) ⟨by decide, by decide⟩ dX5_parse_30 (by decide) (fun c30 => ?_) (fun c30 => ?_)
        · refine lv_iload C0.1 C0.2.1 dX5_parse_55 (lv_at hl 2 rfl) ?_
          refine lv_iconst (v := iI (4)) C0.1 C0.2.1 dX5_parse_57 rfl ?_
          refine k_icmp_eq (tgt := 72) C0 (by constructor <;> omega) ⟨by decide, by decide⟩ dX5_parse_58 (by decide) (fun c58 => ?_) (fun c58 => ?_)
          · refine lv_iconst (v := iI (0)) C0.1 C0.2.1 dX5_parse_72 rfl ?_
            subst hQ
            refine k_zret C0 S hAe hsz hr hlk (by rfl) dX5_parse_73 ?_
            have hq : psr (gtx tx fr) (to - fr).toNat = none := by rw [hi18_3]; rw [show (to - fr).toNat - i = ((to - fr).toNat - (i + 1)) + 1 by omega]; exact psF_let_no c30 (Or.inr (by omega))
            exact ⟨_, _, congrArg iI (bz_f (fun h => h hq)).symm, rfl, fun m ks h => by rw [hq] at h; cases h⟩
          · refine lv_aload_n C0.1 C0.2.1 dX5_parse_61 rfl (lv_at hl 3 rfl) ?_
            refine lv_aload_n C0.1 C0.2.1 dX5_parse_62 rfl (lv_at hl 4 rfl) ?_
            refine lv_iload C0.1 C0.2.1 dX5_parse_63 (lv_at hl 0 rfl) ?_
            refine k_iald C0 S 2 0 rfl rfl (z := x) (by omega) (by omega) (by omega) dX5_parse_65 ?_
            refine k_topeq (v := iI (gtx tx fr i)) (by rw [hi18_8]; rfl) ?_
            refine k_calli (n := 1) (wr := [(aT, .inl (cA 0, nT, .inl (fun y_ => iI (tx y_))))]) C0 S (c_X5_isLetter l D cA hP aL (v1) L2 (gtx tx fr i) (by constructor <;> omega)) gX5_parse_X5_isLetter rfl ⟨rfl, rfl⟩ (by decide +kernel) ⟨Nat.le_of_ble_eq_true rfl, Nat.le_of_ble_eq_true rfl⟩ [0, 1] [2] rfl rfl rfl rfl (by decide) (ci := 5) (q0 := 0) rfl rfl (As := [.int (iI (gtx tx fr i))]) rfl hl.1 rfl (Nat.le_of_ble_eq_true rfl) dX5_parse_66 ⟨Nat.zero_le _, Nat.zero_le _⟩ (fun r u H locs hp S => ?_)
            obtain ⟨rfl, rfl⟩ := hp
            have S := S.sub (ws' := [(hP, .inr (5, [.ref aL, .int (iI (v1))])), (aL, .inl (cA 0, 16, .inl (fun y_ => iI (L2 y_)))), (aT, .inl (cA 0, nT, .inl (fun y_ => iI (tx y_))))]) [1, 2, 0] rfl rfl
            refine k_bz_ne (tgt := 74) C0 dX5_parse_69 (by decide) (fun c69 => ?_) (fun c69 => ?_)
            · refine lv_aload_n C0.1 C0.2.1 dX5_parse_74 rfl (lv_at hl 3 rfl) ?_
              refine k_get C0 S (C := RX5) (T := TX5) (N := 2) (ci := 5) (by decide +kernel) 0 rfl rfl 0 (by decide) (by decide +kernel) (v := .ref aL) rfl dX5_parse_75 ?_
              refine lv_iload C0.1 C0.2.1 dX5_parse_78 (lv_at hl 1 rfl) ?_
              refine lv_iconst (v := iI (4)) C0.1 C0.2.1 dX5_parse_80 rfl ?_
              refine k_imul C0 dX5_parse_81 ?_
              refine lv_iload C0.1 C0.2.1 dX5_parse_82 (lv_at hl 2 rfl) ?_
              refine k_iadd C0 dX5_parse_84 ?_
              refine lv_aload_n C0.1 C0.2.1 dX5_parse_85 rfl (lv_at hl 4 rfl) ?_
              refine lv_iload C0.1 C0.2.1 dX5_parse_86 (lv_at hl 0 rfl) ?_
              refine k_iald C0 S 2 0 rfl rfl (z := x) (by omega) (by omega) (by omega) dX5_parse_88 ?_
              refine k_topeq (v := iI (gtx tx fr i)) (by rw [hi18_8]; rfl) ?_
              refine k_iast (ws' := [(hP, .inr (5, [.ref aL, .int (iI (v1))])), (aL, .inl (cA 0, 16, .inl (fun y_ => iI ((va_up L2 ((((nc : Int)) * 4) + ((l2 : Int))).toNat (gtx tx fr i)) y_)))), (aT, .inl (cA 0, nT, .inl (fun y_ => iI (tx y_))))]) C0 S 1 0 rfl rfl (z := (((nc : Int)) * 4) + ((l2 : Int))) (by omega) (by omega) (by omega) dX5_parse_89 rfl (fun H locs S => ?_)
              refine lv_iinc (v := iI ((l2 : Int) + 1)) (lv' := [(5, .int (iI ((l2 : Int) + 1))), (6, .int (iI (x))), (4, .int (iI ((nc : Int)))), (0, .ref hP), (1, .ref aT), (2, .int (iI (fr))), (3, .int (iI (to)))]) C0.1 C0.2.1 dX5_parse_90 hl (k := 2) rfl (iI_add _ _) (by decide) rfl (fun ls hl => ?_)
              refine lv_iinc (v := iI (x + 1)) (lv' := [(6, .int (iI (x + 1))), (5, .int (iI ((l2 : Int) + 1))), (4, .int (iI ((nc : Int)))), (0, .ref hP), (1, .ref aT), (2, .int (iI (fr))), (3, .int (iI (to)))]) C0.1 C0.2.1 dX5_parse_93 hl (k := 1) rfl (iI_add _ _) (by decide) rfl (fun ls hl => ?_)
              refine lv_goto (tgt := 18) C0.1 C0.2.1 dX5_parse_96 (by decide) ?_
              have hq3 : psr (gtx tx fr) (to - fr).toNat = psF (gtx tx fr) ((to - fr).toNat - (i + 1)) (i + 1) nc (l2 + 1) (w + gtx tx fr i * pw l2) ks := by rw [hi18_3]; rw [show (to - fr).toNat - i = ((to - fr).toNat - (i + 1)) + 1 by omega]; exact psF_let c30 c69 (by omega)
              have ex : ((nc : Int) * 4 + (l2 : Int)).toNat = 4 * nc + l2 := by omega
              rw [ex] at S
              have hq4 : ∀ k, k < nc → lkey (va_up L2 (4 * nc + l2) (gtx tx fr i)) k = ks k := fun k hk => by rw [lkey_ne (by omega)]; exact hi18_4 k hk
              have hq5 : lkey (va_up L2 (4 * nc + l2) (gtx tx fr i)) nc = padk (w + gtx tx fr i * pw l2) (l2 + 1) := by rw [lkey_up (by omega) (hi18_6 _ (by omega) (by omega)), padk_up (by omega), hi18_5]
              have hq6 : ∀ j, 4 * nc + (l2 + 1) ≤ j → j < 16 → va_up L2 (4 * nc + l2) (gtx tx fr i) j = 32 := fun j h1 h2 => by rw [va_up_ne _ _ (by omega)]; exact hi18_6 j (by omega) h2
              have hq7 : By16 (va_up L2 (4 * nc + l2) (gtx tx fr i)) := By16_up hi18_7 (htx _).1 (htx _).2
              exact ih18 (i + 1) (nc) (l2 + 1) (w + gtx tx fr i * pw l2) (ks) (va_up L2 (4 * nc + l2) (gtx tx fr i)) (x + 1) (by omega) (by omega) (by omega) hq3 hq4 hq5 hq6 hq7 (by omega) (by omega) _ _ S _ (lv_sub hl [0, 2, 1, 3, 4, 5, 6] rfl)
            · refine lv_iconst (v := iI (0)) C0.1 C0.2.1 dX5_parse_72 rfl ?_
              subst hQ
              refine k_zret C0 S hAe hsz hr hlk (by rfl) dX5_parse_73 ?_
              have hq : psr (gtx tx fr) (to - fr).toNat = none := by rw [hi18_3]; rw [show (to - fr).toNat - i = ((to - fr).toNat - (i + 1)) + 1 by omega]; exact psF_let_no c30 (Or.inl c69)
              exact ⟨_, _, congrArg iI (bz_f (fun h => h hq)).symm, rfl, fun m ks h => by rw [hq] at h; cases h⟩
        · refine lv_iinc (v := iI ((nc : Int) + 1)) (lv' := [(4, .int (iI ((nc : Int) + 1))), (6, .int (iI (x))), (5, .int (iI ((l2 : Int)))), (0, .ref hP), (1, .ref aT), (2, .int (iI (fr))), (3, .int (iI (to)))]) C0.1 C0.2.1 dX5_parse_33 hl (k := 1) rfl (iI_add _ _) (by decide) rfl (fun ls hl => ?_)
          refine lv_iload C0.1 C0.2.1 dX5_parse_36 (lv_at hl 2 rfl) ?_
          refine k_if_eq (tgt := 47) C0 (by constructor <;> omega) dX5_parse_38 (by decide) (fun c38 => ?_) (fun c38 => ?_)
          · refine lv_iconst (v := iI (0)) C0.1 C0.2.1 dX5_parse_47 rfl ?_
            subst hQ
            refine k_zret C0 S hAe hsz hr hlk (by rfl) dX5_parse_48 ?_
            have hq : psr (gtx tx fr) (to - fr).toNat = none := by rw [hi18_3]; rw [show (to - fr).toNat - i = ((to - fr).toNat - (i + 1)) + 1 by omega]; exact psF_sl_no c30 (Or.inl (by omega))
            exact ⟨_, _, congrArg iI (bz_f (fun h => h hq)).symm, rfl, fun m ks h => by rw [hq] at h; cases h⟩
          · refine lv_iload C0.1 C0.2.1 dX5_parse_41 (lv_at hl 0 rfl) ?_
            refine lv_iconst (v := iI (4)) C0.1 C0.2.1 dX5_parse_43 rfl ?_
            refine k_icmp_ne (tgt := 49) C0 (by constructor <;> omega) ⟨by decide, by decide⟩ dX5_parse_44 (by decide) (fun c44 => ?_) (fun c44 => ?_)
            · refine lv_iconst (v := iI (0)) C0.1 C0.2.1 dX5_parse_49 rfl ?_
              refine lv_istore (lv' := [(5, .int (iI (0))), (4, .int (iI ((nc : Int) + 1))), (6, .int (iI (x))), (0, .ref hP), (1, .ref aT), (2, .int (iI (fr))), (3, .int (iI (to)))]) C0.1 C0.2.1 dX5_parse_50 hl (by decide) rfl (fun ls hl => ?_)
              refine lv_goto (tgt := 93) C0.1 C0.2.1 dX5_parse_52 (by decide) ?_
              refine lv_iinc (v := iI (x + 1)) (lv' := [(6, .int (iI (x + 1))), (5, .int (iI (0))), (4, .int (iI ((nc : Int) + 1))), (0, .ref hP), (1, .ref aT), (2, .int (iI (fr))), (3, .int (iI (to)))]) C0.1 C0.2.1 dX5_parse_93 hl (k := 2) rfl (iI_add _ _) (by decide) rfl (fun ls hl => ?_)
              refine lv_goto (tgt := 18) C0.1 C0.2.1 dX5_parse_96 (by decide) ?_
              have hq3 : psr (gtx tx fr) (to - fr).toNat = psF (gtx tx fr) ((to - fr).toNat - (i + 1)) (i + 1) (nc + 1) 0 0 (va_up ks nc (padk w l2)) := by rw [hi18_3]; rw [show (to - fr).toNat - i = ((to - fr).toNat - (i + 1)) + 1 by omega]; exact psF_sl c30 (by omega)
              have hq4 : ∀ k, k < nc + 1 → lkey L2 k = va_up ks nc (padk w l2) k := by
                intro k hk
                unfold va_up
                split
                · rename_i e; rw [e]; exact hi18_5
                · rename_i e; exact hi18_4 k (by omega)
              have hq5 : lkey L2 (nc + 1) = padk 0 0 := by
                unfold lkey
                rw [hi18_6 _ (by omega) (by omega), hi18_6 _ (by omega) (by omega), hi18_6 _ (by omega) (by omega), hi18_6 _ (by omega) (by omega)]
                decide
              have hq6 : ∀ j, 4 * (nc + 1) + 0 ≤ j → j < 16 → L2 j = 32 := fun j h1 h2 => hi18_6 j (by omega) h2
              have hq7 := hi18_7
              exact ih18 (i + 1) (nc + 1) (0) (0) (va_up ks nc (padk w l2)) (L2) (x + 1) (by omega) (by omega) (by omega) hq3 hq4 hq5 hq6 hq7 (by omega) (by omega) _ _ S _ (lv_sub hl [0, 2, 1, 3, 4, 5, 6] rfl)
            · refine lv_iconst (v := iI (0)) C0.1 C0.2.1 dX5_parse_47 rfl ?_
              subst hQ
              refine k_zret C0 S hAe hsz hr hlk (by rfl) dX5_parse_48 ?_
              have hq : psr (gtx tx fr) (to - fr).toNat = none := by rw [hi18_3]; rw [show (to - fr).toNat - i = ((to - fr).toNat - (i + 1)) + 1 by omega]; rw [psF_sl c30 (by omega), show nc + 1 = 4 by omega]; exact psF_4 _ _ _ _ _ _
              exact ⟨_, _, congrArg iI (bz_f (fun h => h hq)).symm, rfl, fun m ks h => by rw [hq] at h; cases h⟩
  exact L18 ((to - fr).toNat + 1) (0) (0) (0) (0) (fun _ => 0) (f1) (fr) (by omega) (by decide) (by decide) rfl (fun k h => absurd h (Nat.not_lt_zero _)) (by unfold lkey; rw [hf1 _ (by decide), hf1 _ (by decide), hf1 _ (by decide), hf1 _ (by decide)]; decide) (fun j _ h2 => hf1 j h2) (fun j hj => by rw [hf1 j hj]; decide) (by omega) (by omega) _ _ S _ (lv_sub hl [0, 2, 1, 3, 4, 5, 6] rfl)
