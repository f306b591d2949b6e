def rmX10_settings : Room := { frames := 6, cells := 0, slots := 0, locals := 140 }
set_option maxHeartbeats 4000000 in
set_option maxRecDepth 100000 in
theorem c_X10_settings (l : Launch) (D : va_G) (cA : Nat → ClassId) (hM aD aM aX aP aQ aK aO aA a1 a2 a3 : Nat) (st tl pn nc kl ol al : Int) (d : Nat → Int) (px nm kk oo ar : Nat → Int) (hd : By d) (hB2 : gB d) (hpx : By px) (hkk : By kk) (hoo : By oo) (har : By ar) : kCi l D vwCl (kTys cA) yX10_settings wsX10_settings rmX10_settings [.ref hM] [(hM, .inr (10, [.ref aD, .ref aM, .int (iI (st)), .int (iI (chs d)), .int (iI (gTA d)), .int (iI (gT d)), .int (iI (gTS d)), .int (iI (gCS d)), .int (iI (gCA d)), .int (iI (gN d)), .int (iI (gRoot d)), .ref aX, .int (iI (tl)), .ref aP, .int (iI (pn)), .ref aQ, .int (iI (nc)), .ref aK, .ref aO, .ref aA, .int (iI (kl)), .int (iI (ol)), .int (iI (al)), .ref a1, .ref a2, .ref a3])), (aD, .inl (cA 0, 2048, .inl (fun y_ => iI (d y_)))), (aP, .inl (cA 0, 200, .inl (fun y_ => iI (px y_)))), (aQ, .inl (cA 0, 4, .inl (fun y_ => iI (nm y_)))), (aK, .inl (cA 0, 200, .inl (fun y_ => iI (kk y_)))), (aO, .inl (cA 0, 200, .inl (fun y_ => iI (oo y_)))), (aA, .inl (cA 0, 24, .inl (fun y_ => iI (ar y_))))] (fun r u => ∃ (pn2 nc2 kl2 ol2 al2 : Int) (px2 nm2 kk2 oo2 ar2 : Nat → Int), r = iI (stC d) ∧ u = [(hM, .inr (10, [.ref aD, .ref aM, .int (iI (st)), .int (iI (chs d)), .int (iI (gTA d)), .int (iI (gT d)), .int (iI (gTS d)), .int (iI (gCS d)), .int (iI (gCA d)), .int (iI (gN d)), .int (iI (gRoot d)), .ref aX, .int (iI (tl)), .ref aP, .int (iI (pn2)), .ref aQ, .int (iI (nc2)), .ref aK, .ref aO, .ref aA, .int (iI (kl2)), .int (iI (ol2)), .int (iI (al2)), .ref a1, .ref a2, .ref a3])), (aD, .inl (cA 0, 2048, .inl (fun y_ => iI (d y_)))), (aP, .inl (cA 0, 200, .inl (fun y_ => iI (px2 y_)))), (aQ, .inl (cA 0, 4, .inl (fun y_ => iI (nm2 y_)))), (aK, .inl (cA 0, 200, .inl (fun y_ => iI (kk2 y_)))), (aO, .inl (cA 0, 200, .inl (fun y_ => iI (oo2 y_)))), (aA, .inl (cA 0, 24, .inl (fun y_ => iI (ar2 y_))))] ∧ (-100 ≤ stC d ∧ stC d ≤ 0) ∧ (0 ≤ stC d → ∃ S, bSt d = some S) ∧ (∀ S, bSt d = some S → 0 ≤ stC d → AR3 kk2 oo2 ar2 kl2 ol2 al2 (bTx d) S ∧ SB S (opn d (bAd d))) ∧ By px2 ∧ By kk2 ∧ By oo2 ∧ By ar2) := by
  intro sz
  refine kEntry (cc := cX10_settings) (maxL := 6) (ret := (some .int)) (by decide) rfl (Nat.le_of_ble_eq_true rfl) ?_
  intro p e s m args below meth c A Q hAe hQ C0 hr hlk S hsz ls hl
  have hl : lv_has ls 6 [(0, .ref hM)] := hl
  have hlin := hB2.lin
  refine lv_aload_n C0.1 C0.2.1 dX10_settings_0 rfl (lv_at hl 0 rfl) ?_
  refine k_get C0 S (C := RX10) (T := TX10) (N := 26) (ci := 10) (by decide +kernel) 0 rfl rfl 13 (by decide) (by decide +kernel) (v := .ref aP) rfl dX10_settings_1 ?_
  refine lv_iconst (v := iI (0)) C0.1 C0.2.1 dX10_settings_4 rfl ?_
  refine lv_bipush (v := iI (66)) C0.1 C0.2.1 dX10_settings_5 (by decide) ?_
  refine k_iast (ws' := [(hM, .inr (10, [.ref aD, .ref aM, .int (iI (st)), .int (iI (chs d)), .int (iI (gTA d)), .int (iI (gT d)), .int (iI (gTS d)), .int (iI (gCS d)), .int (iI (gCA d)), .int (iI (gN d)), .int (iI (gRoot d)), .ref aX, .int (iI (tl)), .ref aP, .int (iI (pn)), .ref aQ, .int (iI (nc)), .ref aK, .ref aO, .ref aA, .int (iI (kl)), .int (iI (ol)), .int (iI (al)), .ref a1, .ref a2, .ref a3])), (aD, .inl (cA 0, 2048, .inl (fun y_ => iI (d y_)))), (aP, .inl (cA 0, 200, .inl (fun y_ => iI ((va_up px 0 (66)) y_)))), (aQ, .inl (cA 0, 4, .inl (fun y_ => iI (nm y_)))), (aK, .inl (cA 0, 200, .inl (fun y_ => iI (kk y_)))), (aO, .inl (cA 0, 200, .inl (fun y_ => iI (oo y_)))), (aA, .inl (cA 0, 24, .inl (fun y_ => iI (ar y_))))]) C0 S 2 0 rfl rfl (z := 0) (by omega) (by omega) (by omega) dX10_settings_7 rfl (fun H locs S => ?_)
  refine lv_aload_n C0.1 C0.2.1 dX10_settings_8 rfl (lv_at hl 0 rfl) ?_
  refine k_get C0 S (C := RX10) (T := TX10) (N := 26) (ci := 10) (by decide +kernel) 0 rfl rfl 13 (by decide) (by decide +kernel) (v := .ref aP) rfl dX10_settings_9 ?_
  refine lv_iconst (v := iI (1)) C0.1 C0.2.1 dX10_settings_12 rfl ?_
  refine lv_bipush (v := iI (79)) C0.1 C0.2.1 dX10_settings_13 (by decide) ?_
  refine k_iast (ws' := [(hM, .inr (10, [.ref aD, .ref aM, .int (iI (st)), .int (iI (chs d)), .int (iI (gTA d)), .int (iI (gT d)), .int (iI (gTS d)), .int (iI (gCS d)), .int (iI (gCA d)), .int (iI (gN d)), .int (iI (gRoot d)), .ref aX, .int (iI (tl)), .ref aP, .int (iI (pn)), .ref aQ, .int (iI (nc)), .ref aK, .ref aO, .ref aA, .int (iI (kl)), .int (iI (ol)), .int (iI (al)), .ref a1, .ref a2, .ref a3])), (aD, .inl (cA 0, 2048, .inl (fun y_ => iI (d y_)))), (aP, .inl (cA 0, 200, .inl (fun y_ => iI ((va_up (va_up px 0 (66)) 1 (79)) y_)))), (aQ, .inl (cA 0, 4, .inl (fun y_ => iI (nm y_)))), (aK, .inl (cA 0, 200, .inl (fun y_ => iI (kk y_)))), (aO, .inl (cA 0, 200, .inl (fun y_ => iI (oo y_)))), (aA, .inl (cA 0, 24, .inl (fun y_ => iI (ar y_))))]) C0 S 2 0 rfl rfl (z := 1) (by omega) (by omega) (by omega) dX10_settings_15 rfl (fun H locs S => ?_)
  refine lv_aload_n C0.1 C0.2.1 dX10_settings_16 rfl (lv_at hl 0 rfl) ?_
  refine k_get C0 S (C := RX10) (T := TX10) (N := 26) (ci := 10) (by decide +kernel) 0 rfl rfl 13 (by decide) (by decide +kernel) (v := .ref aP) rfl dX10_settings_17 ?_
  refine lv_iconst (v := iI (2)) C0.1 C0.2.1 dX10_settings_20 rfl ?_
  refine lv_bipush (v := iI (79)) C0.1 C0.2.1 dX10_settings_21 (by decide) ?_
  refine k_iast (ws' := [(hM, .inr (10, [.ref aD, .ref aM, .int (iI (st)), .int (iI (chs d)), .int (iI (gTA d)), .int (iI (gT d)), .int (iI (gTS d)), .int (iI (gCS d)), .int (iI (gCA d)), .int (iI (gN d)), .int (iI (gRoot d)), .ref aX, .int (iI (tl)), .ref aP, .int (iI (pn)), .ref aQ, .int (iI (nc)), .ref aK, .ref aO, .ref aA, .int (iI (kl)), .int (iI (ol)), .int (iI (al)), .ref a1, .ref a2, .ref a3])), (aD, .inl (cA 0, 2048, .inl (fun y_ => iI (d y_)))), (aP, .inl (cA 0, 200, .inl (fun y_ => iI ((va_up (va_up (va_up px 0 (66)) 1 (79)) 2 (79)) y_)))), (aQ, .inl (cA 0, 4, .inl (fun y_ => iI (nm y_)))), (aK, .inl (cA 0, 200, .inl (fun y_ => iI (kk y_)))), (aO, .inl (cA 0, 200, .inl (fun y_ => iI (oo y_)))), (aA, .inl (cA 0, 24, .inl (fun y_ => iI (ar y_))))]) C0 S 2 0 rfl rfl (z := 2) (by omega) (by omega) (by omega) dX10_settings_23 rfl (fun H locs S => ?_)
  refine lv_aload_n C0.1 C0.2.1 dX10_settings_24 rfl (lv_at hl 0 rfl) ?_
  refine k_get C0 S (C := RX10) (T := TX10) (N := 26) (ci := 10) (by decide +kernel) 0 rfl rfl 13 (by decide) (by decide +kernel) (v := .ref aP) rfl dX10_settings_25 ?_
  refine lv_iconst (v := iI (3)) C0.1 C0.2.1 dX10_settings_28 rfl ?_
  refine lv_bipush (v := iI (84)) C0.1 C0.2.1 dX10_settings_29 (by decide) ?_
  refine k_iast (ws' := [(hM, .inr (10, [.ref aD, .ref aM, .int (iI (st)), .int (iI (chs d)), .int (iI (gTA d)), .int (iI (gT d)), .int (iI (gTS d)), .int (iI (gCS d)), .int (iI (gCA d)), .int (iI (gN d)), .int (iI (gRoot d)), .ref aX, .int (iI (tl)), .ref aP, .int (iI (pn)), .ref aQ, .int (iI (nc)), .ref aK, .ref aO, .ref aA, .int (iI (kl)), .int (iI (ol)), .int (iI (al)), .ref a1, .ref a2, .ref a3])), (aD, .inl (cA 0, 2048, .inl (fun y_ => iI (d y_)))), (aP, .inl (cA 0, 200, .inl (fun y_ => iI ((va_up (va_up (va_up (va_up px 0 (66)) 1 (79)) 2 (79)) 3 (84)) y_)))), (aQ, .inl (cA 0, 4, .inl (fun y_ => iI (nm y_)))), (aK, .inl (cA 0, 200, .inl (fun y_ => iI (kk y_)))), (aO, .inl (cA 0, 200, .inl (fun y_ => iI (oo y_)))), (aA, .inl (cA 0, 24, .inl (fun y_ => iI (ar y_))))]) C0 S 2 0 rfl rfl (z := 3) (by omega) (by omega) (by omega) dX10_settings_31 rfl (fun H locs S => ?_)
  refine lv_aload_n C0.1 C0.2.1 dX10_settings_32 rfl (lv_at hl 0 rfl) ?_
  refine lv_iconst (v := iI (4)) C0.1 C0.2.1 dX10_settings_33 rfl ?_
  refine k_put (ws' := [(hM, .inr (10, [.ref aD, .ref aM, .int (iI (st)), .int (iI (chs d)), .int (iI (gTA d)), .int (iI (gT d)), .int (iI (gTS d)), .int (iI (gCS d)), .int (iI (gCA d)), .int (iI (gN d)), .int (iI (gRoot d)), .ref aX, .int (iI (tl)), .ref aP, .int (iI (4)), .ref aQ, .int (iI (nc)), .ref aK, .ref aO, .ref aA, .int (iI (kl)), .int (iI (ol)), .int (iI (al)), .ref a1, .ref a2, .ref a3])), (aD, .inl (cA 0, 2048, .inl (fun y_ => iI (d y_)))), (aP, .inl (cA 0, 200, .inl (fun y_ => iI ((va_up (va_up (va_up (va_up px 0 (66)) 1 (79)) 2 (79)) 3 (84)) y_)))), (aQ, .inl (cA 0, 4, .inl (fun y_ => iI (nm y_)))), (aK, .inl (cA 0, 200, .inl (fun y_ => iI (kk y_)))), (aO, .inl (cA 0, 200, .inl (fun y_ => iI (oo y_)))), (aA, .inl (cA 0, 24, .inl (fun y_ => iI (ar y_))))]) C0 S (C := RX10) (T := TX10) (N := 26) (ci := 10) (by decide +kernel) tyX10 tyX10_ok nmX10 0 rfl rfl 14 (by decide) (by decide +kernel) rfl (v := .int (iI (4))) rfl rfl (Nat.le_of_ble_eq_true rfl) dX10_settings_34 rfl (fun H locs S => ?_)
  have hpx2 : By (va_up (va_up (va_up (va_up px 0 (66)) 1 (79)) 2 (79)) 3 (84)) := By_up (By_up (By_up (By_up hpx (by decide) (by decide)) (by decide) (by decide)) (by decide) (by decide)) (by decide) (by decide)
  refine lv_aload_n C0.1 C0.2.1 dX10_settings_37 rfl (lv_at hl 0 rfl) ?_
  refine k_calli (n := 0) (wr := [(aK, .inl (cA 0, 200, .inl (fun y_ => iI (kk y_)))), (aO, .inl (cA 0, 200, .inl (fun y_ => iI (oo y_)))), (aA, .inl (cA 0, 24, .inl (fun y_ => iI (ar y_))))]) C0 S (c_X10_find l D cA hM aD aM aX aP aQ aK aO aA a1 a2 a3 (st) (tl) (4) (nc) (kl) (ol) (al) d (va_up (va_up (va_up (va_up px 0 (66)) 1 (79)) 2 (79)) 3 (84)) nm hd hB2 hpx2 (by omega) (by omega)) gX10_settings_X10_find rfl ⟨rfl, rfl⟩ (by decide +kernel) ⟨Nat.le_of_ble_eq_true rfl, Nat.le_of_ble_eq_true rfl⟩ [0, 1, 2, 3] [4, 5, 6] rfl rfl rfl rfl (by decide) (ci := 10) (q0 := 0) rfl rfl (As := []) rfl hl.1 rfl (Nat.le_of_ble_eq_true rfl) dX10_settings_38 ⟨Nat.zero_le _, Nat.zero_le _⟩ (fun r u H locs hp S => ?_)
  obtain ⟨nq1, nm2, rfl, rfl, hfr1, hfr2⟩ := hp
  have S := S.sub (ws' := [(hM, .inr (10, [.ref aD, .ref aM, .int (iI (st)), .int (iI (chs d)), .int (iI (gTA d)), .int (iI (gT d)), .int (iI (gTS d)), .int (iI (gCS d)), .int (iI (gCA d)), .int (iI (gN d)), .int (iI (gRoot d)), .ref aX, .int (iI (tl)), .ref aP, .int (iI (4)), .ref aQ, .int (iI (nq1)), .ref aK, .ref aO, .ref aA, .int (iI (kl)), .int (iI (ol)), .int (iI (al)), .ref a1, .ref a2, .ref a3])), (aD, .inl (cA 0, 2048, .inl (fun y_ => iI (d y_)))), (aP, .inl (cA 0, 200, .inl (fun y_ => iI ((va_up (va_up (va_up (va_up px 0 (66)) 1 (79)) 2 (79)) 3 (84)) y_)))), (aQ, .inl (cA 0, 4, .inl (fun y_ => iI (nm2 y_)))), (aK, .inl (cA 0, 200, .inl (fun y_ => iI (kk y_)))), (aO, .inl (cA 0, 200, .inl (fun y_ => iI (oo y_)))), (aA, .inl (cA 0, 24, .inl (fun y_ => iI (ar y_))))]) [3, 4, 5, 6, 0, 1, 2] rfl rfl
  have hpb : psr _ 4 = some (1, bkey) := psr_boot (px := (va_up (va_up (va_up (va_up px 0 (66)) 1 (79)) 2 (79)) 3 (84))) rfl rfl rfl rfl
  have hfm := fnM_some (d := d) hpb
  have hfm : fnM d (va_up (va_up (va_up (va_up px 0 (66)) 1 (79)) 2 (79)) 3 (84)) (Int.toNat 4) = fnd d bkey 1 := hfm
  rw [hfm] at hfr1 hfr2 ⊢
  refine lv_istore_n (lv' := [(1, .int (iI (fnd d bkey 1))), (0, .ref hM)]) C0.1 C0.2.1 dX10_settings_41 rfl hl (by decide) rfl (fun ls hl => ?_)
  refine lv_iload_n C0.1 C0.2.1 dX10_settings_42 rfl (lv_at hl 0 rfl) ?_
  refine k_if_ge (tgt := 48) C0 (by constructor <;> omega) dX10_settings_43 (by decide) (fun c43 => ?_) (fun c43 => ?_)
  · refine lv_aload_n C0.1 C0.2.1 dX10_settings_48 rfl (lv_at hl 1 rfl) ?_
    refine lv_iload_n C0.1 C0.2.1 dX10_settings_49 rfl (lv_at hl 0 rfl) ?_
    refine k_calli (n := 1) (wr := [(aP, .inl (cA 0, 200, .inl (fun y_ => iI ((va_up (va_up (va_up (va_up px 0 (66)) 1 (79)) 2 (79)) 3 (84)) y_)))), (aQ, .inl (cA 0, 4, .inl (fun y_ => iI (nm2 y_)))), (aK, .inl (cA 0, 200, .inl (fun y_ => iI (kk y_)))), (aO, .inl (cA 0, 200, .inl (fun y_ => iI (oo y_)))), (aA, .inl (cA 0, 24, .inl (fun y_ => iI (ar y_))))]) C0 S (c_X10_isDirectory l D cA hM aD aM aX aP aQ aK aO aA a1 a2 a3 (st) (chs d) (gTA d) (gT d) (gTS d) (gCS d) (gCA d) (gN d) (gRoot d) (tl) (4) (nq1) (kl) (ol) (al) d (fnd d bkey 1) hd (by omega) (by omega)) gX10_settings_X10_isDirectory rfl ⟨rfl, rfl⟩ (by decide +kernel) ⟨Nat.le_of_ble_eq_true rfl, Nat.le_of_ble_eq_true rfl⟩ [0, 1] [2, 3, 4, 5, 6] rfl rfl rfl rfl (by decide) (ci := 10) (q0 := 0) rfl rfl (As := [.int (iI (fnd d bkey 1))]) rfl hl.1 rfl (Nat.le_of_ble_eq_true rfl) dX10_settings_50 ⟨Nat.zero_le _, Nat.zero_le _⟩ (fun r u H locs hp S => ?_)
    obtain ⟨rfl, rfl⟩ := hp
    have S := S.sub (ws' := [(hM, .inr (10, [.ref aD, .ref aM, .int (iI (st)), .int (iI (chs d)), .int (iI (gTA d)), .int (iI (gT d)), .int (iI (gTS d)), .int (iI (gCS d)), .int (iI (gCA d)), .int (iI (gN d)), .int (iI (gRoot d)), .ref aX, .int (iI (tl)), .ref aP, .int (iI (4)), .ref aQ, .int (iI (nq1)), .ref aK, .ref aO, .ref aA, .int (iI (kl)), .int (iI (ol)), .int (iI (al)), .ref a1, .ref a2, .ref a3])), (aD, .inl (cA 0, 2048, .inl (fun y_ => iI (d y_)))), (aP, .inl (cA 0, 200, .inl (fun y_ => iI ((va_up (va_up (va_up (va_up px 0 (66)) 1 (79)) 2 (79)) 3 (84)) y_)))), (aQ, .inl (cA 0, 4, .inl (fun y_ => iI (nm2 y_)))), (aK, .inl (cA 0, 200, .inl (fun y_ => iI (kk y_)))), (aO, .inl (cA 0, 200, .inl (fun y_ => iI (oo y_)))), (aA, .inl (cA 0, 24, .inl (fun y_ => iI (ar y_))))]) [5, 6, 0, 1, 2, 3, 4] rfl rfl
    refine k_bz_eq (tgt := 59) C0 dX10_settings_53 (by decide) (fun c53 => ?_) (fun c53 => ?_)
    · have hbd : bAd d = fnd d bkey 1 := fil_no (by rintro ⟨h1, h2⟩; exact c53 h2)
      rw [← hbd] at hl hfr1 hfr2
      have hon := opn_neg (a := bAd d) hd
      have hge : 0 ≤ bAd d := by omega
      refine lv_aload_n C0.1 C0.2.1 dX10_settings_59 rfl (lv_at hl 1 rfl) ?_
      refine lv_iload_n C0.1 C0.2.1 dX10_settings_60 rfl (lv_at hl 0 rfl) ?_
      refine k_calli (n := 1) (wr := [(aP, .inl (cA 0, 200, .inl (fun y_ => iI ((va_up (va_up (va_up (va_up px 0 (66)) 1 (79)) 2 (79)) 3 (84)) y_)))), (aQ, .inl (cA 0, 4, .inl (fun y_ => iI (nm2 y_)))), (aK, .inl (cA 0, 200, .inl (fun y_ => iI (kk y_)))), (aO, .inl (cA 0, 200, .inl (fun y_ => iI (oo y_)))), (aA, .inl (cA 0, 24, .inl (fun y_ => iI (ar y_))))]) C0 S (c_X10_isBroken l D cA hM aD aM aX aP aQ aK aO aA a1 a2 a3 (st) (tl) (4) (nq1) (kl) (ol) (al) d (bAd d) hd hB2 (by omega) (by omega)) gX10_settings_X10_isBroken rfl ⟨rfl, rfl⟩ (by decide +kernel) ⟨Nat.le_of_ble_eq_true rfl, Nat.le_of_ble_eq_true rfl⟩ [0, 1] [2, 3, 4, 5, 6] rfl rfl rfl rfl (by decide) (ci := 10) (q0 := 0) rfl rfl (As := [.int (iI (bAd d))]) rfl hl.1 rfl (Nat.le_of_ble_eq_true rfl) dX10_settings_61 ⟨Nat.zero_le _, Nat.zero_le _⟩ (fun r u H locs hp S => ?_)
      obtain ⟨rfl, rfl⟩ := hp
      have S := S.sub (ws' := [(hM, .inr (10, [.ref aD, .ref aM, .int (iI (st)), .int (iI (chs d)), .int (iI (gTA d)), .int (iI (gT d)), .int (iI (gTS d)), .int (iI (gCS d)), .int (iI (gCA d)), .int (iI (gN d)), .int (iI (gRoot d)), .ref aX, .int (iI (tl)), .ref aP, .int (iI (4)), .ref aQ, .int (iI (nq1)), .ref aK, .ref aO, .ref aA, .int (iI (kl)), .int (iI (ol)), .int (iI (al)), .ref a1, .ref a2, .ref a3])), (aD, .inl (cA 0, 2048, .inl (fun y_ => iI (d y_)))), (aP, .inl (cA 0, 200, .inl (fun y_ => iI ((va_up (va_up (va_up (va_up px 0 (66)) 1 (79)) 2 (79)) 3 (84)) y_)))), (aQ, .inl (cA 0, 4, .inl (fun y_ => iI (nm2 y_)))), (aK, .inl (cA 0, 200, .inl (fun y_ => iI (kk y_)))), (aO, .inl (cA 0, 200, .inl (fun y_ => iI (oo y_)))), (aA, .inl (cA 0, 24, .inl (fun y_ => iI (ar y_))))]) [5, 6, 0, 1, 2, 3, 4] rfl rfl
      refine k_bz_eq (tgt := 70) C0 dX10_settings_64 (by decide) (fun c64 => ?_) (fun c64 => ?_)
      · refine lv_aload_n C0.1 C0.2.1 dX10_settings_70 rfl (lv_at hl 1 rfl) ?_
        refine lv_iload_n C0.1 C0.2.1 dX10_settings_71 rfl (lv_at hl 0 rfl) ?_
        refine k_calli (n := 1) (wr := [(aP, .inl (cA 0, 200, .inl (fun y_ => iI ((va_up (va_up (va_up (va_up px 0 (66)) 1 (79)) 2 (79)) 3 (84)) y_)))), (aQ, .inl (cA 0, 4, .inl (fun y_ => iI (nm2 y_)))), (aK, .inl (cA 0, 200, .inl (fun y_ => iI (kk y_)))), (aO, .inl (cA 0, 200, .inl (fun y_ => iI (oo y_)))), (aA, .inl (cA 0, 24, .inl (fun y_ => iI (ar y_))))]) C0 S (c_X10_sizeAt l D cA hM aD aM aX aP aQ aK aO aA a1 a2 a3 (st) (chs d) (gTA d) (gT d) (gTS d) (gCS d) (gCA d) (gN d) (gRoot d) (tl) (4) (nq1) (kl) (ol) (al) d (bAd d) hd (by omega) (by omega)) gX10_settings_X10_sizeAt rfl ⟨rfl, rfl⟩ (by decide +kernel) ⟨Nat.le_of_ble_eq_true rfl, Nat.le_of_ble_eq_true rfl⟩ [0, 1] [2, 3, 4, 5, 6] rfl rfl rfl rfl (by decide) (ci := 10) (q0 := 0) rfl rfl (As := [.int (iI (bAd d))]) rfl hl.1 rfl (Nat.le_of_ble_eq_true rfl) dX10_settings_72 ⟨Nat.zero_le _, Nat.zero_le _⟩ (fun r u H locs hp S => ?_)
        obtain ⟨rfl, rfl⟩ := hp
        have S := S.sub (ws' := [(hM, .inr (10, [.ref aD, .ref aM, .int (iI (st)), .int (iI (chs d)), .int (iI (gTA d)), .int (iI (gT d)), .int (iI (gTS d)), .int (iI (gCS d)), .int (iI (gCA d)), .int (iI (gN d)), .int (iI (gRoot d)), .ref aX, .int (iI (tl)), .ref aP, .int (iI (4)), .ref aQ, .int (iI (nq1)), .ref aK, .ref aO, .ref aA, .int (iI (kl)), .int (iI (ol)), .int (iI (al)), .ref a1, .ref a2, .ref a3])), (aD, .inl (cA 0, 2048, .inl (fun y_ => iI (d y_)))), (aP, .inl (cA 0, 200, .inl (fun y_ => iI ((va_up (va_up (va_up (va_up px 0 (66)) 1 (79)) 2 (79)) 3 (84)) y_)))), (aQ, .inl (cA 0, 4, .inl (fun y_ => iI (nm2 y_)))), (aK, .inl (cA 0, 200, .inl (fun y_ => iI (kk y_)))), (aO, .inl (cA 0, 200, .inl (fun y_ => iI (oo y_)))), (aA, .inl (cA 0, 24, .inl (fun y_ => iI (ar y_))))]) [5, 6, 0, 1, 2, 3, 4] rfl rfl
        have hb9 := By_wrd hd ((bAd d) + 6)
        refine lv_istore_n (lv' := [(2, .int (iI (wrd d ((bAd d) + 6)))), (1, .int (iI (bAd d))), (0, .ref hM)]) C0.1 C0.2.1 dX10_settings_75 rfl hl (by decide) rfl (fun ls hl => ?_)
        have hol : opn d (bAd d) = wrd d (bAd d + 6) := hon.2.2.2 (by omega)
        have hopp : 0 < wrd d (bAd d + 6) → _ := fun h => opn_pos (show 0 < opn d (bAd d) by omega)
        refine lv_aload_n C0.1 C0.2.1 dX10_settings_76 rfl (lv_at hl 2 rfl) ?_
        refine lv_iconst (v := iI (-1)) C0.1 C0.2.1 dX10_settings_77 rfl ?_
        refine k_put (ws' := [(hM, .inr (10, [.ref aD, .ref aM, .int (iI (st)), .int (iI (chs d)), .int (iI (gTA d)), .int (iI (gT d)), .int (iI (gTS d)), .int (iI (gCS d)), .int (iI (gCA d)), .int (iI (gN d)), .int (iI (gRoot d)), .ref aX, .int (iI (tl)), .ref aP, .int (iI (4)), .ref aQ, .int (iI (nq1)), .ref aK, .ref aO, .ref aA, .int (iI (-1)), .int (iI (ol)), .int (iI (al)), .ref a1, .ref a2, .ref a3])), (aD, .inl (cA 0, 2048, .inl (fun y_ => iI (d y_)))), (aP, .inl (cA 0, 200, .inl (fun y_ => iI ((va_up (va_up (va_up (va_up px 0 (66)) 1 (79)) 2 (79)) 3 (84)) y_)))), (aQ, .inl (cA 0, 4, .inl (fun y_ => iI (nm2 y_)))), (aK, .inl (cA 0, 200, .inl (fun y_ => iI (kk y_)))), (aO, .inl (cA 0, 200, .inl (fun y_ => iI (oo y_)))), (aA, .inl (cA 0, 24, .inl (fun y_ => iI (ar y_))))]) C0 S (C := RX10) (T := TX10) (N := 26) (ci := 10) (by decide +kernel) tyX10 tyX10_ok nmX10 0 rfl rfl 20 (by decide) (by decide +kernel) rfl (v := .int (iI (-1))) rfl rfl (Nat.le_of_ble_eq_true rfl) dX10_settings_78 rfl (fun H locs S => ?_)
        refine lv_aload_n C0.1 C0.2.1 dX10_settings_81 rfl (lv_at hl 2 rfl) ?_
        refine lv_iconst (v := iI (-1)) C0.1 C0.2.1 dX10_settings_82 rfl ?_
        refine k_put (ws' := [(hM, .inr (10, [.ref aD, .ref aM, .int (iI (st)), .int (iI (chs d)), .int (iI (gTA d)), .int (iI (gT d)), .int (iI (gTS d)), .int (iI (gCS d)), .int (iI (gCA d)), .int (iI (gN d)), .int (iI (gRoot d)), .ref aX, .int (iI (tl)), .ref aP, .int (iI (4)), .ref aQ, .int (iI (nq1)), .ref aK, .ref aO, .ref aA, .int (iI (-1)), .int (iI (-1)), .int (iI (al)), .ref a1, .ref a2, .ref a3])), (aD, .inl (cA 0, 2048, .inl (fun y_ => iI (d y_)))), (aP, .inl (cA 0, 200, .inl (fun y_ => iI ((va_up (va_up (va_up (va_up px 0 (66)) 1 (79)) 2 (79)) 3 (84)) y_)))), (aQ, .inl (cA 0, 4, .inl (fun y_ => iI (nm2 y_)))), (aK, .inl (cA 0, 200, .inl (fun y_ => iI (kk y_)))), (aO, .inl (cA 0, 200, .inl (fun y_ => iI (oo y_)))), (aA, .inl (cA 0, 24, .inl (fun y_ => iI (ar y_))))]) C0 S (C := RX10) (T := TX10) (N := 26) (ci := 10) (by decide +kernel) tyX10 tyX10_ok nmX10 0 rfl rfl 21 (by decide) (by decide +kernel) rfl (v := .int (iI (-1))) rfl rfl (Nat.le_of_ble_eq_true rfl) dX10_settings_83 rfl (fun H locs S => ?_)
        refine lv_aload_n C0.1 C0.2.1 dX10_settings_86 rfl (lv_at hl 2 rfl) ?_
        refine lv_iconst (v := iI (-1)) C0.1 C0.2.1 dX10_settings_87 rfl ?_
        refine k_put (ws' := [(hM, .inr (10, [.ref aD, .ref aM, .int (iI (st)), .int (iI (chs d)), .int (iI (gTA d)), .int (iI (gT d)), .int (iI (gTS d)), .int (iI (gCS d)), .int (iI (gCA d)), .int (iI (gN d)), .int (iI (gRoot d)), .ref aX, .int (iI (tl)), .ref aP, .int (iI (4)), .ref aQ, .int (iI (nq1)), .ref aK, .ref aO, .ref aA, .int (iI (-1)), .int (iI (-1)), .int (iI (-1)), .ref a1, .ref a2, .ref a3])), (aD, .inl (cA 0, 2048, .inl (fun y_ => iI (d y_)))), (aP, .inl (cA 0, 200, .inl (fun y_ => iI ((va_up (va_up (va_up (va_up px 0 (66)) 1 (79)) 2 (79)) 3 (84)) y_)))), (aQ, .inl (cA 0, 4, .inl (fun y_ => iI (nm2 y_)))), (aK, .inl (cA 0, 200, .inl (fun y_ => iI (kk y_)))), (aO, .inl (cA 0, 200, .inl (fun y_ => iI (oo y_)))), (aA, .inl (cA 0, 24, .inl (fun y_ => iI (ar y_))))]) C0 S (C := RX10) (T := TX10) (N := 26) (ci := 10) (by decide +kernel) tyX10 tyX10_ok nmX10 0 rfl rfl 22 (by decide) (by decide +kernel) rfl (v := .int (iI (-1))) rfl rfl (Nat.le_of_ble_eq_true rfl) dX10_settings_88 rfl (fun H locs S => ?_)
        refine lv_iload_n C0.1 C0.2.1 dX10_settings_91 rfl (lv_at hl 0 rfl) ?_
        refine lv_sipush (v := iI (200)) C0.1 C0.2.1 dX10_settings_92 (by decide) ?_
        refine k_icmp_le (tgt := 101) C0 (by constructor <;> omega) ⟨by decide, by decide⟩ dX10_settings_95 (by decide) (fun c95 => ?_) (fun c95 => ?_)
        · refine lv_iconst (v := iI (0)) C0.1 C0.2.1 dX10_settings_101 rfl ?_
          refine lv_istore_n (lv' := [(3, .int (iI (0))), (2, .int (iI (wrd d ((bAd d) + 6)))), (1, .int (iI (bAd d))), (0, .ref hM)]) C0.1 C0.2.1 dX10_settings_102 rfl hl (by decide) rfl (fun ls hl => ?_)
          refine lv_iconst (v := iI (0)) C0.1 C0.2.1 dX10_settings_103 rfl ?_
          refine lv_istore (lv' := [(4, .int (iI (0))), (3, .int (iI (0))), (2, .int (iI (wrd d ((bAd d) + 6)))), (1, .int (iI (bAd d))), (0, .ref hM)]) C0.1 C0.2.1 dX10_settings_104 hl (by decide) rfl (fun ls hl => ?_)
          have L106 : ∀ (n_ : Nat) (x : Int) (fr : Int) (S0 : SS) (kq : Int) (oq : Int) (aq : Int) (kx : Nat → Int) (ox : Nat → Int) (ax : Nat → Int), (0 ≤ x ∧ x ≤ wrd d (bAd d + 6) + 1) → (0 ≤ fr ∧ fr ≤ x) → (bSt d = stF (ctn d (rd d (bAd d + 5))) (wrd d (bAd d + 6)) ((wrd d (bAd d + 6)) + 1 - x).toNat x fr S0) → (AR3 kx ox ax kq oq aq (ctn d (rd d (bAd d + 5))) S0) → (By kx ∧ By ox ∧ By ax) → (SB S0 (wrd d (bAd d + 6))) → (((wrd d (bAd d + 6)) + 1 - x).toNat < n_) → ∀ (H : Heap) (locs : List Loc), kS D vwCl (kTys cA) A s [(hM, .inr (10, [.ref aD, .ref aM, .int (iI (st)), .int (iI (chs d)), .int (iI (gTA d)), .int (iI (gT d)), .int (iI (gTS d)), .int (iI (gCS d)), .int (iI (gCA d)), .int (iI (gN d)), .int (iI (gRoot d)), .ref aX, .int (iI (tl)), .ref aP, .int (iI (4)), .ref aQ, .int (iI (nq1)), .ref aK, .ref aO, .ref aA, .int (iI (kq)), .int (iI (oq)), .int (iI (aq)), .ref a1, .ref a2, .ref a3])), (aD, .inl (cA 0, 2048, .inl (fun y_ => iI (d y_)))), (aP, .inl (cA 0, 200, .inl (fun y_ => iI ((va_up (va_up (va_up (va_up px 0 (66)) 1 (79)) 2 (79)) 3 (84)) y_)))), (aQ, .inl (cA 0, 4, .inl (fun y_ => iI (nm2 y_)))), (aK, .inl (cA 0, 200, .inl (fun y_ => iI (kx y_)))), (aO, .inl (cA 0, 200, .inl (fun y_ => iI (ox y_)))), (aA, .inl (cA 0, 24, .inl (fun y_ => iI (ax y_))))] H locs → ∀ ls : Array Slot, lv_has ls 6 [(4, .int (iI (x))), (3, .int (iI (fr))), (2, .int (iI (wrd d (bAd d + 6)))), (1, .int (iI (bAd d))), (0, .ref hM)] → W p l e rmX10_settings s m args below meth c H locs 0 0 Q (F0 m 106 ls []) := by
            intro n_
            induction n_ with
            | zero => intro x fr S0 kq oq aq kx ox ax hi106_0 hi106_1 hi106_2 hi106_3 hi106_4 hi106_5 hm; exact absurd hm (Nat.not_lt_zero _)
            | succ n_ ih106 =>
              intro x fr S0 kq oq aq kx ox ax hi106_0 hi106_1 hi106_2 hi106_3 hi106_4 hi106_5 hm H locs S ls hl
              refine lv_iload C0.1 C0.2.1 dX10_settings_106 (lv_at hl 0 rfl) ?_
              refine lv_iload_n C0.1 C0.2.1 dX10_settings_108 rfl (lv_at hl 2 rfl) ?_
              refine k_icmp_gt (tgt := 176) C0 (by constructor <;> omega) (by constructor <;> omega) dX10_settings_109 (by decide) (fun c109 => ?_) (fun c109 => ?_)
              · refine lv_aload_n C0.1 C0.2.1 dX10_settings_176 rfl (lv_at hl 4 rfl) ?_
                refine k_get C0 S (C := RX10) (T := TX10) (N := 26) (ci := 10) (by decide +kernel) 0 rfl rfl 20 (by decide) (by decide +kernel) (v := .int (iI (kq))) rfl dX10_settings_177 ?_
                have hkq : -1 ≤ kq ∧ kq ≤ 200 := by have h1 := hi106_3.1.1; have h2 := hi106_5.1; omega
                refine k_if_ge (tgt := 188) C0 (by constructor <;> omega) dX10_settings_180 (by decide) (fun c180 => ?_) (fun c180 => ?_)
                · refine lv_iconst (v := iI (0)) C0.1 C0.2.1 dX10_settings_188 rfl ?_
                  subst hQ
                  refine k_iret C0 S hAe hsz hr hlk dX10_settings_189 ?_
                  have hsome : bSt d = some S0 := by rw [hi106_2, show (wrd d (bAd d + 6) + 1 - x).toNat = 0 by omega]; exact stF_end (by have := hi106_3.1.1; omega)
                  have hq : stC d = _ := stC_4 (by omega) (by omega) (by rw [hsome]; exact fun h => by cases h)
                  exact ⟨_, _, _, _, _, _, _, _, _, _, congrArg iI hq.symm, rfl, by omega, (fun _ => ⟨S0, hsome⟩), (fun S h _ => by rw [hsome] at h; cases h; rw [hol]; exact ⟨hi106_3, hi106_5⟩), ⟨hpx2, hi106_4⟩⟩
                · refine lv_bipush (v := iI (-10)) C0.1 C0.2.1 dX10_settings_183 (by decide) ?_
                  refine lv_goto (tgt := 189) C0.1 C0.2.1 dX10_settings_185 (by decide) ?_
                  subst hQ
                  refine k_iret C0 S hAe hsz hr hlk dX10_settings_189 ?_
                  have hnone : bSt d = none := by rw [hi106_2, show (wrd d (bAd d + 6) + 1 - x).toNat = 0 by omega]; exact stF_end_no (by have := hi106_3.1.1; omega)
                  have hq : stC d = _ := stC_3 (by omega) (by omega) hnone
                  exact ⟨_, _, _, _, _, _, _, _, _, _, congrArg iI hq.symm, rfl, by omega, fun h => absurd h (by omega), fun S h h2 => absurd h2 (by omega), ⟨hpx2, hi106_4⟩⟩
              · refine lv_iload C0.1 C0.2.1 dX10_settings_112 (lv_at hl 0 rfl) ?_
                refine lv_iload_n C0.1 C0.2.1 dX10_settings_114 rfl (lv_at hl 2 rfl) ?_
                refine k_icmp_eq (tgt := 130) C0 (by constructor <;> omega) (by constructor <;> omega) dX10_settings_115 (by decide) (fun c115 => ?_) (fun c115 => ?_)
                · refine lv_iconst (v := iI (1)) C0.1 C0.2.1 dX10_settings_130 rfl ?_
                  refine lv_goto (tgt := 135) C0.1 C0.2.1 dX10_settings_131 (by decide) ?_
                  refine lv_istore (lv' := [(5, .int (iI (1))), (4, .int (iI (x))), (3, .int (iI (fr))), (2, .int (iI (wrd d (bAd d + 6)))), (1, .int (iI (bAd d))), (0, .ref hM)]) C0.1 C0.2.1 dX10_settings_135 hl (by decide) rfl (fun ls hl => ?_)
                  refine lv_iload C0.1 C0.2.1 dX10_settings_137 (lv_at hl 0 rfl) ?_
                  refine k_if_eq (tgt := 156) C0 ⟨by decide, by decide⟩ dX10_settings_139 (by decide) (fun hc => absurd hc (by decide)) (fun _ => ?_)
                  refine lv_aload_n C0.1 C0.2.1 dX10_settings_142 rfl (lv_at hl 5 rfl) ?_
                  refine lv_iload_n C0.1 C0.2.1 dX10_settings_143 rfl (lv_at hl 4 rfl) ?_
                  refine lv_iload_n C0.1 C0.2.1 dX10_settings_144 rfl (lv_at hl 2 rfl) ?_
                  refine lv_iload C0.1 C0.2.1 dX10_settings_145 (lv_at hl 1 rfl) ?_
                  refine k_calli (n := 3) (wr := [(aP, .inl (cA 0, 200, .inl (fun y_ => iI ((va_up (va_up (va_up (va_up px 0 (66)) 1 (79)) 2 (79)) 3 (84)) y_)))), (aQ, .inl (cA 0, 4, .inl (fun y_ => iI (nm2 y_))))]) C0 S (c_X10_line l D cA hM aD aM aX aP aQ aK aO aA a1 a2 a3 (st) (tl) (4) (nq1) (kq) (oq) (aq) d kx ox ax (bAd d) (fr) (x) hd hB2 hi106_4.1 hi106_4.2.1 hi106_4.2.2 (by omega) (by omega) (by omega) (by omega) (by omega) (fun h => ⟨(hopp (by omega)).2.1, by have := (hopp (by omega)).2.2; omega⟩)) gX10_settings_X10_line rfl ⟨rfl, rfl⟩ (by decide +kernel) ⟨Nat.le_of_ble_eq_true rfl, Nat.le_of_ble_eq_true rfl⟩ [0, 1, 4, 5, 6] [2, 3] rfl rfl rfl rfl (by decide) (ci := 10) (q0 := 0) rfl rfl (As := [.int (iI (bAd d)), .int (iI (fr)), .int (iI (x))]) rfl hl.1 rfl (Nat.le_of_ble_eq_true rfl) dX10_settings_147 ⟨Nat.zero_le _, Nat.zero_le _⟩ (fun r u H locs hp S => ?_)
                  obtain ⟨l10, l11, l12, f13, f14, f15, rfl, rfl, hlnS, hbk⟩ := hp
                  have S := S.sub (ws' := [(hM, .inr (10, [.ref aD, .ref aM, .int (iI (st)), .int (iI (chs d)), .int (iI (gTA d)), .int (iI (gT d)), .int (iI (gTS d)), .int (iI (gCS d)), .int (iI (gCA d)), .int (iI (gN d)), .int (iI (gRoot d)), .ref aX, .int (iI (tl)), .ref aP, .int (iI (4)), .ref aQ, .int (iI (nq1)), .ref aK, .ref aO, .ref aA, .int (iI (l10)), .int (iI (l11)), .int (iI (l12)), .ref a1, .ref a2, .ref a3])), (aD, .inl (cA 0, 2048, .inl (fun y_ => iI (d y_)))), (aP, .inl (cA 0, 200, .inl (fun y_ => iI ((va_up (va_up (va_up (va_up px 0 (66)) 1 (79)) 2 (79)) 3 (84)) y_)))), (aQ, .inl (cA 0, 4, .inl (fun y_ => iI (nm2 y_)))), (aK, .inl (cA 0, 200, .inl (fun y_ => iI (f13 y_)))), (aO, .inl (cA 0, 200, .inl (fun y_ => iI (f14 y_)))), (aA, .inl (cA 0, 24, .inl (fun y_ => iI (f15 y_))))]) [2, 3, 0, 1, 4, 5, 6] rfl rfl
                  refine k_bz_ne (tgt := 156) C0 dX10_settings_150 (by decide) (fun c150 => ?_) (fun c150 => ?_)
                  · refine lv_iload C0.1 C0.2.1 dX10_settings_156 (lv_at hl 0 rfl) ?_
                    refine k_if_eq (tgt := 168) C0 ⟨by decide, by decide⟩ dX10_settings_158 (by decide) (fun hc => absurd hc (by decide)) (fun _ => ?_)
                    refine lv_iload C0.1 C0.2.1 dX10_settings_161 (lv_at hl 1 rfl) ?_
                    refine lv_iconst (v := iI (1)) C0.1 C0.2.1 dX10_settings_163 rfl ?_
                    refine k_iadd C0 dX10_settings_164 ?_
                    refine lv_goto (tgt := 169) C0.1 C0.2.1 dX10_settings_165 (by decide) ?_
                    refine lv_istore_n (lv' := [(3, .int (iI (x + 1))), (5, .int (iI (1))), (4, .int (iI (x))), (2, .int (iI (wrd d (bAd d + 6)))), (1, .int (iI (bAd d))), (0, .ref hM)]) C0.1 C0.2.1 dX10_settings_169 rfl hl (by decide) rfl (fun ls hl => ?_)
                    refine lv_iinc (v := iI (x + 1)) (lv' := [(4, .int (iI (x + 1))), (3, .int (iI (x + 1))), (5, .int (iI (1))), (2, .int (iI (wrd d (bAd d + 6)))), (1, .int (iI (bAd d))), (0, .ref hM)]) C0.1 C0.2.1 dX10_settings_170 hl (k := 2) rfl (iI_add _ _) (by decide) rfl (fun ls hl => ?_)
                    refine lv_goto (tgt := 106) C0.1 C0.2.1 dX10_settings_173 (by decide) ?_
                    have hq : bSt d = stF (ctn d (rd d (bAd d + 5))) (wrd d (bAd d + 6)) ((wrd d (bAd d + 6)) + 1 - (x + 1)).toNat (x + 1) (x + 1) (lnS (ctn d (rd d (bAd d + 5))) fr x S0) := by rw [hi106_2]; rw [show (wrd d (bAd d + 6) + 1 - x).toNat = (wrd d (bAd d + 6) + 1 - (x + 1)).toNat + 1 by omega]; exact stF_line (Or.inl c115) c150
                    have hv2 := hlnS S0 hi106_3 c150
                    have hv4 := hbk
                    have hv5 := SB_ln (len := wrd d (bAd d + 6)) hi106_5 (by omega) (by omega) c150
                    exact ih106 (x + 1) (x + 1) (lnS (ctn d (rd d (bAd d + 5))) fr x S0) (l10) (l11) (l12) (f13) (f14) (f15) ⟨by omega, by omega⟩ ⟨by omega, by omega⟩ hq hv2 hv4 hv5 (by omega) _ _ S _ (lv_sub hl [0, 1, 3, 4, 5] rfl)
                  · refine lv_bipush (v := iI (-10)) C0.1 C0.2.1 dX10_settings_153 (by decide) ?_
                    subst hQ
                    refine k_iret C0 S hAe hsz hr hlk dX10_settings_155 ?_
                    have hnone : bSt d = none := by rw [hi106_2]; rw [show (wrd d (bAd d + 6) + 1 - x).toNat = (wrd d (bAd d + 6) + 1 - (x + 1)).toNat + 1 by omega]; exact stF_bad (Or.inl c115) c150
                    have hq : stC d = _ := stC_3 (by omega) (by omega) hnone
                    exact ⟨_, _, _, _, _, _, _, _, _, _, congrArg iI hq.symm, rfl, by omega, fun h => absurd h (by omega), fun S h h2 => absurd h2 (by omega), ⟨hpx2, hbk⟩⟩
                · have hcn := (hopp (by omega)).2.1
                  have hlc := (hopp (by omega)).2.2
                  refine lv_aload_n C0.1 C0.2.1 dX10_settings_118 rfl (lv_at hl 4 rfl) ?_
                  refine lv_iload_n C0.1 C0.2.1 dX10_settings_119 rfl (lv_at hl 3 rfl) ?_
                  refine lv_iload C0.1 C0.2.1 dX10_settings_120 (lv_at hl 0 rfl) ?_
                  refine k_calli (n := 2) (wr := [(aP, .inl (cA 0, 200, .inl (fun y_ => iI ((va_up (va_up (va_up (va_up px 0 (66)) 1 (79)) 2 (79)) 3 (84)) y_)))), (aQ, .inl (cA 0, 4, .inl (fun y_ => iI (nm2 y_)))), (aK, .inl (cA 0, 200, .inl (fun y_ => iI (kx y_)))), (aO, .inl (cA 0, 200, .inl (fun y_ => iI (ox y_)))), (aA, .inl (cA 0, 24, .inl (fun y_ => iI (ax y_))))]) C0 S (c_X10_byteOf l D cA hM aD aM aX aP aQ aK aO aA a1 a2 a3 (st) (tl) (4) (nq1) (kq) (oq) (aq) d (bAd d) (x) hd hB2 (by omega) (by omega) hcn (by omega) (by omega)) gX10_settings_X10_byteOf rfl ⟨rfl, rfl⟩ (by decide +kernel) ⟨Nat.le_of_ble_eq_true rfl, Nat.le_of_ble_eq_true rfl⟩ [0, 1] [2, 3, 4, 5, 6] rfl rfl rfl rfl (by decide) (ci := 10) (q0 := 0) rfl rfl (As := [.int (iI (bAd d)), .int (iI (x))]) rfl hl.1 rfl (Nat.le_of_ble_eq_true rfl) dX10_settings_122 ⟨Nat.zero_le _, Nat.zero_le _⟩ (fun r u H locs hp S => ?_)
                  obtain ⟨rfl, rfl⟩ := hp
                  have S := S.sub (ws' := [(hM, .inr (10, [.ref aD, .ref aM, .int (iI (st)), .int (iI (chs d)), .int (iI (gTA d)), .int (iI (gT d)), .int (iI (gTS d)), .int (iI (gCS d)), .int (iI (gCA d)), .int (iI (gN d)), .int (iI (gRoot d)), .ref aX, .int (iI (tl)), .ref aP, .int (iI (4)), .ref aQ, .int (iI (nq1)), .ref aK, .ref aO, .ref aA, .int (iI (kq)), .int (iI (oq)), .int (iI (aq)), .ref a1, .ref a2, .ref a3])), (aD, .inl (cA 0, 2048, .inl (fun y_ => iI (d y_)))), (aP, .inl (cA 0, 200, .inl (fun y_ => iI ((va_up (va_up (va_up (va_up px 0 (66)) 1 (79)) 2 (79)) 3 (84)) y_)))), (aQ, .inl (cA 0, 4, .inl (fun y_ => iI (nm2 y_)))), (aK, .inl (cA 0, 200, .inl (fun y_ => iI (kx y_)))), (aO, .inl (cA 0, 200, .inl (fun y_ => iI (ox y_)))), (aA, .inl (cA 0, 24, .inl (fun y_ => iI (ax y_))))]) [5, 6, 0, 1, 2, 3, 4] rfl rfl
                  have hb18 := By.rd hd (plc d (rd d ((bAd d) + 5)) (x))
                  refine k_topeq (v := iI (rd (ctn d (rd d (bAd d + 5))) x)) (congrArg iI (ctn_rd d _ (by omega)).symm) ?_
                  have hbx := (By_ctn hd (rd d (bAd d + 5))).rd x
                  refine lv_bipush (v := iI (10)) C0.1 C0.2.1 dX10_settings_125 (by decide) ?_
                  refine k_icmp_ne (tgt := 134) C0 (by constructor <;> omega) ⟨by decide, by decide⟩ dX10_settings_127 (by decide) (fun c127 => ?_) (fun c127 => ?_)
                  · refine lv_iconst (v := iI (0)) C0.1 C0.2.1 dX10_settings_134 rfl ?_
                    refine lv_istore (lv' := [(5, .int (iI (0))), (4, .int (iI (x))), (3, .int (iI (fr))), (2, .int (iI (wrd d (bAd d + 6)))), (1, .int (iI (bAd d))), (0, .ref hM)]) C0.1 C0.2.1 dX10_settings_135 hl (by decide) rfl (fun ls hl => ?_)
                    refine lv_iload C0.1 C0.2.1 dX10_settings_137 (lv_at hl 0 rfl) ?_
                    refine k_if_eq (tgt := 156) C0 ⟨by decide, by decide⟩ dX10_settings_139 (by decide) (fun _ => ?_) (fun hc => absurd hc (by decide))
                    refine lv_iload C0.1 C0.2.1 dX10_settings_156 (lv_at hl 0 rfl) ?_
                    refine k_if_eq (tgt := 168) C0 ⟨by decide, by decide⟩ dX10_settings_158 (by decide) (fun _ => ?_) (fun hc => absurd hc (by decide))
                    refine lv_iload_n C0.1 C0.2.1 dX10_settings_168 rfl (lv_at hl 2 rfl) ?_
                    refine lv_istore_n (lv' := [(3, .int (iI (fr))), (5, .int (iI (0))), (4, .int (iI (x))), (2, .int (iI (wrd d (bAd d + 6)))), (1, .int (iI (bAd d))), (0, .ref hM)]) C0.1 C0.2.1 dX10_settings_169 rfl hl (by decide) rfl (fun ls hl => ?_)
                    refine lv_iinc (v := iI (x + 1)) (lv' := [(4, .int (iI (x + 1))), (3, .int (iI (fr))), (5, .int (iI (0))), (2, .int (iI (wrd d (bAd d + 6)))), (1, .int (iI (bAd d))), (0, .ref hM)]) C0.1 C0.2.1 dX10_settings_170 hl (k := 2) rfl (iI_add _ _) (by decide) rfl (fun ls hl => ?_)
                    refine lv_goto (tgt := 106) C0.1 C0.2.1 dX10_settings_173 (by decide) ?_
                    have hq : bSt d = stF (ctn d (rd d (bAd d + 5))) (wrd d (bAd d + 6)) ((wrd d (bAd d + 6)) + 1 - (x + 1)).toNat (x + 1) fr S0 := by rw [hi106_2]; rw [show (wrd d (bAd d + 6) + 1 - x).toNat = (wrd d (bAd d + 6) + 1 - (x + 1)).toNat + 1 by omega]; exact stF_on (by rintro (h | h); exact c115 h; exact c127 h)
                    have hv2 := hi106_3
                    have hv4 := hi106_4
                    have hv5 := hi106_5
                    exact ih106 (x + 1) (fr) (S0) (kq) (oq) (aq) (kx) (ox) (ax) ⟨by omega, by omega⟩ ⟨by omega, by omega⟩ hq hv2 hv4 hv5 (by omega) _ _ S _ (lv_sub hl [0, 1, 3, 4, 5] rfl)
                  · refine lv_iconst (v := iI (1)) C0.1 C0.2.1 dX10_settings_130 rfl ?_
                    refine lv_goto (tgt := 135) C0.1 C0.2.1 dX10_settings_131 (by decide) ?_
                    refine lv_istore (lv' := [(5, .int (iI (1))), (4, .int (iI (x))), (3, .int (iI (fr))), (2, .int (iI (wrd d (bAd d + 6)))), (1, .int (iI (bAd d))), (0, .ref hM)]) C0.1 C0.2.1 dX10_settings_135 hl (by decide) rfl (fun ls hl => ?_)
                    refine lv_iload C0.1 C0.2.1 dX10_settings_137 (lv_at hl 0 rfl) ?_
                    refine k_if_eq (tgt := 156) C0 ⟨by decide, by decide⟩ dX10_settings_139 (by decide) (fun hc => absurd hc (by decide)) (fun _ => ?_)
                    refine lv_aload_n C0.1 C0.2.1 dX10_settings_142 rfl (lv_at hl 5 rfl) ?_
                    refine lv_iload_n C0.1 C0.2.1 dX10_settings_143 rfl (lv_at hl 4 rfl) ?_
                    refine lv_iload_n C0.1 C0.2.1 dX10_settings_144 rfl (lv_at hl 2 rfl) ?_
                    refine lv_iload C0.1 C0.2.1 dX10_settings_145 (lv_at hl 1 rfl) ?_
                    refine k_calli (n := 3) (wr := [(aP, .inl (cA 0, 200, .inl (fun y_ => iI ((va_up (va_up (va_up (va_up px 0 (66)) 1 (79)) 2 (79)) 3 (84)) y_)))), (aQ, .inl (cA 0, 4, .inl (fun y_ => iI (nm2 y_))))]) C0 S (c_X10_line l D cA hM aD aM aX aP aQ aK aO aA a1 a2 a3 (st) (tl) (4) (nq1) (kq) (oq) (aq) d kx ox ax (bAd d) (fr) (x) hd hB2 hi106_4.1 hi106_4.2.1 hi106_4.2.2 (by omega) (by omega) (by omega) (by omega) (by omega) (fun h => ⟨(hopp (by omega)).2.1, by have := (hopp (by omega)).2.2; omega⟩)) gX10_settings_X10_line rfl ⟨rfl, rfl⟩ (by decide +kernel) ⟨Nat.le_of_ble_eq_true rfl, Nat.le_of_ble_eq_true rfl⟩ [0, 1, 4, 5, 6] [2, 3] rfl rfl rfl rfl (by decide) (ci := 10) (q0 := 0) rfl rfl (As := [.int (iI (bAd d)), .int (iI (fr)), .int (iI (x))]) rfl hl.1 rfl (Nat.le_of_ble_eq_true rfl) dX10_settings_147 ⟨Nat.zero_le _, Nat.zero_le _⟩ (fun r u H locs hp S => ?_)
                    obtain ⟨l19, l20, l21, f22, f23, f24, rfl, rfl, hlnS, hbk⟩ := hp
                    have S := S.sub (ws' := [(hM, .inr (10, [.ref aD, .ref aM, .int (iI (st)), .int (iI (chs d)), .int (iI (gTA d)), .int (iI (gT d)), .int (iI (gTS d)), .int (iI (gCS d)), .int (iI (gCA d)), .int (iI (gN d)), .int (iI (gRoot d)), .ref aX, .int (iI (tl)), .ref aP, .int (iI (4)), .ref aQ, .int (iI (nq1)), .ref aK, .ref aO, .ref aA, .int (iI (l19)), .int (iI (l20)), .int (iI (l21)), .ref a1, .ref a2, .ref a3])), (aD, .inl (cA 0, 2048, .inl (fun y_ => iI (d y_)))), (aP, .inl (cA 0, 200, .inl (fun y_ => iI ((va_up (va_up (va_up (va_up px 0 (66)) 1 (79)) 2 (79)) 3 (84)) y_)))), (aQ, .inl (cA 0, 4, .inl (fun y_ => iI (nm2 y_)))), (aK, .inl (cA 0, 200, .inl (fun y_ => iI (f22 y_)))), (aO, .inl (cA 0, 200, .inl (fun y_ => iI (f23 y_)))), (aA, .inl (cA 0, 24, .inl (fun y_ => iI (f24 y_))))]) [2, 3, 0, 1, 4, 5, 6] rfl rfl
                    refine k_bz_ne (tgt := 156) C0 dX10_settings_150 (by decide) (fun c150 => ?_) (fun c150 => ?_)
                    · refine lv_iload C0.1 C0.2.1 dX10_settings_156 (lv_at hl 0 rfl) ?_
                      refine k_if_eq (tgt := 168) C0 ⟨by decide, by decide⟩ dX10_settings_158 (by decide) (fun hc => absurd hc (by decide)) (fun _ => ?_)
                      refine lv_iload C0.1 C0.2.1 dX10_settings_161 (lv_at hl 1 rfl) ?_
                      refine lv_iconst (v := iI (1)) C0.1 C0.2.1 dX10_settings_163 rfl ?_
                      refine k_iadd C0 dX10_settings_164 ?_
                      refine lv_goto (tgt := 169) C0.1 C0.2.1 dX10_settings_165 (by decide) ?_
                      refine lv_istore_n (lv' := [(3, .int (iI (x + 1))), (5, .int (iI (1))), (4, .int (iI (x))), (2, .int (iI (wrd d (bAd d + 6)))), (1, .int (iI (bAd d))), (0, .ref hM)]) C0.1 C0.2.1 dX10_settings_169 rfl hl (by decide) rfl (fun ls hl => ?_)
                      refine lv_iinc (v := iI (x + 1)) (lv' := [(4, .int (iI (x + 1))), (3, .int (iI (x + 1))), (5, .int (iI (1))), (2, .int (iI (wrd d (bAd d + 6)))), (1, .int (iI (bAd d))), (0, .ref hM)]) C0.1 C0.2.1 dX10_settings_170 hl (k := 2) rfl (iI_add _ _) (by decide) rfl (fun ls hl => ?_)
                      refine lv_goto (tgt := 106) C0.1 C0.2.1 dX10_settings_173 (by decide) ?_
                      have hq : bSt d = stF (ctn d (rd d (bAd d + 5))) (wrd d (bAd d + 6)) ((wrd d (bAd d + 6)) + 1 - (x + 1)).toNat (x + 1) (x + 1) (lnS (ctn d (rd d (bAd d + 5))) fr x S0) := by rw [hi106_2]; rw [show (wrd d (bAd d + 6) + 1 - x).toNat = (wrd d (bAd d + 6) + 1 - (x + 1)).toNat + 1 by omega]; exact stF_line (Or.inr c127) c150
                      have hv2 := hlnS S0 hi106_3 c150
                      have hv4 := hbk
                      have hv5 := SB_ln (len := wrd d (bAd d + 6)) hi106_5 (by omega) (by omega) c150
                      exact ih106 (x + 1) (x + 1) (lnS (ctn d (rd d (bAd d + 5))) fr x S0) (l19) (l20) (l21) (f22) (f23) (f24) ⟨by omega, by omega⟩ ⟨by omega, by omega⟩ hq hv2 hv4 hv5 (by omega) _ _ S _ (lv_sub hl [0, 1, 3, 4, 5] rfl)
                    · refine lv_bipush (v := iI (-10)) C0.1 C0.2.1 dX10_settings_153 (by decide) ?_
                      subst hQ
                      refine k_iret C0 S hAe hsz hr hlk dX10_settings_155 ?_
                      have hnone : bSt d = none := by rw [hi106_2]; rw [show (wrd d (bAd d + 6) + 1 - x).toNat = (wrd d (bAd d + 6) + 1 - (x + 1)).toNat + 1 by omega]; exact stF_bad (Or.inr c127) c150
                      have hq : stC d = _ := stC_3 (by omega) (by omega) hnone
                      exact ⟨_, _, _, _, _, _, _, _, _, _, congrArg iI hq.symm, rfl, by omega, fun h => absurd h (by omega), fun S h h2 => absurd h2 (by omega), ⟨hpx2, hbk⟩⟩
          exact L106 ((wrd d (bAd d + 6)).toNat + 2) (0) (0) ((0, -1, 0, -1, 0, -1)) (-1) (-1) (-1) (kk) (oo) (ar) ⟨by omega, by omega⟩ ⟨by omega, by omega⟩ (by unfold bSt bTx; rw [hol, stg_short (by omega)]; congr 1; omega) ⟨⟨rfl, fun j h => absurd h (by dsimp only; omega)⟩, ⟨rfl, fun j h => absurd h (by dsimp only; omega)⟩, ⟨rfl, fun j h => absurd h (by dsimp only; omega)⟩⟩ ⟨hkk, hoo, har⟩ ⟨Or.inl rfl, Or.inl rfl, Or.inl rfl⟩ (by omega) _ _ S _ (lv_sub hl [0, 1, 2, 3, 4] rfl)
        · refine lv_bipush (v := iI (-10)) C0.1 C0.2.1 dX10_settings_98 (by decide) ?_
          subst hQ
          refine k_iret C0 S hAe hsz hr hlk dX10_settings_100 ?_
          have hq : stC d = _ := stC_3 (by omega) (by omega) (stg_long (by omega))
          exact ⟨_, _, _, _, _, _, _, _, _, _, congrArg iI hq.symm, rfl, by omega, fun h => absurd h (by omega), fun S h h2 => absurd h2 (by omega), ⟨hpx2, hkk, hoo, har⟩⟩
      · refine lv_bipush (v := iI (-9)) C0.1 C0.2.1 dX10_settings_67 (by decide) ?_
        subst hQ
        refine k_iret C0 S hAe hsz hr hlk dX10_settings_69 ?_
        have hq : stC d = _ := (stC_2 (by omega) c64).trans (hon.1.mp c64)
        exact ⟨_, _, _, _, _, _, _, _, _, _, congrArg iI hq.symm, rfl, by omega, fun h => absurd h (by omega), fun S h h2 => absurd h2 (by omega), ⟨hpx2, hkk, hoo, har⟩⟩
    · refine lv_bipush (v := iI (-7)) C0.1 C0.2.1 dX10_settings_56 (by decide) ?_
      subst hQ
      refine k_iret C0 S hAe hsz hr hlk dX10_settings_58 ?_
      have hbd : bAd d = -7 := fil_dir (by omega) c53
      have hq : stC d = _ := (stC_1 (by omega)).trans hbd
      exact ⟨_, _, _, _, _, _, _, _, _, _, congrArg iI hq.symm, rfl, by omega, fun h => absurd h (by omega), fun S h h2 => absurd h2 (by omega), ⟨hpx2, hkk, hoo, har⟩⟩
  · refine lv_iload_n C0.1 C0.2.1 dX10_settings_46 rfl (lv_at hl 0 rfl) ?_
    subst hQ
    refine k_iret C0 S hAe hsz hr hlk dX10_settings_47 ?_
    have hbd : bAd d = fnd d bkey 1 := fil_no (by rintro ⟨h1, h2⟩; omega)
    have hq : stC d = _ := (stC_1 (by omega)).trans hbd
    exact ⟨_, _, _, _, _, _, _, _, _, _, congrArg iI hq.symm, rfl, by omega, fun h => absurd h (by omega), fun S h h2 => absurd h2 (by omega), ⟨hpx2, hkk, hoo, har⟩⟩
theorem cS_of {d : Nat → Int} {F z : Int} : iI (cInt d F z) = iI (cS d F z) := (iI_of _).symm
def rmX10_load : Room := { frames := 6, cells := 0, slots := 0, locals := 140 }
set_option maxHeartbeats 4000000 in
set_option maxRecDepth 100000 in
theorem c_X10_load (l : Launch) (D : va_G) (cA : Nat → ClassId) (hM aD aM aX aP aQ aK aO aA a1 a2 a3 : Nat) (st tl pn nc kl ol al : Int) (d : Nat → Int) (px nm ra ar g : Nat → Int) (F N : Int) (hd : By d) (hB2 : gB d) (hpx : By px) (hra : By ra) (har : By ar) (hp0 : 0 ≤ pn) (hp1 : pn ≤ 200) (hal : al = -1 ∨ (0 ≤ al ∧ al ≤ 24)) (hst : ir st) (hg : psr px pn.toNat = psr (gtx g F) N.toNat) : kCi l D vwCl (kTys cA) yX10_load wsX10_load rmX10_load [.ref hM] [(hM, .inr (10, [.ref aD, .ref aM, .int (iI (st)), .int (iI (chs d)), .int (iI (gTA d)), .int (iI (gT d)), .int (iI (gTS d)), .int (iI (gCS d)), .int (iI (gCA d)), .int (iI (gN d)), .int (iI (gRoot d)), .ref aX, .int (iI (tl)), .ref aP, .int (iI (pn)), .ref aQ, .int (iI (nc)), .ref aK, .ref aO, .ref aA, .int (iI (kl)), .int (iI (ol)), .int (iI (al)), .ref a1, .ref a2, .ref a3])), (aD, .inl (cA 0, 2048, .inl (fun y_ => iI (d y_)))), (aP, .inl (cA 0, 200, .inl (fun y_ => iI (px y_)))), (aQ, .inl (cA 0, 4, .inl (fun y_ => iI (nm y_)))), (aM, .inl (cA 0, 1024, .inl (fun y_ => iI (ra y_)))), (aA, .inl (cA 0, 24, .inl (fun y_ => iI (ar y_))))] (fun r u => ∃ (nc2 st2 : Int) (nm2 ra2 : Nat → Int), r = iI (ldC d g F N) ∧ u = [(hM, .inr (10, [.ref aD, .ref aM, .int (iI (st2)), .int (iI (chs d)), .int (iI (gTA d)), .int (iI (gT d)), .int (iI (gTS d)), .int (iI (gCS d)), .int (iI (gCA d)), .int (iI (gN d)), .int (iI (gRoot d)), .ref aX, .int (iI (tl)), .ref aP, .int (iI (pn)), .ref aQ, .int (iI (nc2)), .ref aK, .ref aO, .ref aA, .int (iI (kl)), .int (iI (ol)), .int (iI (al)), .ref a1, .ref a2, .ref a3])), (aD, .inl (cA 0, 2048, .inl (fun y_ => iI (d y_)))), (aP, .inl (cA 0, 200, .inl (fun y_ => iI (px y_)))), (aQ, .inl (cA 0, 4, .inl (fun y_ => iI (nm2 y_)))), (aM, .inl (cA 0, 1024, .inl (fun y_ => iI (ra2 y_)))), (aA, .inl (cA 0, 24, .inl (fun y_ => iI (ar y_))))] ∧ (ldC d g F N = 0 → ra2 = cpK (inf (cpK (fun _ => 0) (kAd d (rd d (ldA d g F N + 5)) (opn d (ldA d g F N))) (ctn d (rd d (ldA d g F N + 5))) (opn d (ldA d g F N)).toNat) (limS (kFl d (rd d (ldA d g F N + 5)) (opn d (ldA d g F N)))) (argS al) (kAd d (rd d (ldA d g F N + 5)) (opn d (ldA d g F N))) (kAd d (rd d (ldA d g F N + 5)) (opn d (ldA d g F N)) + opn d (ldA d g F N)) (chs d)) 32 ar al.toNat ∧ st2 = kSt d (rd d (ldA d g F N + 5)) (opn d (ldA d g F N))) ∧ (¬ ldC d g F N = 0 → ra2 = ra ∧ st2 = st) ∧ By ra2 ∧ ir st2 ∧ (-100 ≤ ldC d g F N ∧ ldC d g F N ≤ 0)) := by
  intro sz
  refine kEntry (cc := cX10_load) (maxL := 8) (ret := (some .int)) (by decide) rfl (Nat.le_of_ble_eq_true rfl) ?_
  intro p e s m args below meth c A Q hAe hQ C0 hr hlk S hsz ls hl
  have hl : lv_has ls 8 [(0, .ref hM)] := hl
  have hlin := hB2.lin
  refine lv_aload_n C0.1 C0.2.1 dX10_load_0 rfl (lv_at hl 0 rfl) ?_
  refine k_calli (n := 0) (wr := [(aM, .inl (cA 0, 1024, .inl (fun y_ => iI (ra y_)))), (aA, .inl (cA 0, 24, .inl (fun y_ => iI (ar y_))))]) C0 S (c_X10_find l D cA hM aD aM aX aP aQ aK aO aA a1 a2 a3 (st) (tl) (pn) (nc) (kl) (ol) (al) d px nm hd hB2 hpx (by omega) (by omega)) gX10_load_X10_find rfl ⟨rfl, rfl⟩ (by decide +kernel) ⟨Nat.le_of_ble_eq_true rfl, Nat.le_of_ble_eq_true rfl⟩ [0, 1, 2, 3] [4, 5] rfl rfl rfl rfl (by decide) (ci := 10) (q0 := 0) rfl rfl (As := []) rfl hl.1 rfl (Nat.le_of_ble_eq_true rfl) dX10_load_1 ⟨Nat.zero_le _, Nat.zero_le _⟩ (fun r u H locs hp S => ?_)
  obtain ⟨nq1, nm2, rfl, rfl, hfr1, hfr2⟩ := hp
  have S := S.sub (ws' := [(hM, .inr (10, [.ref aD, .ref aM, .int (iI (st)), .int (iI (chs d)), .int (iI (gTA d)), .int (iI (gT d)), .int (iI (gTS d)), .int (iI (gCS d)), .int (iI (gCA d)), .int (iI (gN d)), .int (iI (gRoot d)), .ref aX, .int (iI (tl)), .ref aP, .int (iI (pn)), .ref aQ, .int (iI (nq1)), .ref aK, .ref aO, .ref aA, .int (iI (kl)), .int (iI (ol)), .int (iI (al)), .ref a1, .ref a2, .ref a3])), (aD, .inl (cA 0, 2048, .inl (fun y_ => iI (d y_)))), (aP, .inl (cA 0, 200, .inl (fun y_ => iI (px y_)))), (aQ, .inl (cA 0, 4, .inl (fun y_ => iI (nm2 y_)))), (aM, .inl (cA 0, 1024, .inl (fun y_ => iI (ra y_)))), (aA, .inl (cA 0, 24, .inl (fun y_ => iI (ar y_))))]) [2, 3, 4, 5, 0, 1] rfl rfl
  refine lv_istore_n (lv' := [(1, .int (iI (fnM d px (pn).toNat))), (0, .ref hM)]) C0.1 C0.2.1 dX10_load_4 rfl hl (by decide) rfl (fun ls hl => ?_)
  refine lv_iload_n C0.1 C0.2.1 dX10_load_5 rfl (lv_at hl 0 rfl) ?_
  refine k_if_ge (tgt := 11) C0 (by constructor <;> omega) dX10_load_6 (by decide) (fun c6 => ?_) (fun c6 => ?_)
  · obtain ⟨m2, ks, hps⟩ : ∃ m2 ks, psr px pn.toNat = some (m2, ks) := by cases h : psr px pn.toNat with | none => (rw [fnM_none h] at c6; exact absurd c6 (by decide)) | some v => exact ⟨v.1, v.2, rfl⟩
    have hfm := fnM_some (d := d) hps
    rw [hfm] at hl hfr1 hfr2 c6
    have hps2 : psr (gtx g F) N.toNat = some (m2, ks) := by rw [← hg]; exact hps
    have hon := opn_neg (a := fnd d ks m2) hd
    refine lv_aload_n C0.1 C0.2.1 dX10_load_11 rfl (lv_at hl 1 rfl) ?_
    refine lv_iload_n C0.1 C0.2.1 dX10_load_12 rfl (lv_at hl 0 rfl) ?_
    refine k_calli (n := 1) (wr := [(aP, .inl (cA 0, 200, .inl (fun y_ => iI (px y_)))), (aQ, .inl (cA 0, 4, .inl (fun y_ => iI (nm2 y_)))), (aM, .inl (cA 0, 1024, .inl (fun y_ => iI (ra y_)))), (aA, .inl (cA 0, 24, .inl (fun y_ => iI (ar y_))))]) C0 S (c_X10_isDirectory l D cA hM aD aM aX aP aQ aK aO aA a1 a2 a3 (st) (chs d) (gTA d) (gT d) (gTS d) (gCS d) (gCA d) (gN d) (gRoot d) (tl) (pn) (nq1) (kl) (ol) (al) d (fnd d ks m2) hd (by omega) (by omega)) gX10_load_X10_isDirectory rfl ⟨rfl, rfl⟩ (by decide +kernel) ⟨Nat.le_of_ble_eq_true rfl, Nat.le_of_ble_eq_true rfl⟩ [0, 1] [2, 3, 4, 5] rfl rfl rfl rfl (by decide) (ci := 10) (q0 := 0) rfl rfl (As := [.int (iI (fnd d ks m2))]) rfl hl.1 rfl (Nat.le_of_ble_eq_true rfl) dX10_load_13 ⟨Nat.zero_le _, Nat.zero_le _⟩ (fun r u H locs hp S => ?_)
    obtain ⟨rfl, rfl⟩ := hp
    have S := S.sub (ws' := [(hM, .inr (10, [.ref aD, .ref aM, .int (iI (st)), .int (iI (chs d)), .int (iI (gTA d)), .int (iI (gT d)), .int (iI (gTS d)), .int (iI (gCS d)), .int (iI (gCA d)), .int (iI (gN d)), .int (iI (gRoot d)), .ref aX, .int (iI (tl)), .ref aP, .int (iI (pn)), .ref aQ, .int (iI (nq1)), .ref aK, .ref aO, .ref aA, .int (iI (kl)), .int (iI (ol)), .int (iI (al)), .ref a1, .ref a2, .ref a3])), (aD, .inl (cA 0, 2048, .inl (fun y_ => iI (d y_)))), (aP, .inl (cA 0, 200, .inl (fun y_ => iI (px y_)))), (aQ, .inl (cA 0, 4, .inl (fun y_ => iI (nm2 y_)))), (aM, .inl (cA 0, 1024, .inl (fun y_ => iI (ra y_)))), (aA, .inl (cA 0, 24, .inl (fun y_ => iI (ar y_))))]) [4, 5, 0, 1, 2, 3] rfl rfl
    refine k_bz_ne (tgt := 27) C0 dX10_load_16 (by decide) (fun c16 => ?_) (fun c16 => ?_)
    · refine lv_aload_n C0.1 C0.2.1 dX10_load_27 rfl (lv_at hl 1 rfl) ?_
      refine lv_iload_n C0.1 C0.2.1 dX10_load_28 rfl (lv_at hl 0 rfl) ?_
      refine k_calli (n := 1) (wr := [(aP, .inl (cA 0, 200, .inl (fun y_ => iI (px y_)))), (aQ, .inl (cA 0, 4, .inl (fun y_ => iI (nm2 y_)))), (aM, .inl (cA 0, 1024, .inl (fun y_ => iI (ra y_)))), (aA, .inl (cA 0, 24, .inl (fun y_ => iI (ar y_))))]) C0 S (c_X10_isDirectory l D cA hM aD aM aX aP aQ aK aO aA a1 a2 a3 (st) (chs d) (gTA d) (gT d) (gTS d) (gCS d) (gCA d) (gN d) (gRoot d) (tl) (pn) (nq1) (kl) (ol) (al) d (fnd d ks m2) hd (by omega) (by omega)) gX10_load_X10_isDirectory rfl ⟨rfl, rfl⟩ (by decide +kernel) ⟨Nat.le_of_ble_eq_true rfl, Nat.le_of_ble_eq_true rfl⟩ [0, 1] [2, 3, 4, 5] rfl rfl rfl rfl (by decide) (ci := 10) (q0 := 0) rfl rfl (As := [.int (iI (fnd d ks m2))]) rfl hl.1 rfl (Nat.le_of_ble_eq_true rfl) dX10_load_29 ⟨Nat.zero_le _, Nat.zero_le _⟩ (fun r u H locs hp S => ?_)
      obtain ⟨rfl, rfl⟩ := hp
      have S := S.sub (ws' := [(hM, .inr (10, [.ref aD, .ref aM, .int (iI (st)), .int (iI (chs d)), .int (iI (gTA d)), .int (iI (gT d)), .int (iI (gTS d)), .int (iI (gCS d)), .int (iI (gCA d)), .int (iI (gN d)), .int (iI (gRoot d)), .ref aX, .int (iI (tl)), .ref aP, .int (iI (pn)), .ref aQ, .int (iI (nq1)), .ref aK, .ref aO, .ref aA, .int (iI (kl)), .int (iI (ol)), .int (iI (al)), .ref a1, .ref a2, .ref a3])), (aD, .inl (cA 0, 2048, .inl (fun y_ => iI (d y_)))), (aP, .inl (cA 0, 200, .inl (fun y_ => iI (px y_)))), (aQ, .inl (cA 0, 4, .inl (fun y_ => iI (nm2 y_)))), (aM, .inl (cA 0, 1024, .inl (fun y_ => iI (ra y_)))), (aA, .inl (cA 0, 24, .inl (fun y_ => iI (ar y_))))]) [4, 5, 0, 1, 2, 3] rfl rfl
      refine k_bz_eq (tgt := 40) C0 dX10_load_32 (by decide) (fun c32 => ?_) (fun c32 => ?_)
      · exact absurd c16 c32
      · refine lv_bipush (v := iI (-7)) C0.1 C0.2.1 dX10_load_35 (by decide) ?_
        refine lv_goto (tgt := 42) C0.1 C0.2.1 dX10_load_37 (by decide) ?_
        subst hQ
        refine k_iret C0 S hAe hsz hr hlk dX10_load_42 ?_
        have hfil : fil d ks m2 = -7 := fil_dir (by omega) c16
        have hq : ldC d g F N = _ := (ldC_fil hps2 (by omega)).trans hfil
        exact ⟨_, _, _, _, congrArg iI hq.symm, rfl, fun h => absurd h (by omega), fun _ => ⟨rfl, rfl⟩, hra, hst, by omega⟩
    · refine lv_aload_n C0.1 C0.2.1 dX10_load_19 rfl (lv_at hl 1 rfl) ?_
      refine lv_iload_n C0.1 C0.2.1 dX10_load_20 rfl (lv_at hl 0 rfl) ?_
      refine k_calli (n := 1) (wr := [(aP, .inl (cA 0, 200, .inl (fun y_ => iI (px y_)))), (aQ, .inl (cA 0, 4, .inl (fun y_ => iI (nm2 y_)))), (aM, .inl (cA 0, 1024, .inl (fun y_ => iI (ra y_)))), (aA, .inl (cA 0, 24, .inl (fun y_ => iI (ar y_))))]) C0 S (c_X10_isBroken l D cA hM aD aM aX aP aQ aK aO aA a1 a2 a3 (st) (tl) (pn) (nq1) (kl) (ol) (al) d (fnd d ks m2) hd hB2 (by omega) (by omega)) gX10_load_X10_isBroken rfl ⟨rfl, rfl⟩ (by decide +kernel) ⟨Nat.le_of_ble_eq_true rfl, Nat.le_of_ble_eq_true rfl⟩ [0, 1] [2, 3, 4, 5] rfl rfl rfl rfl (by decide) (ci := 10) (q0 := 0) rfl rfl (As := [.int (iI (fnd d ks m2))]) rfl hl.1 rfl (Nat.le_of_ble_eq_true rfl) dX10_load_21 ⟨Nat.zero_le _, Nat.zero_le _⟩ (fun r u H locs hp S => ?_)
      obtain ⟨rfl, rfl⟩ := hp
      have S := S.sub (ws' := [(hM, .inr (10, [.ref aD, .ref aM, .int (iI (st)), .int (iI (chs d)), .int (iI (gTA d)), .int (iI (gT d)), .int (iI (gTS d)), .int (iI (gCS d)), .int (iI (gCA d)), .int (iI (gN d)), .int (iI (gRoot d)), .ref aX, .int (iI (tl)), .ref aP, .int (iI (pn)), .ref aQ, .int (iI (nq1)), .ref aK, .ref aO, .ref aA, .int (iI (kl)), .int (iI (ol)), .int (iI (al)), .ref a1, .ref a2, .ref a3])), (aD, .inl (cA 0, 2048, .inl (fun y_ => iI (d y_)))), (aP, .inl (cA 0, 200, .inl (fun y_ => iI (px y_)))), (aQ, .inl (cA 0, 4, .inl (fun y_ => iI (nm2 y_)))), (aM, .inl (cA 0, 1024, .inl (fun y_ => iI (ra y_)))), (aA, .inl (cA 0, 24, .inl (fun y_ => iI (ar y_))))]) [4, 5, 0, 1, 2, 3] rfl rfl
      refine k_bz_eq (tgt := 43) C0 dX10_load_24 (by decide) (fun c24 => ?_) (fun c24 => ?_)
      · have hfil : fil d ks m2 = fnd d ks m2 := fil_no (by rintro ⟨h1, h2⟩; exact c16 h2)
        have hop : opn d (fnd d ks m2) = wrd d (fnd d ks m2 + 6) := hon.2.2.2 (by omega)
        have hwr := By_wrd hd (fnd d ks m2 + 6)
        have hpos : 0 < wrd d (fnd d ks m2 + 6) → _ := fun h => opn_pos (show 0 < opn d (fnd d ks m2) by omega)
        refine lv_aload_n C0.1 C0.2.1 dX10_load_43 rfl (lv_at hl 1 rfl) ?_
        refine lv_iload_n C0.1 C0.2.1 dX10_load_44 rfl (lv_at hl 0 rfl) ?_
        refine k_calli (n := 1) (wr := [(aP, .inl (cA 0, 200, .inl (fun y_ => iI (px y_)))), (aQ, .inl (cA 0, 4, .inl (fun y_ => iI (nm2 y_)))), (aM, .inl (cA 0, 1024, .inl (fun y_ => iI (ra y_)))), (aA, .inl (cA 0, 24, .inl (fun y_ => iI (ar y_))))]) C0 S (c_X10_sizeAt l D cA hM aD aM aX aP aQ aK aO aA a1 a2 a3 (st) (chs d) (gTA d) (gT d) (gTS d) (gCS d) (gCA d) (gN d) (gRoot d) (tl) (pn) (nq1) (kl) (ol) (al) d (fnd d ks m2) hd (by omega) (by omega)) gX10_load_X10_sizeAt rfl ⟨rfl, rfl⟩ (by decide +kernel) ⟨Nat.le_of_ble_eq_true rfl, Nat.le_of_ble_eq_true rfl⟩ [0, 1] [2, 3, 4, 5] rfl rfl rfl rfl (by decide) (ci := 10) (q0 := 0) rfl rfl (As := [.int (iI (fnd d ks m2))]) rfl hl.1 rfl (Nat.le_of_ble_eq_true rfl) dX10_load_45 ⟨Nat.zero_le _, Nat.zero_le _⟩ (fun r u H locs hp S => ?_)
        obtain ⟨rfl, rfl⟩ := hp
        have S := S.sub (ws' := [(hM, .inr (10, [.ref aD, .ref aM, .int (iI (st)), .int (iI (chs d)), .int (iI (gTA d)), .int (iI (gT d)), .int (iI (gTS d)), .int (iI (gCS d)), .int (iI (gCA d)), .int (iI (gN d)), .int (iI (gRoot d)), .ref aX, .int (iI (tl)), .ref aP, .int (iI (pn)), .ref aQ, .int (iI (nq1)), .ref aK, .ref aO, .ref aA, .int (iI (kl)), .int (iI (ol)), .int (iI (al)), .ref a1, .ref a2, .ref a3])), (aD, .inl (cA 0, 2048, .inl (fun y_ => iI (d y_)))), (aP, .inl (cA 0, 200, .inl (fun y_ => iI (px y_)))), (aQ, .inl (cA 0, 4, .inl (fun y_ => iI (nm2 y_)))), (aM, .inl (cA 0, 1024, .inl (fun y_ => iI (ra y_)))), (aA, .inl (cA 0, 24, .inl (fun y_ => iI (ar y_))))]) [4, 5, 0, 1, 2, 3] rfl rfl
        have hb11 := By_wrd hd ((fnd d ks m2) + 6)
        refine lv_istore_n (lv' := [(2, .int (iI (wrd d ((fnd d ks m2) + 6)))), (1, .int (iI (fnd d ks m2))), (0, .ref hM)]) C0.1 C0.2.1 dX10_load_48 rfl hl (by decide) rfl (fun ls hl => ?_)
        refine lv_iconst (v := iI (0)) C0.1 C0.2.1 dX10_load_49 rfl ?_
        refine lv_istore_n (lv' := [(3, .int (iI (0))), (2, .int (iI (wrd d ((fnd d ks m2) + 6)))), (1, .int (iI (fnd d ks m2))), (0, .ref hM)]) C0.1 C0.2.1 dX10_load_50 rfl hl (by decide) rfl (fun ls hl => ?_)
        have L51 : ∀ (n_ : Nat) (j : Nat) (x : Int), (j ≤ 8) → (x = 4 * (j : Int)) → (hdr d (rd d (fnd d ks m2 + 5)) (wrd d (fnd d ks m2 + 6)) = hdF d (rd d (fnd d ks m2 + 5)) (wrd d (fnd d ks m2 + 6)) (8 - j) x) → (8 - j < n_) → ∀ (H : Heap) (locs : List Loc), kS D vwCl (kTys cA) A s [(hM, .inr (10, [.ref aD, .ref aM, .int (iI (st)), .int (iI (chs d)), .int (iI (gTA d)), .int (iI (gT d)), .int (iI (gTS d)), .int (iI (gCS d)), .int (iI (gCA d)), .int (iI (gN d)), .int (iI (gRoot d)), .ref aX, .int (iI (tl)), .ref aP, .int (iI (pn)), .ref aQ, .int (iI (nq1)), .ref aK, .ref aO, .ref aA, .int (iI (kl)), .int (iI (ol)), .int (iI (al)), .ref a1, .ref a2, .ref a3])), (aD, .inl (cA 0, 2048, .inl (fun y_ => iI (d y_)))), (aP, .inl (cA 0, 200, .inl (fun y_ => iI (px y_)))), (aQ, .inl (cA 0, 4, .inl (fun y_ => iI (nm2 y_)))), (aM, .inl (cA 0, 1024, .inl (fun y_ => iI (ra y_)))), (aA, .inl (cA 0, 24, .inl (fun y_ => iI (ar y_))))] H locs → ∀ ls : Array Slot, lv_has ls 8 [(3, .int (iI (x))), (2, .int (iI ((wrd d (fnd d ks m2 + 6))))), (1, .int (iI (fnd d ks m2))), (0, .ref hM)] → W p l e rmX10_load s m args below meth c H locs 0 0 Q (F0 m 51 ls []) := by
          intro n_
          induction n_ with
          | zero => intro j x hi51_0 hi51_1 hi51_2 hm; exact absurd hm (Nat.not_lt_zero _)
          | succ n_ ih51 =>
            intro j x hi51_0 hi51_1 hi51_2 hm H locs S ls hl
            refine lv_iload_n C0.1 C0.2.1 dX10_load_51 rfl (lv_at hl 0 rfl) ?_
            refine lv_bipush (v := iI (28)) C0.1 C0.2.1 dX10_load_52 (by decide) ?_
            refine k_icmp_gt (tgt := 82) C0 (by constructor <;> omega) ⟨by decide, by decide⟩ dX10_load_54 (by decide) (fun c54 => ?_) (fun c54 => ?_)
            · have hhd : hdr d (rd d (fnd d ks m2 + 5)) (wrd d (fnd d ks m2 + 6)) = -1 := by rw [hi51_2, show 8 - j = 0 by omega]; rfl
              refine lv_iload_n C0.1 C0.2.1 dX10_load_82 rfl (lv_at hl 0 rfl) ?_
              refine lv_bipush (v := iI (28)) C0.1 C0.2.1 dX10_load_83 (by decide) ?_
              refine k_icmp_gt (tgt := 96) C0 (by constructor <;> omega) ⟨by decide, by decide⟩ dX10_load_85 (by decide) (fun c85 => ?_) (fun c85 => ?_)
              · refine lv_bipush (v := iI (-11)) C0.1 C0.2.1 dX10_load_96 (by decide) ?_
                subst hQ
                refine k_iret C0 S hAe hsz hr hlk dX10_load_98 ?_
                have hq : ldC d g F N = _ := ldC_hd hps2 (by omega) (by rw [hfil]; omega) (by rw [hfil, hop]; exact fun h => absurd h.1 (by omega))
                exact ⟨_, _, _, _, congrArg iI hq.symm, rfl, fun h => absurd h (by omega), fun _ => ⟨rfl, rfl⟩, hra, hst, by omega⟩
              · exact absurd c54 c85
            · refine lv_iload_n C0.1 C0.2.1 dX10_load_57 rfl (lv_at hl 0 rfl) ?_
              refine lv_bipush (v := iI (20)) C0.1 C0.2.1 dX10_load_58 (by decide) ?_
              refine k_iadd C0 dX10_load_60 ?_
              refine lv_iload_n C0.1 C0.2.1 dX10_load_61 rfl (lv_at hl 1 rfl) ?_
              refine k_icmp_gt (tgt := 82) C0 (by constructor <;> omega) (by constructor <;> omega) dX10_load_62 (by decide) (fun c62 => ?_) (fun c62 => ?_)
              · have hhd : hdr d (rd d (fnd d ks m2 + 5)) (wrd d (fnd d ks m2 + 6)) = -1 := by rw [hi51_2, show 8 - j = (8 - (j + 1)) + 1 by omega]; exact hdF_end (by omega)
                refine lv_iload_n C0.1 C0.2.1 dX10_load_82 rfl (lv_at hl 0 rfl) ?_
                refine lv_bipush (v := iI (28)) C0.1 C0.2.1 dX10_load_83 (by decide) ?_
                refine k_icmp_gt (tgt := 96) C0 (by constructor <;> omega) ⟨by decide, by decide⟩ dX10_load_85 (by decide) (fun c85 => ?_) (fun c85 => ?_)
                · exact absurd c85 (by omega)
                · refine lv_iload_n C0.1 C0.2.1 dX10_load_88 rfl (lv_at hl 0 rfl) ?_
                  refine lv_bipush (v := iI (20)) C0.1 C0.2.1 dX10_load_89 (by decide) ?_
                  refine k_iadd C0 dX10_load_91 ?_
                  refine lv_iload_n C0.1 C0.2.1 dX10_load_92 rfl (lv_at hl 1 rfl) ?_
                  refine k_icmp_le (tgt := 99) C0 (by constructor <;> omega) (by constructor <;> omega) dX10_load_93 (by decide) (fun c93 => ?_) (fun c93 => ?_)
                  · exact absurd c93 (by omega)
                  · refine lv_bipush (v := iI (-11)) C0.1 C0.2.1 dX10_load_96 (by decide) ?_
                    subst hQ
                    refine k_iret C0 S hAe hsz hr hlk dX10_load_98 ?_
                    have hq : ldC d g F N = _ := ldC_hd hps2 (by omega) (by rw [hfil]; omega) (by rw [hfil, hop]; exact fun h => absurd h.1 (by omega))
                    exact ⟨_, _, _, _, congrArg iI hq.symm, rfl, fun h => absurd h (by omega), fun _ => ⟨rfl, rfl⟩, hra, hst, by omega⟩
              · obtain ⟨-, hcn, hlc⟩ := hpos (by omega)
                refine lv_aload_n C0.1 C0.2.1 dX10_load_65 rfl (lv_at hl 3 rfl) ?_
                refine lv_iload_n C0.1 C0.2.1 dX10_load_66 rfl (lv_at hl 2 rfl) ?_
                refine lv_iload_n C0.1 C0.2.1 dX10_load_67 rfl (lv_at hl 0 rfl) ?_
                refine k_calli (n := 2) (wr := [(aP, .inl (cA 0, 200, .inl (fun y_ => iI (px y_)))), (aQ, .inl (cA 0, 4, .inl (fun y_ => iI (nm2 y_)))), (aM, .inl (cA 0, 1024, .inl (fun y_ => iI (ra y_)))), (aA, .inl (cA 0, 24, .inl (fun y_ => iI (ar y_))))]) C0 S (c_X10_intOf l D cA hM aD aM aX aP aQ aK aO aA a1 a2 a3 (st) (tl) (pn) (nq1) (kl) (ol) (al) d (fnd d ks m2) (x) hd hB2 (by omega) (by omega) hcn (by omega) (by omega)) gX10_load_X10_intOf rfl ⟨rfl, rfl⟩ (by decide +kernel) ⟨Nat.le_of_ble_eq_true rfl, Nat.le_of_ble_eq_true rfl⟩ [0, 1] [2, 3, 4, 5] rfl rfl rfl rfl (by decide) (ci := 10) (q0 := 0) rfl rfl (As := [.int (iI (fnd d ks m2)), .int (iI (x))]) rfl hl.1 rfl (Nat.le_of_ble_eq_true rfl) dX10_load_68 ⟨Nat.zero_le _, Nat.zero_le _⟩ (fun r u H locs hp S => ?_)
                obtain ⟨rfl, rfl⟩ := hp
                have S := S.sub (ws' := [(hM, .inr (10, [.ref aD, .ref aM, .int (iI (st)), .int (iI (chs d)), .int (iI (gTA d)), .int (iI (gT d)), .int (iI (gTS d)), .int (iI (gCS d)), .int (iI (gCA d)), .int (iI (gN d)), .int (iI (gRoot d)), .ref aX, .int (iI (tl)), .ref aP, .int (iI (pn)), .ref aQ, .int (iI (nq1)), .ref aK, .ref aO, .ref aA, .int (iI (kl)), .int (iI (ol)), .int (iI (al)), .ref a1, .ref a2, .ref a3])), (aD, .inl (cA 0, 2048, .inl (fun y_ => iI (d y_)))), (aP, .inl (cA 0, 200, .inl (fun y_ => iI (px y_)))), (aQ, .inl (cA 0, 4, .inl (fun y_ => iI (nm2 y_)))), (aM, .inl (cA 0, 1024, .inl (fun y_ => iI (ra y_)))), (aA, .inl (cA 0, 24, .inl (fun y_ => iI (ar y_))))]) [4, 5, 0, 1, 2, 3] rfl rfl
                refine k_topeq (v := iI (cS d (rd d ((fnd d ks m2) + 5)) (x))) cS_of ?_
                have hb12 : -2147483648 ≤ cS d (rd d ((fnd d ks m2) + 5)) (x) ∧ cS d (rd d ((fnd d ks m2) + 5)) (x) < 2147483648 := iI_ir _
                refine lv_ldc (v := iI (464367618)) C0.1 C0.2.1 C0.2.2.2.1 (C0.2.2.2.2 (.constant RX10 180 (iI (464367618))) (by decide +kernel)) dX10_load_71 ?_
                refine k_icmp_eq (tgt := 82) C0 (by constructor <;> omega) ⟨by decide, by decide⟩ dX10_load_73 (by decide) (fun c73 => ?_) (fun c73 => ?_)
                · have hhd : hdr d (rd d (fnd d ks m2 + 5)) (wrd d (fnd d ks m2 + 6)) = x := by rw [hi51_2, show 8 - j = (8 - (j + 1)) + 1 by omega]; exact hdF_hit (by omega) c73
                  refine lv_iload_n C0.1 C0.2.1 dX10_load_82 rfl (lv_at hl 0 rfl) ?_
                  refine lv_bipush (v := iI (28)) C0.1 C0.2.1 dX10_load_83 (by decide) ?_
                  refine k_icmp_gt (tgt := 96) C0 (by constructor <;> omega) ⟨by decide, by decide⟩ dX10_load_85 (by decide) (fun c85 => ?_) (fun c85 => ?_)
                  · exact absurd c85 (by omega)
                  · refine lv_iload_n C0.1 C0.2.1 dX10_load_88 rfl (lv_at hl 0 rfl) ?_
                    refine lv_bipush (v := iI (20)) C0.1 C0.2.1 dX10_load_89 (by decide) ?_
                    refine k_iadd C0 dX10_load_91 ?_
                    refine lv_iload_n C0.1 C0.2.1 dX10_load_92 rfl (lv_at hl 1 rfl) ?_
                    refine k_icmp_le (tgt := 99) C0 (by constructor <;> omega) (by constructor <;> omega) dX10_load_93 (by decide) (fun c93 => ?_) (fun c93 => ?_)
                    · obtain ⟨-, hcn, hlc⟩ := hpos (by omega)
                      refine lv_aload_n C0.1 C0.2.1 dX10_load_99 rfl (lv_at hl 3 rfl) ?_
                      refine lv_iload_n C0.1 C0.2.1 dX10_load_100 rfl (lv_at hl 2 rfl) ?_
                      refine lv_iload_n C0.1 C0.2.1 dX10_load_101 rfl (lv_at hl 0 rfl) ?_
                      refine lv_iconst (v := iI (4)) C0.1 C0.2.1 dX10_load_102 rfl ?_
                      refine k_iadd C0 dX10_load_103 ?_
                      refine k_calli (n := 2) (wr := [(aP, .inl (cA 0, 200, .inl (fun y_ => iI (px y_)))), (aQ, .inl (cA 0, 4, .inl (fun y_ => iI (nm2 y_)))), (aM, .inl (cA 0, 1024, .inl (fun y_ => iI (ra y_)))), (aA, .inl (cA 0, 24, .inl (fun y_ => iI (ar y_))))]) C0 S (c_X10_intOf l D cA hM aD aM aX aP aQ aK aO aA a1 a2 a3 (st) (tl) (pn) (nq1) (kl) (ol) (al) d (fnd d ks m2) (x + 4) hd hB2 (by omega) (by omega) hcn (by omega) (by omega)) gX10_load_X10_intOf rfl ⟨rfl, rfl⟩ (by decide +kernel) ⟨Nat.le_of_ble_eq_true rfl, Nat.le_of_ble_eq_true rfl⟩ [0, 1] [2, 3, 4, 5] rfl rfl rfl rfl (by decide) (ci := 10) (q0 := 0) rfl rfl (As := [.int (iI (fnd d ks m2)), .int (iI (x + 4))]) rfl hl.1 rfl (Nat.le_of_ble_eq_true rfl) dX10_load_104 ⟨Nat.zero_le _, Nat.zero_le _⟩ (fun r u H locs hp S => ?_)
                      obtain ⟨rfl, rfl⟩ := hp
                      have S := S.sub (ws' := [(hM, .inr (10, [.ref aD, .ref aM, .int (iI (st)), .int (iI (chs d)), .int (iI (gTA d)), .int (iI (gT d)), .int (iI (gTS d)), .int (iI (gCS d)), .int (iI (gCA d)), .int (iI (gN d)), .int (iI (gRoot d)), .ref aX, .int (iI (tl)), .ref aP, .int (iI (pn)), .ref aQ, .int (iI (nq1)), .ref aK, .ref aO, .ref aA, .int (iI (kl)), .int (iI (ol)), .int (iI (al)), .ref a1, .ref a2, .ref a3])), (aD, .inl (cA 0, 2048, .inl (fun y_ => iI (d y_)))), (aP, .inl (cA 0, 200, .inl (fun y_ => iI (px y_)))), (aQ, .inl (cA 0, 4, .inl (fun y_ => iI (nm2 y_)))), (aM, .inl (cA 0, 1024, .inl (fun y_ => iI (ra y_)))), (aA, .inl (cA 0, 24, .inl (fun y_ => iI (ar y_))))]) [4, 5, 0, 1, 2, 3] rfl rfl
                      refine k_topeq (v := iI (cS d (rd d ((fnd d ks m2) + 5)) (x + 4))) cS_of ?_
                      have hb13 : -2147483648 ≤ cS d (rd d ((fnd d ks m2) + 5)) (x + 4) ∧ cS d (rd d ((fnd d ks m2) + 5)) (x + 4) < 2147483648 := iI_ir _
                      refine k_topeq (v := iI (kFl d (rd d (fnd d ks m2 + 5)) (wrd d (fnd d ks m2 + 6)))) (by unfold kFl; rw [hhd]) ?_
                      refine lv_istore (lv' := [(4, .int (iI (kFl d (rd d (fnd d ks m2 + 5)) (wrd d (fnd d ks m2 + 6))))), (3, .int (iI (x))), (2, .int (iI ((wrd d (fnd d ks m2 + 6))))), (1, .int (iI (fnd d ks m2))), (0, .ref hM)]) C0.1 C0.2.1 dX10_load_107 hl (by decide) rfl (fun ls hl => ?_)
                      refine lv_aload_n C0.1 C0.2.1 dX10_load_109 rfl (lv_at hl 4 rfl) ?_
                      refine lv_iload_n C0.1 C0.2.1 dX10_load_110 rfl (lv_at hl 3 rfl) ?_
                      refine lv_iload_n C0.1 C0.2.1 dX10_load_111 rfl (lv_at hl 1 rfl) ?_
                      refine lv_bipush (v := iI (8)) C0.1 C0.2.1 dX10_load_112 (by decide) ?_
                      refine k_iadd C0 dX10_load_114 ?_
                      refine k_calli (n := 2) (wr := [(aP, .inl (cA 0, 200, .inl (fun y_ => iI (px y_)))), (aQ, .inl (cA 0, 4, .inl (fun y_ => iI (nm2 y_)))), (aM, .inl (cA 0, 1024, .inl (fun y_ => iI (ra y_)))), (aA, .inl (cA 0, 24, .inl (fun y_ => iI (ar y_))))]) C0 S (c_X10_intOf l D cA hM aD aM aX aP aQ aK aO aA a1 a2 a3 (st) (tl) (pn) (nq1) (kl) (ol) (al) d (fnd d ks m2) (x + 8) hd hB2 (by omega) (by omega) hcn (by omega) (by omega)) gX10_load_X10_intOf rfl ⟨rfl, rfl⟩ (by decide +kernel) ⟨Nat.le_of_ble_eq_true rfl, Nat.le_of_ble_eq_true rfl⟩ [0, 1] [2, 3, 4, 5] rfl rfl rfl rfl (by decide) (ci := 10) (q0 := 0) rfl rfl (As := [.int (iI (fnd d ks m2)), .int (iI (x + 8))]) rfl hl.1 rfl (Nat.le_of_ble_eq_true rfl) dX10_load_115 ⟨Nat.zero_le _, Nat.zero_le _⟩ (fun r u H locs hp S => ?_)
                      obtain ⟨rfl, rfl⟩ := hp
                      have S := S.sub (ws' := [(hM, .inr (10, [.ref aD, .ref aM, .int (iI (st)), .int (iI (chs d)), .int (iI (gTA d)), .int (iI (gT d)), .int (iI (gTS d)), .int (iI (gCS d)), .int (iI (gCA d)), .int (iI (gN d)), .int (iI (gRoot d)), .ref aX, .int (iI (tl)), .ref aP, .int (iI (pn)), .ref aQ, .int (iI (nq1)), .ref aK, .ref aO, .ref aA, .int (iI (kl)), .int (iI (ol)), .int (iI (al)), .ref a1, .ref a2, .ref a3])), (aD, .inl (cA 0, 2048, .inl (fun y_ => iI (d y_)))), (aP, .inl (cA 0, 200, .inl (fun y_ => iI (px y_)))), (aQ, .inl (cA 0, 4, .inl (fun y_ => iI (nm2 y_)))), (aM, .inl (cA 0, 1024, .inl (fun y_ => iI (ra y_)))), (aA, .inl (cA 0, 24, .inl (fun y_ => iI (ar y_))))]) [4, 5, 0, 1, 2, 3] rfl rfl
                      refine k_topeq (v := iI (cS d (rd d ((fnd d ks m2) + 5)) (x + 8))) cS_of ?_
                      have hb14 : -2147483648 ≤ cS d (rd d ((fnd d ks m2) + 5)) (x + 8) ∧ cS d (rd d ((fnd d ks m2) + 5)) (x + 8) < 2147483648 := iI_ir _
                      refine k_topeq (v := iI (kCk d (rd d (fnd d ks m2 + 5)) (wrd d (fnd d ks m2 + 6)))) (by unfold kCk; rw [hhd]) ?_
                      refine lv_istore (lv' := [(5, .int (iI (kCk d (rd d (fnd d ks m2 + 5)) (wrd d (fnd d ks m2 + 6))))), (4, .int (iI (kFl d (rd d (fnd d ks m2 + 5)) (wrd d (fnd d ks m2 + 6))))), (3, .int (iI (x))), (2, .int (iI ((wrd d (fnd d ks m2 + 6))))), (1, .int (iI (fnd d ks m2))), (0, .ref hM)]) C0.1 C0.2.1 dX10_load_118 hl (by decide) rfl (fun ls hl => ?_)
                      refine lv_aload_n C0.1 C0.2.1 dX10_load_120 rfl (lv_at hl 5 rfl) ?_
                      refine lv_iload_n C0.1 C0.2.1 dX10_load_121 rfl (lv_at hl 4 rfl) ?_
                      refine lv_iload_n C0.1 C0.2.1 dX10_load_122 rfl (lv_at hl 2 rfl) ?_
                      refine lv_bipush (v := iI (12)) C0.1 C0.2.1 dX10_load_123 (by decide) ?_
                      refine k_iadd C0 dX10_load_125 ?_
                      refine k_calli (n := 2) (wr := [(aP, .inl (cA 0, 200, .inl (fun y_ => iI (px y_)))), (aQ, .inl (cA 0, 4, .inl (fun y_ => iI (nm2 y_)))), (aM, .inl (cA 0, 1024, .inl (fun y_ => iI (ra y_)))), (aA, .inl (cA 0, 24, .inl (fun y_ => iI (ar y_))))]) C0 S (c_X10_intOf l D cA hM aD aM aX aP aQ aK aO aA a1 a2 a3 (st) (tl) (pn) (nq1) (kl) (ol) (al) d (fnd d ks m2) (x + 12) hd hB2 (by omega) (by omega) hcn (by omega) (by omega)) gX10_load_X10_intOf rfl ⟨rfl, rfl⟩ (by decide +kernel) ⟨Nat.le_of_ble_eq_true rfl, Nat.le_of_ble_eq_true rfl⟩ [0, 1] [2, 3, 4, 5] rfl rfl rfl rfl (by decide) (ci := 10) (q0 := 0) rfl rfl (As := [.int (iI (fnd d ks m2)), .int (iI (x + 12))]) rfl hl.1 rfl (Nat.le_of_ble_eq_true rfl) dX10_load_126 ⟨Nat.zero_le _, Nat.zero_le _⟩ (fun r u H locs hp S => ?_)
                      obtain ⟨rfl, rfl⟩ := hp
                      have S := S.sub (ws' := [(hM, .inr (10, [.ref aD, .ref aM, .int (iI (st)), .int (iI (chs d)), .int (iI (gTA d)), .int (iI (gT d)), .int (iI (gTS d)), .int (iI (gCS d)), .int (iI (gCA d)), .int (iI (gN d)), .int (iI (gRoot d)), .ref aX, .int (iI (tl)), .ref aP, .int (iI (pn)), .ref aQ, .int (iI (nq1)), .ref aK, .ref aO, .ref aA, .int (iI (kl)), .int (iI (ol)), .int (iI (al)), .ref a1, .ref a2, .ref a3])), (aD, .inl (cA 0, 2048, .inl (fun y_ => iI (d y_)))), (aP, .inl (cA 0, 200, .inl (fun y_ => iI (px y_)))), (aQ, .inl (cA 0, 4, .inl (fun y_ => iI (nm2 y_)))), (aM, .inl (cA 0, 1024, .inl (fun y_ => iI (ra y_)))), (aA, .inl (cA 0, 24, .inl (fun y_ => iI (ar y_))))]) [4, 5, 0, 1, 2, 3] rfl rfl
                      refine k_topeq (v := iI (cS d (rd d ((fnd d ks m2) + 5)) (x + 12))) cS_of ?_
                      have hb15 : -2147483648 ≤ cS d (rd d ((fnd d ks m2) + 5)) (x + 12) ∧ cS d (rd d ((fnd d ks m2) + 5)) (x + 12) < 2147483648 := iI_ir _
                      refine k_topeq (v := iI (kAd d (rd d (fnd d ks m2 + 5)) (wrd d (fnd d ks m2 + 6)))) (by unfold kAd; rw [hhd]) ?_
                      refine lv_istore (lv' := [(6, .int (iI (kAd d (rd d (fnd d ks m2 + 5)) (wrd d (fnd d ks m2 + 6))))), (5, .int (iI (kCk d (rd d (fnd d ks m2 + 5)) (wrd d (fnd d ks m2 + 6))))), (4, .int (iI (kFl d (rd d (fnd d ks m2 + 5)) (wrd d (fnd d ks m2 + 6))))), (3, .int (iI (x))), (2, .int (iI ((wrd d (fnd d ks m2 + 6))))), (1, .int (iI (fnd d ks m2))), (0, .ref hM)]) C0.1 C0.2.1 dX10_load_129 hl (by decide) rfl (fun ls hl => ?_)
                      refine lv_aload_n C0.1 C0.2.1 dX10_load_131 rfl (lv_at hl 6 rfl) ?_
                      refine lv_iload_n C0.1 C0.2.1 dX10_load_132 rfl (lv_at hl 5 rfl) ?_
                      refine lv_iload_n C0.1 C0.2.1 dX10_load_133 rfl (lv_at hl 3 rfl) ?_
                      refine lv_bipush (v := iI (16)) C0.1 C0.2.1 dX10_load_134 (by decide) ?_
                      refine k_iadd C0 dX10_load_136 ?_
                      refine k_calli (n := 2) (wr := [(aP, .inl (cA 0, 200, .inl (fun y_ => iI (px y_)))), (aQ, .inl (cA 0, 4, .inl (fun y_ => iI (nm2 y_)))), (aM, .inl (cA 0, 1024, .inl (fun y_ => iI (ra y_)))), (aA, .inl (cA 0, 24, .inl (fun y_ => iI (ar y_))))]) C0 S (c_X10_intOf l D cA hM aD aM aX aP aQ aK aO aA a1 a2 a3 (st) (tl) (pn) (nq1) (kl) (ol) (al) d (fnd d ks m2) (x + 16) hd hB2 (by omega) (by omega) hcn (by omega) (by omega)) gX10_load_X10_intOf rfl ⟨rfl, rfl⟩ (by decide +kernel) ⟨Nat.le_of_ble_eq_true rfl, Nat.le_of_ble_eq_true rfl⟩ [0, 1] [2, 3, 4, 5] rfl rfl rfl rfl (by decide) (ci := 10) (q0 := 0) rfl rfl (As := [.int (iI (fnd d ks m2)), .int (iI (x + 16))]) rfl hl.1 rfl (Nat.le_of_ble_eq_true rfl) dX10_load_137 ⟨Nat.zero_le _, Nat.zero_le _⟩ (fun r u H locs hp S => ?_)
                      obtain ⟨rfl, rfl⟩ := hp
                      have S := S.sub (ws' := [(hM, .inr (10, [.ref aD, .ref aM, .int (iI (st)), .int (iI (chs d)), .int (iI (gTA d)), .int (iI (gT d)), .int (iI (gTS d)), .int (iI (gCS d)), .int (iI (gCA d)), .int (iI (gN d)), .int (iI (gRoot d)), .ref aX, .int (iI (tl)), .ref aP, .int (iI (pn)), .ref aQ, .int (iI (nq1)), .ref aK, .ref aO, .ref aA, .int (iI (kl)), .int (iI (ol)), .int (iI (al)), .ref a1, .ref a2, .ref a3])), (aD, .inl (cA 0, 2048, .inl (fun y_ => iI (d y_)))), (aP, .inl (cA 0, 200, .inl (fun y_ => iI (px y_)))), (aQ, .inl (cA 0, 4, .inl (fun y_ => iI (nm2 y_)))), (aM, .inl (cA 0, 1024, .inl (fun y_ => iI (ra y_)))), (aA, .inl (cA 0, 24, .inl (fun y_ => iI (ar y_))))]) [4, 5, 0, 1, 2, 3] rfl rfl
                      refine k_topeq (v := iI (cS d (rd d ((fnd d ks m2) + 5)) (x + 16))) cS_of ?_
                      have hb16 : -2147483648 ≤ cS d (rd d ((fnd d ks m2) + 5)) (x + 16) ∧ cS d (rd d ((fnd d ks m2) + 5)) (x + 16) < 2147483648 := iI_ir _
                      refine k_topeq (v := iI (kSt d (rd d (fnd d ks m2 + 5)) (wrd d (fnd d ks m2 + 6)))) (by unfold kSt; rw [hhd]) ?_
                      refine lv_istore (lv' := [(7, .int (iI (kSt d (rd d (fnd d ks m2 + 5)) (wrd d (fnd d ks m2 + 6))))), (6, .int (iI (kAd d (rd d (fnd d ks m2 + 5)) (wrd d (fnd d ks m2 + 6))))), (5, .int (iI (kCk d (rd d (fnd d ks m2 + 5)) (wrd d (fnd d ks m2 + 6))))), (4, .int (iI (kFl d (rd d (fnd d ks m2 + 5)) (wrd d (fnd d ks m2 + 6))))), (3, .int (iI (x))), (2, .int (iI ((wrd d (fnd d ks m2 + 6))))), (1, .int (iI (fnd d ks m2))), (0, .ref hM)]) C0.1 C0.2.1 dX10_load_140 hl (by decide) rfl (fun ls hl => ?_)
                      refine lv_ldc (v := iI (464367618)) C0.1 C0.2.1 C0.2.2.2.1 (C0.2.2.2.2 (.constant RX10 180 (iI (464367618))) (by decide +kernel)) dX10_load_142 ?_
                      refine lv_iload C0.1 C0.2.1 dX10_load_144 (lv_at hl 3 rfl) ?_
                      refine k_iadd C0 dX10_load_146 ?_
                      refine lv_iload C0.1 C0.2.1 dX10_load_147 (lv_at hl 2 rfl) ?_
                      refine k_iadd C0 dX10_load_149 ?_
                      refine lv_if_ne (tgt := 176) C0.1 C0.2.1 dX10_load_150 (by decide) (fun c150 => ?_) (fun c150 => ?_)
                      · refine lv_bipush (v := iI (-11)) C0.1 C0.2.1 dX10_load_176 (by decide) ?_
                        subst hQ
                        refine k_iret C0 S hAe hsz hr hlk dX10_load_178 ?_
                        have hq : ldC d g F N = _ := ldC_hd hps2 (by omega) (by rw [hfil]; omega) (by rw [hfil, hop]; exact fun h => c150 h.2.1)
                        exact ⟨_, _, _, _, congrArg iI hq.symm, rfl, fun h => absurd h (by omega), fun _ => ⟨rfl, rfl⟩, hra, hst, by omega⟩
                      · refine lv_iload C0.1 C0.2.1 dX10_load_153 (lv_at hl 3 rfl) ?_
                        refine lv_bipush (v := iI (-4)) C0.1 C0.2.1 dX10_load_155 (by decide) ?_
                        refine lv_iand C0.1 C0.2.1 dX10_load_157 ?_
                        refine lv_if_ne (tgt := 176) C0.1 C0.2.1 dX10_load_158 (by decide) (fun c158 => ?_) (fun c158 => ?_)
                        · refine lv_bipush (v := iI (-11)) C0.1 C0.2.1 dX10_load_176 (by decide) ?_
                          subst hQ
                          refine k_iret C0 S hAe hsz hr hlk dX10_load_178 ?_
                          have hq : ldC d g F N = _ := ldC_hd hps2 (by omega) (by rw [hfil]; omega) (by rw [hfil, hop]; exact fun h => c158 h.2.2.1)
                          exact ⟨_, _, _, _, congrArg iI hq.symm, rfl, fun h => absurd h (by omega), fun _ => ⟨rfl, rfl⟩, hra, hst, by omega⟩
                        · refine lv_iload C0.1 C0.2.1 dX10_load_161 (lv_at hl 3 rfl) ?_
                          refine lv_iconst (v := iI (1)) C0.1 C0.2.1 dX10_load_163 rfl ?_
                          refine lv_iand C0.1 C0.2.1 dX10_load_164 ?_
                          refine lv_if_eq (tgt := 179) C0.1 C0.2.1 dX10_load_165 (by decide) (fun c165 => ?_) (fun c165 => ?_)
                          · have hkad : -2147483648 ≤ kAd d (rd d (fnd d ks m2 + 5)) (wrd d (fnd d ks m2 + 6)) ∧ kAd d (rd d (fnd d ks m2 + 5)) (wrd d (fnd d ks m2 + 6)) < 2147483648 := iI_ir _
                            have hkst : -2147483648 ≤ kSt d (rd d (fnd d ks m2 + 5)) (wrd d (fnd d ks m2 + 6)) ∧ kSt d (rd d (fnd d ks m2 + 5)) (wrd d (fnd d ks m2 + 6)) < 2147483648 := iI_ir _
                            refine lv_iload C0.1 C0.2.1 dX10_load_179 (lv_at hl 1 rfl) ?_
                            refine lv_bipush (v := iI (64)) C0.1 C0.2.1 dX10_load_181 (by decide) ?_
                            refine k_icmp_lt (tgt := 212) C0 (by constructor <;> omega) ⟨by decide, by decide⟩ dX10_load_183 (by decide) (fun c183 => ?_) (fun c183 => ?_)
                            · refine lv_bipush (v := iI (-12)) C0.1 C0.2.1 dX10_load_212 (by decide) ?_
                              subst hQ
                              refine k_iret C0 S hAe hsz hr hlk dX10_load_214 ?_
                              have hhok : hdOk d (rd d (fnd d ks m2 + 5)) (wrd d (fnd d ks m2 + 6)) := ⟨by omega, c150, c158, Or.inl c165⟩
                              have hq : ldC d g F N = _ := ldC_rm hps2 (by omega) (by rw [hfil]; omega) (by rw [hfil, hop]; exact hhok) (by rw [hfil, hop]; unfold rmOk; omega)
                              exact ⟨_, _, _, _, congrArg iI hq.symm, rfl, fun h => absurd h (by omega), fun _ => ⟨rfl, rfl⟩, hra, hst, by omega⟩
                            · refine lv_iload C0.1 C0.2.1 dX10_load_186 (lv_at hl 1 rfl) ?_
                              refine lv_sipush (v := iI (1024)) C0.1 C0.2.1 dX10_load_188 (by decide) ?_
                              refine lv_iload_n C0.1 C0.2.1 dX10_load_191 rfl (lv_at hl 5 rfl) ?_
                              refine k_isub C0 dX10_load_192 ?_
                              refine k_icmp_gt (tgt := 212) C0 (by constructor <;> omega) (by constructor <;> omega) dX10_load_193 (by decide) (fun c193 => ?_) (fun c193 => ?_)
                              · refine lv_bipush (v := iI (-12)) C0.1 C0.2.1 dX10_load_212 (by decide) ?_
                                subst hQ
                                refine k_iret C0 S hAe hsz hr hlk dX10_load_214 ?_
                                have hhok : hdOk d (rd d (fnd d ks m2 + 5)) (wrd d (fnd d ks m2 + 6)) := ⟨by omega, c150, c158, Or.inl c165⟩
                                have hq : ldC d g F N = _ := ldC_rm hps2 (by omega) (by rw [hfil]; omega) (by rw [hfil, hop]; exact hhok) (by rw [hfil, hop]; unfold rmOk; omega)
                                exact ⟨_, _, _, _, congrArg iI hq.symm, rfl, fun h => absurd h (by omega), fun _ => ⟨rfl, rfl⟩, hra, hst, by omega⟩
                              · refine lv_iload C0.1 C0.2.1 dX10_load_196 (lv_at hl 0 rfl) ?_
                                refine lv_iload C0.1 C0.2.1 dX10_load_198 (lv_at hl 1 rfl) ?_
                                refine k_icmp_lt (tgt := 212) C0 (by constructor <;> omega) (by constructor <;> omega) dX10_load_200 (by decide) (fun c200 => ?_) (fun c200 => ?_)
                                · refine lv_bipush (v := iI (-12)) C0.1 C0.2.1 dX10_load_212 (by decide) ?_
                                  subst hQ
                                  refine k_iret C0 S hAe hsz hr hlk dX10_load_214 ?_
                                  have hhok : hdOk d (rd d (fnd d ks m2 + 5)) (wrd d (fnd d ks m2 + 6)) := ⟨by omega, c150, c158, Or.inl c165⟩
                                  have hq : ldC d g F N = _ := ldC_rm hps2 (by omega) (by rw [hfil]; omega) (by rw [hfil, hop]; exact hhok) (by rw [hfil, hop]; unfold rmOk; omega)
                                  exact ⟨_, _, _, _, congrArg iI hq.symm, rfl, fun h => absurd h (by omega), fun _ => ⟨rfl, rfl⟩, hra, hst, by omega⟩
                                · refine lv_iload C0.1 C0.2.1 dX10_load_203 (lv_at hl 0 rfl) ?_
                                  refine lv_iload C0.1 C0.2.1 dX10_load_205 (lv_at hl 1 rfl) ?_
                                  refine lv_iload_n C0.1 C0.2.1 dX10_load_207 rfl (lv_at hl 5 rfl) ?_
                                  refine k_iadd C0 dX10_load_208 ?_
                                  refine k_icmp_lt (tgt := 215) C0 (by constructor <;> omega) (by constructor <;> omega) dX10_load_209 (by decide) (fun c209 => ?_) (fun c209 => ?_)
                                  · refine lv_aload_n C0.1 C0.2.1 dX10_load_215 rfl (lv_at hl 7 rfl) ?_
                                    refine lv_iload_n C0.1 C0.2.1 dX10_load_216 rfl (lv_at hl 6 rfl) ?_
                                    refine lv_iload C0.1 C0.2.1 dX10_load_217 (lv_at hl 1 rfl) ?_
                                    refine lv_iload C0.1 C0.2.1 dX10_load_219 (lv_at hl 3 rfl) ?_
                                    refine k_callv (n := 3) (wr := [(aP, .inl (cA 0, 200, .inl (fun y_ => iI (px y_)))), (aQ, .inl (cA 0, 4, .inl (fun y_ => iI (nm2 y_))))]) C0 S (c_X10_fill l D cA hM aD aM aX aP aQ aK aO aA a1 a2 a3 (st) (tl) (pn) (nq1) (kl) (ol) (al) d ra ar (fnd d ks m2) (kAd d (rd d (fnd d ks m2 + 5)) (wrd d (fnd d ks m2 + 6))) (kFl d (rd d (fnd d ks m2 + 5)) (wrd d (fnd d ks m2 + 6))) hd hB2 har (by omega) (by omega) hcn (by omega) (by omega) (by omega) hal) gX10_load_X10_fill rfl ⟨rfl, rfl⟩ (by decide +kernel) ⟨Nat.le_of_ble_eq_true rfl, Nat.le_of_ble_eq_true rfl⟩ [0, 1, 4, 5] [2, 3] rfl rfl rfl rfl (by decide) (ci := 10) (q0 := 0) rfl rfl (As := [.int (iI (fnd d ks m2)), .int (iI (kAd d (rd d (fnd d ks m2 + 5)) (wrd d (fnd d ks m2 + 6)))), .int (iI (kFl d (rd d (fnd d ks m2 + 5)) (wrd d (fnd d ks m2 + 6))))]) rfl hl.1 rfl (Nat.le_of_ble_eq_true rfl) dX10_load_221 ⟨Nat.zero_le _, Nat.zero_le _⟩ (fun u H locs hp S => ?_)
                                    obtain rfl := hp
                                    have S := S.sub (ws' := [(hM, .inr (10, [.ref aD, .ref aM, .int (iI (st)), .int (iI (chs d)), .int (iI (gTA d)), .int (iI (gT d)), .int (iI (gTS d)), .int (iI (gCS d)), .int (iI (gCA d)), .int (iI (gN d)), .int (iI (gRoot d)), .ref aX, .int (iI (tl)), .ref aP, .int (iI (pn)), .ref aQ, .int (iI (nq1)), .ref aK, .ref aO, .ref aA, .int (iI (kl)), .int (iI (ol)), .int (iI (al)), .ref a1, .ref a2, .ref a3])), (aD, .inl (cA 0, 2048, .inl (fun y_ => iI (d y_)))), (aP, .inl (cA 0, 200, .inl (fun y_ => iI (px y_)))), (aQ, .inl (cA 0, 4, .inl (fun y_ => iI (nm2 y_)))), (aM, .inl (cA 0, 1024, .inl (fun y_ => iI ((cpK (inf (cpK (fun _ => (0 : Int)) (kAd d (rd d (fnd d ks m2 + 5)) (wrd d (fnd d ks m2 + 6))) (ctn d (rd d ((fnd d ks m2) + 5))) (wrd d ((fnd d ks m2) + 6)).toNat) (limS (kFl d (rd d (fnd d ks m2 + 5)) (wrd d (fnd d ks m2 + 6)))) (argS (al)) (kAd d (rd d (fnd d ks m2 + 5)) (wrd d (fnd d ks m2 + 6))) ((kAd d (rd d (fnd d ks m2 + 5)) (wrd d (fnd d ks m2 + 6))) + wrd d ((fnd d ks m2) + 6)) (chs d)) 32 ar (al).toNat) y_)))), (aA, .inl (cA 0, 24, .inl (fun y_ => iI (ar y_))))]) [2, 3, 0, 1, 4, 5] rfl rfl
                                    refine lv_aload_n C0.1 C0.2.1 dX10_load_224 rfl (lv_at hl 7 rfl) ?_
                                    refine lv_iload C0.1 C0.2.1 dX10_load_225 (lv_at hl 0 rfl) ?_
                                    refine k_put (ws' := [(hM, .inr (10, [.ref aD, .ref aM, .int (iI (kSt d (rd d (fnd d ks m2 + 5)) (wrd d (fnd d ks m2 + 6)))), .int (iI (chs d)), .int (iI (gTA d)), .int (iI (gT d)), .int (iI (gTS d)), .int (iI (gCS d)), .int (iI (gCA d)), .int (iI (gN d)), .int (iI (gRoot d)), .ref aX, .int (iI (tl)), .ref aP, .int (iI (pn)), .ref aQ, .int (iI (nq1)), .ref aK, .ref aO, .ref aA, .int (iI (kl)), .int (iI (ol)), .int (iI (al)), .ref a1, .ref a2, .ref a3])), (aD, .inl (cA 0, 2048, .inl (fun y_ => iI (d y_)))), (aP, .inl (cA 0, 200, .inl (fun y_ => iI (px y_)))), (aQ, .inl (cA 0, 4, .inl (fun y_ => iI (nm2 y_)))), (aM, .inl (cA 0, 1024, .inl (fun y_ => iI ((cpK (inf (cpK (fun _ => (0 : Int)) (kAd d (rd d (fnd d ks m2 + 5)) (wrd d (fnd d ks m2 + 6))) (ctn d (rd d ((fnd d ks m2) + 5))) (wrd d ((fnd d ks m2) + 6)).toNat) (limS (kFl d (rd d (fnd d ks m2 + 5)) (wrd d (fnd d ks m2 + 6)))) (argS (al)) (kAd d (rd d (fnd d ks m2 + 5)) (wrd d (fnd d ks m2 + 6))) ((kAd d (rd d (fnd d ks m2 + 5)) (wrd d (fnd d ks m2 + 6))) + wrd d ((fnd d ks m2) + 6)) (chs d)) 32 ar (al).toNat) y_)))), (aA, .inl (cA 0, 24, .inl (fun y_ => iI (ar y_))))]) C0 S (C := RX10) (T := TX10) (N := 26) (ci := 10) (by decide +kernel) tyX10 tyX10_ok nmX10 0 rfl rfl 2 (by decide) (by decide +kernel) rfl (v := .int (iI (kSt d (rd d (fnd d ks m2 + 5)) (wrd d (fnd d ks m2 + 6))))) rfl rfl (Nat.le_of_ble_eq_true rfl) dX10_load_227 rfl (fun H locs S => ?_)
                                    refine lv_iconst (v := iI (0)) C0.1 C0.2.1 dX10_load_230 rfl ?_
                                    subst hQ
                                    refine k_iret C0 S hAe hsz hr hlk dX10_load_231 ?_
                                    have hhok : hdOk d (rd d (fnd d ks m2 + 5)) (wrd d (fnd d ks m2 + 6)) := ⟨by omega, c150, c158, Or.inl c165⟩
                                    have hq : ldC d g F N = 0 := ldC_ok hps2 (by omega) (by rw [hfil]; omega) (by rw [hfil, hop]; exact hhok) (by rw [hfil, hop]; unfold rmOk; omega)
                                    have hqa : ldA d g F N = fnd d ks m2 := (ldA_some hps2).trans hfil
                                    refine ⟨_, _, _, _, congrArg iI hq.symm, rfl, fun _ => ⟨?_, ?_⟩, fun h => absurd hq h, ?_, iI_ir _, by omega⟩
                                    · rw [hqa, hop]
                                    · rw [hqa, hop]
                                    · exact By_cpK _ (By_inf (By_cpK _ By_0 (By_ctn hd _) _) _ _ _ _ _) har _
                                  · refine lv_bipush (v := iI (-12)) C0.1 C0.2.1 dX10_load_212 (by decide) ?_
                                    subst hQ
                                    refine k_iret C0 S hAe hsz hr hlk dX10_load_214 ?_
                                    have hhok : hdOk d (rd d (fnd d ks m2 + 5)) (wrd d (fnd d ks m2 + 6)) := ⟨by omega, c150, c158, Or.inl c165⟩
                                    have hq : ldC d g F N = _ := ldC_rm hps2 (by omega) (by rw [hfil]; omega) (by rw [hfil, hop]; exact hhok) (by rw [hfil, hop]; unfold rmOk; omega)
                                    exact ⟨_, _, _, _, congrArg iI hq.symm, rfl, fun h => absurd h (by omega), fun _ => ⟨rfl, rfl⟩, hra, hst, by omega⟩
                          · have hkad : -2147483648 ≤ kAd d (rd d (fnd d ks m2 + 5)) (wrd d (fnd d ks m2 + 6)) ∧ kAd d (rd d (fnd d ks m2 + 5)) (wrd d (fnd d ks m2 + 6)) < 2147483648 := iI_ir _
                            refine lv_iload C0.1 C0.2.1 dX10_load_168 (lv_at hl 1 rfl) ?_
                            refine lv_bipush (v := iI (16)) C0.1 C0.2.1 dX10_load_170 (by decide) ?_
                            refine k_irem C0 (by constructor <;> omega) (by omega) (by omega) dX10_load_172 ?_
                            refine lv_if_eq (tgt := 179) C0.1 C0.2.1 dX10_load_173 (by decide) (fun c173 => ?_) (fun c173 => ?_)
                            · have hkad : -2147483648 ≤ kAd d (rd d (fnd d ks m2 + 5)) (wrd d (fnd d ks m2 + 6)) ∧ kAd d (rd d (fnd d ks m2 + 5)) (wrd d (fnd d ks m2 + 6)) < 2147483648 := iI_ir _
                              have hkst : -2147483648 ≤ kSt d (rd d (fnd d ks m2 + 5)) (wrd d (fnd d ks m2 + 6)) ∧ kSt d (rd d (fnd d ks m2 + 5)) (wrd d (fnd d ks m2 + 6)) < 2147483648 := iI_ir _
                              refine lv_iload C0.1 C0.2.1 dX10_load_179 (lv_at hl 1 rfl) ?_
                              refine lv_bipush (v := iI (64)) C0.1 C0.2.1 dX10_load_181 (by decide) ?_
                              refine k_icmp_lt (tgt := 212) C0 (by constructor <;> omega) ⟨by decide, by decide⟩ dX10_load_183 (by decide) (fun c183 => ?_) (fun c183 => ?_)
                              · refine lv_bipush (v := iI (-12)) C0.1 C0.2.1 dX10_load_212 (by decide) ?_
                                subst hQ
                                refine k_iret C0 S hAe hsz hr hlk dX10_load_214 ?_
                                have hhok : hdOk d (rd d (fnd d ks m2 + 5)) (wrd d (fnd d ks m2 + 6)) := ⟨by omega, c150, c158, Or.inr c173⟩
                                have hq : ldC d g F N = _ := ldC_rm hps2 (by omega) (by rw [hfil]; omega) (by rw [hfil, hop]; exact hhok) (by rw [hfil, hop]; unfold rmOk; omega)
                                exact ⟨_, _, _, _, congrArg iI hq.symm, rfl, fun h => absurd h (by omega), fun _ => ⟨rfl, rfl⟩, hra, hst, by omega⟩
                              · refine lv_iload C0.1 C0.2.1 dX10_load_186 (lv_at hl 1 rfl) ?_
                                refine lv_sipush (v := iI (1024)) C0.1 C0.2.1 dX10_load_188 (by decide) ?_
                                refine lv_iload_n C0.1 C0.2.1 dX10_load_191 rfl (lv_at hl 5 rfl) ?_
                                refine k_isub C0 dX10_load_192 ?_
                                refine k_icmp_gt (tgt := 212) C0 (by constructor <;> omega) (by constructor <;> omega) dX10_load_193 (by decide) (fun c193 => ?_) (fun c193 => ?_)
                                · refine lv_bipush (v := iI (-12)) C0.1 C0.2.1 dX10_load_212 (by decide) ?_
                                  subst hQ
                                  refine k_iret C0 S hAe hsz hr hlk dX10_load_214 ?_
                                  have hhok : hdOk d (rd d (fnd d ks m2 + 5)) (wrd d (fnd d ks m2 + 6)) := ⟨by omega, c150, c158, Or.inr c173⟩
                                  have hq : ldC d g F N = _ := ldC_rm hps2 (by omega) (by rw [hfil]; omega) (by rw [hfil, hop]; exact hhok) (by rw [hfil, hop]; unfold rmOk; omega)
                                  exact ⟨_, _, _, _, congrArg iI hq.symm, rfl, fun h => absurd h (by omega), fun _ => ⟨rfl, rfl⟩, hra, hst, by omega⟩
                                · refine lv_iload C0.1 C0.2.1 dX10_load_196 (lv_at hl 0 rfl) ?_
                                  refine lv_iload C0.1 C0.2.1 dX10_load_198 (lv_at hl 1 rfl) ?_
                                  refine k_icmp_lt (tgt := 212) C0 (by constructor <;> omega) (by constructor <;> omega) dX10_load_200 (by decide) (fun c200 => ?_) (fun c200 => ?_)
                                  · refine lv_bipush (v := iI (-12)) C0.1 C0.2.1 dX10_load_212 (by decide) ?_
                                    subst hQ
                                    refine k_iret C0 S hAe hsz hr hlk dX10_load_214 ?_
                                    have hhok : hdOk d (rd d (fnd d ks m2 + 5)) (wrd d (fnd d ks m2 + 6)) := ⟨by omega, c150, c158, Or.inr c173⟩
                                    have hq : ldC d g F N = _ := ldC_rm hps2 (by omega) (by rw [hfil]; omega) (by rw [hfil, hop]; exact hhok) (by rw [hfil, hop]; unfold rmOk; omega)
                                    exact ⟨_, _, _, _, congrArg iI hq.symm, rfl, fun h => absurd h (by omega), fun _ => ⟨rfl, rfl⟩, hra, hst, by omega⟩
                                  · refine lv_iload C0.1 C0.2.1 dX10_load_203 (lv_at hl 0 rfl) ?_
                                    refine lv_iload C0.1 C0.2.1 dX10_load_205 (lv_at hl 1 rfl) ?_
                                    refine lv_iload_n C0.1 C0.2.1 dX10_load_207 rfl (lv_at hl 5 rfl) ?_
                                    refine k_iadd C0 dX10_load_208 ?_
                                    refine k_icmp_lt (tgt := 215) C0 (by constructor <;> omega) (by constructor <;> omega) dX10_load_209 (by decide) (fun c209 => ?_) (fun c209 => ?_)
                                    · refine lv_aload_n C0.1 C0.2.1 dX10_load_215 rfl (lv_at hl 7 rfl) ?_
                                      refine lv_iload_n C0.1 C0.2.1 dX10_load_216 rfl (lv_at hl 6 rfl) ?_
                                      refine lv_iload C0.1 C0.2.1 dX10_load_217 (lv_at hl 1 rfl) ?_
                                      refine lv_iload C0.1 C0.2.1 dX10_load_219 (lv_at hl 3 rfl) ?_
                                      refine k_callv (n := 3) (wr := [(aP, .inl (cA 0, 200, .inl (fun y_ => iI (px y_)))), (aQ, .inl (cA 0, 4, .inl (fun y_ => iI (nm2 y_))))]) C0 S (c_X10_fill l D cA hM aD aM aX aP aQ aK aO aA a1 a2 a3 (st) (tl) (pn) (nq1) (kl) (ol) (al) d ra ar (fnd d ks m2) (kAd d (rd d (fnd d ks m2 + 5)) (wrd d (fnd d ks m2 + 6))) (kFl d (rd d (fnd d ks m2 + 5)) (wrd d (fnd d ks m2 + 6))) hd hB2 har (by omega) (by omega) hcn (by omega) (by omega) (by omega) hal) gX10_load_X10_fill rfl ⟨rfl, rfl⟩ (by decide +kernel) ⟨Nat.le_of_ble_eq_true rfl, Nat.le_of_ble_eq_true rfl⟩ [0, 1, 4, 5] [2, 3] rfl rfl rfl rfl (by decide) (ci := 10) (q0 := 0) rfl rfl (As := [.int (iI (fnd d ks m2)), .int (iI (kAd d (rd d (fnd d ks m2 + 5)) (wrd d (fnd d ks m2 + 6)))), .int (iI (kFl d (rd d (fnd d ks m2 + 5)) (wrd d (fnd d ks m2 + 6))))]) rfl hl.1 rfl (Nat.le_of_ble_eq_true rfl) dX10_load_221 ⟨Nat.zero_le _, Nat.zero_le _⟩ (fun u H locs hp S => ?_)
                                      obtain rfl := hp
                                      have S := S.sub (ws' := [(hM, .inr (10, [.ref aD, .ref aM, .int (iI (st)), .int (iI (chs d)), .int (iI (gTA d)), .int (iI (gT d)), .int (iI (gTS d)), .int (iI (gCS d)), .int (iI (gCA d)), .int (iI (gN d)), .int (iI (gRoot d)), .ref aX, .int (iI (tl)), .ref aP, .int (iI (pn)), .ref aQ, .int (iI (nq1)), .ref aK, .ref aO, .ref aA, .int (iI (kl)), .int (iI (ol)), .int (iI (al)), .ref a1, .ref a2, .ref a3])), (aD, .inl (cA 0, 2048, .inl (fun y_ => iI (d y_)))), (aP, .inl (cA 0, 200, .inl (fun y_ => iI (px y_)))), (aQ, .inl (cA 0, 4, .inl (fun y_ => iI (nm2 y_)))), (aM, .inl (cA 0, 1024, .inl (fun y_ => iI ((cpK (inf (cpK (fun _ => (0 : Int)) (kAd d (rd d (fnd d ks m2 + 5)) (wrd d (fnd d ks m2 + 6))) (ctn d (rd d ((fnd d ks m2) + 5))) (wrd d ((fnd d ks m2) + 6)).toNat) (limS (kFl d (rd d (fnd d ks m2 + 5)) (wrd d (fnd d ks m2 + 6)))) (argS (al)) (kAd d (rd d (fnd d ks m2 + 5)) (wrd d (fnd d ks m2 + 6))) ((kAd d (rd d (fnd d ks m2 + 5)) (wrd d (fnd d ks m2 + 6))) + wrd d ((fnd d ks m2) + 6)) (chs d)) 32 ar (al).toNat) y_)))), (aA, .inl (cA 0, 24, .inl (fun y_ => iI (ar y_))))]) [2, 3, 0, 1, 4, 5] rfl rfl
                                      refine lv_aload_n C0.1 C0.2.1 dX10_load_224 rfl (lv_at hl 7 rfl) ?_
                                      refine lv_iload C0.1 C0.2.1 dX10_load_225 (lv_at hl 0 rfl) ?_
                                      refine k_put (ws' := [(hM, .inr (10, [.ref aD, .ref aM, .int (iI (kSt d (rd d (fnd d ks m2 + 5)) (wrd d (fnd d ks m2 + 6)))), .int (iI (chs d)), .int (iI (gTA d)), .int (iI (gT d)), .int (iI (gTS d)), .int (iI (gCS d)), .int (iI (gCA d)), .int (iI (gN d)), .int (iI (gRoot d)), .ref aX, .int (iI (tl)), .ref aP, .int (iI (pn)), .ref aQ, .int (iI (nq1)), .ref aK, .ref aO, .ref aA, .int (iI (kl)), .int (iI (ol)), .int (iI (al)), .ref a1, .ref a2, .ref a3])), (aD, .inl (cA 0, 2048, .inl (fun y_ => iI (d y_)))), (aP, .inl (cA 0, 200, .inl (fun y_ => iI (px y_)))), (aQ, .inl (cA 0, 4, .inl (fun y_ => iI (nm2 y_)))), (aM, .inl (cA 0, 1024, .inl (fun y_ => iI ((cpK (inf (cpK (fun _ => (0 : Int)) (kAd d (rd d (fnd d ks m2 + 5)) (wrd d (fnd d ks m2 + 6))) (ctn d (rd d ((fnd d ks m2) + 5))) (wrd d ((fnd d ks m2) + 6)).toNat) (limS (kFl d (rd d (fnd d ks m2 + 5)) (wrd d (fnd d ks m2 + 6)))) (argS (al)) (kAd d (rd d (fnd d ks m2 + 5)) (wrd d (fnd d ks m2 + 6))) ((kAd d (rd d (fnd d ks m2 + 5)) (wrd d (fnd d ks m2 + 6))) + wrd d ((fnd d ks m2) + 6)) (chs d)) 32 ar (al).toNat) y_)))), (aA, .inl (cA 0, 24, .inl (fun y_ => iI (ar y_))))]) C0 S (C := RX10) (T := TX10) (N := 26) (ci := 10) (by decide +kernel) tyX10 tyX10_ok nmX10 0 rfl rfl 2 (by decide) (by decide +kernel) rfl (v := .int (iI (kSt d (rd d (fnd d ks m2 + 5)) (wrd d (fnd d ks m2 + 6))))) rfl rfl (Nat.le_of_ble_eq_true rfl) dX10_load_227 rfl (fun H locs S => ?_)
                                      refine lv_iconst (v := iI (0)) C0.1 C0.2.1 dX10_load_230 rfl ?_
                                      subst hQ
                                      refine k_iret C0 S hAe hsz hr hlk dX10_load_231 ?_
                                      have hhok : hdOk d (rd d (fnd d ks m2 + 5)) (wrd d (fnd d ks m2 + 6)) := ⟨by omega, c150, c158, Or.inr c173⟩
                                      have hq : ldC d g F N = 0 := ldC_ok hps2 (by omega) (by rw [hfil]; omega) (by rw [hfil, hop]; exact hhok) (by rw [hfil, hop]; unfold rmOk; omega)
                                      have hqa : ldA d g F N = fnd d ks m2 := (ldA_some hps2).trans hfil
                                      refine ⟨_, _, _, _, congrArg iI hq.symm, rfl, fun _ => ⟨?_, ?_⟩, fun h => absurd hq h, ?_, iI_ir _, by omega⟩
                                      · rw [hqa, hop]
                                      · rw [hqa, hop]
                                      · exact By_cpK _ (By_inf (By_cpK _ By_0 (By_ctn hd _) _) _ _ _ _ _) har _
                                    · refine lv_bipush (v := iI (-12)) C0.1 C0.2.1 dX10_load_212 (by decide) ?_
                                      subst hQ
                                      refine k_iret C0 S hAe hsz hr hlk dX10_load_214 ?_
                                      have hhok : hdOk d (rd d (fnd d ks m2 + 5)) (wrd d (fnd d ks m2 + 6)) := ⟨by omega, c150, c158, Or.inr c173⟩
                                      have hq : ldC d g F N = _ := ldC_rm hps2 (by omega) (by rw [hfil]; omega) (by rw [hfil, hop]; exact hhok) (by rw [hfil, hop]; unfold rmOk; omega)
                                      exact ⟨_, _, _, _, congrArg iI hq.symm, rfl, fun h => absurd h (by omega), fun _ => ⟨rfl, rfl⟩, hra, hst, by omega⟩
                            · refine lv_bipush (v := iI (-11)) C0.1 C0.2.1 dX10_load_176 (by decide) ?_
                              subst hQ
                              refine k_iret C0 S hAe hsz hr hlk dX10_load_178 ?_
                              have hq : ldC d g F N = _ := ldC_hd hps2 (by omega) (by rw [hfil]; omega) (by rw [hfil, hop]; exact fun h => by rcases h.2.2.2 with q | q; exact c165 q; exact c173 q)
                              exact ⟨_, _, _, _, congrArg iI hq.symm, rfl, fun h => absurd h (by omega), fun _ => ⟨rfl, rfl⟩, hra, hst, by omega⟩
                    · exact absurd c93 (by omega)
                · refine lv_iinc (v := iI (x + 4)) (lv' := [(3, .int (iI (x + 4))), (2, .int (iI ((wrd d (fnd d ks m2 + 6))))), (1, .int (iI (fnd d ks m2))), (0, .ref hM)]) C0.1 C0.2.1 dX10_load_76 hl (k := 0) rfl (iI_add _ _) (by decide) rfl (fun ls hl => ?_)
                  refine lv_goto (tgt := 51) C0.1 C0.2.1 dX10_load_79 (by decide) ?_
                  exact ih51 (j + 1) (x + 4) (by omega) (by omega) (by rw [hi51_2, show 8 - j = (8 - (j + 1)) + 1 by omega]; exact hdF_step (by omega) c73) (by omega) _ _ S _ (lv_sub hl [0, 1, 2, 3] rfl)
        exact L51 (9) (0) (0) (by decide) rfl rfl (by omega) _ _ S _ (lv_sub hl [0, 1, 2, 3] rfl)
      · refine lv_aload_n C0.1 C0.2.1 dX10_load_27 rfl (lv_at hl 1 rfl) ?_
        refine lv_iload_n C0.1 C0.2.1 dX10_load_28 rfl (lv_at hl 0 rfl) ?_
        refine k_calli (n := 1) (wr := [(aP, .inl (cA 0, 200, .inl (fun y_ => iI (px y_)))), (aQ, .inl (cA 0, 4, .inl (fun y_ => iI (nm2 y_)))), (aM, .inl (cA 0, 1024, .inl (fun y_ => iI (ra y_)))), (aA, .inl (cA 0, 24, .inl (fun y_ => iI (ar y_))))]) C0 S (c_X10_isDirectory l D cA hM aD aM aX aP aQ aK aO aA a1 a2 a3 (st) (chs d) (gTA d) (gT d) (gTS d) (gCS d) (gCA d) (gN d) (gRoot d) (tl) (pn) (nq1) (kl) (ol) (al) d (fnd d ks m2) hd (by omega) (by omega)) gX10_load_X10_isDirectory rfl ⟨rfl, rfl⟩ (by decide +kernel) ⟨Nat.le_of_ble_eq_true rfl, Nat.le_of_ble_eq_true rfl⟩ [0, 1] [2, 3, 4, 5] rfl rfl rfl rfl (by decide) (ci := 10) (q0 := 0) rfl rfl (As := [.int (iI (fnd d ks m2))]) rfl hl.1 rfl (Nat.le_of_ble_eq_true rfl) dX10_load_29 ⟨Nat.zero_le _, Nat.zero_le _⟩ (fun r u H locs hp S => ?_)
        obtain ⟨rfl, rfl⟩ := hp
        have S := S.sub (ws' := [(hM, .inr (10, [.ref aD, .ref aM, .int (iI (st)), .int (iI (chs d)), .int (iI (gTA d)), .int (iI (gT d)), .int (iI (gTS d)), .int (iI (gCS d)), .int (iI (gCA d)), .int (iI (gN d)), .int (iI (gRoot d)), .ref aX, .int (iI (tl)), .ref aP, .int (iI (pn)), .ref aQ, .int (iI (nq1)), .ref aK, .ref aO, .ref aA, .int (iI (kl)), .int (iI (ol)), .int (iI (al)), .ref a1, .ref a2, .ref a3])), (aD, .inl (cA 0, 2048, .inl (fun y_ => iI (d y_)))), (aP, .inl (cA 0, 200, .inl (fun y_ => iI (px y_)))), (aQ, .inl (cA 0, 4, .inl (fun y_ => iI (nm2 y_)))), (aM, .inl (cA 0, 1024, .inl (fun y_ => iI (ra y_)))), (aA, .inl (cA 0, 24, .inl (fun y_ => iI (ar y_))))]) [4, 5, 0, 1, 2, 3] rfl rfl
        refine k_bz_eq (tgt := 40) C0 dX10_load_32 (by decide) (fun c32 => ?_) (fun c32 => ?_)
        · refine lv_bipush (v := iI (-9)) C0.1 C0.2.1 dX10_load_40 (by decide) ?_
          subst hQ
          refine k_iret C0 S hAe hsz hr hlk dX10_load_42 ?_
          have hfil : fil d ks m2 = fnd d ks m2 := fil_no (by rintro ⟨h1, h2⟩; exact c16 h2)
          have hq : ldC d g F N = -9 := (ldC_opn hps2 (by omega) (by rw [hfil]; exact c24)).trans (by rw [hfil]; exact hon.1.mp c24)
          exact ⟨_, _, _, _, congrArg iI hq.symm, rfl, fun h => absurd h (by omega), fun _ => ⟨rfl, rfl⟩, hra, hst, by omega⟩
        · exact absurd c32 c16
  · refine lv_iload_n C0.1 C0.2.1 dX10_load_9 rfl (lv_at hl 0 rfl) ?_
    subst hQ
    refine k_iret C0 S hAe hsz hr hlk dX10_load_10 ?_
    have hq : ldC d g F N = fnM d px pn.toNat := by
      cases h : psr px pn.toNat with
      | none => rw [fnM_none h]; exact ldC_none (by rw [← hg]; exact h)
      | some v =>
        obtain ⟨m2, ks⟩ := v
        have hfm := fnM_some (d := d) h
        rw [hfm] at c6 ⊢
        have hfil : fil d ks m2 = fnd d ks m2 := fil_no (by rintro ⟨h1, h2⟩; omega)
        rw [← hfil]; exact ldC_fil (by rw [← hg]; exact h) (by omega)
    exact ⟨_, _, _, _, congrArg iI hq.symm, rfl, fun h => absurd h (by omega), fun _ => ⟨rfl, rfl⟩, hra, hst, by omega⟩
theorem psr_m {px g : Nat → Int} {kl F N : Int} (h : (∀ j : Nat, (j : Int) < kl → px j = gtx g F j)) (e : kl = N) : psr px kl.toNat = psr (gtx g F) N.toNat := by
  rw [e]
  exact psr_congr (fun j hj => h j (by omega))
theorem ramS_m {d ar g : Nat → Int} {a al F N : Int} (h : AR ar al g F N) : cpK (inf (cpK (fun _ => 0) (kAd d (rd d (a + 5)) (opn d a)) (ctn d (rd d (a + 5))) (opn d a).toNat) (limS (kFl d (rd d (a + 5)) (opn d a))) (argS al) (kAd d (rd d (a + 5)) (opn d a)) (kAd d (rd d (a + 5)) (opn d a) + opn d a) (chs d)) 32 ar al.toNat = ramS d g a F N := by
  unfold ramS
  rw [h.1]
  exact cpK_congr _ (fun j hj => h.2 j (by omega))
def rmX10_boot : Room := { frames := 7, cells := 0, slots := 0, locals := 167 }
set_option maxHeartbeats 4000000 in
set_option maxRecDepth 100000 in
theorem c_X10_boot (l : Launch) (D : va_G) (cA : Nat → ClassId) (hM aD aM aX aP aQ aK aO aA a1 a2 a3 : Nat) (st r3 r4 r5 r6 r7 r8 r9 r10 tl pn nc kl ol al : Int) (d : Nat → Int) (px nm ra kk oo ar : Nat → Int) (hd : By d) (hpx : By px) (hra : By ra) (hkk : By kk) (hoo : By oo) (har : By ar) (hst : ir st) : kCi l D vwCl (kTys cA) yX10_boot wsX10_boot rmX10_boot [.ref hM] [(hM, .inr (10, [.ref aD, .ref aM, .int (iI (st)), .int (iI (r3)), .int (iI (r4)), .int (iI (r5)), .int (iI (r6)), .int (iI (r7)), .int (iI (r8)), .int (iI (r9)), .int (iI (r10)), .ref aX, .int (iI (tl)), .ref aP, .int (iI (pn)), .ref aQ, .int (iI (nc)), .ref aK, .ref aO, .ref aA, .int (iI (kl)), .int (iI (ol)), .int (iI (al)), .ref a1, .ref a2, .ref a3])), (aD, .inl (cA 0, 2048, .inl (fun y_ => iI (d y_)))), (aP, .inl (cA 0, 200, .inl (fun y_ => iI (px y_)))), (aQ, .inl (cA 0, 4, .inl (fun y_ => iI (nm y_)))), (aM, .inl (cA 0, 1024, .inl (fun y_ => iI (ra y_)))), (aK, .inl (cA 0, 200, .inl (fun y_ => iI (kk y_)))), (aO, .inl (cA 0, 200, .inl (fun y_ => iI (oo y_)))), (aA, .inl (cA 0, 24, .inl (fun y_ => iI (ar y_))))] (fun r u => ∃ (x1 x2 x3 x4 x5 x6 x7 x8 pn2 nc2 st2 kl2 ol2 al2 : Int) (px2 nm2 ra2 kk2 oo2 ar2 : Nat → Int), r = iI ((boA d ra st).1) ∧ u = [(hM, .inr (10, [.ref aD, .ref aM, .int (iI (st2)), .int (iI (x1)), .int (iI (x2)), .int (iI (x3)), .int (iI (x4)), .int (iI (x5)), .int (iI (x6)), .int (iI (x7)), .int (iI (x8)), .ref aX, .int (iI (tl)), .ref aP, .int (iI (pn2)), .ref aQ, .int (iI (nc2)), .ref aK, .ref aO, .ref aA, .int (iI (kl2)), .int (iI (ol2)), .int (iI (al2)), .ref a1, .ref a2, .ref a3])), (aD, .inl (cA 0, 2048, .inl (fun y_ => iI (d y_)))), (aP, .inl (cA 0, 200, .inl (fun y_ => iI (px2 y_)))), (aQ, .inl (cA 0, 4, .inl (fun y_ => iI (nm2 y_)))), (aM, .inl (cA 0, 1024, .inl (fun y_ => iI (ra2 y_)))), (aK, .inl (cA 0, 200, .inl (fun y_ => iI (kk2 y_)))), (aO, .inl (cA 0, 200, .inl (fun y_ => iI (oo2 y_)))), (aA, .inl (cA 0, 24, .inl (fun y_ => iI (ar2 y_))))] ∧ ra2 = (boA d ra st).2.1 ∧ st2 = (boA d ra st).2.2 ∧ By px2 ∧ By ra2 ∧ By kk2 ∧ By oo2 ∧ By ar2 ∧ ir st2) := by
  intro sz
  refine kEntry (cc := cX10_boot) (maxL := 3) (ret := (some .int)) (by decide) rfl (Nat.le_of_ble_eq_true rfl) ?_
  intro p e s m args below meth c A Q hAe hQ C0 hr hlk S hsz ls hl
  have hl : lv_has ls 3 [(0, .ref hM)] := hl
  refine lv_aload_n C0.1 C0.2.1 dX10_boot_0 rfl (lv_at hl 0 rfl) ?_
  refine k_calli (n := 0) (wr := [(aP, .inl (cA 0, 200, .inl (fun y_ => iI (px y_)))), (aQ, .inl (cA 0, 4, .inl (fun y_ => iI (nm y_)))), (aM, .inl (cA 0, 1024, .inl (fun y_ => iI (ra y_)))), (aK, .inl (cA 0, 200, .inl (fun y_ => iI (kk y_)))), (aO, .inl (cA 0, 200, .inl (fun y_ => iI (oo y_)))), (aA, .inl (cA 0, 24, .inl (fun y_ => iI (ar y_))))]) C0 S (c_X10_volume l D cA hM aD aM aX aP aQ aK aO aA a1 a2 a3 (st) (r3) (r4) (r5) (r6) (r7) (r8) (r9) (r10) (tl) (pn) (nc) (kl) (ol) (al) d hd) gX10_boot_X10_volume rfl ⟨rfl, rfl⟩ (by decide +kernel) ⟨Nat.le_of_ble_eq_true rfl, Nat.le_of_ble_eq_true rfl⟩ [0, 1] [2, 3, 4, 5, 6, 7] rfl rfl rfl rfl (by decide) (ci := 10) (q0 := 0) rfl rfl (As := []) rfl hl.1 rfl (Nat.le_of_ble_eq_true rfl) dX10_boot_1 ⟨Nat.zero_le _, Nat.zero_le _⟩ (fun r u H locs hp S => ?_)
  obtain ⟨x1, x2, x3, x4, x5, x6, x7, x8, rfl, rfl, hgeo⟩ := hp
  have S := S.sub (ws' := [(hM, .inr (10, [.ref aD, .ref aM, .int (iI (st)), .int (iI (x1)), .int (iI (x2)), .int (iI (x3)), .int (iI (x4)), .int (iI (x5)), .int (iI (x6)), .int (iI (x7)), .int (iI (x8)), .ref aX, .int (iI (tl)), .ref aP, .int (iI (pn)), .ref aQ, .int (iI (nc)), .ref aK, .ref aO, .ref aA, .int (iI (kl)), .int (iI (ol)), .int (iI (al)), .ref a1, .ref a2, .ref a3])), (aD, .inl (cA 0, 2048, .inl (fun y_ => iI (d y_)))), (aP, .inl (cA 0, 200, .inl (fun y_ => iI (px y_)))), (aQ, .inl (cA 0, 4, .inl (fun y_ => iI (nm y_)))), (aM, .inl (cA 0, 1024, .inl (fun y_ => iI (ra y_)))), (aK, .inl (cA 0, 200, .inl (fun y_ => iI (kk y_)))), (aO, .inl (cA 0, 200, .inl (fun y_ => iI (oo y_)))), (aA, .inl (cA 0, 24, .inl (fun y_ => iI (ar y_))))]) [6, 7, 0, 1, 2, 3, 4, 5] rfl rfl
  have hvr := vol_range hd
  refine lv_istore_n (lv' := [(1, .int (iI (vol d))), (0, .ref hM)]) C0.1 C0.2.1 dX10_boot_4 rfl hl (by decide) rfl (fun ls hl => ?_)
  refine lv_iload_n C0.1 C0.2.1 dX10_boot_5 rfl (lv_at hl 0 rfl) ?_
  refine k_if_ge (tgt := 11) C0 (by constructor <;> omega) dX10_boot_6 (by decide) (fun c6 => ?_) (fun c6 => ?_)
  · have hGood := good_of_vol (show 0 ≤ vol d by omega)
    have hB2 := hGood.bounds hd
    have hlin := hB2.lin
    obtain ⟨rfl, rfl, rfl, rfl, rfl, rfl, rfl, rfl⟩ := hgeo (by omega)
    refine lv_aload_n C0.1 C0.2.1 dX10_boot_11 rfl (lv_at hl 1 rfl) ?_
    refine k_calli (n := 0) (wr := [(aM, .inl (cA 0, 1024, .inl (fun y_ => iI (ra y_))))]) C0 S (c_X10_settings l D cA hM aD aM aX aP aQ aK aO aA a1 a2 a3 (st) (tl) (pn) (nc) (kl) (ol) (al) d px nm kk oo ar hd hB2 hpx hkk hoo har) gX10_boot_X10_settings rfl ⟨rfl, rfl⟩ (by decide +kernel) ⟨Nat.le_of_ble_eq_true rfl, Nat.le_of_ble_eq_true rfl⟩ [0, 1, 2, 3, 5, 6, 7] [4] rfl rfl rfl rfl (by decide) (ci := 10) (q0 := 0) rfl rfl (As := []) rfl hl.1 rfl (Nat.le_of_ble_eq_true rfl) dX10_boot_12 ⟨Nat.zero_le _, Nat.zero_le _⟩ (fun r u H locs hp S => ?_)
    obtain ⟨e9, e10, e11, e12, e13, f14, f15, f16, f17, f18, rfl, rfl, hsr, hse, hsv, hpx3, hkk3, hoo3, har3⟩ := hp
    have S := S.sub (ws' := [(hM, .inr (10, [.ref aD, .ref aM, .int (iI (st)), .int (iI (chs d)), .int (iI (gTA d)), .int (iI (gT d)), .int (iI (gTS d)), .int (iI (gCS d)), .int (iI (gCA d)), .int (iI (gN d)), .int (iI (gRoot d)), .ref aX, .int (iI (tl)), .ref aP, .int (iI (e9)), .ref aQ, .int (iI (e10)), .ref aK, .ref aO, .ref aA, .int (iI (e11)), .int (iI (e12)), .int (iI (e13)), .ref a1, .ref a2, .ref a3])), (aD, .inl (cA 0, 2048, .inl (fun y_ => iI (d y_)))), (aP, .inl (cA 0, 200, .inl (fun y_ => iI (f14 y_)))), (aQ, .inl (cA 0, 4, .inl (fun y_ => iI (f15 y_)))), (aM, .inl (cA 0, 1024, .inl (fun y_ => iI (ra y_)))), (aK, .inl (cA 0, 200, .inl (fun y_ => iI (f16 y_)))), (aO, .inl (cA 0, 200, .inl (fun y_ => iI (f17 y_)))), (aA, .inl (cA 0, 24, .inl (fun y_ => iI (f18 y_))))]) [1, 2, 3, 4, 0, 5, 6, 7] rfl rfl
    refine lv_istore_n (lv' := [(2, .int (iI (stC d))), (1, .int (iI (vol d))), (0, .ref hM)]) C0.1 C0.2.1 dX10_boot_15 rfl hl (by decide) rfl (fun ls hl => ?_)
    refine lv_iload_n C0.1 C0.2.1 dX10_boot_16 rfl (lv_at hl 0 rfl) ?_
    refine k_if_ge (tgt := 22) C0 (by constructor <;> omega) dX10_boot_17 (by decide) (fun c17 => ?_) (fun c17 => ?_)
    · obtain ⟨S9, hS9⟩ := hse (by omega)
      have hlen2 : opn d (bAd d) ≤ 200 := stg_len hS9
      obtain ⟨⟨ar1, ar2, ar3⟩, ⟨sb1, sb2, sb3⟩⟩ := hsv S9 hS9 (by omega)
      have hk9 := stg_K hS9
      have ea1 := ar1.1
      have ea2 := ar2.1
      have ea3 := ar3.1
      refine lv_aload_n C0.1 C0.2.1 dX10_boot_22 rfl (lv_at hl 2 rfl) ?_
      refine lv_aload_n C0.1 C0.2.1 dX10_boot_23 rfl (lv_at hl 2 rfl) ?_
      refine k_get C0 S (C := RX10) (T := TX10) (N := 26) (ci := 10) (by decide +kernel) 0 rfl rfl 17 (by decide) (by decide +kernel) (v := .ref aK) rfl dX10_boot_24 ?_
      refine lv_aload_n C0.1 C0.2.1 dX10_boot_27 rfl (lv_at hl 2 rfl) ?_
      refine k_get C0 S (C := RX10) (T := TX10) (N := 26) (ci := 10) (by decide +kernel) 0 rfl rfl 20 (by decide) (by decide +kernel) (v := .int (iI (e11))) rfl dX10_boot_28 ?_
      refine k_callv (n := 2) (wr := [(aD, .inl (cA 0, 2048, .inl (fun y_ => iI (d y_)))), (aQ, .inl (cA 0, 4, .inl (fun y_ => iI (f15 y_)))), (aM, .inl (cA 0, 1024, .inl (fun y_ => iI (ra y_)))), (aO, .inl (cA 0, 200, .inl (fun y_ => iI (f17 y_)))), (aA, .inl (cA 0, 24, .inl (fun y_ => iI (f18 y_))))]) C0 S (c_X10_take l D cA hM aD aM aX aP aQ aK aO aA a1 a2 a3 (st) (chs d) (gTA d) (gT d) (gTS d) (gCS d) (gCA d) (gN d) (gRoot d) (tl) (e9) (e10) (e11) (e12) (e13) d aK 200 f14 f16 (e11) hpx3 hkk3 (by omega) (by omega) (by omega) (by omega)) gX10_boot_X10_take rfl ⟨rfl, rfl⟩ (by decide +kernel) ⟨Nat.le_of_ble_eq_true rfl, Nat.le_of_ble_eq_true rfl⟩ [0, 2, 5] [1, 3, 4, 6, 7] rfl rfl rfl rfl (by decide) (ci := 10) (q0 := 0) rfl rfl (As := [.ref aK, .int (iI (e11))]) rfl hl.1 rfl (Nat.le_of_ble_eq_true rfl) dX10_boot_31 ⟨Nat.zero_le _, Nat.zero_le _⟩ (fun u H locs hp S => ?_)
      obtain ⟨px19, rfl, hpqK, hpx2K⟩ := hp
      have S := S.sub (ws' := [(hM, .inr (10, [.ref aD, .ref aM, .int (iI (st)), .int (iI (chs d)), .int (iI (gTA d)), .int (iI (gT d)), .int (iI (gTS d)), .int (iI (gCS d)), .int (iI (gCA d)), .int (iI (gN d)), .int (iI (gRoot d)), .ref aX, .int (iI (tl)), .ref aP, .int (iI (e11)), .ref aQ, .int (iI (e10)), .ref aK, .ref aO, .ref aA, .int (iI (e11)), .int (iI (e12)), .int (iI (e13)), .ref a1, .ref a2, .ref a3])), (aD, .inl (cA 0, 2048, .inl (fun y_ => iI (d y_)))), (aP, .inl (cA 0, 200, .inl (fun y_ => iI (px19 y_)))), (aQ, .inl (cA 0, 4, .inl (fun y_ => iI (f15 y_)))), (aM, .inl (cA 0, 1024, .inl (fun y_ => iI (ra y_)))), (aK, .inl (cA 0, 200, .inl (fun y_ => iI (f16 y_)))), (aO, .inl (cA 0, 200, .inl (fun y_ => iI (f17 y_)))), (aA, .inl (cA 0, 24, .inl (fun y_ => iI (f18 y_))))]) [5, 0, 6, 1, 2, 7, 3, 4] rfl rfl
      have hpeK : ∀ j : Nat, (j : Int) < e11 → px19 j = gtx (bTx d) S9.1 j := fun j hj => by rw [hpqK j hj]; exact ar1.2 j (by have := ar1.1; omega)
      refine lv_aload_n C0.1 C0.2.1 dX10_boot_34 rfl (lv_at hl 2 rfl) ?_
      have hgp : psr px19 (e11).toNat = psr (gtx (bTx d) S9.1) (S9.2.1).toNat := psr_m hpeK (by omega)
      refine k_calli (n := 0) (wr := [(aK, .inl (cA 0, 200, .inl (fun y_ => iI (f16 y_)))), (aO, .inl (cA 0, 200, .inl (fun y_ => iI (f17 y_))))]) C0 S (c_X10_load l D cA hM aD aM aX aP aQ aK aO aA a1 a2 a3 (st) (tl) (e11) (e10) (e11) (e12) (e13) d px19 f15 ra f18 (bTx d) (S9.1) (S9.2.1) hd hB2 hpx2K hra har3 (by omega) (by omega) (by omega) hst hgp) gX10_boot_X10_load rfl ⟨rfl, rfl⟩ (by decide +kernel) ⟨Nat.le_of_ble_eq_true rfl, Nat.le_of_ble_eq_true rfl⟩ [0, 1, 2, 3, 4, 7] [5, 6] rfl rfl rfl rfl (by decide) (ci := 10) (q0 := 0) rfl rfl (As := []) rfl hl.1 rfl (Nat.le_of_ble_eq_true rfl) dX10_boot_35 ⟨Nat.zero_le _, Nat.zero_le _⟩ (fun r u H locs hp S => ?_)
      obtain ⟨nq20, sq21, nm22, rb23, rfl, rfl, hlK0, hlK1, hraK, hstK, hlrK⟩ := hp
      have S := S.sub (ws' := [(hM, .inr (10, [.ref aD, .ref aM, .int (iI (sq21)), .int (iI (chs d)), .int (iI (gTA d)), .int (iI (gT d)), .int (iI (gTS d)), .int (iI (gCS d)), .int (iI (gCA d)), .int (iI (gN d)), .int (iI (gRoot d)), .ref aX, .int (iI (tl)), .ref aP, .int (iI (e11)), .ref aQ, .int (iI (nq20)), .ref aK, .ref aO, .ref aA, .int (iI (e11)), .int (iI (e12)), .int (iI (e13)), .ref a1, .ref a2, .ref a3])), (aD, .inl (cA 0, 2048, .inl (fun y_ => iI (d y_)))), (aP, .inl (cA 0, 200, .inl (fun y_ => iI (px19 y_)))), (aQ, .inl (cA 0, 4, .inl (fun y_ => iI (nm22 y_)))), (aM, .inl (cA 0, 1024, .inl (fun y_ => iI (rb23 y_)))), (aK, .inl (cA 0, 200, .inl (fun y_ => iI (f16 y_)))), (aO, .inl (cA 0, 200, .inl (fun y_ => iI (f17 y_)))), (aA, .inl (cA 0, 24, .inl (fun y_ => iI (f18 y_))))]) [2, 3, 4, 5, 6, 0, 1, 7] rfl rfl
      refine lv_istore_n (lv' := [(2, .int (iI (ldC d (bTx d) (S9.1) (S9.2.1)))), (1, .int (iI (vol d))), (0, .ref hM)]) C0.1 C0.2.1 dX10_boot_38 rfl hl (by decide) rfl (fun ls hl => ?_)
      refine lv_iload_n C0.1 C0.2.1 dX10_boot_39 rfl (lv_at hl 0 rfl) ?_
      refine k_if_ge (tgt := 77) C0 (by constructor <;> omega) dX10_boot_40 (by decide) (fun c40 => ?_) (fun c40 => ?_)
      · refine lv_iload_n C0.1 C0.2.1 dX10_boot_77 rfl (lv_at hl 0 rfl) ?_
        subst hQ
        refine k_iret C0 S hAe hsz hr hlk dX10_boot_78 ?_
        have heq : ldC d (bTx d) S9.1 S9.2.1 = 0 := by omega
        have hq : boA d ra st = _ := (boA_3 (by omega) (by omega) hS9).trans (boS_1 heq)
        refine ⟨_, _, _, _, _, _, _, _, _, _, _, _, _, _, _, _, _, _, _, _, congrArg iI ?_, rfl, ?_, ?_, hpx2K, hraK, hkk3, hoo3, har3, hstK⟩
        · rw [hq]; exact heq
        · rw [hq]; exact (hlK0 heq).1.trans (ramS_m ar3)
        · rw [hq]; exact (hlK0 heq).2
      · refine lv_aload_n C0.1 C0.2.1 dX10_boot_43 rfl (lv_at hl 2 rfl) ?_
        refine k_get C0 S (C := RX10) (T := TX10) (N := 26) (ci := 10) (by decide +kernel) 0 rfl rfl 21 (by decide) (by decide +kernel) (v := .int (iI (e12))) rfl dX10_boot_44 ?_
        refine k_if_lt (tgt := 77) C0 (by constructor <;> omega) dX10_boot_47 (by decide) (fun c47 => ?_) (fun c47 => ?_)
        · refine lv_iload_n C0.1 C0.2.1 dX10_boot_77 rfl (lv_at hl 0 rfl) ?_
          subst hQ
          refine k_iret C0 S hAe hsz hr hlk dX10_boot_78 ?_
          have hq : boA d ra st = _ := (boA_3 (by omega) (by omega) hS9).trans (boS_2 (by omega) (by omega))
          refine ⟨_, _, _, _, _, _, _, _, _, _, _, _, _, _, _, _, _, _, _, _, congrArg iI ?_, rfl, ?_, ?_, hpx2K, hraK, hkk3, hoo3, har3, hstK⟩
          · rw [hq]
          · rw [hq]; exact (hlK1 (by omega)).1
          · rw [hq]; exact (hlK1 (by omega)).2
        · refine lv_aload_n C0.1 C0.2.1 dX10_boot_50 rfl (lv_at hl 2 rfl) ?_
          refine lv_aload_n C0.1 C0.2.1 dX10_boot_51 rfl (lv_at hl 2 rfl) ?_
          refine k_get C0 S (C := RX10) (T := TX10) (N := 26) (ci := 10) (by decide +kernel) 0 rfl rfl 18 (by decide) (by decide +kernel) (v := .ref aO) rfl dX10_boot_52 ?_
          refine lv_aload_n C0.1 C0.2.1 dX10_boot_55 rfl (lv_at hl 2 rfl) ?_
          refine k_get C0 S (C := RX10) (T := TX10) (N := 26) (ci := 10) (by decide +kernel) 0 rfl rfl 21 (by decide) (by decide +kernel) (v := .int (iI (e12))) rfl dX10_boot_56 ?_
          refine k_callv (n := 2) (wr := [(aD, .inl (cA 0, 2048, .inl (fun y_ => iI (d y_)))), (aQ, .inl (cA 0, 4, .inl (fun y_ => iI (nm22 y_)))), (aM, .inl (cA 0, 1024, .inl (fun y_ => iI (rb23 y_)))), (aK, .inl (cA 0, 200, .inl (fun y_ => iI (f16 y_)))), (aA, .inl (cA 0, 24, .inl (fun y_ => iI (f18 y_))))]) C0 S (c_X10_take l D cA hM aD aM aX aP aQ aK aO aA a1 a2 a3 (sq21) (chs d) (gTA d) (gT d) (gTS d) (gCS d) (gCA d) (gN d) (gRoot d) (tl) (e11) (nq20) (e11) (e12) (e13) d aO 200 px19 f17 (e12) hpx2K hoo3 (by omega) (by omega) (by omega) (by omega)) gX10_boot_X10_take rfl ⟨rfl, rfl⟩ (by decide +kernel) ⟨Nat.le_of_ble_eq_true rfl, Nat.le_of_ble_eq_true rfl⟩ [0, 2, 6] [1, 3, 4, 5, 7] rfl rfl rfl rfl (by decide) (ci := 10) (q0 := 0) rfl rfl (As := [.ref aO, .int (iI (e12))]) rfl hl.1 rfl (Nat.le_of_ble_eq_true rfl) dX10_boot_59 ⟨Nat.zero_le _, Nat.zero_le _⟩ (fun u H locs hp S => ?_)
          obtain ⟨px24, rfl, hpqO, hpx2O⟩ := hp
          have S := S.sub (ws' := [(hM, .inr (10, [.ref aD, .ref aM, .int (iI (sq21)), .int (iI (chs d)), .int (iI (gTA d)), .int (iI (gT d)), .int (iI (gTS d)), .int (iI (gCS d)), .int (iI (gCA d)), .int (iI (gN d)), .int (iI (gRoot d)), .ref aX, .int (iI (tl)), .ref aP, .int (iI (e12)), .ref aQ, .int (iI (nq20)), .ref aK, .ref aO, .ref aA, .int (iI (e11)), .int (iI (e12)), .int (iI (e13)), .ref a1, .ref a2, .ref a3])), (aD, .inl (cA 0, 2048, .inl (fun y_ => iI (d y_)))), (aP, .inl (cA 0, 200, .inl (fun y_ => iI (px24 y_)))), (aQ, .inl (cA 0, 4, .inl (fun y_ => iI (nm22 y_)))), (aM, .inl (cA 0, 1024, .inl (fun y_ => iI (rb23 y_)))), (aK, .inl (cA 0, 200, .inl (fun y_ => iI (f16 y_)))), (aO, .inl (cA 0, 200, .inl (fun y_ => iI (f17 y_)))), (aA, .inl (cA 0, 24, .inl (fun y_ => iI (f18 y_))))]) [5, 0, 6, 1, 2, 3, 7, 4] rfl rfl
          have hpeO : ∀ j : Nat, (j : Int) < e12 → px24 j = gtx (bTx d) S9.2.2.1 j := fun j hj => by rw [hpqO j hj]; exact ar2.2 j (by have := ar2.1; omega)
          refine lv_aload_n C0.1 C0.2.1 dX10_boot_62 rfl (lv_at hl 2 rfl) ?_
          have hgp : psr px24 (e12).toNat = psr (gtx (bTx d) S9.2.2.1) (S9.2.2.2.1).toNat := psr_m hpeO (by omega)
          refine k_calli (n := 0) (wr := [(aK, .inl (cA 0, 200, .inl (fun y_ => iI (f16 y_)))), (aO, .inl (cA 0, 200, .inl (fun y_ => iI (f17 y_))))]) C0 S (c_X10_load l D cA hM aD aM aX aP aQ aK aO aA a1 a2 a3 (sq21) (tl) (e12) (nq20) (e11) (e12) (e13) d px24 nm22 rb23 f18 (bTx d) (S9.2.2.1) (S9.2.2.2.1) hd hB2 hpx2O hraK har3 (by omega) (by omega) (by omega) hstK hgp) gX10_boot_X10_load rfl ⟨rfl, rfl⟩ (by decide +kernel) ⟨Nat.le_of_ble_eq_true rfl, Nat.le_of_ble_eq_true rfl⟩ [0, 1, 2, 3, 4, 7] [5, 6] rfl rfl rfl rfl (by decide) (ci := 10) (q0 := 0) rfl rfl (As := []) rfl hl.1 rfl (Nat.le_of_ble_eq_true rfl) dX10_boot_63 ⟨Nat.zero_le _, Nat.zero_le _⟩ (fun r u H locs hp S => ?_)
          obtain ⟨nq25, sq26, nm27, rb28, rfl, rfl, hlO0, hlO1, hraO, hstO, hlrO⟩ := hp
          have S := S.sub (ws' := [(hM, .inr (10, [.ref aD, .ref aM, .int (iI (sq26)), .int (iI (chs d)), .int (iI (gTA d)), .int (iI (gT d)), .int (iI (gTS d)), .int (iI (gCS d)), .int (iI (gCA d)), .int (iI (gN d)), .int (iI (gRoot d)), .ref aX, .int (iI (tl)), .ref aP, .int (iI (e12)), .ref aQ, .int (iI (nq25)), .ref aK, .ref aO, .ref aA, .int (iI (e11)), .int (iI (e12)), .int (iI (e13)), .ref a1, .ref a2, .ref a3])), (aD, .inl (cA 0, 2048, .inl (fun y_ => iI (d y_)))), (aP, .inl (cA 0, 200, .inl (fun y_ => iI (px24 y_)))), (aQ, .inl (cA 0, 4, .inl (fun y_ => iI (nm27 y_)))), (aM, .inl (cA 0, 1024, .inl (fun y_ => iI (rb28 y_)))), (aK, .inl (cA 0, 200, .inl (fun y_ => iI (f16 y_)))), (aO, .inl (cA 0, 200, .inl (fun y_ => iI (f17 y_)))), (aA, .inl (cA 0, 24, .inl (fun y_ => iI (f18 y_))))]) [2, 3, 4, 5, 6, 0, 1, 7] rfl rfl
          refine lv_istore_n (lv' := [(2, .int (iI (ldC d (bTx d) (S9.2.2.1) (S9.2.2.2.1)))), (1, .int (iI (vol d))), (0, .ref hM)]) C0.1 C0.2.1 dX10_boot_66 rfl hl (by decide) rfl (fun ls hl => ?_)
          refine lv_iload_n C0.1 C0.2.1 dX10_boot_67 rfl (lv_at hl 0 rfl) ?_
          refine k_if_ge (tgt := 75) C0 (by constructor <;> omega) dX10_boot_68 (by decide) (fun c68 => ?_) (fun c68 => ?_)
          · refine lv_iconst (v := iI (1)) C0.1 C0.2.1 dX10_boot_75 rfl ?_
            subst hQ
            refine k_iret C0 S hAe hsz hr hlk dX10_boot_76 ?_
            have heq : ldC d (bTx d) S9.2.2.1 S9.2.2.2.1 = 0 := by omega
            have hq : boA d ra st = _ := (boA_3 (by omega) (by omega) hS9).trans (boS_3 (by omega) (by omega) heq)
            refine ⟨_, _, _, _, _, _, _, _, _, _, _, _, _, _, _, _, _, _, _, _, congrArg iI ?_, rfl, ?_, ?_, hpx2O, hraO, hkk3, hoo3, har3, hstO⟩
            · rw [hq]
            · rw [hq]; exact (hlO0 heq).1.trans (ramS_m ar3)
            · rw [hq]; exact (hlO0 heq).2
          · refine lv_iload_n C0.1 C0.2.1 dX10_boot_71 rfl (lv_at hl 0 rfl) ?_
            refine lv_goto (tgt := 76) C0.1 C0.2.1 dX10_boot_72 (by decide) ?_
            subst hQ
            refine k_iret C0 S hAe hsz hr hlk dX10_boot_76 ?_
            have hq : boA d ra st = _ := (boA_3 (by omega) (by omega) hS9).trans (boS_4 (by omega) (by omega) (by omega))
            refine ⟨_, _, _, _, _, _, _, _, _, _, _, _, _, _, _, _, _, _, _, _, congrArg iI ?_, rfl, ?_, ?_, hpx2O, hraO, hkk3, hoo3, har3, hstO⟩
            · rw [hq]
            · rw [hq]; exact (hlO1 (by omega)).1.trans (hlK1 (by omega)).1
            · rw [hq]; exact (hlO1 (by omega)).2.trans (hlK1 (by omega)).2
    · refine lv_iload_n C0.1 C0.2.1 dX10_boot_20 rfl (lv_at hl 0 rfl) ?_
      subst hQ
      refine k_iret C0 S hAe hsz hr hlk dX10_boot_21 ?_
      have hq : boA d ra st = _ := boA_2 (by omega) (by omega)
      exact ⟨_, _, _, _, _, _, _, _, _, _, _, _, _, _, _, _, _, _, _, _, congrArg iI (congrArg Prod.fst hq).symm, rfl, (congrArg (fun z => z.2.1) hq).symm, (congrArg (fun z => z.2.2) hq).symm, hpx3, hra, hkk3, hoo3, har3, hst⟩
  · refine lv_iload_n C0.1 C0.2.1 dX10_boot_9 rfl (lv_at hl 0 rfl) ?_
    subst hQ
    refine k_iret C0 S hAe hsz hr hlk dX10_boot_10 ?_
    have hq : boA d ra st = _ := boA_1 (by omega)
    exact ⟨_, _, _, _, _, _, _, _, _, _, _, _, _, _, _, _, _, _, _, _, congrArg iI (congrArg Prod.fst hq).symm, rfl, (congrArg (fun z => z.2.1) hq).symm, (congrArg (fun z => z.2.2) hq).symm, hpx, hra, hkk, hoo, har, hst⟩
