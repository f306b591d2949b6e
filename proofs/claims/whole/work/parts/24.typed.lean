def rmX9_findTypedFile : Room := { frames := 5, cells := 0, slots := 0, locals := 115 }
set_option maxHeartbeats 4000000 in
set_option maxRecDepth 100000 in
theorem c_X9_findTypedFile (l : Launch) (D : va_G) (cA : Nat → ClassId) (hX hB hR hV hP hF hZ hS hN aY : Nat) (tc en : Int) (aL hE aE hC aB : Nat) (pc0 cnt nx v1 v2 v3 v4 v5 v6 v7 v8 : Int) (L pl ty d : Nat → Int) (hd : By d) (hty : By ty) (ht1 : 0 ≤ tc) (ht2 : tc ≤ 20) : kCi l D vwCl (kTys cA) yX9_findTypedFile wsX9_findTypedFile rmX9_findTypedFile [.ref hX] [(hX, .inr (9, [.ref hB, .ref hR, .ref hV, .ref hP, .ref hF, .ref hZ, .ref hS, .ref hN, .ref aY, .int (iI (tc)), .int (iI (en))])), (hP, .inr (5, [.ref aL, .int (iI (pc0))])), (aL, .inl (cA 0, 16, .inl (fun y_ => iI (L y_)))), (aY, .inl (cA 0, 20, .inl (fun y_ => iI (ty y_)))), (hF, .inr (3, [.ref hB, .ref hV, .ref hE, .ref hC])), (hE, .inr (2, [.ref hB, .ref hV, .ref aE, .int (iI (cnt)), .int (iI (nx))])), (aE, .inl (cA 0, 64, .inl (fun y_ => iI (pl y_)))), (hV, .inr (8, [.ref hB, .int (iI (v1)), .int (iI (v2)), .int (iI (v3)), .int (iI (v4)), .int (iI (v5)), .int (iI (v6)), .int (iI (v7)), .int (iI (v8))])), (hB, .inr (0, [.ref aB])), (aB, .inl (cA 1, 2048, .inl (fun y_ => bI (d y_))))] (fun r u => ∃ (pc2 cnt2 nx2 x1 x2 x3 x4 x5 x6 x7 x8 : Int) (L2 pl2 : Nat → Int), r = iI (fotV d ty tc) ∧ u = [(hX, .inr (9, [.ref hB, .ref hR, .ref hV, .ref hP, .ref hF, .ref hZ, .ref hS, .ref hN, .ref aY, .int (iI (tc)), .int (iI (en))])), (hP, .inr (5, [.ref aL, .int (iI (pc2))])), (aL, .inl (cA 0, 16, .inl (fun y_ => iI (L2 y_)))), (aY, .inl (cA 0, 20, .inl (fun y_ => iI (ty y_)))), (hF, .inr (3, [.ref hB, .ref hV, .ref hE, .ref hC])), (hE, .inr (2, [.ref hB, .ref hV, .ref aE, .int (iI (cnt2)), .int (iI (nx2))])), (aE, .inl (cA 0, 64, .inl (fun y_ => iI (pl2 y_)))), (hV, .inr (8, [.ref hB, .int (iI (x1)), .int (iI (x2)), .int (iI (x3)), .int (iI (x4)), .int (iI (x5)), .int (iI (x6)), .int (iI (x7)), .int (iI (x8))])), (hB, .inr (0, [.ref aB])), (aB, .inl (cA 1, 2048, .inl (fun y_ => bI (d y_))))] ∧ (fotV d ty tc < 0 ∨ fotV d ty tc + 8 ≤ 2048) ∧ (-100 ≤ fotV d ty tc) ∧ (0 ≤ vol d → (x1 = chs d ∧ x2 = gRoot d ∧ x3 = gN d ∧ x4 = gSz d ∧ x5 = gT d ∧ x6 = gTB d ∧ x7 = gTA d ∧ x8 = gCA d))) := by
  intro sz
  refine kEntry (cc := cX9_findTypedFile) (maxL := 2) (ret := (some .int)) (by decide) rfl (Nat.le_of_ble_eq_true rfl) ?_
  intro p e s m args below meth c A Q hAe hQ C0 hr hlk S hsz ls hl
  have hl : lv_has ls 2 [(0, .ref hX)] := hl
  refine lv_aload_n C0.1 C0.2.1 dX9_findTypedFile_0 rfl (lv_at hl 0 rfl) ?_
  refine k_get C0 S (C := RX9) (T := TX9) (N := 11) (ci := 9) (by decide +kernel) 0 rfl rfl 2 (by decide) (by decide +kernel) (v := .ref hV) rfl dX9_findTypedFile_1 ?_
  refine k_calli (n := 0) (wr := [(hX, .inr (9, [.ref hB, .ref hR, .ref hV, .ref hP, .ref hF, .ref hZ, .ref hS, .ref hN, .ref aY, .int (iI (tc)), .int (iI (en))])), (hP, .inr (5, [.ref aL, .int (iI (pc0))])), (aL, .inl (cA 0, 16, .inl (fun y_ => iI (L y_)))), (aY, .inl (cA 0, 20, .inl (fun y_ => iI (ty y_)))), (hF, .inr (3, [.ref hB, .ref hV, .ref hE, .ref hC])), (hE, .inr (2, [.ref hB, .ref hV, .ref aE, .int (iI (cnt)), .int (iI (nx))])), (aE, .inl (cA 0, 64, .inl (fun y_ => iI (pl y_))))]) C0 S (c_X8_mount l D cA hV hB aB (v1) (v2) (v3) (v4) (v5) (v6) (v7) (v8) d hd) gX9_findTypedFile_X8_mount rfl ⟨rfl, rfl⟩ (by decide +kernel) ⟨Nat.le_of_ble_eq_true rfl, Nat.le_of_ble_eq_true rfl⟩ [7, 8, 9] [0, 1, 2, 3, 4, 5, 6] rfl rfl rfl rfl (by decide) (ci := 8) (q0 := 0) rfl rfl (As := []) rfl hl.1 rfl (Nat.le_of_ble_eq_true rfl) dX9_findTypedFile_4 ⟨Nat.zero_le _, Nat.zero_le _⟩ (fun r u H locs hp S => ?_)
  obtain ⟨x1, x2, x3, x4, x5, x6, x7, x8, rfl, rfl, hgeo⟩ := hp
  have S := S.sub (ws' := [(hX, .inr (9, [.ref hB, .ref hR, .ref hV, .ref hP, .ref hF, .ref hZ, .ref hS, .ref hN, .ref aY, .int (iI (tc)), .int (iI (en))])), (hP, .inr (5, [.ref aL, .int (iI (pc0))])), (aL, .inl (cA 0, 16, .inl (fun y_ => iI (L y_)))), (aY, .inl (cA 0, 20, .inl (fun y_ => iI (ty y_)))), (hF, .inr (3, [.ref hB, .ref hV, .ref hE, .ref hC])), (hE, .inr (2, [.ref hB, .ref hV, .ref aE, .int (iI (cnt)), .int (iI (nx))])), (aE, .inl (cA 0, 64, .inl (fun y_ => iI (pl y_)))), (hV, .inr (8, [.ref hB, .int (iI (x1)), .int (iI (x2)), .int (iI (x3)), .int (iI (x4)), .int (iI (x5)), .int (iI (x6)), .int (iI (x7)), .int (iI (x8))])), (hB, .inr (0, [.ref aB])), (aB, .inl (cA 1, 2048, .inl (fun y_ => bI (d y_))))]) [0, 1, 2, 3, 4, 5, 6, 7, 8, 9] rfl rfl
  have hvr := vol_range hd
  refine lv_istore_n (lv' := [(1, .int (iI (vol d))), (0, .ref hX)]) C0.1 C0.2.1 dX9_findTypedFile_7 rfl hl (by decide) rfl (fun ls hl => ?_)
  refine lv_iload_n C0.1 C0.2.1 dX9_findTypedFile_8 rfl (lv_at hl 0 rfl) ?_
  refine k_if_ge (tgt := 14) C0 (by constructor <;> omega) dX9_findTypedFile_9 (by decide) (fun c9 => ?_) (fun c9 => ?_)
  · have hGood := good_of_vol (show 0 ≤ vol d by omega)
    have hB2 := hGood.bounds hd
    have hlin := hB2.lin
    obtain ⟨rfl, rfl, rfl, rfl, rfl, rfl, rfl, rfl⟩ := hgeo (by omega)
    refine lv_aload_n C0.1 C0.2.1 dX9_findTypedFile_14 rfl (lv_at hl 1 rfl) ?_
    refine k_get C0 S (C := RX9) (T := TX9) (N := 11) (ci := 9) (by decide +kernel) 0 rfl rfl 3 (by decide) (by decide +kernel) (v := .ref hP) rfl dX9_findTypedFile_15 ?_
    refine lv_aload_n C0.1 C0.2.1 dX9_findTypedFile_18 rfl (lv_at hl 1 rfl) ?_
    refine k_get C0 S (C := RX9) (T := TX9) (N := 11) (ci := 9) (by decide +kernel) 0 rfl rfl 8 (by decide) (by decide +kernel) (v := .ref aY) rfl dX9_findTypedFile_19 ?_
    refine lv_iconst (v := iI (0)) C0.1 C0.2.1 dX9_findTypedFile_22 rfl ?_
    refine lv_aload_n C0.1 C0.2.1 dX9_findTypedFile_23 rfl (lv_at hl 1 rfl) ?_
    refine k_get C0 S (C := RX9) (T := TX9) (N := 11) (ci := 9) (by decide +kernel) 0 rfl rfl 9 (by decide) (by decide +kernel) (v := .int (iI (tc))) rfl dX9_findTypedFile_24 ?_
    refine k_calli (n := 3) (wr := [(hX, .inr (9, [.ref hB, .ref hR, .ref hV, .ref hP, .ref hF, .ref hZ, .ref hS, .ref hN, .ref aY, .int (iI (tc)), .int (iI (en))])), (hF, .inr (3, [.ref hB, .ref hV, .ref hE, .ref hC])), (hE, .inr (2, [.ref hB, .ref hV, .ref aE, .int (iI (cnt)), .int (iI (nx))])), (aE, .inl (cA 0, 64, .inl (fun y_ => iI (pl y_)))), (hV, .inr (8, [.ref hB, .int (iI (chs d)), .int (iI (gRoot d)), .int (iI (gN d)), .int (iI (gSz d)), .int (iI (gT d)), .int (iI (gTB d)), .int (iI (gTA d)), .int (iI (gCA d))])), (hB, .inr (0, [.ref aB])), (aB, .inl (cA 1, 2048, .inl (fun y_ => bI (d y_))))]) C0 S (c_X5_parse l D cA hP aL aY 20 (pc0) L ty (0) (tc) hty (by omega) (by omega) (by omega) (by omega)) gX9_findTypedFile_X5_parse rfl ⟨rfl, rfl⟩ (by decide +kernel) ⟨Nat.le_of_ble_eq_true rfl, Nat.le_of_ble_eq_true rfl⟩ [1, 2, 3] [0, 4, 5, 6, 7, 8, 9] rfl rfl rfl rfl (by decide) (ci := 5) (q0 := 0) rfl rfl (As := [.ref aY, .int (iI (0)), .int (iI (tc))]) rfl hl.1 rfl (Nat.le_of_ble_eq_true rfl) dX9_findTypedFile_27 ⟨Nat.zero_le _, Nat.zero_le _⟩ (fun r u H locs hp S => ?_)
    obtain ⟨cp9, L10, rfl, rfl, hpar⟩ := hp
    have S := S.sub (ws' := [(hX, .inr (9, [.ref hB, .ref hR, .ref hV, .ref hP, .ref hF, .ref hZ, .ref hS, .ref hN, .ref aY, .int (iI (tc)), .int (iI (en))])), (hP, .inr (5, [.ref aL, .int (iI (cp9))])), (aL, .inl (cA 0, 16, .inl (fun y_ => iI (L10 y_)))), (aY, .inl (cA 0, 20, .inl (fun y_ => iI (ty y_)))), (hF, .inr (3, [.ref hB, .ref hV, .ref hE, .ref hC])), (hE, .inr (2, [.ref hB, .ref hV, .ref aE, .int (iI (cnt)), .int (iI (nx))])), (aE, .inl (cA 0, 64, .inl (fun y_ => iI (pl y_)))), (hV, .inr (8, [.ref hB, .int (iI (chs d)), .int (iI (gRoot d)), .int (iI (gN d)), .int (iI (gSz d)), .int (iI (gT d)), .int (iI (gTB d)), .int (iI (gTA d)), .int (iI (gCA d))])), (hB, .inr (0, [.ref aB])), (aB, .inl (cA 1, 2048, .inl (fun y_ => bI (d y_))))]) [0, 7, 8, 9, 1, 2, 3, 4, 5, 6] rfl rfl
    refine k_bz_eq (tgt := 47) C0 dX9_findTypedFile_30 (by decide) (fun c30 => ?_) (fun c30 => ?_)
    · refine lv_bipush (v := iI (-5)) C0.1 C0.2.1 dX9_findTypedFile_47 (by decide) ?_
      subst hQ
      refine k_iret C0 S hAe hsz hr hlk dX9_findTypedFile_49 ?_
      have hq : fotV d ty tc = -5 := (fotV_ok (by omega)).trans (fot_none (Classical.not_not.mp c30))
      exact ⟨_, _, _, _, _, _, _, _, _, _, _, _, _, congrArg iI hq.symm, rfl, Or.inl (by omega), by omega, fun _ => ⟨rfl, rfl, rfl, rfl, rfl, rfl, rfl, rfl⟩⟩
    · obtain ⟨⟨m2, ks⟩, hps⟩ := Option.ne_none_iff_exists'.mp c30
      obtain ⟨rfl, hks, hL⟩ := hpar m2 ks hps
      obtain ⟨hm1, hm2⟩ := psr_count hps
      refine lv_aload_n C0.1 C0.2.1 dX9_findTypedFile_33 rfl (lv_at hl 1 rfl) ?_
      refine k_get C0 S (C := RX9) (T := TX9) (N := 11) (ci := 9) (by decide +kernel) 0 rfl rfl 4 (by decide) (by decide +kernel) (v := .ref hF) rfl dX9_findTypedFile_34 ?_
      refine lv_aload_n C0.1 C0.2.1 dX9_findTypedFile_37 rfl (lv_at hl 1 rfl) ?_
      refine k_get C0 S (C := RX9) (T := TX9) (N := 11) (ci := 9) (by decide +kernel) 0 rfl rfl 3 (by decide) (by decide +kernel) (v := .ref hP) rfl dX9_findTypedFile_38 ?_
      refine k_calli (n := 1) (wr := [(hX, .inr (9, [.ref hB, .ref hR, .ref hV, .ref hP, .ref hF, .ref hZ, .ref hS, .ref hN, .ref aY, .int (iI (tc)), .int (iI (en))])), (aY, .inl (cA 0, 20, .inl (fun y_ => iI (ty y_))))]) C0 S (c_X3_findFile l D cA hF hP aL hE aE hV hB aB hC (cnt) (nx) L10 pl d ks m2 hd hB2 hL (by omega) (by omega) hks) gX9_findTypedFile_X3_findFile rfl ⟨rfl, rfl⟩ (by decide +kernel) ⟨Nat.le_of_ble_eq_true rfl, Nat.le_of_ble_eq_true rfl⟩ [4, 1, 2, 5, 6, 7, 8, 9] [0, 3] rfl rfl rfl rfl (by decide) (ci := 3) (q0 := 0) rfl rfl (As := [.ref hP]) rfl hl.1 rfl (Nat.le_of_ble_eq_true rfl) dX9_findTypedFile_41 ⟨Nat.zero_le _, Nat.zero_le _⟩ (fun r u H locs hp S => ?_)
      obtain ⟨cf11, t12, pl13, rfl, rfl, hfr1, hfr2⟩ := hp
      have S := S.sub (ws' := [(hX, .inr (9, [.ref hB, .ref hR, .ref hV, .ref hP, .ref hF, .ref hZ, .ref hS, .ref hN, .ref aY, .int (iI (tc)), .int (iI (en))])), (hP, .inr (5, [.ref aL, .int (iI ((m2 : Int)))])), (aL, .inl (cA 0, 16, .inl (fun y_ => iI (L10 y_)))), (aY, .inl (cA 0, 20, .inl (fun y_ => iI (ty y_)))), (hF, .inr (3, [.ref hB, .ref hV, .ref hE, .ref hC])), (hE, .inr (2, [.ref hB, .ref hV, .ref aE, .int (iI (cf11)), .int (iI (t12))])), (aE, .inl (cA 0, 64, .inl (fun y_ => iI (pl13 y_)))), (hV, .inr (8, [.ref hB, .int (iI (chs d)), .int (iI (gRoot d)), .int (iI (gN d)), .int (iI (gSz d)), .int (iI (gT d)), .int (iI (gTB d)), .int (iI (gTA d)), .int (iI (gCA d))])), (hB, .inr (0, [.ref aB])), (aB, .inl (cA 1, 2048, .inl (fun y_ => bI (d y_))))]) [0, 3, 4, 1, 2, 5, 6, 7, 8, 9] rfl rfl
      refine lv_goto (tgt := 49) C0.1 C0.2.1 dX9_findTypedFile_44 (by decide) ?_
      subst hQ
      refine k_iret C0 S hAe hsz hr hlk dX9_findTypedFile_49 ?_
      have hq : fotV d ty tc = fil d ks m2 := (fotV_ok (by omega)).trans (fot_some hps)
      exact ⟨_, _, _, _, _, _, _, _, _, _, _, _, _, congrArg iI hq.symm, rfl, by omega, by omega, fun _ => ⟨rfl, rfl, rfl, rfl, rfl, rfl, rfl, rfl⟩⟩
  · refine lv_iload_n C0.1 C0.2.1 dX9_findTypedFile_12 rfl (lv_at hl 0 rfl) ?_
    subst hQ
    refine k_iret C0 S hAe hsz hr hlk dX9_findTypedFile_13 ?_
    exact ⟨_, _, _, _, _, _, _, _, _, _, _, _, _, congrArg iI (fotV_bad (by omega)).symm, rfl, Or.inl (by rw [fotV_bad (by omega)]; omega), by rw [fotV_bad (by omega)]; omega, fun h => absurd h (by omega)⟩
def rmX9_size : Room := { frames := 6, cells := 0, slots := 0, locals := 136 }
set_option maxHeartbeats 4000000 in
set_option maxRecDepth 100000 in
theorem c_X9_size (l : Launch) (D : va_G) (cA : Nat → ClassId) (hX hB hR hV hP hF hZ hS hN aY : Nat) (tc en : Int) (aL hE aE hC aB : Nat) (pc0 cnt nx v1 v2 v3 v4 v5 v6 v7 v8 : Int) (L pl ty d : Nat → Int) (hd : By d) (hty : By ty) (ht1 : 0 ≤ tc) (ht2 : tc ≤ 20) : kCi l D vwCl (kTys cA) yX9_size wsX9_size rmX9_size [.ref hX] [(hX, .inr (9, [.ref hB, .ref hR, .ref hV, .ref hP, .ref hF, .ref hZ, .ref hS, .ref hN, .ref aY, .int (iI (tc)), .int (iI (en))])), (hP, .inr (5, [.ref aL, .int (iI (pc0))])), (aL, .inl (cA 0, 16, .inl (fun y_ => iI (L y_)))), (aY, .inl (cA 0, 20, .inl (fun y_ => iI (ty y_)))), (hF, .inr (3, [.ref hB, .ref hV, .ref hE, .ref hC])), (hE, .inr (2, [.ref hB, .ref hV, .ref aE, .int (iI (cnt)), .int (iI (nx))])), (aE, .inl (cA 0, 64, .inl (fun y_ => iI (pl y_)))), (hV, .inr (8, [.ref hB, .int (iI (v1)), .int (iI (v2)), .int (iI (v3)), .int (iI (v4)), .int (iI (v5)), .int (iI (v6)), .int (iI (v7)), .int (iI (v8))])), (hB, .inr (0, [.ref aB])), (aB, .inl (cA 1, 2048, .inl (fun y_ => bI (d y_))))] (fun r u => ∃ (pc2 cnt2 nx2 x1 x2 x3 x4 x5 x6 x7 x8 : Int) (L2 pl2 : Nat → Int), r = iI (sizS d ty tc) ∧ u = [(hX, .inr (9, [.ref hB, .ref hR, .ref hV, .ref hP, .ref hF, .ref hZ, .ref hS, .ref hN, .ref aY, .int (iI (tc)), .int (iI (en))])), (hP, .inr (5, [.ref aL, .int (iI (pc2))])), (aL, .inl (cA 0, 16, .inl (fun y_ => iI (L2 y_)))), (aY, .inl (cA 0, 20, .inl (fun y_ => iI (ty y_)))), (hF, .inr (3, [.ref hB, .ref hV, .ref hE, .ref hC])), (hE, .inr (2, [.ref hB, .ref hV, .ref aE, .int (iI (cnt2)), .int (iI (nx2))])), (aE, .inl (cA 0, 64, .inl (fun y_ => iI (pl2 y_)))), (hV, .inr (8, [.ref hB, .int (iI (x1)), .int (iI (x2)), .int (iI (x3)), .int (iI (x4)), .int (iI (x5)), .int (iI (x6)), .int (iI (x7)), .int (iI (x8))])), (hB, .inr (0, [.ref aB])), (aB, .inl (cA 1, 2048, .inl (fun y_ => bI (d y_))))]) := by
  intro sz
  refine kEntry (cc := cX9_size) (maxL := 2) (ret := (some .int)) (by decide) rfl (Nat.le_of_ble_eq_true rfl) ?_
  intro p e s m args below meth c A Q hAe hQ C0 hr hlk S hsz ls hl
  have hl : lv_has ls 2 [(0, .ref hX)] := hl
  refine lv_aload_n C0.1 C0.2.1 dX9_size_0 rfl (lv_at hl 0 rfl) ?_
  refine k_calli (n := 0) (wr := []) C0 S (c_X9_findTypedFile l D cA hX hB hR hV hP hF hZ hS hN aY (tc) (en) aL hE aE hC aB (pc0) (cnt) (nx) (v1) (v2) (v3) (v4) (v5) (v6) (v7) (v8) L pl ty d hd hty ht1 ht2) gX9_size_X9_findTypedFile rfl ⟨rfl, rfl⟩ (by decide +kernel) ⟨Nat.le_of_ble_eq_true rfl, Nat.le_of_ble_eq_true rfl⟩ [0, 1, 2, 3, 4, 5, 6, 7, 8, 9] [] rfl rfl rfl rfl (by decide) (ci := 9) (q0 := 0) rfl rfl (As := []) rfl hl.1 rfl (Nat.le_of_ble_eq_true rfl) dX9_size_1 ⟨Nat.zero_le _, Nat.zero_le _⟩ (fun r u H locs hp S => ?_)
  obtain ⟨e1, e2, e3, e4, e5, e6, e7, e8, e9, e10, e11, L12, pl13, rfl, rfl, hft1, hft2, hgeo⟩ := hp
  have S := S.sub (ws' := [(hX, .inr (9, [.ref hB, .ref hR, .ref hV, .ref hP, .ref hF, .ref hZ, .ref hS, .ref hN, .ref aY, .int (iI (tc)), .int (iI (en))])), (hP, .inr (5, [.ref aL, .int (iI (e1))])), (aL, .inl (cA 0, 16, .inl (fun y_ => iI (L12 y_)))), (aY, .inl (cA 0, 20, .inl (fun y_ => iI (ty y_)))), (hF, .inr (3, [.ref hB, .ref hV, .ref hE, .ref hC])), (hE, .inr (2, [.ref hB, .ref hV, .ref aE, .int (iI (e2)), .int (iI (e3))])), (aE, .inl (cA 0, 64, .inl (fun y_ => iI (pl13 y_)))), (hV, .inr (8, [.ref hB, .int (iI (e4)), .int (iI (e5)), .int (iI (e6)), .int (iI (e7)), .int (iI (e8)), .int (iI (e9)), .int (iI (e10)), .int (iI (e11))])), (hB, .inr (0, [.ref aB])), (aB, .inl (cA 1, 2048, .inl (fun y_ => bI (d y_))))]) [0, 1, 2, 3, 4, 5, 6, 7, 8, 9] rfl rfl
  refine lv_istore_n (lv' := [(1, .int (iI (fotV d ty tc))), (0, .ref hX)]) C0.1 C0.2.1 dX9_size_4 rfl hl (by decide) rfl (fun ls hl => ?_)
  refine lv_iload_n C0.1 C0.2.1 dX9_size_5 rfl (lv_at hl 0 rfl) ?_
  refine k_if_ge (tgt := 13) C0 (by constructor <;> omega) dX9_size_6 (by decide) (fun c6 => ?_) (fun c6 => ?_)
  · have hv0 : 0 ≤ vol d := by rcases Int.lt_or_le (vol d) 0 with h | h; (rw [fotV_bad h] at *; omega); exact h
    have hB2 := (good_of_vol hv0).bounds hd
    have hlin := hB2.lin
    obtain ⟨rfl, rfl, rfl, rfl, rfl, rfl, rfl, rfl⟩ := hgeo hv0
    refine lv_aload_n C0.1 C0.2.1 dX9_size_13 rfl (lv_at hl 1 rfl) ?_
    refine k_get C0 S (C := RX9) (T := TX9) (N := 11) (ci := 9) (by decide +kernel) 0 rfl rfl 2 (by decide) (by decide +kernel) (v := .ref hV) rfl dX9_size_14 ?_
    refine lv_iload_n C0.1 C0.2.1 dX9_size_17 rfl (lv_at hl 0 rfl) ?_
    refine k_calli (n := 1) (wr := [(hX, .inr (9, [.ref hB, .ref hR, .ref hV, .ref hP, .ref hF, .ref hZ, .ref hS, .ref hN, .ref aY, .int (iI (tc)), .int (iI (en))])), (hP, .inr (5, [.ref aL, .int (iI (e1))])), (aL, .inl (cA 0, 16, .inl (fun y_ => iI (L12 y_)))), (aY, .inl (cA 0, 20, .inl (fun y_ => iI (ty y_)))), (hF, .inr (3, [.ref hB, .ref hV, .ref hE, .ref hC])), (hE, .inr (2, [.ref hB, .ref hV, .ref aE, .int (iI (e2)), .int (iI (e3))])), (aE, .inl (cA 0, 64, .inl (fun y_ => iI (pl13 y_))))]) C0 S (c_X8_sizeOf l D cA hV hB aB d (fotV d ty tc) hd hB2 (by omega) (by omega)) gX9_size_X8_sizeOf rfl ⟨rfl, rfl⟩ (by decide +kernel) ⟨Nat.le_of_ble_eq_true rfl, Nat.le_of_ble_eq_true rfl⟩ [7, 8, 9] [0, 1, 2, 3, 4, 5, 6] rfl rfl rfl rfl (by decide) (ci := 8) (q0 := 0) rfl rfl (As := [.int (iI (fotV d ty tc))]) rfl hl.1 rfl (Nat.le_of_ble_eq_true rfl) dX9_size_18 ⟨Nat.zero_le _, Nat.zero_le _⟩ (fun r u H locs hp S => ?_)
    obtain ⟨rfl, rfl⟩ := hp
    have S := S.sub (ws' := [(hX, .inr (9, [.ref hB, .ref hR, .ref hV, .ref hP, .ref hF, .ref hZ, .ref hS, .ref hN, .ref aY, .int (iI (tc)), .int (iI (en))])), (hP, .inr (5, [.ref aL, .int (iI (e1))])), (aL, .inl (cA 0, 16, .inl (fun y_ => iI (L12 y_)))), (aY, .inl (cA 0, 20, .inl (fun y_ => iI (ty y_)))), (hF, .inr (3, [.ref hB, .ref hV, .ref hE, .ref hC])), (hE, .inr (2, [.ref hB, .ref hV, .ref aE, .int (iI (e2)), .int (iI (e3))])), (aE, .inl (cA 0, 64, .inl (fun y_ => iI (pl13 y_)))), (hV, .inr (8, [.ref hB, .int (iI (chs d)), .int (iI (gRoot d)), .int (iI (gN d)), .int (iI (gSz d)), .int (iI (gT d)), .int (iI (gTB d)), .int (iI (gTA d)), .int (iI (gCA d))])), (hB, .inr (0, [.ref aB])), (aB, .inl (cA 1, 2048, .inl (fun y_ => bI (d y_))))]) [0, 1, 2, 3, 4, 5, 6, 7, 8, 9] rfl rfl
    have hb14 := By_wrd hd ((fotV d ty tc) + 6)
    subst hQ
    refine k_iret C0 S hAe hsz hr hlk dX9_size_21 ?_
    exact ⟨_, _, _, _, _, _, _, _, _, _, _, _, _, congrArg iI (sizS_ok (by omega)).symm, rfl⟩
  · refine lv_iload_n C0.1 C0.2.1 dX9_size_9 rfl (lv_at hl 0 rfl) ?_
    refine lv_goto (tgt := 21) C0.1 C0.2.1 dX9_size_10 (by decide) ?_
    subst hQ
    refine k_iret C0 S hAe hsz hr hlk dX9_size_21 ?_
    exact ⟨_, _, _, _, _, _, _, _, _, _, _, _, _, congrArg iI (sizS_bad (by omega)).symm, rfl⟩
def rmX9_read : Room := { frames := 6, cells := 0, slots := 0, locals := 136 }
set_option maxHeartbeats 4000000 in
set_option maxRecDepth 100000 in
theorem c_X9_read (l : Launch) (D : va_G) (cA : Nat → ClassId) (hX hB hR hV hP hF hZ hS hN aY : Nat) (tc en : Int) (aL hE aE hC aC aB : Nat) (pc0 cnt nx cc cn v1 v2 v3 v4 v5 v6 v7 v8 : Int) (L pl cpl ty d : Nat → Int) (i : Int) (hd : By d) (hty : By ty) (ht1 : 0 ≤ tc) (ht2 : tc ≤ 20) (hi : ir i) : kCi l D vwCl (kTys cA) yX9_read wsX9_read rmX9_read [.ref hX, .int (iI (i))] [(hX, .inr (9, [.ref hB, .ref hR, .ref hV, .ref hP, .ref hF, .ref hZ, .ref hS, .ref hN, .ref aY, .int (iI (tc)), .int (iI (en))])), (hP, .inr (5, [.ref aL, .int (iI (pc0))])), (aL, .inl (cA 0, 16, .inl (fun y_ => iI (L y_)))), (aY, .inl (cA 0, 20, .inl (fun y_ => iI (ty y_)))), (hF, .inr (3, [.ref hB, .ref hV, .ref hE, .ref hC])), (hE, .inr (2, [.ref hB, .ref hV, .ref aE, .int (iI (cnt)), .int (iI (nx))])), (aE, .inl (cA 0, 64, .inl (fun y_ => iI (pl y_)))), (hC, .inr (2, [.ref hB, .ref hV, .ref aC, .int (iI (cc)), .int (iI (cn))])), (aC, .inl (cA 0, 64, .inl (fun y_ => iI (cpl y_)))), (hV, .inr (8, [.ref hB, .int (iI (v1)), .int (iI (v2)), .int (iI (v3)), .int (iI (v4)), .int (iI (v5)), .int (iI (v6)), .int (iI (v7)), .int (iI (v8))])), (hB, .inr (0, [.ref aB])), (aB, .inl (cA 1, 2048, .inl (fun y_ => bI (d y_))))] (fun r u => ∃ (pc2 cnt2 nx2 cc2 cn2 x1 x2 x3 x4 x5 x6 x7 x8 : Int) (L2 pl2 cpl2 : Nat → Int), r = iI (reaS d ty tc i) ∧ u = [(hX, .inr (9, [.ref hB, .ref hR, .ref hV, .ref hP, .ref hF, .ref hZ, .ref hS, .ref hN, .ref aY, .int (iI (tc)), .int (iI (en))])), (hP, .inr (5, [.ref aL, .int (iI (pc2))])), (aL, .inl (cA 0, 16, .inl (fun y_ => iI (L2 y_)))), (aY, .inl (cA 0, 20, .inl (fun y_ => iI (ty y_)))), (hF, .inr (3, [.ref hB, .ref hV, .ref hE, .ref hC])), (hE, .inr (2, [.ref hB, .ref hV, .ref aE, .int (iI (cnt2)), .int (iI (nx2))])), (aE, .inl (cA 0, 64, .inl (fun y_ => iI (pl2 y_)))), (hC, .inr (2, [.ref hB, .ref hV, .ref aC, .int (iI (cc2)), .int (iI (cn2))])), (aC, .inl (cA 0, 64, .inl (fun y_ => iI (cpl2 y_)))), (hV, .inr (8, [.ref hB, .int (iI (x1)), .int (iI (x2)), .int (iI (x3)), .int (iI (x4)), .int (iI (x5)), .int (iI (x6)), .int (iI (x7)), .int (iI (x8))])), (hB, .inr (0, [.ref aB])), (aB, .inl (cA 1, 2048, .inl (fun y_ => bI (d y_))))]) := by
  intro sz
  refine kEntry (cc := cX9_read) (maxL := 4) (ret := (some .int)) (by decide) rfl (Nat.le_of_ble_eq_true rfl) ?_
  intro p e s m args below meth c A Q hAe hQ C0 hr hlk S hsz ls hl
  have hl : lv_has ls 4 [(0, .ref hX), (1, .int (iI (i)))] := hl
  obtain ⟨hi1, hi2⟩ := hi
  refine lv_aload_n C0.1 C0.2.1 dX9_read_0 rfl (lv_at hl 0 rfl) ?_
  refine k_calli (n := 0) (wr := [(hC, .inr (2, [.ref hB, .ref hV, .ref aC, .int (iI (cc)), .int (iI (cn))])), (aC, .inl (cA 0, 64, .inl (fun y_ => iI (cpl y_))))]) C0 S (c_X9_findTypedFile l D cA hX hB hR hV hP hF hZ hS hN aY (tc) (en) aL hE aE hC aB (pc0) (cnt) (nx) (v1) (v2) (v3) (v4) (v5) (v6) (v7) (v8) L pl ty d hd hty ht1 ht2) gX9_read_X9_findTypedFile rfl ⟨rfl, rfl⟩ (by decide +kernel) ⟨Nat.le_of_ble_eq_true rfl, Nat.le_of_ble_eq_true rfl⟩ [0, 1, 2, 3, 4, 5, 6, 9, 10, 11] [7, 8] rfl rfl rfl rfl (by decide) (ci := 9) (q0 := 0) rfl rfl (As := []) rfl hl.1 rfl (Nat.le_of_ble_eq_true rfl) dX9_read_1 ⟨Nat.zero_le _, Nat.zero_le _⟩ (fun r u H locs hp S => ?_)
  obtain ⟨e1, e2, e3, e4, e5, e6, e7, e8, e9, e10, e11, L12, pl13, rfl, rfl, hft1, hft2, hgeo⟩ := hp
  have S := S.sub (ws' := [(hX, .inr (9, [.ref hB, .ref hR, .ref hV, .ref hP, .ref hF, .ref hZ, .ref hS, .ref hN, .ref aY, .int (iI (tc)), .int (iI (en))])), (hP, .inr (5, [.ref aL, .int (iI (e1))])), (aL, .inl (cA 0, 16, .inl (fun y_ => iI (L12 y_)))), (aY, .inl (cA 0, 20, .inl (fun y_ => iI (ty y_)))), (hF, .inr (3, [.ref hB, .ref hV, .ref hE, .ref hC])), (hE, .inr (2, [.ref hB, .ref hV, .ref aE, .int (iI (e2)), .int (iI (e3))])), (aE, .inl (cA 0, 64, .inl (fun y_ => iI (pl13 y_)))), (hC, .inr (2, [.ref hB, .ref hV, .ref aC, .int (iI (cc)), .int (iI (cn))])), (aC, .inl (cA 0, 64, .inl (fun y_ => iI (cpl y_)))), (hV, .inr (8, [.ref hB, .int (iI (e4)), .int (iI (e5)), .int (iI (e6)), .int (iI (e7)), .int (iI (e8)), .int (iI (e9)), .int (iI (e10)), .int (iI (e11))])), (hB, .inr (0, [.ref aB])), (aB, .inl (cA 1, 2048, .inl (fun y_ => bI (d y_))))]) [2, 3, 4, 5, 6, 7, 8, 0, 1, 9, 10, 11] rfl rfl
  refine lv_istore_n (lv' := [(2, .int (iI (fotV d ty tc))), (0, .ref hX), (1, .int (iI (i)))]) C0.1 C0.2.1 dX9_read_4 rfl hl (by decide) rfl (fun ls hl => ?_)
  refine lv_iload_n C0.1 C0.2.1 dX9_read_5 rfl (lv_at hl 0 rfl) ?_
  refine k_if_ge (tgt := 11) C0 (by constructor <;> omega) dX9_read_6 (by decide) (fun c6 => ?_) (fun c6 => ?_)
  · have hv0 : 0 ≤ vol d := by rcases Int.lt_or_le (vol d) 0 with h | h; (rw [fotV_bad h] at *; omega); exact h
    have hB2 := (good_of_vol hv0).bounds hd
    have hlin := hB2.lin
    obtain ⟨rfl, rfl, rfl, rfl, rfl, rfl, rfl, rfl⟩ := hgeo hv0
    refine lv_aload_n C0.1 C0.2.1 dX9_read_11 rfl (lv_at hl 1 rfl) ?_
    refine k_get C0 S (C := RX9) (T := TX9) (N := 11) (ci := 9) (by decide +kernel) 0 rfl rfl 4 (by decide) (by decide +kernel) (v := .ref hF) rfl dX9_read_12 ?_
    refine lv_iload_n C0.1 C0.2.1 dX9_read_15 rfl (lv_at hl 0 rfl) ?_
    refine k_calli (n := 1) (wr := [(hX, .inr (9, [.ref hB, .ref hR, .ref hV, .ref hP, .ref hF, .ref hZ, .ref hS, .ref hN, .ref aY, .int (iI (tc)), .int (iI (en))])), (hP, .inr (5, [.ref aL, .int (iI (e1))])), (aL, .inl (cA 0, 16, .inl (fun y_ => iI (L12 y_)))), (aY, .inl (cA 0, 20, .inl (fun y_ => iI (ty y_)))), (hE, .inr (2, [.ref hB, .ref hV, .ref aE, .int (iI (e2)), .int (iI (e3))])), (aE, .inl (cA 0, 64, .inl (fun y_ => iI (pl13 y_))))]) C0 S (c_X3_open l D cA hF hC aC hV hB aB hE (cc) (cn) cpl d (fotV d ty tc) hd hB2 (by omega) (by omega)) gX9_read_X3_open rfl ⟨rfl, rfl⟩ (by decide +kernel) ⟨Nat.le_of_ble_eq_true rfl, Nat.le_of_ble_eq_true rfl⟩ [4, 7, 8, 9, 10, 11] [0, 1, 2, 3, 5, 6] rfl rfl rfl rfl (by decide) (ci := 3) (q0 := 0) rfl rfl (As := [.int (iI (fotV d ty tc))]) rfl hl.1 rfl (Nat.le_of_ble_eq_true rfl) dX9_read_16 ⟨Nat.zero_le _, Nat.zero_le _⟩ (fun r u H locs hp S => ?_)
    obtain ⟨co14, t15, pl16, rfl, rfl, hopT, hopr⟩ := hp
    have S := S.sub (ws' := [(hX, .inr (9, [.ref hB, .ref hR, .ref hV, .ref hP, .ref hF, .ref hZ, .ref hS, .ref hN, .ref aY, .int (iI (tc)), .int (iI (en))])), (hP, .inr (5, [.ref aL, .int (iI (e1))])), (aL, .inl (cA 0, 16, .inl (fun y_ => iI (L12 y_)))), (aY, .inl (cA 0, 20, .inl (fun y_ => iI (ty y_)))), (hF, .inr (3, [.ref hB, .ref hV, .ref hE, .ref hC])), (hE, .inr (2, [.ref hB, .ref hV, .ref aE, .int (iI (e2)), .int (iI (e3))])), (aE, .inl (cA 0, 64, .inl (fun y_ => iI (pl13 y_)))), (hC, .inr (2, [.ref hB, .ref hV, .ref aC, .int (iI (co14)), .int (iI (t15))])), (aC, .inl (cA 0, 64, .inl (fun y_ => iI (pl16 y_)))), (hV, .inr (8, [.ref hB, .int (iI (chs d)), .int (iI (gRoot d)), .int (iI (gN d)), .int (iI (gSz d)), .int (iI (gT d)), .int (iI (gTB d)), .int (iI (gTA d)), .int (iI (gCA d))])), (hB, .inr (0, [.ref aB])), (aB, .inl (cA 1, 2048, .inl (fun y_ => bI (d y_))))]) [0, 1, 2, 3, 6, 4, 5, 7, 8, 9, 10, 11] rfl rfl
    refine lv_istore_n (lv' := [(3, .int (iI (opn d (fotV d ty tc)))), (2, .int (iI (fotV d ty tc))), (0, .ref hX), (1, .int (iI (i)))]) C0.1 C0.2.1 dX9_read_19 rfl hl (by decide) rfl (fun ls hl => ?_)
    refine lv_iload_n C0.1 C0.2.1 dX9_read_20 rfl (lv_at hl 0 rfl) ?_
    refine k_if_ge (tgt := 26) C0 (by constructor <;> omega) dX9_read_21 (by decide) (fun c21 => ?_) (fun c21 => ?_)
    · refine lv_iload_n C0.1 C0.2.1 dX9_read_26 rfl (lv_at hl 3 rfl) ?_
      refine k_if_lt (tgt := 49) C0 (by constructor <;> omega) dX9_read_27 (by decide) (fun c27 => ?_) (fun c27 => ?_)
      · refine lv_iconst (v := iI (-1)) C0.1 C0.2.1 dX9_read_49 rfl ?_
        subst hQ
        refine k_iret C0 S hAe hsz hr hlk dX9_read_50 ?_
        exact ⟨_, _, _, _, _, _, _, _, _, _, _, _, _, _, _, _, congrArg iI (reaS_4 (by omega) (by omega) (by omega)).symm, rfl⟩
      · refine lv_iload_n C0.1 C0.2.1 dX9_read_30 rfl (lv_at hl 3 rfl) ?_
        refine lv_iload_n C0.1 C0.2.1 dX9_read_31 rfl (lv_at hl 0 rfl) ?_
        refine k_icmp_ge (tgt := 49) C0 (by constructor <;> omega) (by constructor <;> omega) dX9_read_32 (by decide) (fun c32 => ?_) (fun c32 => ?_)
        · refine lv_iconst (v := iI (-1)) C0.1 C0.2.1 dX9_read_49 rfl ?_
          subst hQ
          refine k_iret C0 S hAe hsz hr hlk dX9_read_50 ?_
          exact ⟨_, _, _, _, _, _, _, _, _, _, _, _, _, _, _, _, congrArg iI (reaS_4 (by omega) (by omega) (by omega)).symm, rfl⟩
        · obtain ⟨ho1, ho2, ho3⟩ := opn_pos (show 0 < opn d (fotV d ty tc) by omega)
          refine lv_aload_n C0.1 C0.2.1 dX9_read_35 rfl (lv_at hl 2 rfl) ?_
          refine k_get C0 S (C := RX9) (T := TX9) (N := 11) (ci := 9) (by decide +kernel) 0 rfl rfl 4 (by decide) (by decide +kernel) (v := .ref hF) rfl dX9_read_36 ?_
          refine k_get C0 S (C := RX3) (T := TX3) (N := 4) (ci := 3) (by decide +kernel) 4 rfl rfl 3 (by decide) (by decide +kernel) (v := .ref hC) rfl dX9_read_39 ?_
          refine lv_iload_n C0.1 C0.2.1 dX9_read_42 rfl (lv_at hl 3 rfl) ?_
          refine k_calli (n := 1) (wr := [(hX, .inr (9, [.ref hB, .ref hR, .ref hV, .ref hP, .ref hF, .ref hZ, .ref hS, .ref hN, .ref aY, .int (iI (tc)), .int (iI (en))])), (hP, .inr (5, [.ref aL, .int (iI (e1))])), (aL, .inl (cA 0, 16, .inl (fun y_ => iI (L12 y_)))), (aY, .inl (cA 0, 20, .inl (fun y_ => iI (ty y_)))), (hF, .inr (3, [.ref hB, .ref hV, .ref hE, .ref hC])), (hE, .inr (2, [.ref hB, .ref hV, .ref aE, .int (iI (e2)), .int (iI (e3))])), (aE, .inl (cA 0, 64, .inl (fun y_ => iI (pl13 y_))))]) C0 S (c_X2_byteAt l D cA hC aC hV hB aB d (co14) (t15) pl16 (rd d (fotV d ty tc + 5)) (i) hd hB2 (hopT (by omega)) (by omega) (by omega)) gX9_read_X2_byteAt rfl ⟨rfl, rfl⟩ (by decide +kernel) ⟨Nat.le_of_ble_eq_true rfl, Nat.le_of_ble_eq_true rfl⟩ [7, 8, 9, 10, 11] [0, 1, 2, 3, 4, 5, 6] rfl rfl rfl rfl (by decide) (ci := 2) (q0 := 0) rfl rfl (As := [.int (iI (i))]) rfl hl.1 rfl (Nat.le_of_ble_eq_true rfl) dX9_read_43 ⟨Nat.zero_le _, Nat.zero_le _⟩ (fun r u H locs hp S => ?_)
          obtain ⟨rfl, rfl⟩ := hp
          have S := S.sub (ws' := [(hX, .inr (9, [.ref hB, .ref hR, .ref hV, .ref hP, .ref hF, .ref hZ, .ref hS, .ref hN, .ref aY, .int (iI (tc)), .int (iI (en))])), (hP, .inr (5, [.ref aL, .int (iI (e1))])), (aL, .inl (cA 0, 16, .inl (fun y_ => iI (L12 y_)))), (aY, .inl (cA 0, 20, .inl (fun y_ => iI (ty y_)))), (hF, .inr (3, [.ref hB, .ref hV, .ref hE, .ref hC])), (hE, .inr (2, [.ref hB, .ref hV, .ref aE, .int (iI (e2)), .int (iI (e3))])), (aE, .inl (cA 0, 64, .inl (fun y_ => iI (pl13 y_)))), (hC, .inr (2, [.ref hB, .ref hV, .ref aC, .int (iI (co14)), .int (iI (t15))])), (aC, .inl (cA 0, 64, .inl (fun y_ => iI (pl16 y_)))), (hV, .inr (8, [.ref hB, .int (iI (chs d)), .int (iI (gRoot d)), .int (iI (gN d)), .int (iI (gSz d)), .int (iI (gT d)), .int (iI (gTB d)), .int (iI (gTA d)), .int (iI (gCA d))])), (hB, .inr (0, [.ref aB])), (aB, .inl (cA 1, 2048, .inl (fun y_ => bI (d y_))))]) [0, 1, 2, 3, 4, 5, 6, 7, 8, 9, 10, 11] rfl rfl
          have hb17 := By.rd hd (plc d (rd d (fotV d ty tc + 5)) (i))
          refine lv_goto (tgt := 50) C0.1 C0.2.1 dX9_read_46 (by decide) ?_
          subst hQ
          refine k_iret C0 S hAe hsz hr hlk dX9_read_50 ?_
          exact ⟨_, _, _, _, _, _, _, _, _, _, _, _, _, _, _, _, congrArg iI (reaS_3 (by omega) (by omega) (by omega)).symm, rfl⟩
    · refine lv_iload_n C0.1 C0.2.1 dX9_read_24 rfl (lv_at hl 0 rfl) ?_
      subst hQ
      refine k_iret C0 S hAe hsz hr hlk dX9_read_25 ?_
      exact ⟨_, _, _, _, _, _, _, _, _, _, _, _, _, _, _, _, congrArg iI (reaS_2 (by omega) (by omega)).symm, rfl⟩
  · refine lv_iload_n C0.1 C0.2.1 dX9_read_9 rfl (lv_at hl 0 rfl) ?_
    subst hQ
    refine k_iret C0 S hAe hsz hr hlk dX9_read_10 ?_
    exact ⟨_, _, _, _, _, _, _, _, _, _, _, _, _, _, _, _, congrArg iI (reaS_1 (by omega)).symm, rfl⟩
def rmX9_findTypedDirectory : Room := { frames := 4, cells := 0, slots := 0, locals := 93 }
set_option maxHeartbeats 4000000 in
set_option maxRecDepth 100000 in
theorem c_X9_findTypedDirectory (l : Launch) (D : va_G) (cA : Nat → ClassId) (hX hB hR hV hP hF hZ hS hN aY : Nat) (tc en : Int) (aL hE aE hC aB : Nat) (pc0 cnt nx : Int) (L pl ty d : Nat → Int) (hd : By d) (hty : By ty) (ht1 : 0 ≤ tc) (ht2 : tc ≤ 20) (hB2 : gB d) : kCi l D vwCl (kTys cA) yX9_findTypedDirectory wsX9_findTypedDirectory rmX9_findTypedDirectory [.ref hX] [(hX, .inr (9, [.ref hB, .ref hR, .ref hV, .ref hP, .ref hF, .ref hZ, .ref hS, .ref hN, .ref aY, .int (iI (tc)), .int (iI (en))])), (hP, .inr (5, [.ref aL, .int (iI (pc0))])), (aL, .inl (cA 0, 16, .inl (fun y_ => iI (L y_)))), (aY, .inl (cA 0, 20, .inl (fun y_ => iI (ty y_)))), (hF, .inr (3, [.ref hB, .ref hV, .ref hE, .ref hC])), (hE, .inr (2, [.ref hB, .ref hV, .ref aE, .int (iI (cnt)), .int (iI (nx))])), (aE, .inl (cA 0, 64, .inl (fun y_ => iI (pl y_)))), (hV, .inr (8, [.ref hB, .int (iI (chs d)), .int (iI (gRoot d)), .int (iI (gN d)), .int (iI (gSz d)), .int (iI (gT d)), .int (iI (gTB d)), .int (iI (gTA d)), .int (iI (gCA d))])), (hB, .inr (0, [.ref aB])), (aB, .inl (cA 1, 2048, .inl (fun y_ => bI (d y_))))] (fun r u => ∃ (pc2 cnt2 nx2 : Int) (L2 pl2 : Nat → Int), r = iI (ftd d ty tc) ∧ u = [(hX, .inr (9, [.ref hB, .ref hR, .ref hV, .ref hP, .ref hF, .ref hZ, .ref hS, .ref hN, .ref aY, .int (iI (tc)), .int (iI (en))])), (hP, .inr (5, [.ref aL, .int (iI (pc2))])), (aL, .inl (cA 0, 16, .inl (fun y_ => iI (L2 y_)))), (aY, .inl (cA 0, 20, .inl (fun y_ => iI (ty y_)))), (hF, .inr (3, [.ref hB, .ref hV, .ref hE, .ref hC])), (hE, .inr (2, [.ref hB, .ref hV, .ref aE, .int (iI (cnt2)), .int (iI (nx2))])), (aE, .inl (cA 0, 64, .inl (fun y_ => iI (pl2 y_)))), (hV, .inr (8, [.ref hB, .int (iI (chs d)), .int (iI (gRoot d)), .int (iI (gN d)), .int (iI (gSz d)), .int (iI (gT d)), .int (iI (gTB d)), .int (iI (gTA d)), .int (iI (gCA d))])), (hB, .inr (0, [.ref aB])), (aB, .inl (cA 1, 2048, .inl (fun y_ => bI (d y_))))] ∧ (-100 ≤ ftd d ty tc ∧ ftd d ty tc < 256)) := by
  intro sz
  refine kEntry (cc := cX9_findTypedDirectory) (maxL := 2) (ret := (some .int)) (by decide) rfl (Nat.le_of_ble_eq_true rfl) ?_
  intro p e s m args below meth c A Q hAe hQ C0 hr hlk S hsz ls hl
  have hl : lv_has ls 2 [(0, .ref hX)] := hl
  have hlin := hB2.lin
  refine lv_aload_n C0.1 C0.2.1 dX9_findTypedDirectory_0 rfl (lv_at hl 0 rfl) ?_
  refine k_get C0 S (C := RX9) (T := TX9) (N := 11) (ci := 9) (by decide +kernel) 0 rfl rfl 9 (by decide) (by decide +kernel) (v := .int (iI (tc))) rfl dX9_findTypedDirectory_1 ?_
  refine k_if_ne (tgt := 15) C0 (by constructor <;> omega) dX9_findTypedDirectory_4 (by decide) (fun c4 => ?_) (fun c4 => ?_)
  · refine lv_aload_n C0.1 C0.2.1 dX9_findTypedDirectory_15 rfl (lv_at hl 0 rfl) ?_
    refine k_get C0 S (C := RX9) (T := TX9) (N := 11) (ci := 9) (by decide +kernel) 0 rfl rfl 3 (by decide) (by decide +kernel) (v := .ref hP) rfl dX9_findTypedDirectory_16 ?_
    refine lv_aload_n C0.1 C0.2.1 dX9_findTypedDirectory_19 rfl (lv_at hl 0 rfl) ?_
    refine k_get C0 S (C := RX9) (T := TX9) (N := 11) (ci := 9) (by decide +kernel) 0 rfl rfl 8 (by decide) (by decide +kernel) (v := .ref aY) rfl dX9_findTypedDirectory_20 ?_
    refine lv_iconst (v := iI (0)) C0.1 C0.2.1 dX9_findTypedDirectory_23 rfl ?_
    refine lv_aload_n C0.1 C0.2.1 dX9_findTypedDirectory_24 rfl (lv_at hl 0 rfl) ?_
    refine k_get C0 S (C := RX9) (T := TX9) (N := 11) (ci := 9) (by decide +kernel) 0 rfl rfl 9 (by decide) (by decide +kernel) (v := .int (iI (tc))) rfl dX9_findTypedDirectory_25 ?_
    refine k_calli (n := 3) (wr := [(hX, .inr (9, [.ref hB, .ref hR, .ref hV, .ref hP, .ref hF, .ref hZ, .ref hS, .ref hN, .ref aY, .int (iI (tc)), .int (iI (en))])), (hF, .inr (3, [.ref hB, .ref hV, .ref hE, .ref hC])), (hE, .inr (2, [.ref hB, .ref hV, .ref aE, .int (iI (cnt)), .int (iI (nx))])), (aE, .inl (cA 0, 64, .inl (fun y_ => iI (pl y_)))), (hV, .inr (8, [.ref hB, .int (iI (chs d)), .int (iI (gRoot d)), .int (iI (gN d)), .int (iI (gSz d)), .int (iI (gT d)), .int (iI (gTB d)), .int (iI (gTA d)), .int (iI (gCA d))])), (hB, .inr (0, [.ref aB])), (aB, .inl (cA 1, 2048, .inl (fun y_ => bI (d y_))))]) C0 S (c_X5_parse l D cA hP aL aY 20 (pc0) L ty (0) (tc) hty (by omega) (by omega) (by omega) (by omega)) gX9_findTypedDirectory_X5_parse rfl ⟨rfl, rfl⟩ (by decide +kernel) ⟨Nat.le_of_ble_eq_true rfl, Nat.le_of_ble_eq_true rfl⟩ [1, 2, 3] [0, 4, 5, 6, 7, 8, 9] rfl rfl rfl rfl (by decide) (ci := 5) (q0 := 0) rfl rfl (As := [.ref aY, .int (iI (0)), .int (iI (tc))]) rfl hl.1 rfl (Nat.le_of_ble_eq_true rfl) dX9_findTypedDirectory_28 ⟨Nat.zero_le _, Nat.zero_le _⟩ (fun r u H locs hp S => ?_)
    obtain ⟨cp1, L2, rfl, rfl, hpar⟩ := hp
    have S := S.sub (ws' := [(hX, .inr (9, [.ref hB, .ref hR, .ref hV, .ref hP, .ref hF, .ref hZ, .ref hS, .ref hN, .ref aY, .int (iI (tc)), .int (iI (en))])), (hP, .inr (5, [.ref aL, .int (iI (cp1))])), (aL, .inl (cA 0, 16, .inl (fun y_ => iI (L2 y_)))), (aY, .inl (cA 0, 20, .inl (fun y_ => iI (ty y_)))), (hF, .inr (3, [.ref hB, .ref hV, .ref hE, .ref hC])), (hE, .inr (2, [.ref hB, .ref hV, .ref aE, .int (iI (cnt)), .int (iI (nx))])), (aE, .inl (cA 0, 64, .inl (fun y_ => iI (pl y_)))), (hV, .inr (8, [.ref hB, .int (iI (chs d)), .int (iI (gRoot d)), .int (iI (gN d)), .int (iI (gSz d)), .int (iI (gT d)), .int (iI (gTB d)), .int (iI (gTA d)), .int (iI (gCA d))])), (hB, .inr (0, [.ref aB])), (aB, .inl (cA 1, 2048, .inl (fun y_ => bI (d y_))))]) [0, 7, 8, 9, 1, 2, 3, 4, 5, 6] rfl rfl
    refine k_bz_ne (tgt := 37) C0 dX9_findTypedDirectory_31 (by decide) (fun c31 => ?_) (fun c31 => ?_)
    · obtain ⟨⟨m2, ks⟩, hps⟩ := Option.ne_none_iff_exists'.mp c31
      obtain ⟨rfl, hks, hL⟩ := hpar m2 ks hps
      obtain ⟨hm1, hm2⟩ := psr_count hps
      refine lv_aload_n C0.1 C0.2.1 dX9_findTypedDirectory_37 rfl (lv_at hl 0 rfl) ?_
      refine k_get C0 S (C := RX9) (T := TX9) (N := 11) (ci := 9) (by decide +kernel) 0 rfl rfl 4 (by decide) (by decide +kernel) (v := .ref hF) rfl dX9_findTypedDirectory_38 ?_
      refine lv_aload_n C0.1 C0.2.1 dX9_findTypedDirectory_41 rfl (lv_at hl 0 rfl) ?_
      refine k_get C0 S (C := RX9) (T := TX9) (N := 11) (ci := 9) (by decide +kernel) 0 rfl rfl 3 (by decide) (by decide +kernel) (v := .ref hP) rfl dX9_findTypedDirectory_42 ?_
      refine k_calli (n := 1) (wr := [(hX, .inr (9, [.ref hB, .ref hR, .ref hV, .ref hP, .ref hF, .ref hZ, .ref hS, .ref hN, .ref aY, .int (iI (tc)), .int (iI (en))])), (aY, .inl (cA 0, 20, .inl (fun y_ => iI (ty y_))))]) C0 S (c_X3_find l D cA hF hP aL hE aE hV hB aB hC (cnt) (nx) L2 pl d ks m2 hd hB2 hL (by omega) (by omega) hks) gX9_findTypedDirectory_X3_find rfl ⟨rfl, rfl⟩ (by decide +kernel) ⟨Nat.le_of_ble_eq_true rfl, Nat.le_of_ble_eq_true rfl⟩ [4, 1, 2, 5, 6, 7, 8, 9] [0, 3] rfl rfl rfl rfl (by decide) (ci := 3) (q0 := 0) rfl rfl (As := [.ref hP]) rfl hl.1 rfl (Nat.le_of_ble_eq_true rfl) dX9_findTypedDirectory_45 ⟨Nat.zero_le _, Nat.zero_le _⟩ (fun r u H locs hp S => ?_)
      obtain ⟨c3, t4, pl5, rfl, rfl, hfr1, hfr2⟩ := hp
      have S := S.sub (ws' := [(hX, .inr (9, [.ref hB, .ref hR, .ref hV, .ref hP, .ref hF, .ref hZ, .ref hS, .ref hN, .ref aY, .int (iI (tc)), .int (iI (en))])), (hP, .inr (5, [.ref aL, .int (iI ((m2 : Int)))])), (aL, .inl (cA 0, 16, .inl (fun y_ => iI (L2 y_)))), (aY, .inl (cA 0, 20, .inl (fun y_ => iI (ty y_)))), (hF, .inr (3, [.ref hB, .ref hV, .ref hE, .ref hC])), (hE, .inr (2, [.ref hB, .ref hV, .ref aE, .int (iI (c3)), .int (iI (t4))])), (aE, .inl (cA 0, 64, .inl (fun y_ => iI (pl5 y_)))), (hV, .inr (8, [.ref hB, .int (iI (chs d)), .int (iI (gRoot d)), .int (iI (gN d)), .int (iI (gSz d)), .int (iI (gT d)), .int (iI (gTB d)), .int (iI (gTA d)), .int (iI (gCA d))])), (hB, .inr (0, [.ref aB])), (aB, .inl (cA 1, 2048, .inl (fun y_ => bI (d y_))))]) [0, 3, 4, 1, 2, 5, 6, 7, 8, 9] rfl rfl
      refine lv_istore_n (lv' := [(1, .int (iI (fnd d ks m2))), (0, .ref hX)]) C0.1 C0.2.1 dX9_findTypedDirectory_48 rfl hl (by decide) rfl (fun ls hl => ?_)
      refine lv_iload_n C0.1 C0.2.1 dX9_findTypedDirectory_49 rfl (lv_at hl 0 rfl) ?_
      refine k_if_ge (tgt := 55) C0 (by constructor <;> omega) dX9_findTypedDirectory_50 (by decide) (fun c50 => ?_) (fun c50 => ?_)
      · refine lv_aload_n C0.1 C0.2.1 dX9_findTypedDirectory_55 rfl (lv_at hl 1 rfl) ?_
        refine k_get C0 S (C := RX9) (T := TX9) (N := 11) (ci := 9) (by decide +kernel) 0 rfl rfl 2 (by decide) (by decide +kernel) (v := .ref hV) rfl dX9_findTypedDirectory_56 ?_
        refine lv_iload_n C0.1 C0.2.1 dX9_findTypedDirectory_59 rfl (lv_at hl 0 rfl) ?_
        refine k_calli (n := 1) (wr := [(hX, .inr (9, [.ref hB, .ref hR, .ref hV, .ref hP, .ref hF, .ref hZ, .ref hS, .ref hN, .ref aY, .int (iI (tc)), .int (iI (en))])), (hP, .inr (5, [.ref aL, .int (iI ((m2 : Int)))])), (aL, .inl (cA 0, 16, .inl (fun y_ => iI (L2 y_)))), (aY, .inl (cA 0, 20, .inl (fun y_ => iI (ty y_)))), (hF, .inr (3, [.ref hB, .ref hV, .ref hE, .ref hC])), (hE, .inr (2, [.ref hB, .ref hV, .ref aE, .int (iI (c3)), .int (iI (t4))])), (aE, .inl (cA 0, 64, .inl (fun y_ => iI (pl5 y_))))]) C0 S (c_X8_isDirectory l D cA hV hB aB d (fnd d ks m2) hd hB2 (by omega) (by omega)) gX9_findTypedDirectory_X8_isDirectory rfl ⟨rfl, rfl⟩ (by decide +kernel) ⟨Nat.le_of_ble_eq_true rfl, Nat.le_of_ble_eq_true rfl⟩ [7, 8, 9] [0, 1, 2, 3, 4, 5, 6] rfl rfl rfl rfl (by decide) (ci := 8) (q0 := 0) rfl rfl (As := [.int (iI (fnd d ks m2))]) rfl hl.1 rfl (Nat.le_of_ble_eq_true rfl) dX9_findTypedDirectory_60 ⟨Nat.zero_le _, Nat.zero_le _⟩ (fun r u H locs hp S => ?_)
        obtain ⟨rfl, rfl⟩ := hp
        have S := S.sub (ws' := [(hX, .inr (9, [.ref hB, .ref hR, .ref hV, .ref hP, .ref hF, .ref hZ, .ref hS, .ref hN, .ref aY, .int (iI (tc)), .int (iI (en))])), (hP, .inr (5, [.ref aL, .int (iI ((m2 : Int)))])), (aL, .inl (cA 0, 16, .inl (fun y_ => iI (L2 y_)))), (aY, .inl (cA 0, 20, .inl (fun y_ => iI (ty y_)))), (hF, .inr (3, [.ref hB, .ref hV, .ref hE, .ref hC])), (hE, .inr (2, [.ref hB, .ref hV, .ref aE, .int (iI (c3)), .int (iI (t4))])), (aE, .inl (cA 0, 64, .inl (fun y_ => iI (pl5 y_)))), (hV, .inr (8, [.ref hB, .int (iI (chs d)), .int (iI (gRoot d)), .int (iI (gN d)), .int (iI (gSz d)), .int (iI (gT d)), .int (iI (gTB d)), .int (iI (gTA d)), .int (iI (gCA d))])), (hB, .inr (0, [.ref aB])), (aB, .inl (cA 1, 2048, .inl (fun y_ => bI (d y_))))]) [0, 1, 2, 3, 4, 5, 6, 7, 8, 9] rfl rfl
        refine k_bz_eq (tgt := 77) C0 dX9_findTypedDirectory_63 (by decide) (fun c63 => ?_) (fun c63 => ?_)
        · refine lv_bipush (v := iI (-8)) C0.1 C0.2.1 dX9_findTypedDirectory_77 (by decide) ?_
          subst hQ
          refine k_iret C0 S hAe hsz hr hlk dX9_findTypedDirectory_79 ?_
          have hq : ftd d ty tc = -8 := (ftd_some c4 hps).trans (dirS_3 (by omega) c63)
          exact ⟨_, _, _, _, _, congrArg iI hq.symm, rfl, by omega⟩
        · refine lv_aload_n C0.1 C0.2.1 dX9_findTypedDirectory_66 rfl (lv_at hl 1 rfl) ?_
          refine k_get C0 S (C := RX9) (T := TX9) (N := 11) (ci := 9) (by decide +kernel) 0 rfl rfl 2 (by decide) (by decide +kernel) (v := .ref hV) rfl dX9_findTypedDirectory_67 ?_
          refine lv_iload_n C0.1 C0.2.1 dX9_findTypedDirectory_70 rfl (lv_at hl 0 rfl) ?_
          refine k_calli (n := 1) (wr := [(hX, .inr (9, [.ref hB, .ref hR, .ref hV, .ref hP, .ref hF, .ref hZ, .ref hS, .ref hN, .ref aY, .int (iI (tc)), .int (iI (en))])), (hP, .inr (5, [.ref aL, .int (iI ((m2 : Int)))])), (aL, .inl (cA 0, 16, .inl (fun y_ => iI (L2 y_)))), (aY, .inl (cA 0, 20, .inl (fun y_ => iI (ty y_)))), (hF, .inr (3, [.ref hB, .ref hV, .ref hE, .ref hC])), (hE, .inr (2, [.ref hB, .ref hV, .ref aE, .int (iI (c3)), .int (iI (t4))])), (aE, .inl (cA 0, 64, .inl (fun y_ => iI (pl5 y_))))]) C0 S (c_X8_firstClusterOf l D cA hV hB aB d (fnd d ks m2) hd hB2 (by omega) (by omega)) gX9_findTypedDirectory_X8_firstClusterOf rfl ⟨rfl, rfl⟩ (by decide +kernel) ⟨Nat.le_of_ble_eq_true rfl, Nat.le_of_ble_eq_true rfl⟩ [7, 8, 9] [0, 1, 2, 3, 4, 5, 6] rfl rfl rfl rfl (by decide) (ci := 8) (q0 := 0) rfl rfl (As := [.int (iI (fnd d ks m2))]) rfl hl.1 rfl (Nat.le_of_ble_eq_true rfl) dX9_findTypedDirectory_71 ⟨Nat.zero_le _, Nat.zero_le _⟩ (fun r u H locs hp S => ?_)
          obtain ⟨rfl, rfl⟩ := hp
          have S := S.sub (ws' := [(hX, .inr (9, [.ref hB, .ref hR, .ref hV, .ref hP, .ref hF, .ref hZ, .ref hS, .ref hN, .ref aY, .int (iI (tc)), .int (iI (en))])), (hP, .inr (5, [.ref aL, .int (iI ((m2 : Int)))])), (aL, .inl (cA 0, 16, .inl (fun y_ => iI (L2 y_)))), (aY, .inl (cA 0, 20, .inl (fun y_ => iI (ty y_)))), (hF, .inr (3, [.ref hB, .ref hV, .ref hE, .ref hC])), (hE, .inr (2, [.ref hB, .ref hV, .ref aE, .int (iI (c3)), .int (iI (t4))])), (aE, .inl (cA 0, 64, .inl (fun y_ => iI (pl5 y_)))), (hV, .inr (8, [.ref hB, .int (iI (chs d)), .int (iI (gRoot d)), .int (iI (gN d)), .int (iI (gSz d)), .int (iI (gT d)), .int (iI (gTB d)), .int (iI (gTA d)), .int (iI (gCA d))])), (hB, .inr (0, [.ref aB])), (aB, .inl (cA 1, 2048, .inl (fun y_ => bI (d y_))))]) [0, 1, 2, 3, 4, 5, 6, 7, 8, 9] rfl rfl
          have hb6 := By.rd hd ((fnd d ks m2) + 5)
          refine lv_goto (tgt := 79) C0.1 C0.2.1 dX9_findTypedDirectory_74 (by decide) ?_
          subst hQ
          refine k_iret C0 S hAe hsz hr hlk dX9_findTypedDirectory_79 ?_
          have hq : ftd d ty tc = rd d (fnd d ks m2 + 5) := (ftd_some c4 hps).trans (dirS_2 (by omega) c63)
          exact ⟨_, _, _, _, _, congrArg iI hq.symm, rfl, by omega⟩
      · refine lv_iload_n C0.1 C0.2.1 dX9_findTypedDirectory_53 rfl (lv_at hl 0 rfl) ?_
        subst hQ
        refine k_iret C0 S hAe hsz hr hlk dX9_findTypedDirectory_54 ?_
        have hq : ftd d ty tc = fnd d ks m2 := (ftd_some c4 hps).trans (dirS_1 (by omega))
        exact ⟨_, _, _, _, _, congrArg iI hq.symm, rfl, by omega⟩
    · refine lv_bipush (v := iI (-5)) C0.1 C0.2.1 dX9_findTypedDirectory_34 (by decide) ?_
      subst hQ
      refine k_iret C0 S hAe hsz hr hlk dX9_findTypedDirectory_36 ?_
      have hq : ftd d ty tc = -5 := ftd_none c4 (Classical.not_not.mp c31)
      exact ⟨_, _, _, _, _, congrArg iI hq.symm, rfl, by omega⟩
  · refine lv_aload_n C0.1 C0.2.1 dX9_findTypedDirectory_7 rfl (lv_at hl 0 rfl) ?_
    refine k_get C0 S (C := RX9) (T := TX9) (N := 11) (ci := 9) (by decide +kernel) 0 rfl rfl 2 (by decide) (by decide +kernel) (v := .ref hV) rfl dX9_findTypedDirectory_8 ?_
    refine k_get C0 S (C := RX8) (T := TX8) (N := 9) (ci := 8) (by decide +kernel) 7 rfl rfl 2 (by decide) (by decide +kernel) (v := .int (iI (gRoot d))) rfl dX9_findTypedDirectory_11 ?_
    subst hQ
    refine k_iret C0 S hAe hsz hr hlk dX9_findTypedDirectory_14 ?_
    exact ⟨_, _, _, _, _, congrArg iI (ftd_0 c4).symm, rfl, by rw [ftd_0 c4]; omega⟩
def rmX9_list : Room := { frames := 5, cells := 0, slots := 0, locals := 114 }
set_option maxHeartbeats 4000000 in
set_option maxRecDepth 100000 in
theorem c_X9_list (l : Launch) (D : va_G) (cA : Nat → ClassId) (hX hB hR hV hP hF hZ hS hN aY : Nat) (tc en : Int) (aL hE aE hC aB : Nat) (pc0 cnt nx v1 v2 v3 v4 v5 v6 v7 v8 : Int) (L pl ty d : Nat → Int) (i : Int) (hd : By d) (hty : By ty) (ht1 : 0 ≤ tc) (ht2 : tc ≤ 20) (hi : ir i) : kCl l D vwCl (kTys cA) yX9_list wsX9_list rmX9_list [.ref hX, .int (iI (i))] [(hX, .inr (9, [.ref hB, .ref hR, .ref hV, .ref hP, .ref hF, .ref hZ, .ref hS, .ref hN, .ref aY, .int (iI (tc)), .int (iI (en))])), (hP, .inr (5, [.ref aL, .int (iI (pc0))])), (aL, .inl (cA 0, 16, .inl (fun y_ => iI (L y_)))), (aY, .inl (cA 0, 20, .inl (fun y_ => iI (ty y_)))), (hF, .inr (3, [.ref hB, .ref hV, .ref hE, .ref hC])), (hE, .inr (2, [.ref hB, .ref hV, .ref aE, .int (iI (cnt)), .int (iI (nx))])), (aE, .inl (cA 0, 64, .inl (fun y_ => iI (pl y_)))), (hV, .inr (8, [.ref hB, .int (iI (v1)), .int (iI (v2)), .int (iI (v3)), .int (iI (v4)), .int (iI (v5)), .int (iI (v6)), .int (iI (v7)), .int (iI (v8))])), (hB, .inr (0, [.ref aB])), (aB, .inl (cA 1, 2048, .inl (fun y_ => bI (d y_))))] (fun r u => ∃ (pc2 cnt2 nx2 x1 x2 x3 x4 x5 x6 x7 x8 : Int) (L2 pl2 : Nat → Int), r = lI (lisS d ty tc i) ∧ u = [(hX, .inr (9, [.ref hB, .ref hR, .ref hV, .ref hP, .ref hF, .ref hZ, .ref hS, .ref hN, .ref aY, .int (iI (tc)), .int (iI (en))])), (hP, .inr (5, [.ref aL, .int (iI (pc2))])), (aL, .inl (cA 0, 16, .inl (fun y_ => iI (L2 y_)))), (aY, .inl (cA 0, 20, .inl (fun y_ => iI (ty y_)))), (hF, .inr (3, [.ref hB, .ref hV, .ref hE, .ref hC])), (hE, .inr (2, [.ref hB, .ref hV, .ref aE, .int (iI (cnt2)), .int (iI (nx2))])), (aE, .inl (cA 0, 64, .inl (fun y_ => iI (pl2 y_)))), (hV, .inr (8, [.ref hB, .int (iI (x1)), .int (iI (x2)), .int (iI (x3)), .int (iI (x4)), .int (iI (x5)), .int (iI (x6)), .int (iI (x7)), .int (iI (x8))])), (hB, .inr (0, [.ref aB])), (aB, .inl (cA 1, 2048, .inl (fun y_ => bI (d y_))))]) := by
  intro sz
  refine kEntry (cc := cX9_list) (maxL := 4) (ret := (some .long)) (by decide) rfl (Nat.le_of_ble_eq_true rfl) ?_
  intro p e s m args below meth c A Q hAe hQ C0 hr hlk S hsz ls hl
  have hl : lv_has ls 4 [(0, .ref hX), (1, .int (iI (i)))] := hl
  obtain ⟨hi1, hi2⟩ := hi
  refine lv_aload_n C0.1 C0.2.1 dX9_list_0 rfl (lv_at hl 0 rfl) ?_
  refine k_get C0 S (C := RX9) (T := TX9) (N := 11) (ci := 9) (by decide +kernel) 0 rfl rfl 2 (by decide) (by decide +kernel) (v := .ref hV) rfl dX9_list_1 ?_
  refine k_calli (n := 0) (wr := [(hX, .inr (9, [.ref hB, .ref hR, .ref hV, .ref hP, .ref hF, .ref hZ, .ref hS, .ref hN, .ref aY, .int (iI (tc)), .int (iI (en))])), (hP, .inr (5, [.ref aL, .int (iI (pc0))])), (aL, .inl (cA 0, 16, .inl (fun y_ => iI (L y_)))), (aY, .inl (cA 0, 20, .inl (fun y_ => iI (ty y_)))), (hF, .inr (3, [.ref hB, .ref hV, .ref hE, .ref hC])), (hE, .inr (2, [.ref hB, .ref hV, .ref aE, .int (iI (cnt)), .int (iI (nx))])), (aE, .inl (cA 0, 64, .inl (fun y_ => iI (pl y_))))]) C0 S (c_X8_mount l D cA hV hB aB (v1) (v2) (v3) (v4) (v5) (v6) (v7) (v8) d hd) gX9_list_X8_mount rfl ⟨rfl, rfl⟩ (by decide +kernel) ⟨Nat.le_of_ble_eq_true rfl, Nat.le_of_ble_eq_true rfl⟩ [7, 8, 9] [0, 1, 2, 3, 4, 5, 6] rfl rfl rfl rfl (by decide) (ci := 8) (q0 := 0) rfl rfl (As := []) rfl hl.1 rfl (Nat.le_of_ble_eq_true rfl) dX9_list_4 ⟨Nat.zero_le _, Nat.zero_le _⟩ (fun r u H locs hp S => ?_)
  obtain ⟨x1, x2, x3, x4, x5, x6, x7, x8, rfl, rfl, hgeo⟩ := hp
  have S := S.sub (ws' := [(hX, .inr (9, [.ref hB, .ref hR, .ref hV, .ref hP, .ref hF, .ref hZ, .ref hS, .ref hN, .ref aY, .int (iI (tc)), .int (iI (en))])), (hP, .inr (5, [.ref aL, .int (iI (pc0))])), (aL, .inl (cA 0, 16, .inl (fun y_ => iI (L y_)))), (aY, .inl (cA 0, 20, .inl (fun y_ => iI (ty y_)))), (hF, .inr (3, [.ref hB, .ref hV, .ref hE, .ref hC])), (hE, .inr (2, [.ref hB, .ref hV, .ref aE, .int (iI (cnt)), .int (iI (nx))])), (aE, .inl (cA 0, 64, .inl (fun y_ => iI (pl y_)))), (hV, .inr (8, [.ref hB, .int (iI (x1)), .int (iI (x2)), .int (iI (x3)), .int (iI (x4)), .int (iI (x5)), .int (iI (x6)), .int (iI (x7)), .int (iI (x8))])), (hB, .inr (0, [.ref aB])), (aB, .inl (cA 1, 2048, .inl (fun y_ => bI (d y_))))]) [0, 1, 2, 3, 4, 5, 6, 7, 8, 9] rfl rfl
  have hvr := vol_range hd
  refine lv_istore_n (lv' := [(2, .int (iI (vol d))), (0, .ref hX), (1, .int (iI (i)))]) C0.1 C0.2.1 dX9_list_7 rfl hl (by decide) rfl (fun ls hl => ?_)
  refine lv_iload_n C0.1 C0.2.1 dX9_list_8 rfl (lv_at hl 0 rfl) ?_
  refine k_if_ge (tgt := 15) C0 (by constructor <;> omega) dX9_list_9 (by decide) (fun c9 => ?_) (fun c9 => ?_)
  · have hGood := good_of_vol (show 0 ≤ vol d by omega)
    have hB2 := hGood.bounds hd
    have hlin := hB2.lin
    obtain ⟨rfl, rfl, rfl, rfl, rfl, rfl, rfl, rfl⟩ := hgeo (by omega)
    refine lv_aload_n C0.1 C0.2.1 dX9_list_15 rfl (lv_at hl 1 rfl) ?_
    refine k_calli (n := 0) (wr := []) C0 S (c_X9_findTypedDirectory l D cA hX hB hR hV hP hF hZ hS hN aY (tc) (en) aL hE aE hC aB (pc0) (cnt) (nx) L pl ty d hd hty ht1 ht2 hB2) gX9_list_X9_findTypedDirectory rfl ⟨rfl, rfl⟩ (by decide +kernel) ⟨Nat.le_of_ble_eq_true rfl, Nat.le_of_ble_eq_true rfl⟩ [0, 1, 2, 3, 4, 5, 6, 7, 8, 9] [] rfl rfl rfl rfl (by decide) (ci := 9) (q0 := 0) rfl rfl (As := []) rfl hl.1 rfl (Nat.le_of_ble_eq_true rfl) dX9_list_16 ⟨Nat.zero_le _, Nat.zero_le _⟩ (fun r u H locs hp S => ?_)
    obtain ⟨e9, e10, e11, L12, pl13, rfl, rfl, hft1⟩ := hp
    have S := S.sub (ws' := [(hX, .inr (9, [.ref hB, .ref hR, .ref hV, .ref hP, .ref hF, .ref hZ, .ref hS, .ref hN, .ref aY, .int (iI (tc)), .int (iI (en))])), (hP, .inr (5, [.ref aL, .int (iI (e9))])), (aL, .inl (cA 0, 16, .inl (fun y_ => iI (L12 y_)))), (aY, .inl (cA 0, 20, .inl (fun y_ => iI (ty y_)))), (hF, .inr (3, [.ref hB, .ref hV, .ref hE, .ref hC])), (hE, .inr (2, [.ref hB, .ref hV, .ref aE, .int (iI (e10)), .int (iI (e11))])), (aE, .inl (cA 0, 64, .inl (fun y_ => iI (pl13 y_)))), (hV, .inr (8, [.ref hB, .int (iI (chs d)), .int (iI (gRoot d)), .int (iI (gN d)), .int (iI (gSz d)), .int (iI (gT d)), .int (iI (gTB d)), .int (iI (gTA d)), .int (iI (gCA d))])), (hB, .inr (0, [.ref aB])), (aB, .inl (cA 1, 2048, .inl (fun y_ => bI (d y_))))]) [0, 1, 2, 3, 4, 5, 6, 7, 8, 9] rfl rfl
    refine lv_istore_n (lv' := [(3, .int (iI (ftd d ty tc))), (2, .int (iI (vol d))), (0, .ref hX), (1, .int (iI (i)))]) C0.1 C0.2.1 dX9_list_19 rfl hl (by decide) rfl (fun ls hl => ?_)
    refine lv_iload_n C0.1 C0.2.1 dX9_list_20 rfl (lv_at hl 0 rfl) ?_
    refine k_if_ge (tgt := 29) C0 (by constructor <;> omega) dX9_list_21 (by decide) (fun c21 => ?_) (fun c21 => ?_)
    · refine lv_aload_n C0.1 C0.2.1 dX9_list_29 rfl (lv_at hl 2 rfl) ?_
      refine k_get C0 S (C := RX9) (T := TX9) (N := 11) (ci := 9) (by decide +kernel) 0 rfl rfl 4 (by decide) (by decide +kernel) (v := .ref hF) rfl dX9_list_30 ?_
      refine lv_iload_n C0.1 C0.2.1 dX9_list_33 rfl (lv_at hl 0 rfl) ?_
      refine lv_iload_n C0.1 C0.2.1 dX9_list_34 rfl (lv_at hl 3 rfl) ?_
      refine k_calll (n := 2) (wr := [(hX, .inr (9, [.ref hB, .ref hR, .ref hV, .ref hP, .ref hF, .ref hZ, .ref hS, .ref hN, .ref aY, .int (iI (tc)), .int (iI (en))])), (hP, .inr (5, [.ref aL, .int (iI (e9))])), (aL, .inl (cA 0, 16, .inl (fun y_ => iI (L12 y_)))), (aY, .inl (cA 0, 20, .inl (fun y_ => iI (ty y_))))]) C0 S (c_X3_nameNumbered l D cA hF hE aE hV hB aB hC (e10) (e11) pl13 d (ftd d ty tc) (i) hd hB2 (by omega) (by omega) (by constructor <;> omega)) gX9_list_X3_nameNumbered rfl ⟨rfl, rfl⟩ (by decide +kernel) ⟨Nat.le_of_ble_eq_true rfl, Nat.le_of_ble_eq_true rfl⟩ [4, 5, 6, 7, 8, 9] [0, 1, 2, 3] rfl rfl rfl rfl (by decide) (ci := 3) (q0 := 0) rfl rfl (As := [.int (iI (ftd d ty tc)), .int (iI (i))]) rfl hl.1 rfl (Nat.le_of_ble_eq_true rfl) dX9_list_35 ⟨Nat.zero_le _, Nat.zero_le _⟩ (fun r u H locs hp S => ?_)
      obtain ⟨cn14, t15, pl16, rfl, rfl⟩ := hp
      have S := S.sub (ws' := [(hX, .inr (9, [.ref hB, .ref hR, .ref hV, .ref hP, .ref hF, .ref hZ, .ref hS, .ref hN, .ref aY, .int (iI (tc)), .int (iI (en))])), (hP, .inr (5, [.ref aL, .int (iI (e9))])), (aL, .inl (cA 0, 16, .inl (fun y_ => iI (L12 y_)))), (aY, .inl (cA 0, 20, .inl (fun y_ => iI (ty y_)))), (hF, .inr (3, [.ref hB, .ref hV, .ref hE, .ref hC])), (hE, .inr (2, [.ref hB, .ref hV, .ref aE, .int (iI (cn14)), .int (iI (t15))])), (aE, .inl (cA 0, 64, .inl (fun y_ => iI (pl16 y_)))), (hV, .inr (8, [.ref hB, .int (iI (chs d)), .int (iI (gRoot d)), .int (iI (gN d)), .int (iI (gSz d)), .int (iI (gT d)), .int (iI (gTB d)), .int (iI (gTA d)), .int (iI (gCA d))])), (hB, .inr (0, [.ref aB])), (aB, .inl (cA 1, 2048, .inl (fun y_ => bI (d y_))))]) [0, 1, 2, 3, 4, 5, 6, 7, 8, 9] rfl rfl
      subst hQ
      refine k_lret C0 S hAe hsz hr hlk dX9_list_38 ?_
      exact ⟨_, _, _, _, _, _, _, _, _, _, _, _, _, congrArg lI (lisS_3 (by omega) (by omega)).symm, rfl⟩
    · refine lv_iload_n C0.1 C0.2.1 dX9_list_24 rfl (lv_at hl 0 rfl) ?_
      refine lv_i2l (v := (iI (ftd d ty tc)).toInt64) C0.1 C0.2.1 dX9_list_25 rfl ?_
      refine k_topeql (v := lI (ftd d ty tc)) (lI_of32 (by constructor <;> omega)) ?_
      refine lv_goto (tgt := 38) C0.1 C0.2.1 dX9_list_26 (by decide) ?_
      subst hQ
      refine k_lret C0 S hAe hsz hr hlk dX9_list_38 ?_
      exact ⟨_, _, _, _, _, _, _, _, _, _, _, _, _, congrArg lI (lisS_2 (by omega) (by omega)).symm, rfl⟩
  · refine lv_iload_n C0.1 C0.2.1 dX9_list_12 rfl (lv_at hl 0 rfl) ?_
    refine lv_i2l (v := (iI (vol d)).toInt64) C0.1 C0.2.1 dX9_list_13 rfl ?_
    refine k_topeql (v := lI (vol d)) (lI_of32 (by constructor <;> omega)) ?_
    subst hQ
    refine k_lret C0 S hAe hsz hr hlk dX9_list_14 ?_
    exact ⟨_, _, _, _, _, _, _, _, _, _, _, _, _, congrArg lI (lisS_1 (by omega)).symm, rfl⟩
