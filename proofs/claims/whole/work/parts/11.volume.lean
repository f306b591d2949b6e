theorem gN_range {d : Nat → Int} (hd : By d) (hc : gCS d = 1 ∨ gCS d = 2 ∨ gCS d = 4) (h1 : 1 ≤ gT d) (h2 : gT d ≤ 2) : (-1000 ≤ gN d ∧ gN d ≤ 1000) ∧ (0 ≤ gT d * gTS d ∧ gT d * gTS d ≤ 510) := by
  have b1 := hd.rd (gP d + 2)
  have b2 := hd.rd (gP d + 4)
  have b3 := hd.rd (6 + 8 * chs d + 3)
  have e1 : gBef d = rd d (gP d + 2) := rfl
  have e2 : gTS d = rd d (gP d + 4) := rfl
  have e3 : gMany d = rd d (6 + 8 * chs d + 3) := rfl
  have e4 : gLeft d = gMany d - (gBef d + gT d * gTS d) := rfl
  have hT : gT d = 1 ∨ gT d = 2 := by omega
  have hm : 0 ≤ gT d * gTS d ∧ gT d * gTS d ≤ 510 := by rcases hT with h | h <;> rw [h] <;> omega
  have h3 := Int.natAbs_tdiv_le_natAbs (gLeft d) (gCS d)
  have e5 : gN d = (gLeft d).tdiv (gCS d) := rfl
  rw [← e5] at h3
  exact ⟨⟨by omega, by omega⟩, hm⟩
theorem gP_bound {d : Nat → Int} (hd : By d) (h : 0 ≤ chs d) : (0 ≤ gP d ∧ gP d + 32 ≤ 2048) ∧ chs d ≤ 2 := by
  rcases chs_cases d with hc | ⟨-, hc2, hu⟩
  · omega
  obtain ⟨u1, u2, u3, u4⟩ := hu
  have e1 : gP d = rd d (6 + 8 * chs d + 2) * 32 := rfl
  omega
def rmX8_isSigned : Room := { frames := 1, cells := 0, slots := 0, locals := 21 }
set_option maxHeartbeats 4000000 in
set_option maxRecDepth 100000 in
theorem c_X8_isSigned (l : Launch) (D : va_G) (cA : Nat → ClassId) (hV hB aB : Nat) (v1 v2 v3 v4 v5 v6 v7 v8 : Int) (d : Nat → Int) (z : Int) (hd : By d) (hz1 : 0 ≤ z) (hz2 : z + 32 ≤ 2048) : kCi l D vwCl (kTys cA) yX8_isSigned wsX8_isSigned rmX8_isSigned [.ref hV, .int (iI (z))] [(hV, .inr (8, [.ref hB, .int (iI (v1)), .int (iI (v2)), .int (iI (v3)), .int (iI (v4)), .int (iI (v5)), .int (iI (v6)), .int (iI (v7)), .int (iI (v8))])), (hB, .inr (0, [.ref aB])), (aB, .inl (cA 1, 2048, .inl (fun y_ => bI (d y_))))] (fun r u => r = iI (bz (rd d (z + 30) = 85 ∧ rd d (z + 31) = 170)) ∧ u = [(hV, .inr (8, [.ref hB, .int (iI (v1)), .int (iI (v2)), .int (iI (v3)), .int (iI (v4)), .int (iI (v5)), .int (iI (v6)), .int (iI (v7)), .int (iI (v8))])), (hB, .inr (0, [.ref aB])), (aB, .inl (cA 1, 2048, .inl (fun y_ => bI (d y_))))]) := by
  intro sz
  refine kEntry (cc := cX8_isSigned) (maxL := 2) (ret := (some .boolean)) (by decide) rfl (Nat.le_of_ble_eq_true rfl) ?_
  intro p e s m args below meth c A Q hAe hQ C0 hr hlk S hsz ls hl
  have hl : lv_has ls 2 [(0, .ref hV), (1, .int (iI (z)))] := hl
  refine lv_aload_n C0.1 C0.2.1 dX8_isSigned_0 rfl (lv_at hl 0 rfl) ?_
  refine k_get C0 S (C := RX8) (T := TX8) (N := 9) (ci := 8) (by decide +kernel) 0 rfl rfl 0 (by decide) (by decide +kernel) (v := .ref hB) rfl dX8_isSigned_1 ?_
  refine lv_iload_n C0.1 C0.2.1 dX8_isSigned_4 rfl (lv_at hl 1 rfl) ?_
  refine lv_bipush (v := iI (30)) C0.1 C0.2.1 dX8_isSigned_5 (by decide) ?_
  refine k_iadd C0 dX8_isSigned_7 ?_
  refine k_calli (n := 1) (wr := [(hV, .inr (8, [.ref hB, .int (iI (v1)), .int (iI (v2)), .int (iI (v3)), .int (iI (v4)), .int (iI (v5)), .int (iI (v6)), .int (iI (v7)), .int (iI (v8))]))]) C0 S (c_X0_byteAt l D cA hB aB 2048 d (z + 30) hd (by constructor <;> omega) (by omega)) gX8_isSigned_X0_byteAt rfl ⟨rfl, rfl⟩ (by decide +kernel) ⟨Nat.le_of_ble_eq_true rfl, Nat.le_of_ble_eq_true rfl⟩ [1, 2] [0] rfl rfl rfl rfl (by decide) (ci := 0) (q0 := 0) rfl rfl (As := [.int (iI (z + 30))]) rfl hl.1 rfl (Nat.le_of_ble_eq_true rfl) dX8_isSigned_8 ⟨Nat.zero_le _, Nat.zero_le _⟩ (fun r u H locs hp S => ?_)
  obtain ⟨rfl, rfl⟩ := hp
  have S := S.sub (ws' := [(hV, .inr (8, [.ref hB, .int (iI (v1)), .int (iI (v2)), .int (iI (v3)), .int (iI (v4)), .int (iI (v5)), .int (iI (v6)), .int (iI (v7)), .int (iI (v8))])), (hB, .inr (0, [.ref aB])), (aB, .inl (cA 1, 2048, .inl (fun y_ => bI (d y_))))]) [0, 1, 2] rfl rfl
  rw [bAt_in (n := 2048) (z := z + 30) (by omega) (by omega)]
  have hb1 := By.rd hd (z + 30)
  refine lv_bipush (v := iI (85)) C0.1 C0.2.1 dX8_isSigned_11 (by decide) ?_
  refine k_icmp_ne (tgt := 37) C0 (by constructor <;> omega) ⟨by decide, by decide⟩ dX8_isSigned_13 (by decide) (fun c2 => ?_) (fun c2 => ?_)
  · refine lv_iconst (v := iI (0)) C0.1 C0.2.1 dX8_isSigned_37 rfl ?_
    subst hQ
    refine k_zret C0 S hAe hsz hr hlk (by rfl) dX8_isSigned_38 ?_
    exact ⟨congrArg iI (bz_f (by omega)).symm, rfl⟩
  · refine lv_aload_n C0.1 C0.2.1 dX8_isSigned_16 rfl (lv_at hl 0 rfl) ?_
    refine k_get C0 S (C := RX8) (T := TX8) (N := 9) (ci := 8) (by decide +kernel) 0 rfl rfl 0 (by decide) (by decide +kernel) (v := .ref hB) rfl dX8_isSigned_17 ?_
    refine lv_iload_n C0.1 C0.2.1 dX8_isSigned_20 rfl (lv_at hl 1 rfl) ?_
    refine lv_bipush (v := iI (31)) C0.1 C0.2.1 dX8_isSigned_21 (by decide) ?_
    refine k_iadd C0 dX8_isSigned_23 ?_
    refine k_calli (n := 1) (wr := [(hV, .inr (8, [.ref hB, .int (iI (v1)), .int (iI (v2)), .int (iI (v3)), .int (iI (v4)), .int (iI (v5)), .int (iI (v6)), .int (iI (v7)), .int (iI (v8))]))]) C0 S (c_X0_byteAt l D cA hB aB 2048 d (z + 31) hd (by constructor <;> omega) (by omega)) gX8_isSigned_X0_byteAt rfl ⟨rfl, rfl⟩ (by decide +kernel) ⟨Nat.le_of_ble_eq_true rfl, Nat.le_of_ble_eq_true rfl⟩ [1, 2] [0] rfl rfl rfl rfl (by decide) (ci := 0) (q0 := 0) rfl rfl (As := [.int (iI (z + 31))]) rfl hl.1 rfl (Nat.le_of_ble_eq_true rfl) dX8_isSigned_24 ⟨Nat.zero_le _, Nat.zero_le _⟩ (fun r u H locs hp S => ?_)
    obtain ⟨rfl, rfl⟩ := hp
    have S := S.sub (ws' := [(hV, .inr (8, [.ref hB, .int (iI (v1)), .int (iI (v2)), .int (iI (v3)), .int (iI (v4)), .int (iI (v5)), .int (iI (v6)), .int (iI (v7)), .int (iI (v8))])), (hB, .inr (0, [.ref aB])), (aB, .inl (cA 1, 2048, .inl (fun y_ => bI (d y_))))]) [0, 1, 2] rfl rfl
    rw [bAt_in (n := 2048) (z := z + 31) (by omega) (by omega)]
    have hb3 := By.rd hd (z + 31)
    refine lv_sipush (v := iI (170)) C0.1 C0.2.1 dX8_isSigned_27 (by decide) ?_
    refine k_icmp_ne (tgt := 37) C0 (by constructor <;> omega) ⟨by decide, by decide⟩ dX8_isSigned_30 (by decide) (fun c4 => ?_) (fun c4 => ?_)
    · refine lv_iconst (v := iI (0)) C0.1 C0.2.1 dX8_isSigned_37 rfl ?_
      subst hQ
      refine k_zret C0 S hAe hsz hr hlk (by rfl) dX8_isSigned_38 ?_
      exact ⟨congrArg iI (bz_f (by omega)).symm, rfl⟩
    · refine lv_iconst (v := iI (1)) C0.1 C0.2.1 dX8_isSigned_33 rfl ?_
      refine lv_goto (tgt := 38) C0.1 C0.2.1 dX8_isSigned_34 (by decide) ?_
      subst hQ
      refine k_zret C0 S hAe hsz hr hlk (by rfl) dX8_isSigned_38 ?_
      exact ⟨congrArg iI (bz_t (by omega)).symm, rfl⟩
def rmX8_placeOfRecord : Room := { frames := 0, cells := 0, slots := 0, locals := 0 }
set_option maxHeartbeats 4000000 in
set_option maxRecDepth 100000 in
theorem c_X8_placeOfRecord (l : Launch) (D : va_G) (cA : Nat → ClassId) (hV hB aB : Nat) (v1 v2 v3 v4 v5 v6 v7 v8 : Int) (d : Nat → Int) (z : Int)  : kCi l D vwCl (kTys cA) yX8_placeOfRecord wsX8_placeOfRecord rmX8_placeOfRecord [.ref hV, .int (iI (z))] [(hV, .inr (8, [.ref hB, .int (iI (v1)), .int (iI (v2)), .int (iI (v3)), .int (iI (v4)), .int (iI (v5)), .int (iI (v6)), .int (iI (v7)), .int (iI (v8))])), (hB, .inr (0, [.ref aB])), (aB, .inl (cA 1, 2048, .inl (fun y_ => bI (d y_))))] (fun r u => r = iI (6 + 8 * z) ∧ u = [(hV, .inr (8, [.ref hB, .int (iI (v1)), .int (iI (v2)), .int (iI (v3)), .int (iI (v4)), .int (iI (v5)), .int (iI (v6)), .int (iI (v7)), .int (iI (v8))])), (hB, .inr (0, [.ref aB])), (aB, .inl (cA 1, 2048, .inl (fun y_ => bI (d y_))))]) := by
  intro sz
  refine kEntry (cc := cX8_placeOfRecord) (maxL := 2) (ret := (some .int)) (by decide) rfl (Nat.le_of_ble_eq_true rfl) ?_
  intro p e s m args below meth c A Q hAe hQ C0 hr hlk S hsz ls hl
  have hl : lv_has ls 2 [(0, .ref hV), (1, .int (iI (z)))] := hl
  refine lv_bipush (v := iI (6)) C0.1 C0.2.1 dX8_placeOfRecord_0 (by decide) ?_
  refine lv_bipush (v := iI (8)) C0.1 C0.2.1 dX8_placeOfRecord_2 (by decide) ?_
  refine lv_iload_n C0.1 C0.2.1 dX8_placeOfRecord_4 rfl (lv_at hl 1 rfl) ?_
  refine k_imul C0 dX8_placeOfRecord_5 ?_
  refine k_iadd C0 dX8_placeOfRecord_6 ?_
  subst hQ
  refine k_iret C0 S hAe hsz hr hlk dX8_placeOfRecord_7 ?_
  exact ⟨rfl, rfl⟩
def rmX8_isUsable : Room := { frames := 1, cells := 0, slots := 0, locals := 21 }
set_option maxHeartbeats 4000000 in
set_option maxRecDepth 100000 in
theorem c_X8_isUsable (l : Launch) (D : va_G) (cA : Nat → ClassId) (hV hB aB : Nat) (v1 v2 v3 v4 v5 v6 v7 v8 : Int) (d : Nat → Int) (z : Int) (hd : By d) (hz1 : 0 ≤ z) (hz2 : z ≤ 2) : kCi l D vwCl (kTys cA) yX8_isUsable wsX8_isUsable rmX8_isUsable [.ref hV, .int (iI (z))] [(hV, .inr (8, [.ref hB, .int (iI (v1)), .int (iI (v2)), .int (iI (v3)), .int (iI (v4)), .int (iI (v5)), .int (iI (v6)), .int (iI (v7)), .int (iI (v8))])), (hB, .inr (0, [.ref aB])), (aB, .inl (cA 1, 2048, .inl (fun y_ => bI (d y_))))] (fun r u => r = iI (bz (us d z)) ∧ u = [(hV, .inr (8, [.ref hB, .int (iI (v1)), .int (iI (v2)), .int (iI (v3)), .int (iI (v4)), .int (iI (v5)), .int (iI (v6)), .int (iI (v7)), .int (iI (v8))])), (hB, .inr (0, [.ref aB])), (aB, .inl (cA 1, 2048, .inl (fun y_ => bI (d y_))))]) := by
  intro sz
  refine kEntry (cc := cX8_isUsable) (maxL := 5) (ret := (some .boolean)) (by decide) rfl (Nat.le_of_ble_eq_true rfl) ?_
  intro p e s m args below meth c A Q hAe hQ C0 hr hlk S hsz ls hl
  have hl : lv_has ls 5 [(0, .ref hV), (1, .int (iI (z)))] := hl
  refine lv_aload_n C0.1 C0.2.1 dX8_isUsable_0 rfl (lv_at hl 0 rfl) ?_
  refine lv_iload_n C0.1 C0.2.1 dX8_isUsable_1 rfl (lv_at hl 1 rfl) ?_
  refine k_calli (n := 1) (wr := []) C0 S (c_X8_placeOfRecord l D cA hV hB aB (v1) (v2) (v3) (v4) (v5) (v6) (v7) (v8) d (z)) gX8_isUsable_X8_placeOfRecord rfl ⟨rfl, rfl⟩ (by decide +kernel) ⟨Nat.le_of_ble_eq_true rfl, Nat.le_of_ble_eq_true rfl⟩ [0, 1, 2] [] rfl rfl rfl rfl (by decide) (ci := 8) (q0 := 0) rfl rfl (As := [.int (iI (z))]) rfl hl.1 rfl (Nat.le_of_ble_eq_true rfl) dX8_isUsable_2 ⟨Nat.zero_le _, Nat.zero_le _⟩ (fun r u H locs hp S => ?_)
  obtain ⟨rfl, rfl⟩ := hp
  have S := S.sub (ws' := [(hV, .inr (8, [.ref hB, .int (iI (v1)), .int (iI (v2)), .int (iI (v3)), .int (iI (v4)), .int (iI (v5)), .int (iI (v6)), .int (iI (v7)), .int (iI (v8))])), (hB, .inr (0, [.ref aB])), (aB, .inl (cA 1, 2048, .inl (fun y_ => bI (d y_))))]) [0, 1, 2] rfl rfl
  refine lv_istore_n (lv' := [(2, .int (iI (6 + 8 * (z)))), (0, .ref hV), (1, .int (iI (z)))]) C0.1 C0.2.1 dX8_isUsable_5 rfl hl (by decide) rfl (fun ls hl => ?_)
  refine lv_aload_n C0.1 C0.2.1 dX8_isUsable_6 rfl (lv_at hl 1 rfl) ?_
  refine k_get C0 S (C := RX8) (T := TX8) (N := 9) (ci := 8) (by decide +kernel) 0 rfl rfl 0 (by decide) (by decide +kernel) (v := .ref hB) rfl dX8_isUsable_7 ?_
  refine lv_iload_n C0.1 C0.2.1 dX8_isUsable_10 rfl (lv_at hl 0 rfl) ?_
  refine lv_iconst (v := iI (2)) C0.1 C0.2.1 dX8_isUsable_11 rfl ?_
  refine k_iadd C0 dX8_isUsable_12 ?_
  refine k_calli (n := 1) (wr := [(hV, .inr (8, [.ref hB, .int (iI (v1)), .int (iI (v2)), .int (iI (v3)), .int (iI (v4)), .int (iI (v5)), .int (iI (v6)), .int (iI (v7)), .int (iI (v8))]))]) C0 S (c_X0_byteAt l D cA hB aB 2048 d ((6 + 8 * (z)) + 2) hd (by constructor <;> omega) (by omega)) gX8_isUsable_X0_byteAt rfl ⟨rfl, rfl⟩ (by decide +kernel) ⟨Nat.le_of_ble_eq_true rfl, Nat.le_of_ble_eq_true rfl⟩ [1, 2] [0] rfl rfl rfl rfl (by decide) (ci := 0) (q0 := 0) rfl rfl (As := [.int (iI ((6 + 8 * (z)) + 2))]) rfl hl.1 rfl (Nat.le_of_ble_eq_true rfl) dX8_isUsable_13 ⟨Nat.zero_le _, Nat.zero_le _⟩ (fun r u H locs hp S => ?_)
  obtain ⟨rfl, rfl⟩ := hp
  have S := S.sub (ws' := [(hV, .inr (8, [.ref hB, .int (iI (v1)), .int (iI (v2)), .int (iI (v3)), .int (iI (v4)), .int (iI (v5)), .int (iI (v6)), .int (iI (v7)), .int (iI (v8))])), (hB, .inr (0, [.ref aB])), (aB, .inl (cA 1, 2048, .inl (fun y_ => bI (d y_))))]) [0, 1, 2] rfl rfl
  rw [bAt_in (n := 2048) (z := (6 + 8 * (z)) + 2) (by omega) (by omega)]
  have hb1 := By.rd hd ((6 + 8 * (z)) + 2)
  refine lv_istore_n (lv' := [(3, .int (iI (rd d ((6 + 8 * (z)) + 2)))), (2, .int (iI (6 + 8 * (z)))), (0, .ref hV), (1, .int (iI (z)))]) C0.1 C0.2.1 dX8_isUsable_16 rfl hl (by decide) rfl (fun ls hl => ?_)
  refine lv_aload_n C0.1 C0.2.1 dX8_isUsable_17 rfl (lv_at hl 2 rfl) ?_
  refine k_get C0 S (C := RX8) (T := TX8) (N := 9) (ci := 8) (by decide +kernel) 0 rfl rfl 0 (by decide) (by decide +kernel) (v := .ref hB) rfl dX8_isUsable_18 ?_
  refine lv_iload_n C0.1 C0.2.1 dX8_isUsable_21 rfl (lv_at hl 1 rfl) ?_
  refine lv_iconst (v := iI (3)) C0.1 C0.2.1 dX8_isUsable_22 rfl ?_
  refine k_iadd C0 dX8_isUsable_23 ?_
  refine k_calli (n := 1) (wr := [(hV, .inr (8, [.ref hB, .int (iI (v1)), .int (iI (v2)), .int (iI (v3)), .int (iI (v4)), .int (iI (v5)), .int (iI (v6)), .int (iI (v7)), .int (iI (v8))]))]) C0 S (c_X0_byteAt l D cA hB aB 2048 d ((6 + 8 * (z)) + 3) hd (by constructor <;> omega) (by omega)) gX8_isUsable_X0_byteAt rfl ⟨rfl, rfl⟩ (by decide +kernel) ⟨Nat.le_of_ble_eq_true rfl, Nat.le_of_ble_eq_true rfl⟩ [1, 2] [0] rfl rfl rfl rfl (by decide) (ci := 0) (q0 := 0) rfl rfl (As := [.int (iI ((6 + 8 * (z)) + 3))]) rfl hl.1 rfl (Nat.le_of_ble_eq_true rfl) dX8_isUsable_24 ⟨Nat.zero_le _, Nat.zero_le _⟩ (fun r u H locs hp S => ?_)
  obtain ⟨rfl, rfl⟩ := hp
  have S := S.sub (ws' := [(hV, .inr (8, [.ref hB, .int (iI (v1)), .int (iI (v2)), .int (iI (v3)), .int (iI (v4)), .int (iI (v5)), .int (iI (v6)), .int (iI (v7)), .int (iI (v8))])), (hB, .inr (0, [.ref aB])), (aB, .inl (cA 1, 2048, .inl (fun y_ => bI (d y_))))]) [0, 1, 2] rfl rfl
  rw [bAt_in (n := 2048) (z := (6 + 8 * (z)) + 3) (by omega) (by omega)]
  have hb2 := By.rd hd ((6 + 8 * (z)) + 3)
  refine lv_istore (lv' := [(4, .int (iI (rd d ((6 + 8 * (z)) + 3)))), (3, .int (iI (rd d ((6 + 8 * (z)) + 2)))), (2, .int (iI (6 + 8 * (z)))), (0, .ref hV), (1, .int (iI (z)))]) C0.1 C0.2.1 dX8_isUsable_27 hl (by decide) rfl (fun ls hl => ?_)
  refine lv_aload_n C0.1 C0.2.1 dX8_isUsable_29 rfl (lv_at hl 3 rfl) ?_
  refine k_get C0 S (C := RX8) (T := TX8) (N := 9) (ci := 8) (by decide +kernel) 0 rfl rfl 0 (by decide) (by decide +kernel) (v := .ref hB) rfl dX8_isUsable_30 ?_
  refine lv_iload_n C0.1 C0.2.1 dX8_isUsable_33 rfl (lv_at hl 2 rfl) ?_
  refine lv_iconst (v := iI (1)) C0.1 C0.2.1 dX8_isUsable_34 rfl ?_
  refine k_iadd C0 dX8_isUsable_35 ?_
  refine k_calli (n := 1) (wr := [(hV, .inr (8, [.ref hB, .int (iI (v1)), .int (iI (v2)), .int (iI (v3)), .int (iI (v4)), .int (iI (v5)), .int (iI (v6)), .int (iI (v7)), .int (iI (v8))]))]) C0 S (c_X0_byteAt l D cA hB aB 2048 d ((6 + 8 * (z)) + 1) hd (by constructor <;> omega) (by omega)) gX8_isUsable_X0_byteAt rfl ⟨rfl, rfl⟩ (by decide +kernel) ⟨Nat.le_of_ble_eq_true rfl, Nat.le_of_ble_eq_true rfl⟩ [1, 2] [0] rfl rfl rfl rfl (by decide) (ci := 0) (q0 := 0) rfl rfl (As := [.int (iI ((6 + 8 * (z)) + 1))]) rfl hl.1 rfl (Nat.le_of_ble_eq_true rfl) dX8_isUsable_36 ⟨Nat.zero_le _, Nat.zero_le _⟩ (fun r u H locs hp S => ?_)
  obtain ⟨rfl, rfl⟩ := hp
  have S := S.sub (ws' := [(hV, .inr (8, [.ref hB, .int (iI (v1)), .int (iI (v2)), .int (iI (v3)), .int (iI (v4)), .int (iI (v5)), .int (iI (v6)), .int (iI (v7)), .int (iI (v8))])), (hB, .inr (0, [.ref aB])), (aB, .inl (cA 1, 2048, .inl (fun y_ => bI (d y_))))]) [0, 1, 2] rfl rfl
  rw [bAt_in (n := 2048) (z := (6 + 8 * (z)) + 1) (by omega) (by omega)]
  have hb3 := By.rd hd ((6 + 8 * (z)) + 1)
  refine lv_bipush (v := iI (12)) C0.1 C0.2.1 dX8_isUsable_39 (by decide) ?_
  refine k_icmp_ne (tgt := 68) C0 (by constructor <;> omega) ⟨by decide, by decide⟩ dX8_isUsable_41 (by decide) (fun c4 => ?_) (fun c4 => ?_)
  · refine lv_iconst (v := iI (0)) C0.1 C0.2.1 dX8_isUsable_68 rfl ?_
    subst hQ
    refine k_zret C0 S hAe hsz hr hlk (by rfl) dX8_isUsable_69 ?_
    exact ⟨congrArg iI (bz_f (by unfold us; omega)).symm, rfl⟩
  · refine lv_iload_n C0.1 C0.2.1 dX8_isUsable_44 rfl (lv_at hl 1 rfl) ?_
    refine lv_iconst (v := iI (1)) C0.1 C0.2.1 dX8_isUsable_45 rfl ?_
    refine k_icmp_lt (tgt := 68) C0 (by constructor <;> omega) ⟨by decide, by decide⟩ dX8_isUsable_46 (by decide) (fun c5 => ?_) (fun c5 => ?_)
    · refine lv_iconst (v := iI (0)) C0.1 C0.2.1 dX8_isUsable_68 rfl ?_
      subst hQ
      refine k_zret C0 S hAe hsz hr hlk (by rfl) dX8_isUsable_69 ?_
      exact ⟨congrArg iI (bz_f (by unfold us; omega)).symm, rfl⟩
    · refine lv_iload C0.1 C0.2.1 dX8_isUsable_49 (lv_at hl 0 rfl) ?_
      refine lv_iconst (v := iI (1)) C0.1 C0.2.1 dX8_isUsable_51 rfl ?_
      refine k_icmp_lt (tgt := 68) C0 (by constructor <;> omega) ⟨by decide, by decide⟩ dX8_isUsable_52 (by decide) (fun c6 => ?_) (fun c6 => ?_)
      · refine lv_iconst (v := iI (0)) C0.1 C0.2.1 dX8_isUsable_68 rfl ?_
        subst hQ
        refine k_zret C0 S hAe hsz hr hlk (by rfl) dX8_isUsable_69 ?_
        exact ⟨congrArg iI (bz_f (by unfold us; omega)).symm, rfl⟩
      · refine lv_iload_n C0.1 C0.2.1 dX8_isUsable_55 rfl (lv_at hl 1 rfl) ?_
        refine lv_iload C0.1 C0.2.1 dX8_isUsable_56 (lv_at hl 0 rfl) ?_
        refine k_iadd C0 dX8_isUsable_58 ?_
        refine lv_bipush (v := iI (64)) C0.1 C0.2.1 dX8_isUsable_59 (by decide) ?_
        refine k_icmp_gt (tgt := 68) C0 (by constructor <;> omega) ⟨by decide, by decide⟩ dX8_isUsable_61 (by decide) (fun c7 => ?_) (fun c7 => ?_)
        · refine lv_iconst (v := iI (0)) C0.1 C0.2.1 dX8_isUsable_68 rfl ?_
          subst hQ
          refine k_zret C0 S hAe hsz hr hlk (by rfl) dX8_isUsable_69 ?_
          exact ⟨congrArg iI (bz_f (by unfold us; omega)).symm, rfl⟩
        · refine lv_iconst (v := iI (1)) C0.1 C0.2.1 dX8_isUsable_64 rfl ?_
          refine lv_goto (tgt := 69) C0.1 C0.2.1 dX8_isUsable_65 (by decide) ?_
          subst hQ
          refine k_zret C0 S hAe hsz hr hlk (by rfl) dX8_isUsable_69 ?_
          exact ⟨congrArg iI (bz_t (by unfold us; omega)).symm, rfl⟩
def rmX8_choosePartition : Room := { frames := 2, cells := 0, slots := 0, locals := 45 }
set_option maxHeartbeats 4000000 in
set_option maxRecDepth 100000 in
theorem c_X8_choosePartition (l : Launch) (D : va_G) (cA : Nat → ClassId) (hV hB aB : Nat) (v1 v2 v3 v4 v5 v6 v7 v8 : Int) (d : Nat → Int) (hd : By d) : kCi l D vwCl (kTys cA) yX8_choosePartition wsX8_choosePartition rmX8_choosePartition [.ref hV] [(hV, .inr (8, [.ref hB, .int (iI (v1)), .int (iI (v2)), .int (iI (v3)), .int (iI (v4)), .int (iI (v5)), .int (iI (v6)), .int (iI (v7)), .int (iI (v8))])), (hB, .inr (0, [.ref aB])), (aB, .inl (cA 1, 2048, .inl (fun y_ => bI (d y_))))] (fun r u => r = iI (chs d) ∧ u = [(hV, .inr (8, [.ref hB, .int (iI (v1)), .int (iI (v2)), .int (iI (v3)), .int (iI (v4)), .int (iI (v5)), .int (iI (v6)), .int (iI (v7)), .int (iI (v8))])), (hB, .inr (0, [.ref aB])), (aB, .inl (cA 1, 2048, .inl (fun y_ => bI (d y_))))]) := by
  intro sz
  refine kEntry (cc := cX8_choosePartition) (maxL := 3) (ret := (some .int)) (by decide) rfl (Nat.le_of_ble_eq_true rfl) ?_
  intro p e s m args below meth c A Q hAe hQ C0 hr hlk S hsz ls hl
  have hl : lv_has ls 3 [(0, .ref hV)] := hl
  refine lv_iconst (v := iI (-1)) C0.1 C0.2.1 dX8_choosePartition_0 rfl ?_
  refine lv_istore_n (lv' := [(1, .int (iI (-1))), (0, .ref hV)]) C0.1 C0.2.1 dX8_choosePartition_1 rfl hl (by decide) rfl (fun ls hl => ?_)
  refine lv_iconst (v := iI (0)) C0.1 C0.2.1 dX8_choosePartition_2 rfl ?_
  refine lv_istore_n (lv' := [(2, .int (iI (0))), (1, .int (iI (-1))), (0, .ref hV)]) C0.1 C0.2.1 dX8_choosePartition_3 rfl hl (by decide) rfl (fun ls hl => ?_)
  refine lv_iload_n C0.1 C0.2.1 dX8_choosePartition_4 rfl (lv_at hl 0 rfl) ?_
  refine lv_iconst (v := iI (3)) C0.1 C0.2.1 dX8_choosePartition_5 rfl ?_
  refine k_icmp_ge (tgt := 52) C0 ⟨by decide, by decide⟩ ⟨by decide, by decide⟩ dX8_choosePartition_6 (by decide) (fun hc => absurd hc (by decide)) (fun _ => ?_)
  refine lv_aload_n C0.1 C0.2.1 dX8_choosePartition_9 rfl (lv_at hl 2 rfl) ?_
  refine lv_iload_n C0.1 C0.2.1 dX8_choosePartition_10 rfl (lv_at hl 0 rfl) ?_
  refine k_calli (n := 1) (wr := []) C0 S (c_X8_isUsable l D cA hV hB aB (v1) (v2) (v3) (v4) (v5) (v6) (v7) (v8) d (0) hd (by decide) (by decide)) gX8_choosePartition_X8_isUsable rfl ⟨rfl, rfl⟩ (by decide +kernel) ⟨Nat.le_of_ble_eq_true rfl, Nat.le_of_ble_eq_true rfl⟩ [0, 1, 2] [] rfl rfl rfl rfl (by decide) (ci := 8) (q0 := 0) rfl rfl (As := [.int (iI (0))]) rfl hl.1 rfl (Nat.le_of_ble_eq_true rfl) dX8_choosePartition_11 ⟨Nat.zero_le _, Nat.zero_le _⟩ (fun r u H locs hp S => ?_)
  obtain ⟨rfl, rfl⟩ := hp
  have S := S.sub (ws' := [(hV, .inr (8, [.ref hB, .int (iI (v1)), .int (iI (v2)), .int (iI (v3)), .int (iI (v4)), .int (iI (v5)), .int (iI (v6)), .int (iI (v7)), .int (iI (v8))])), (hB, .inr (0, [.ref aB])), (aB, .inl (cA 1, 2048, .inl (fun y_ => bI (d y_))))]) [0, 1, 2] rfl rfl
  refine k_bz_ne (tgt := 20) C0 dX8_choosePartition_14 (by decide) (fun c1 => ?_) (fun c1 => ?_)
  · refine lv_aload_n C0.1 C0.2.1 dX8_choosePartition_20 rfl (lv_at hl 2 rfl) ?_
    refine k_get C0 S (C := RX8) (T := TX8) (N := 9) (ci := 8) (by decide +kernel) 0 rfl rfl 0 (by decide) (by decide +kernel) (v := .ref hB) rfl dX8_choosePartition_21 ?_
    refine lv_aload_n C0.1 C0.2.1 dX8_choosePartition_24 rfl (lv_at hl 2 rfl) ?_
    refine lv_iload_n C0.1 C0.2.1 dX8_choosePartition_25 rfl (lv_at hl 0 rfl) ?_
    refine k_calli (n := 1) (wr := []) C0 S (c_X8_placeOfRecord l D cA hV hB aB (v1) (v2) (v3) (v4) (v5) (v6) (v7) (v8) d (0)) gX8_choosePartition_X8_placeOfRecord rfl ⟨rfl, rfl⟩ (by decide +kernel) ⟨Nat.le_of_ble_eq_true rfl, Nat.le_of_ble_eq_true rfl⟩ [0, 1, 2] [] rfl rfl rfl rfl (by decide) (ci := 8) (q0 := 0) rfl rfl (As := [.int (iI (0))]) rfl hl.1 rfl (Nat.le_of_ble_eq_true rfl) dX8_choosePartition_26 ⟨Nat.zero_le _, Nat.zero_le _⟩ (fun r u H locs hp S => ?_)
    obtain ⟨rfl, rfl⟩ := hp
    have S := S.sub (ws' := [(hV, .inr (8, [.ref hB, .int (iI (v1)), .int (iI (v2)), .int (iI (v3)), .int (iI (v4)), .int (iI (v5)), .int (iI (v6)), .int (iI (v7)), .int (iI (v8))])), (hB, .inr (0, [.ref aB])), (aB, .inl (cA 1, 2048, .inl (fun y_ => bI (d y_))))]) [0, 1, 2] rfl rfl
    refine k_calli (n := 1) (wr := [(hV, .inr (8, [.ref hB, .int (iI (v1)), .int (iI (v2)), .int (iI (v3)), .int (iI (v4)), .int (iI (v5)), .int (iI (v6)), .int (iI (v7)), .int (iI (v8))]))]) C0 S (c_X0_byteAt l D cA hB aB 2048 d (6 + 8 * (0)) hd (by constructor <;> omega) (by omega)) gX8_choosePartition_X0_byteAt rfl ⟨rfl, rfl⟩ (by decide +kernel) ⟨Nat.le_of_ble_eq_true rfl, Nat.le_of_ble_eq_true rfl⟩ [1, 2] [0] rfl rfl rfl rfl (by decide) (ci := 0) (q0 := 0) rfl rfl (As := [.int (iI (6 + 8 * (0)))]) rfl hl.1 rfl (Nat.le_of_ble_eq_true rfl) dX8_choosePartition_29 ⟨Nat.zero_le _, Nat.zero_le _⟩ (fun r u H locs hp S => ?_)
    obtain ⟨rfl, rfl⟩ := hp
    have S := S.sub (ws' := [(hV, .inr (8, [.ref hB, .int (iI (v1)), .int (iI (v2)), .int (iI (v3)), .int (iI (v4)), .int (iI (v5)), .int (iI (v6)), .int (iI (v7)), .int (iI (v8))])), (hB, .inr (0, [.ref aB])), (aB, .inl (cA 1, 2048, .inl (fun y_ => bI (d y_))))]) [0, 1, 2] rfl rfl
    rw [bAt_in (n := 2048) (z := 6 + 8 * (0)) (by omega) (by omega)]
    have hb2 := By.rd hd (6 + 8 * (0))
    refine lv_sipush (v := iI (128)) C0.1 C0.2.1 dX8_choosePartition_32 (by decide) ?_
    refine k_icmp_ne (tgt := 40) C0 (by constructor <;> omega) ⟨by decide, by decide⟩ dX8_choosePartition_35 (by decide) (fun c3 => ?_) (fun c3 => ?_)
    · refine lv_iload_n C0.1 C0.2.1 dX8_choosePartition_40 rfl (lv_at hl 1 rfl) ?_
      refine k_if_ge (tgt := 46) C0 ⟨by decide, by decide⟩ dX8_choosePartition_41 (by decide) (fun hc => absurd hc (by decide)) (fun _ => ?_)
      refine lv_iload_n C0.1 C0.2.1 dX8_choosePartition_44 rfl (lv_at hl 0 rfl) ?_
      refine lv_istore_n (lv' := [(1, .int (iI (0))), (2, .int (iI (0))), (0, .ref hV)]) C0.1 C0.2.1 dX8_choosePartition_45 rfl hl (by decide) rfl (fun ls hl => ?_)
      refine lv_iinc (v := iI (1)) (lv' := [(2, .int (iI (1))), (1, .int (iI (0))), (0, .ref hV)]) C0.1 C0.2.1 dX8_choosePartition_46 hl (k := 1) rfl (by decide) (by decide) rfl (fun ls hl => ?_)
      refine lv_goto (tgt := 4) C0.1 C0.2.1 dX8_choosePartition_49 (by decide) ?_
      refine lv_iload_n C0.1 C0.2.1 dX8_choosePartition_4 rfl (lv_at hl 0 rfl) ?_
      refine lv_iconst (v := iI (3)) C0.1 C0.2.1 dX8_choosePartition_5 rfl ?_
      refine k_icmp_ge (tgt := 52) C0 ⟨by decide, by decide⟩ ⟨by decide, by decide⟩ dX8_choosePartition_6 (by decide) (fun hc => absurd hc (by decide)) (fun _ => ?_)
      refine lv_aload_n C0.1 C0.2.1 dX8_choosePartition_9 rfl (lv_at hl 2 rfl) ?_
      refine lv_iload_n C0.1 C0.2.1 dX8_choosePartition_10 rfl (lv_at hl 0 rfl) ?_
      refine k_calli (n := 1) (wr := []) C0 S (c_X8_isUsable l D cA hV hB aB (v1) (v2) (v3) (v4) (v5) (v6) (v7) (v8) d (1) hd (by decide) (by decide)) gX8_choosePartition_X8_isUsable rfl ⟨rfl, rfl⟩ (by decide +kernel) ⟨Nat.le_of_ble_eq_true rfl, Nat.le_of_ble_eq_true rfl⟩ [0, 1, 2] [] rfl rfl rfl rfl (by decide) (ci := 8) (q0 := 0) rfl rfl (As := [.int (iI (1))]) rfl hl.1 rfl (Nat.le_of_ble_eq_true rfl) dX8_choosePartition_11 ⟨Nat.zero_le _, Nat.zero_le _⟩ (fun r u H locs hp S => ?_)
      obtain ⟨rfl, rfl⟩ := hp
      have S := S.sub (ws' := [(hV, .inr (8, [.ref hB, .int (iI (v1)), .int (iI (v2)), .int (iI (v3)), .int (iI (v4)), .int (iI (v5)), .int (iI (v6)), .int (iI (v7)), .int (iI (v8))])), (hB, .inr (0, [.ref aB])), (aB, .inl (cA 1, 2048, .inl (fun y_ => bI (d y_))))]) [0, 1, 2] rfl rfl
      refine k_bz_ne (tgt := 20) C0 dX8_choosePartition_14 (by decide) (fun c4 => ?_) (fun c4 => ?_)
      · refine lv_aload_n C0.1 C0.2.1 dX8_choosePartition_20 rfl (lv_at hl 2 rfl) ?_
        refine k_get C0 S (C := RX8) (T := TX8) (N := 9) (ci := 8) (by decide +kernel) 0 rfl rfl 0 (by decide) (by decide +kernel) (v := .ref hB) rfl dX8_choosePartition_21 ?_
        refine lv_aload_n C0.1 C0.2.1 dX8_choosePartition_24 rfl (lv_at hl 2 rfl) ?_
        refine lv_iload_n C0.1 C0.2.1 dX8_choosePartition_25 rfl (lv_at hl 0 rfl) ?_
        refine k_calli (n := 1) (wr := []) C0 S (c_X8_placeOfRecord l D cA hV hB aB (v1) (v2) (v3) (v4) (v5) (v6) (v7) (v8) d (1)) gX8_choosePartition_X8_placeOfRecord rfl ⟨rfl, rfl⟩ (by decide +kernel) ⟨Nat.le_of_ble_eq_true rfl, Nat.le_of_ble_eq_true rfl⟩ [0, 1, 2] [] rfl rfl rfl rfl (by decide) (ci := 8) (q0 := 0) rfl rfl (As := [.int (iI (1))]) rfl hl.1 rfl (Nat.le_of_ble_eq_true rfl) dX8_choosePartition_26 ⟨Nat.zero_le _, Nat.zero_le _⟩ (fun r u H locs hp S => ?_)
        obtain ⟨rfl, rfl⟩ := hp
        have S := S.sub (ws' := [(hV, .inr (8, [.ref hB, .int (iI (v1)), .int (iI (v2)), .int (iI (v3)), .int (iI (v4)), .int (iI (v5)), .int (iI (v6)), .int (iI (v7)), .int (iI (v8))])), (hB, .inr (0, [.ref aB])), (aB, .inl (cA 1, 2048, .inl (fun y_ => bI (d y_))))]) [0, 1, 2] rfl rfl
        refine k_calli (n := 1) (wr := [(hV, .inr (8, [.ref hB, .int (iI (v1)), .int (iI (v2)), .int (iI (v3)), .int (iI (v4)), .int (iI (v5)), .int (iI (v6)), .int (iI (v7)), .int (iI (v8))]))]) C0 S (c_X0_byteAt l D cA hB aB 2048 d (6 + 8 * (1)) hd (by constructor <;> omega) (by omega)) gX8_choosePartition_X0_byteAt rfl ⟨rfl, rfl⟩ (by decide +kernel) ⟨Nat.le_of_ble_eq_true rfl, Nat.le_of_ble_eq_true rfl⟩ [1, 2] [0] rfl rfl rfl rfl (by decide) (ci := 0) (q0 := 0) rfl rfl (As := [.int (iI (6 + 8 * (1)))]) rfl hl.1 rfl (Nat.le_of_ble_eq_true rfl) dX8_choosePartition_29 ⟨Nat.zero_le _, Nat.zero_le _⟩ (fun r u H locs hp S => ?_)
        obtain ⟨rfl, rfl⟩ := hp
        have S := S.sub (ws' := [(hV, .inr (8, [.ref hB, .int (iI (v1)), .int (iI (v2)), .int (iI (v3)), .int (iI (v4)), .int (iI (v5)), .int (iI (v6)), .int (iI (v7)), .int (iI (v8))])), (hB, .inr (0, [.ref aB])), (aB, .inl (cA 1, 2048, .inl (fun y_ => bI (d y_))))]) [0, 1, 2] rfl rfl
        rw [bAt_in (n := 2048) (z := 6 + 8 * (1)) (by omega) (by omega)]
        have hb5 := By.rd hd (6 + 8 * (1))
        refine lv_sipush (v := iI (128)) C0.1 C0.2.1 dX8_choosePartition_32 (by decide) ?_
        refine k_icmp_ne (tgt := 40) C0 (by constructor <;> omega) ⟨by decide, by decide⟩ dX8_choosePartition_35 (by decide) (fun c6 => ?_) (fun c6 => ?_)
        · refine lv_iload_n C0.1 C0.2.1 dX8_choosePartition_40 rfl (lv_at hl 1 rfl) ?_
          refine k_if_ge (tgt := 46) C0 ⟨by decide, by decide⟩ dX8_choosePartition_41 (by decide) (fun _ => ?_) (fun hc => absurd hc (by decide))
          refine lv_iinc (v := iI (2)) (lv' := [(2, .int (iI (2))), (1, .int (iI (0))), (0, .ref hV)]) C0.1 C0.2.1 dX8_choosePartition_46 hl (k := 0) rfl (by decide) (by decide) rfl (fun ls hl => ?_)
          refine lv_goto (tgt := 4) C0.1 C0.2.1 dX8_choosePartition_49 (by decide) ?_
          refine lv_iload_n C0.1 C0.2.1 dX8_choosePartition_4 rfl (lv_at hl 0 rfl) ?_
          refine lv_iconst (v := iI (3)) C0.1 C0.2.1 dX8_choosePartition_5 rfl ?_
          refine k_icmp_ge (tgt := 52) C0 ⟨by decide, by decide⟩ ⟨by decide, by decide⟩ dX8_choosePartition_6 (by decide) (fun hc => absurd hc (by decide)) (fun _ => ?_)
          refine lv_aload_n C0.1 C0.2.1 dX8_choosePartition_9 rfl (lv_at hl 2 rfl) ?_
          refine lv_iload_n C0.1 C0.2.1 dX8_choosePartition_10 rfl (lv_at hl 0 rfl) ?_
          refine k_calli (n := 1) (wr := []) C0 S (c_X8_isUsable l D cA hV hB aB (v1) (v2) (v3) (v4) (v5) (v6) (v7) (v8) d (2) hd (by decide) (by decide)) gX8_choosePartition_X8_isUsable rfl ⟨rfl, rfl⟩ (by decide +kernel) ⟨Nat.le_of_ble_eq_true rfl, Nat.le_of_ble_eq_true rfl⟩ [0, 1, 2] [] rfl rfl rfl rfl (by decide) (ci := 8) (q0 := 0) rfl rfl (As := [.int (iI (2))]) rfl hl.1 rfl (Nat.le_of_ble_eq_true rfl) dX8_choosePartition_11 ⟨Nat.zero_le _, Nat.zero_le _⟩ (fun r u H locs hp S => ?_)
          obtain ⟨rfl, rfl⟩ := hp
          have S := S.sub (ws' := [(hV, .inr (8, [.ref hB, .int (iI (v1)), .int (iI (v2)), .int (iI (v3)), .int (iI (v4)), .int (iI (v5)), .int (iI (v6)), .int (iI (v7)), .int (iI (v8))])), (hB, .inr (0, [.ref aB])), (aB, .inl (cA 1, 2048, .inl (fun y_ => bI (d y_))))]) [0, 1, 2] rfl rfl
          refine k_bz_ne (tgt := 20) C0 dX8_choosePartition_14 (by decide) (fun c7 => ?_) (fun c7 => ?_)
          · refine lv_aload_n C0.1 C0.2.1 dX8_choosePartition_20 rfl (lv_at hl 2 rfl) ?_
            refine k_get C0 S (C := RX8) (T := TX8) (N := 9) (ci := 8) (by decide +kernel) 0 rfl rfl 0 (by decide) (by decide +kernel) (v := .ref hB) rfl dX8_choosePartition_21 ?_
            refine lv_aload_n C0.1 C0.2.1 dX8_choosePartition_24 rfl (lv_at hl 2 rfl) ?_
            refine lv_iload_n C0.1 C0.2.1 dX8_choosePartition_25 rfl (lv_at hl 0 rfl) ?_
            refine k_calli (n := 1) (wr := []) C0 S (c_X8_placeOfRecord l D cA hV hB aB (v1) (v2) (v3) (v4) (v5) (v6) (v7) (v8) d (2)) gX8_choosePartition_X8_placeOfRecord rfl ⟨rfl, rfl⟩ (by decide +kernel) ⟨Nat.le_of_ble_eq_true rfl, Nat.le_of_ble_eq_true rfl⟩ [0, 1, 2] [] rfl rfl rfl rfl (by decide) (ci := 8) (q0 := 0) rfl rfl (As := [.int (iI (2))]) rfl hl.1 rfl (Nat.le_of_ble_eq_true rfl) dX8_choosePartition_26 ⟨Nat.zero_le _, Nat.zero_le _⟩ (fun r u H locs hp S => ?_)
            obtain ⟨rfl, rfl⟩ := hp
            have S := S.sub (ws' := [(hV, .inr (8, [.ref hB, .int (iI (v1)), .int (iI (v2)), .int (iI (v3)), .int (iI (v4)), .int (iI (v5)), .int (iI (v6)), .int (iI (v7)), .int (iI (v8))])), (hB, .inr (0, [.ref aB])), (aB, .inl (cA 1, 2048, .inl (fun y_ => bI (d y_))))]) [0, 1, 2] rfl rfl
            refine k_calli (n := 1) (wr := [(hV, .inr (8, [.ref hB, .int (iI (v1)), .int (iI (v2)), .int (iI (v3)), .int (iI (v4)), .int (iI (v5)), .int (iI (v6)), .int (iI (v7)), .int (iI (v8))]))]) C0 S (c_X0_byteAt l D cA hB aB 2048 d (6 + 8 * (2)) hd (by constructor <;> omega) (by omega)) gX8_choosePartition_X0_byteAt rfl ⟨rfl, rfl⟩ (by decide +kernel) ⟨Nat.le_of_ble_eq_true rfl, Nat.le_of_ble_eq_true rfl⟩ [1, 2] [0] rfl rfl rfl rfl (by decide) (ci := 0) (q0 := 0) rfl rfl (As := [.int (iI (6 + 8 * (2)))]) rfl hl.1 rfl (Nat.le_of_ble_eq_true rfl) dX8_choosePartition_29 ⟨Nat.zero_le _, Nat.zero_le _⟩ (fun r u H locs hp S => ?_)
            obtain ⟨rfl, rfl⟩ := hp
            have S := S.sub (ws' := [(hV, .inr (8, [.ref hB, .int (iI (v1)), .int (iI (v2)), .int (iI (v3)), .int (iI (v4)), .int (iI (v5)), .int (iI (v6)), .int (iI (v7)), .int (iI (v8))])), (hB, .inr (0, [.ref aB])), (aB, .inl (cA 1, 2048, .inl (fun y_ => bI (d y_))))]) [0, 1, 2] rfl rfl
            rw [bAt_in (n := 2048) (z := 6 + 8 * (2)) (by omega) (by omega)]
            have hb8 := By.rd hd (6 + 8 * (2))
            refine lv_sipush (v := iI (128)) C0.1 C0.2.1 dX8_choosePartition_32 (by decide) ?_
            refine k_icmp_ne (tgt := 40) C0 (by constructor <;> omega) ⟨by decide, by decide⟩ dX8_choosePartition_35 (by decide) (fun c9 => ?_) (fun c9 => ?_)
            · refine lv_iload_n C0.1 C0.2.1 dX8_choosePartition_40 rfl (lv_at hl 1 rfl) ?_
              refine k_if_ge (tgt := 46) C0 ⟨by decide, by decide⟩ dX8_choosePartition_41 (by decide) (fun _ => ?_) (fun hc => absurd hc (by decide))
              refine lv_iinc (v := iI (3)) (lv' := [(2, .int (iI (3))), (1, .int (iI (0))), (0, .ref hV)]) C0.1 C0.2.1 dX8_choosePartition_46 hl (k := 0) rfl (by decide) (by decide) rfl (fun ls hl => ?_)
              refine lv_goto (tgt := 4) C0.1 C0.2.1 dX8_choosePartition_49 (by decide) ?_
              refine lv_iload_n C0.1 C0.2.1 dX8_choosePartition_4 rfl (lv_at hl 0 rfl) ?_
              refine lv_iconst (v := iI (3)) C0.1 C0.2.1 dX8_choosePartition_5 rfl ?_
              refine k_icmp_ge (tgt := 52) C0 ⟨by decide, by decide⟩ ⟨by decide, by decide⟩ dX8_choosePartition_6 (by decide) (fun _ => ?_) (fun hc => absurd hc (by decide))
              refine lv_iload_n C0.1 C0.2.1 dX8_choosePartition_52 rfl (lv_at hl 1 rfl) ?_
              subst hQ
              refine k_iret C0 S hAe hsz hr hlk dX8_choosePartition_53 ?_
              refine ⟨congrArg iI ?_, rfl⟩
              classical
              unfold chs ac
              simp only [c1, c3, c4, c6, c7, c9, and_true, true_and, and_false, false_and, and_self, if_true, if_false, not_true, not_false_iff, ite_self]
            · refine lv_iload_n C0.1 C0.2.1 dX8_choosePartition_38 rfl (lv_at hl 0 rfl) ?_
              subst hQ
              refine k_iret C0 S hAe hsz hr hlk dX8_choosePartition_39 ?_
              refine ⟨congrArg iI ?_, rfl⟩
              classical
              unfold chs ac
              simp only [c1, c3, c4, c6, c7, c9, and_true, true_and, and_false, false_and, and_self, if_true, if_false, not_true, not_false_iff, ite_self]
          · refine lv_goto (tgt := 46) C0.1 C0.2.1 dX8_choosePartition_17 (by decide) ?_
            refine lv_iinc (v := iI (3)) (lv' := [(2, .int (iI (3))), (1, .int (iI (0))), (0, .ref hV)]) C0.1 C0.2.1 dX8_choosePartition_46 hl (k := 0) rfl (by decide) (by decide) rfl (fun ls hl => ?_)
            refine lv_goto (tgt := 4) C0.1 C0.2.1 dX8_choosePartition_49 (by decide) ?_
            refine lv_iload_n C0.1 C0.2.1 dX8_choosePartition_4 rfl (lv_at hl 0 rfl) ?_
            refine lv_iconst (v := iI (3)) C0.1 C0.2.1 dX8_choosePartition_5 rfl ?_
            refine k_icmp_ge (tgt := 52) C0 ⟨by decide, by decide⟩ ⟨by decide, by decide⟩ dX8_choosePartition_6 (by decide) (fun _ => ?_) (fun hc => absurd hc (by decide))
            refine lv_iload_n C0.1 C0.2.1 dX8_choosePartition_52 rfl (lv_at hl 1 rfl) ?_
            subst hQ
            refine k_iret C0 S hAe hsz hr hlk dX8_choosePartition_53 ?_
            refine ⟨congrArg iI ?_, rfl⟩
            classical
            unfold chs ac
            simp only [c1, c3, c4, c6, c7, and_true, true_and, and_false, false_and, and_self, if_true, if_false, not_true, not_false_iff, ite_self]
        · refine lv_iload_n C0.1 C0.2.1 dX8_choosePartition_38 rfl (lv_at hl 0 rfl) ?_
          subst hQ
          refine k_iret C0 S hAe hsz hr hlk dX8_choosePartition_39 ?_
          refine ⟨congrArg iI ?_, rfl⟩
          classical
          unfold chs ac
          simp only [c1, c3, c4, c6, and_true, true_and, and_false, false_and, and_self, if_true, if_false, not_true, not_false_iff, ite_self]
      · refine lv_goto (tgt := 46) C0.1 C0.2.1 dX8_choosePartition_17 (by decide) ?_
        refine lv_iinc (v := iI (2)) (lv' := [(2, .int (iI (2))), (1, .int (iI (0))), (0, .ref hV)]) C0.1 C0.2.1 dX8_choosePartition_46 hl (k := 0) rfl (by decide) (by decide) rfl (fun ls hl => ?_)
        refine lv_goto (tgt := 4) C0.1 C0.2.1 dX8_choosePartition_49 (by decide) ?_
        refine lv_iload_n C0.1 C0.2.1 dX8_choosePartition_4 rfl (lv_at hl 0 rfl) ?_
        refine lv_iconst (v := iI (3)) C0.1 C0.2.1 dX8_choosePartition_5 rfl ?_
        refine k_icmp_ge (tgt := 52) C0 ⟨by decide, by decide⟩ ⟨by decide, by decide⟩ dX8_choosePartition_6 (by decide) (fun hc => absurd hc (by decide)) (fun _ => ?_)
        refine lv_aload_n C0.1 C0.2.1 dX8_choosePartition_9 rfl (lv_at hl 2 rfl) ?_
        refine lv_iload_n C0.1 C0.2.1 dX8_choosePartition_10 rfl (lv_at hl 0 rfl) ?_
        refine k_calli (n := 1) (wr := []) C0 S (c_X8_isUsable l D cA hV hB aB (v1) (v2) (v3) (v4) (v5) (v6) (v7) (v8) d (2) hd (by decide) (by decide)) gX8_choosePartition_X8_isUsable rfl ⟨rfl, rfl⟩ (by decide +kernel) ⟨Nat.le_of_ble_eq_true rfl, Nat.le_of_ble_eq_true rfl⟩ [0, 1, 2] [] rfl rfl rfl rfl (by decide) (ci := 8) (q0 := 0) rfl rfl (As := [.int (iI (2))]) rfl hl.1 rfl (Nat.le_of_ble_eq_true rfl) dX8_choosePartition_11 ⟨Nat.zero_le _, Nat.zero_le _⟩ (fun r u H locs hp S => ?_)
        obtain ⟨rfl, rfl⟩ := hp
        have S := S.sub (ws' := [(hV, .inr (8, [.ref hB, .int (iI (v1)), .int (iI (v2)), .int (iI (v3)), .int (iI (v4)), .int (iI (v5)), .int (iI (v6)), .int (iI (v7)), .int (iI (v8))])), (hB, .inr (0, [.ref aB])), (aB, .inl (cA 1, 2048, .inl (fun y_ => bI (d y_))))]) [0, 1, 2] rfl rfl
        refine k_bz_ne (tgt := 20) C0 dX8_choosePartition_14 (by decide) (fun c10 => ?_) (fun c10 => ?_)
        · refine lv_aload_n C0.1 C0.2.1 dX8_choosePartition_20 rfl (lv_at hl 2 rfl) ?_
          refine k_get C0 S (C := RX8) (T := TX8) (N := 9) (ci := 8) (by decide +kernel) 0 rfl rfl 0 (by decide) (by decide +kernel) (v := .ref hB) rfl dX8_choosePartition_21 ?_
          refine lv_aload_n C0.1 C0.2.1 dX8_choosePartition_24 rfl (lv_at hl 2 rfl) ?_
          refine lv_iload_n C0.1 C0.2.1 dX8_choosePartition_25 rfl (lv_at hl 0 rfl) ?_
          refine k_calli (n := 1) (wr := []) C0 S (c_X8_placeOfRecord l D cA hV hB aB (v1) (v2) (v3) (v4) (v5) (v6) (v7) (v8) d (2)) gX8_choosePartition_X8_placeOfRecord rfl ⟨rfl, rfl⟩ (by decide +kernel) ⟨Nat.le_of_ble_eq_true rfl, Nat.le_of_ble_eq_true rfl⟩ [0, 1, 2] [] rfl rfl rfl rfl (by decide) (ci := 8) (q0 := 0) rfl rfl (As := [.int (iI (2))]) rfl hl.1 rfl (Nat.le_of_ble_eq_true rfl) dX8_choosePartition_26 ⟨Nat.zero_le _, Nat.zero_le _⟩ (fun r u H locs hp S => ?_)
          obtain ⟨rfl, rfl⟩ := hp
          have S := S.sub (ws' := [(hV, .inr (8, [.ref hB, .int (iI (v1)), .int (iI (v2)), .int (iI (v3)), .int (iI (v4)), .int (iI (v5)), .int (iI (v6)), .int (iI (v7)), .int (iI (v8))])), (hB, .inr (0, [.ref aB])), (aB, .inl (cA 1, 2048, .inl (fun y_ => bI (d y_))))]) [0, 1, 2] rfl rfl
          refine k_calli (n := 1) (wr := [(hV, .inr (8, [.ref hB, .int (iI (v1)), .int (iI (v2)), .int (iI (v3)), .int (iI (v4)), .int (iI (v5)), .int (iI (v6)), .int (iI (v7)), .int (iI (v8))]))]) C0 S (c_X0_byteAt l D cA hB aB 2048 d (6 + 8 * (2)) hd (by constructor <;> omega) (by omega)) gX8_choosePartition_X0_byteAt rfl ⟨rfl, rfl⟩ (by decide +kernel) ⟨Nat.le_of_ble_eq_true rfl, Nat.le_of_ble_eq_true rfl⟩ [1, 2] [0] rfl rfl rfl rfl (by decide) (ci := 0) (q0 := 0) rfl rfl (As := [.int (iI (6 + 8 * (2)))]) rfl hl.1 rfl (Nat.le_of_ble_eq_true rfl) dX8_choosePartition_29 ⟨Nat.zero_le _, Nat.zero_le _⟩ (fun r u H locs hp S => ?_)
          obtain ⟨rfl, rfl⟩ := hp
          have S := S.sub (ws' := [(hV, .inr (8, [.ref hB, .int (iI (v1)), .int (iI (v2)), .int (iI (v3)), .int (iI (v4)), .int (iI (v5)), .int (iI (v6)), .int (iI (v7)), .int (iI (v8))])), (hB, .inr (0, [.ref aB])), (aB, .inl (cA 1, 2048, .inl (fun y_ => bI (d y_))))]) [0, 1, 2] rfl rfl
          rw [bAt_in (n := 2048) (z := 6 + 8 * (2)) (by omega) (by omega)]
          have hb11 := By.rd hd (6 + 8 * (2))
          refine lv_sipush (v := iI (128)) C0.1 C0.2.1 dX8_choosePartition_32 (by decide) ?_
          refine k_icmp_ne (tgt := 40) C0 (by constructor <;> omega) ⟨by decide, by decide⟩ dX8_choosePartition_35 (by decide) (fun c12 => ?_) (fun c12 => ?_)
          · refine lv_iload_n C0.1 C0.2.1 dX8_choosePartition_40 rfl (lv_at hl 1 rfl) ?_
            refine k_if_ge (tgt := 46) C0 ⟨by decide, by decide⟩ dX8_choosePartition_41 (by decide) (fun _ => ?_) (fun hc => absurd hc (by decide))
            refine lv_iinc (v := iI (3)) (lv' := [(2, .int (iI (3))), (1, .int (iI (0))), (0, .ref hV)]) C0.1 C0.2.1 dX8_choosePartition_46 hl (k := 0) rfl (by decide) (by decide) rfl (fun ls hl => ?_)
            refine lv_goto (tgt := 4) C0.1 C0.2.1 dX8_choosePartition_49 (by decide) ?_
            refine lv_iload_n C0.1 C0.2.1 dX8_choosePartition_4 rfl (lv_at hl 0 rfl) ?_
            refine lv_iconst (v := iI (3)) C0.1 C0.2.1 dX8_choosePartition_5 rfl ?_
            refine k_icmp_ge (tgt := 52) C0 ⟨by decide, by decide⟩ ⟨by decide, by decide⟩ dX8_choosePartition_6 (by decide) (fun _ => ?_) (fun hc => absurd hc (by decide))
            refine lv_iload_n C0.1 C0.2.1 dX8_choosePartition_52 rfl (lv_at hl 1 rfl) ?_
            subst hQ
            refine k_iret C0 S hAe hsz hr hlk dX8_choosePartition_53 ?_
            refine ⟨congrArg iI ?_, rfl⟩
            classical
            unfold chs ac
            simp only [c1, c3, c4, c10, c12, and_true, true_and, and_false, false_and, and_self, if_true, if_false, not_true, not_false_iff, ite_self]
          · refine lv_iload_n C0.1 C0.2.1 dX8_choosePartition_38 rfl (lv_at hl 0 rfl) ?_
            subst hQ
            refine k_iret C0 S hAe hsz hr hlk dX8_choosePartition_39 ?_
            refine ⟨congrArg iI ?_, rfl⟩
            classical
            unfold chs ac
            simp only [c1, c3, c4, c10, c12, and_true, true_and, and_false, false_and, and_self, if_true, if_false, not_true, not_false_iff, ite_self]
        · refine lv_goto (tgt := 46) C0.1 C0.2.1 dX8_choosePartition_17 (by decide) ?_
          refine lv_iinc (v := iI (3)) (lv' := [(2, .int (iI (3))), (1, .int (iI (0))), (0, .ref hV)]) C0.1 C0.2.1 dX8_choosePartition_46 hl (k := 0) rfl (by decide) (by decide) rfl (fun ls hl => ?_)
          refine lv_goto (tgt := 4) C0.1 C0.2.1 dX8_choosePartition_49 (by decide) ?_
          refine lv_iload_n C0.1 C0.2.1 dX8_choosePartition_4 rfl (lv_at hl 0 rfl) ?_
          refine lv_iconst (v := iI (3)) C0.1 C0.2.1 dX8_choosePartition_5 rfl ?_
          refine k_icmp_ge (tgt := 52) C0 ⟨by decide, by decide⟩ ⟨by decide, by decide⟩ dX8_choosePartition_6 (by decide) (fun _ => ?_) (fun hc => absurd hc (by decide))
          refine lv_iload_n C0.1 C0.2.1 dX8_choosePartition_52 rfl (lv_at hl 1 rfl) ?_
          subst hQ
          refine k_iret C0 S hAe hsz hr hlk dX8_choosePartition_53 ?_
          refine ⟨congrArg iI ?_, rfl⟩
          classical
          unfold chs ac
          simp only [c1, c3, c4, c10, and_true, true_and, and_false, false_and, and_self, if_true, if_false, not_true, not_false_iff, ite_self]
    · refine lv_iload_n C0.1 C0.2.1 dX8_choosePartition_38 rfl (lv_at hl 0 rfl) ?_
      subst hQ
      refine k_iret C0 S hAe hsz hr hlk dX8_choosePartition_39 ?_
      refine ⟨congrArg iI ?_, rfl⟩
      classical
      unfold chs ac
      simp only [c1, c3, and_true, true_and, and_false, false_and, and_self, if_true, if_false, not_true, not_false_iff, ite_self]
  · refine lv_goto (tgt := 46) C0.1 C0.2.1 dX8_choosePartition_17 (by decide) ?_
    refine lv_iinc (v := iI (1)) (lv' := [(2, .int (iI (1))), (1, .int (iI (-1))), (0, .ref hV)]) C0.1 C0.2.1 dX8_choosePartition_46 hl (k := 0) rfl (by decide) (by decide) rfl (fun ls hl => ?_)
    refine lv_goto (tgt := 4) C0.1 C0.2.1 dX8_choosePartition_49 (by decide) ?_
    refine lv_iload_n C0.1 C0.2.1 dX8_choosePartition_4 rfl (lv_at hl 0 rfl) ?_
    refine lv_iconst (v := iI (3)) C0.1 C0.2.1 dX8_choosePartition_5 rfl ?_
    refine k_icmp_ge (tgt := 52) C0 ⟨by decide, by decide⟩ ⟨by decide, by decide⟩ dX8_choosePartition_6 (by decide) (fun hc => absurd hc (by decide)) (fun _ => ?_)
    refine lv_aload_n C0.1 C0.2.1 dX8_choosePartition_9 rfl (lv_at hl 2 rfl) ?_
    refine lv_iload_n C0.1 C0.2.1 dX8_choosePartition_10 rfl (lv_at hl 0 rfl) ?_
    refine k_calli (n := 1) (wr := []) C0 S (c_X8_isUsable l D cA hV hB aB (v1) (v2) (v3) (v4) (v5) (v6) (v7) (v8) d (1) hd (by decide) (by decide)) gX8_choosePartition_X8_isUsable rfl ⟨rfl, rfl⟩ (by decide +kernel) ⟨Nat.le_of_ble_eq_true rfl, Nat.le_of_ble_eq_true rfl⟩ [0, 1, 2] [] rfl rfl rfl rfl (by decide) (ci := 8) (q0 := 0) rfl rfl (As := [.int (iI (1))]) rfl hl.1 rfl (Nat.le_of_ble_eq_true rfl) dX8_choosePartition_11 ⟨Nat.zero_le _, Nat.zero_le _⟩ (fun r u H locs hp S => ?_)
    obtain ⟨rfl, rfl⟩ := hp
    have S := S.sub (ws' := [(hV, .inr (8, [.ref hB, .int (iI (v1)), .int (iI (v2)), .int (iI (v3)), .int (iI (v4)), .int (iI (v5)), .int (iI (v6)), .int (iI (v7)), .int (iI (v8))])), (hB, .inr (0, [.ref aB])), (aB, .inl (cA 1, 2048, .inl (fun y_ => bI (d y_))))]) [0, 1, 2] rfl rfl
    refine k_bz_ne (tgt := 20) C0 dX8_choosePartition_14 (by decide) (fun c13 => ?_) (fun c13 => ?_)
    · refine lv_aload_n C0.1 C0.2.1 dX8_choosePartition_20 rfl (lv_at hl 2 rfl) ?_
      refine k_get C0 S (C := RX8) (T := TX8) (N := 9) (ci := 8) (by decide +kernel) 0 rfl rfl 0 (by decide) (by decide +kernel) (v := .ref hB) rfl dX8_choosePartition_21 ?_
      refine lv_aload_n C0.1 C0.2.1 dX8_choosePartition_24 rfl (lv_at hl 2 rfl) ?_
      refine lv_iload_n C0.1 C0.2.1 dX8_choosePartition_25 rfl (lv_at hl 0 rfl) ?_
      refine k_calli (n := 1) (wr := []) C0 S (c_X8_placeOfRecord l D cA hV hB aB (v1) (v2) (v3) (v4) (v5) (v6) (v7) (v8) d (1)) gX8_choosePartition_X8_placeOfRecord rfl ⟨rfl, rfl⟩ (by decide +kernel) ⟨Nat.le_of_ble_eq_true rfl, Nat.le_of_ble_eq_true rfl⟩ [0, 1, 2] [] rfl rfl rfl rfl (by decide) (ci := 8) (q0 := 0) rfl rfl (As := [.int (iI (1))]) rfl hl.1 rfl (Nat.le_of_ble_eq_true rfl) dX8_choosePartition_26 ⟨Nat.zero_le _, Nat.zero_le _⟩ (fun r u H locs hp S => ?_)
      obtain ⟨rfl, rfl⟩ := hp
      have S := S.sub (ws' := [(hV, .inr (8, [.ref hB, .int (iI (v1)), .int (iI (v2)), .int (iI (v3)), .int (iI (v4)), .int (iI (v5)), .int (iI (v6)), .int (iI (v7)), .int (iI (v8))])), (hB, .inr (0, [.ref aB])), (aB, .inl (cA 1, 2048, .inl (fun y_ => bI (d y_))))]) [0, 1, 2] rfl rfl
      refine k_calli (n := 1) (wr := [(hV, .inr (8, [.ref hB, .int (iI (v1)), .int (iI (v2)), .int (iI (v3)), .int (iI (v4)), .int (iI (v5)), .int (iI (v6)), .int (iI (v7)), .int (iI (v8))]))]) C0 S (c_X0_byteAt l D cA hB aB 2048 d (6 + 8 * (1)) hd (by constructor <;> omega) (by omega)) gX8_choosePartition_X0_byteAt rfl ⟨rfl, rfl⟩ (by decide +kernel) ⟨Nat.le_of_ble_eq_true rfl, Nat.le_of_ble_eq_true rfl⟩ [1, 2] [0] rfl rfl rfl rfl (by decide) (ci := 0) (q0 := 0) rfl rfl (As := [.int (iI (6 + 8 * (1)))]) rfl hl.1 rfl (Nat.le_of_ble_eq_true rfl) dX8_choosePartition_29 ⟨Nat.zero_le _, Nat.zero_le _⟩ (fun r u H locs hp S => ?_)
      obtain ⟨rfl, rfl⟩ := hp
      have S := S.sub (ws' := [(hV, .inr (8, [.ref hB, .int (iI (v1)), .int (iI (v2)), .int (iI (v3)), .int (iI (v4)), .int (iI (v5)), .int (iI (v6)), .int (iI (v7)), .int (iI (v8))])), (hB, .inr (0, [.ref aB])), (aB, .inl (cA 1, 2048, .inl (fun y_ => bI (d y_))))]) [0, 1, 2] rfl rfl
      rw [bAt_in (n := 2048) (z := 6 + 8 * (1)) (by omega) (by omega)]
      have hb14 := By.rd hd (6 + 8 * (1))
      refine lv_sipush (v := iI (128)) C0.1 C0.2.1 dX8_choosePartition_32 (by decide) ?_
      refine k_icmp_ne (tgt := 40) C0 (by constructor <;> omega) ⟨by decide, by decide⟩ dX8_choosePartition_35 (by decide) (fun c15 => ?_) (fun c15 => ?_)
      · refine lv_iload_n C0.1 C0.2.1 dX8_choosePartition_40 rfl (lv_at hl 1 rfl) ?_
        refine k_if_ge (tgt := 46) C0 ⟨by decide, by decide⟩ dX8_choosePartition_41 (by decide) (fun hc => absurd hc (by decide)) (fun _ => ?_)
        refine lv_iload_n C0.1 C0.2.1 dX8_choosePartition_44 rfl (lv_at hl 0 rfl) ?_
        refine lv_istore_n (lv' := [(1, .int (iI (1))), (2, .int (iI (1))), (0, .ref hV)]) C0.1 C0.2.1 dX8_choosePartition_45 rfl hl (by decide) rfl (fun ls hl => ?_)
        refine lv_iinc (v := iI (2)) (lv' := [(2, .int (iI (2))), (1, .int (iI (1))), (0, .ref hV)]) C0.1 C0.2.1 dX8_choosePartition_46 hl (k := 1) rfl (by decide) (by decide) rfl (fun ls hl => ?_)
        refine lv_goto (tgt := 4) C0.1 C0.2.1 dX8_choosePartition_49 (by decide) ?_
        refine lv_iload_n C0.1 C0.2.1 dX8_choosePartition_4 rfl (lv_at hl 0 rfl) ?_
        refine lv_iconst (v := iI (3)) C0.1 C0.2.1 dX8_choosePartition_5 rfl ?_
        refine k_icmp_ge (tgt := 52) C0 ⟨by decide, by decide⟩ ⟨by decide, by decide⟩ dX8_choosePartition_6 (by decide) (fun hc => absurd hc (by decide)) (fun _ => ?_)
        refine lv_aload_n C0.1 C0.2.1 dX8_choosePartition_9 rfl (lv_at hl 2 rfl) ?_
        refine lv_iload_n C0.1 C0.2.1 dX8_choosePartition_10 rfl (lv_at hl 0 rfl) ?_
        refine k_calli (n := 1) (wr := []) C0 S (c_X8_isUsable l D cA hV hB aB (v1) (v2) (v3) (v4) (v5) (v6) (v7) (v8) d (2) hd (by decide) (by decide)) gX8_choosePartition_X8_isUsable rfl ⟨rfl, rfl⟩ (by decide +kernel) ⟨Nat.le_of_ble_eq_true rfl, Nat.le_of_ble_eq_true rfl⟩ [0, 1, 2] [] rfl rfl rfl rfl (by decide) (ci := 8) (q0 := 0) rfl rfl (As := [.int (iI (2))]) rfl hl.1 rfl (Nat.le_of_ble_eq_true rfl) dX8_choosePartition_11 ⟨Nat.zero_le _, Nat.zero_le _⟩ (fun r u H locs hp S => ?_)
        obtain ⟨rfl, rfl⟩ := hp
        have S := S.sub (ws' := [(hV, .inr (8, [.ref hB, .int (iI (v1)), .int (iI (v2)), .int (iI (v3)), .int (iI (v4)), .int (iI (v5)), .int (iI (v6)), .int (iI (v7)), .int (iI (v8))])), (hB, .inr (0, [.ref aB])), (aB, .inl (cA 1, 2048, .inl (fun y_ => bI (d y_))))]) [0, 1, 2] rfl rfl
        refine k_bz_ne (tgt := 20) C0 dX8_choosePartition_14 (by decide) (fun c16 => ?_) (fun c16 => ?_)
        · refine lv_aload_n C0.1 C0.2.1 dX8_choosePartition_20 rfl (lv_at hl 2 rfl) ?_
          refine k_get C0 S (C := RX8) (T := TX8) (N := 9) (ci := 8) (by decide +kernel) 0 rfl rfl 0 (by decide) (by decide +kernel) (v := .ref hB) rfl dX8_choosePartition_21 ?_
          refine lv_aload_n C0.1 C0.2.1 dX8_choosePartition_24 rfl (lv_at hl 2 rfl) ?_
          refine lv_iload_n C0.1 C0.2.1 dX8_choosePartition_25 rfl (lv_at hl 0 rfl) ?_
          refine k_calli (n := 1) (wr := []) C0 S (c_X8_placeOfRecord l D cA hV hB aB (v1) (v2) (v3) (v4) (v5) (v6) (v7) (v8) d (2)) gX8_choosePartition_X8_placeOfRecord rfl ⟨rfl, rfl⟩ (by decide +kernel) ⟨Nat.le_of_ble_eq_true rfl, Nat.le_of_ble_eq_true rfl⟩ [0, 1, 2] [] rfl rfl rfl rfl (by decide) (ci := 8) (q0 := 0) rfl rfl (As := [.int (iI (2))]) rfl hl.1 rfl (Nat.le_of_ble_eq_true rfl) dX8_choosePartition_26 ⟨Nat.zero_le _, Nat.zero_le _⟩ (fun r u H locs hp S => ?_)
          obtain ⟨rfl, rfl⟩ := hp
          have S := S.sub (ws' := [(hV, .inr (8, [.ref hB, .int (iI (v1)), .int (iI (v2)), .int (iI (v3)), .int (iI (v4)), .int (iI (v5)), .int (iI (v6)), .int (iI (v7)), .int (iI (v8))])), (hB, .inr (0, [.ref aB])), (aB, .inl (cA 1, 2048, .inl (fun y_ => bI (d y_))))]) [0, 1, 2] rfl rfl
          refine k_calli (n := 1) (wr := [(hV, .inr (8, [.ref hB, .int (iI (v1)), .int (iI (v2)), .int (iI (v3)), .int (iI (v4)), .int (iI (v5)), .int (iI (v6)), .int (iI (v7)), .int (iI (v8))]))]) C0 S (c_X0_byteAt l D cA hB aB 2048 d (6 + 8 * (2)) hd (by constructor <;> omega) (by omega)) gX8_choosePartition_X0_byteAt rfl ⟨rfl, rfl⟩ (by decide +kernel) ⟨Nat.le_of_ble_eq_true rfl, Nat.le_of_ble_eq_true rfl⟩ [1, 2] [0] rfl rfl rfl rfl (by decide) (ci := 0) (q0 := 0) rfl rfl (As := [.int (iI (6 + 8 * (2)))]) rfl hl.1 rfl (Nat.le_of_ble_eq_true rfl) dX8_choosePartition_29 ⟨Nat.zero_le _, Nat.zero_le _⟩ (fun r u H locs hp S => ?_)
          obtain ⟨rfl, rfl⟩ := hp
          have S := S.sub (ws' := [(hV, .inr (8, [.ref hB, .int (iI (v1)), .int (iI (v2)), .int (iI (v3)), .int (iI (v4)), .int (iI (v5)), .int (iI (v6)), .int (iI (v7)), .int (iI (v8))])), (hB, .inr (0, [.ref aB])), (aB, .inl (cA 1, 2048, .inl (fun y_ => bI (d y_))))]) [0, 1, 2] rfl rfl
          rw [bAt_in (n := 2048) (z := 6 + 8 * (2)) (by omega) (by omega)]
          have hb17 := By.rd hd (6 + 8 * (2))
          refine lv_sipush (v := iI (128)) C0.1 C0.2.1 dX8_choosePartition_32 (by decide) ?_
          refine k_icmp_ne (tgt := 40) C0 (by constructor <;> omega) ⟨by decide, by decide⟩ dX8_choosePartition_35 (by decide) (fun c18 => ?_) (fun c18 => ?_)
          · refine lv_iload_n C0.1 C0.2.1 dX8_choosePartition_40 rfl (lv_at hl 1 rfl) ?_
            refine k_if_ge (tgt := 46) C0 ⟨by decide, by decide⟩ dX8_choosePartition_41 (by decide) (fun _ => ?_) (fun hc => absurd hc (by decide))
            refine lv_iinc (v := iI (3)) (lv' := [(2, .int (iI (3))), (1, .int (iI (1))), (0, .ref hV)]) C0.1 C0.2.1 dX8_choosePartition_46 hl (k := 0) rfl (by decide) (by decide) rfl (fun ls hl => ?_)
            refine lv_goto (tgt := 4) C0.1 C0.2.1 dX8_choosePartition_49 (by decide) ?_
            refine lv_iload_n C0.1 C0.2.1 dX8_choosePartition_4 rfl (lv_at hl 0 rfl) ?_
            refine lv_iconst (v := iI (3)) C0.1 C0.2.1 dX8_choosePartition_5 rfl ?_
            refine k_icmp_ge (tgt := 52) C0 ⟨by decide, by decide⟩ ⟨by decide, by decide⟩ dX8_choosePartition_6 (by decide) (fun _ => ?_) (fun hc => absurd hc (by decide))
            refine lv_iload_n C0.1 C0.2.1 dX8_choosePartition_52 rfl (lv_at hl 1 rfl) ?_
            subst hQ
            refine k_iret C0 S hAe hsz hr hlk dX8_choosePartition_53 ?_
            refine ⟨congrArg iI ?_, rfl⟩
            classical
            unfold chs ac
            simp only [c1, c13, c15, c16, c18, and_true, true_and, and_false, false_and, and_self, if_true, if_false, not_true, not_false_iff, ite_self]
          · refine lv_iload_n C0.1 C0.2.1 dX8_choosePartition_38 rfl (lv_at hl 0 rfl) ?_
            subst hQ
            refine k_iret C0 S hAe hsz hr hlk dX8_choosePartition_39 ?_
            refine ⟨congrArg iI ?_, rfl⟩
            classical
            unfold chs ac
            simp only [c1, c13, c15, c16, c18, and_true, true_and, and_false, false_and, and_self, if_true, if_false, not_true, not_false_iff, ite_self]
        · refine lv_goto (tgt := 46) C0.1 C0.2.1 dX8_choosePartition_17 (by decide) ?_
          refine lv_iinc (v := iI (3)) (lv' := [(2, .int (iI (3))), (1, .int (iI (1))), (0, .ref hV)]) C0.1 C0.2.1 dX8_choosePartition_46 hl (k := 0) rfl (by decide) (by decide) rfl (fun ls hl => ?_)
          refine lv_goto (tgt := 4) C0.1 C0.2.1 dX8_choosePartition_49 (by decide) ?_
          refine lv_iload_n C0.1 C0.2.1 dX8_choosePartition_4 rfl (lv_at hl 0 rfl) ?_
          refine lv_iconst (v := iI (3)) C0.1 C0.2.1 dX8_choosePartition_5 rfl ?_
          refine k_icmp_ge (tgt := 52) C0 ⟨by decide, by decide⟩ ⟨by decide, by decide⟩ dX8_choosePartition_6 (by decide) (fun _ => ?_) (fun hc => absurd hc (by decide))
          refine lv_iload_n C0.1 C0.2.1 dX8_choosePartition_52 rfl (lv_at hl 1 rfl) ?_
          subst hQ
          refine k_iret C0 S hAe hsz hr hlk dX8_choosePartition_53 ?_
          refine ⟨congrArg iI ?_, rfl⟩
          classical
          unfold chs ac
          simp only [c1, c13, c15, c16, and_true, true_and, and_false, false_and, and_self, if_true, if_false, not_true, not_false_iff, ite_self]
      · refine lv_iload_n C0.1 C0.2.1 dX8_choosePartition_38 rfl (lv_at hl 0 rfl) ?_
        subst hQ
        refine k_iret C0 S hAe hsz hr hlk dX8_choosePartition_39 ?_
        refine ⟨congrArg iI ?_, rfl⟩
        classical
        unfold chs ac
        simp only [c1, c13, c15, and_true, true_and, and_false, false_and, and_self, if_true, if_false, not_true, not_false_iff, ite_self]
    · refine lv_goto (tgt := 46) C0.1 C0.2.1 dX8_choosePartition_17 (by decide) ?_
      refine lv_iinc (v := iI (2)) (lv' := [(2, .int (iI (2))), (1, .int (iI (-1))), (0, .ref hV)]) C0.1 C0.2.1 dX8_choosePartition_46 hl (k := 0) rfl (by decide) (by decide) rfl (fun ls hl => ?_)
      refine lv_goto (tgt := 4) C0.1 C0.2.1 dX8_choosePartition_49 (by decide) ?_
      refine lv_iload_n C0.1 C0.2.1 dX8_choosePartition_4 rfl (lv_at hl 0 rfl) ?_
      refine lv_iconst (v := iI (3)) C0.1 C0.2.1 dX8_choosePartition_5 rfl ?_
      refine k_icmp_ge (tgt := 52) C0 ⟨by decide, by decide⟩ ⟨by decide, by decide⟩ dX8_choosePartition_6 (by decide) (fun hc => absurd hc (by decide)) (fun _ => ?_)
      refine lv_aload_n C0.1 C0.2.1 dX8_choosePartition_9 rfl (lv_at hl 2 rfl) ?_
      refine lv_iload_n C0.1 C0.2.1 dX8_choosePartition_10 rfl (lv_at hl 0 rfl) ?_
      refine k_calli (n := 1) (wr := []) C0 S (c_X8_isUsable l D cA hV hB aB (v1) (v2) (v3) (v4) (v5) (v6) (v7) (v8) d (2) hd (by decide) (by decide)) gX8_choosePartition_X8_isUsable rfl ⟨rfl, rfl⟩ (by decide +kernel) ⟨Nat.le_of_ble_eq_true rfl, Nat.le_of_ble_eq_true rfl⟩ [0, 1, 2] [] rfl rfl rfl rfl (by decide) (ci := 8) (q0 := 0) rfl rfl (As := [.int (iI (2))]) rfl hl.1 rfl (Nat.le_of_ble_eq_true rfl) dX8_choosePartition_11 ⟨Nat.zero_le _, Nat.zero_le _⟩ (fun r u H locs hp S => ?_)
      obtain ⟨rfl, rfl⟩ := hp
      have S := S.sub (ws' := [(hV, .inr (8, [.ref hB, .int (iI (v1)), .int (iI (v2)), .int (iI (v3)), .int (iI (v4)), .int (iI (v5)), .int (iI (v6)), .int (iI (v7)), .int (iI (v8))])), (hB, .inr (0, [.ref aB])), (aB, .inl (cA 1, 2048, .inl (fun y_ => bI (d y_))))]) [0, 1, 2] rfl rfl
      refine k_bz_ne (tgt := 20) C0 dX8_choosePartition_14 (by decide) (fun c19 => ?_) (fun c19 => ?_)
      · refine lv_aload_n C0.1 C0.2.1 dX8_choosePartition_20 rfl (lv_at hl 2 rfl) ?_
        refine k_get C0 S (C := RX8) (T := TX8) (N := 9) (ci := 8) (by decide +kernel) 0 rfl rfl 0 (by decide) (by decide +kernel) (v := .ref hB) rfl dX8_choosePartition_21 ?_
        refine lv_aload_n C0.1 C0.2.1 dX8_choosePartition_24 rfl (lv_at hl 2 rfl) ?_
        refine lv_iload_n C0.1 C0.2.1 dX8_choosePartition_25 rfl (lv_at hl 0 rfl) ?_
        refine k_calli (n := 1) (wr := []) C0 S (c_X8_placeOfRecord l D cA hV hB aB (v1) (v2) (v3) (v4) (v5) (v6) (v7) (v8) d (2)) gX8_choosePartition_X8_placeOfRecord rfl ⟨rfl, rfl⟩ (by decide +kernel) ⟨Nat.le_of_ble_eq_true rfl, Nat.le_of_ble_eq_true rfl⟩ [0, 1, 2] [] rfl rfl rfl rfl (by decide) (ci := 8) (q0 := 0) rfl rfl (As := [.int (iI (2))]) rfl hl.1 rfl (Nat.le_of_ble_eq_true rfl) dX8_choosePartition_26 ⟨Nat.zero_le _, Nat.zero_le _⟩ (fun r u H locs hp S => ?_)
        obtain ⟨rfl, rfl⟩ := hp
        have S := S.sub (ws' := [(hV, .inr (8, [.ref hB, .int (iI (v1)), .int (iI (v2)), .int (iI (v3)), .int (iI (v4)), .int (iI (v5)), .int (iI (v6)), .int (iI (v7)), .int (iI (v8))])), (hB, .inr (0, [.ref aB])), (aB, .inl (cA 1, 2048, .inl (fun y_ => bI (d y_))))]) [0, 1, 2] rfl rfl
        refine k_calli (n := 1) (wr := [(hV, .inr (8, [.ref hB, .int (iI (v1)), .int (iI (v2)), .int (iI (v3)), .int (iI (v4)), .int (iI (v5)), .int (iI (v6)), .int (iI (v7)), .int (iI (v8))]))]) C0 S (c_X0_byteAt l D cA hB aB 2048 d (6 + 8 * (2)) hd (by constructor <;> omega) (by omega)) gX8_choosePartition_X0_byteAt rfl ⟨rfl, rfl⟩ (by decide +kernel) ⟨Nat.le_of_ble_eq_true rfl, Nat.le_of_ble_eq_true rfl⟩ [1, 2] [0] rfl rfl rfl rfl (by decide) (ci := 0) (q0 := 0) rfl rfl (As := [.int (iI (6 + 8 * (2)))]) rfl hl.1 rfl (Nat.le_of_ble_eq_true rfl) dX8_choosePartition_29 ⟨Nat.zero_le _, Nat.zero_le _⟩ (fun r u H locs hp S => ?_)
        obtain ⟨rfl, rfl⟩ := hp
        have S := S.sub (ws' := [(hV, .inr (8, [.ref hB, .int (iI (v1)), .int (iI (v2)), .int (iI (v3)), .int (iI (v4)), .int (iI (v5)), .int (iI (v6)), .int (iI (v7)), .int (iI (v8))])), (hB, .inr (0, [.ref aB])), (aB, .inl (cA 1, 2048, .inl (fun y_ => bI (d y_))))]) [0, 1, 2] rfl rfl
        rw [bAt_in (n := 2048) (z := 6 + 8 * (2)) (by omega) (by omega)]
        have hb20 := By.rd hd (6 + 8 * (2))
        refine lv_sipush (v := iI (128)) C0.1 C0.2.1 dX8_choosePartition_32 (by decide) ?_
        refine k_icmp_ne (tgt := 40) C0 (by constructor <;> omega) ⟨by decide, by decide⟩ dX8_choosePartition_35 (by decide) (fun c21 => ?_) (fun c21 => ?_)
        · refine lv_iload_n C0.1 C0.2.1 dX8_choosePartition_40 rfl (lv_at hl 1 rfl) ?_
          refine k_if_ge (tgt := 46) C0 ⟨by decide, by decide⟩ dX8_choosePartition_41 (by decide) (fun hc => absurd hc (by decide)) (fun _ => ?_)
          refine lv_iload_n C0.1 C0.2.1 dX8_choosePartition_44 rfl (lv_at hl 0 rfl) ?_
          refine lv_istore_n (lv' := [(1, .int (iI (2))), (2, .int (iI (2))), (0, .ref hV)]) C0.1 C0.2.1 dX8_choosePartition_45 rfl hl (by decide) rfl (fun ls hl => ?_)
          refine lv_iinc (v := iI (3)) (lv' := [(2, .int (iI (3))), (1, .int (iI (2))), (0, .ref hV)]) C0.1 C0.2.1 dX8_choosePartition_46 hl (k := 1) rfl (by decide) (by decide) rfl (fun ls hl => ?_)
          refine lv_goto (tgt := 4) C0.1 C0.2.1 dX8_choosePartition_49 (by decide) ?_
          refine lv_iload_n C0.1 C0.2.1 dX8_choosePartition_4 rfl (lv_at hl 0 rfl) ?_
          refine lv_iconst (v := iI (3)) C0.1 C0.2.1 dX8_choosePartition_5 rfl ?_
          refine k_icmp_ge (tgt := 52) C0 ⟨by decide, by decide⟩ ⟨by decide, by decide⟩ dX8_choosePartition_6 (by decide) (fun _ => ?_) (fun hc => absurd hc (by decide))
          refine lv_iload_n C0.1 C0.2.1 dX8_choosePartition_52 rfl (lv_at hl 1 rfl) ?_
          subst hQ
          refine k_iret C0 S hAe hsz hr hlk dX8_choosePartition_53 ?_
          refine ⟨congrArg iI ?_, rfl⟩
          classical
          unfold chs ac
          simp only [c1, c13, c19, c21, and_true, true_and, and_false, false_and, and_self, if_true, if_false, not_true, not_false_iff, ite_self]
        · refine lv_iload_n C0.1 C0.2.1 dX8_choosePartition_38 rfl (lv_at hl 0 rfl) ?_
          subst hQ
          refine k_iret C0 S hAe hsz hr hlk dX8_choosePartition_39 ?_
          refine ⟨congrArg iI ?_, rfl⟩
          classical
          unfold chs ac
          simp only [c1, c13, c19, c21, and_true, true_and, and_false, false_and, and_self, if_true, if_false, not_true, not_false_iff, ite_self]
      · refine lv_goto (tgt := 46) C0.1 C0.2.1 dX8_choosePartition_17 (by decide) ?_
        refine lv_iinc (v := iI (3)) (lv' := [(2, .int (iI (3))), (1, .int (iI (-1))), (0, .ref hV)]) C0.1 C0.2.1 dX8_choosePartition_46 hl (k := 0) rfl (by decide) (by decide) rfl (fun ls hl => ?_)
        refine lv_goto (tgt := 4) C0.1 C0.2.1 dX8_choosePartition_49 (by decide) ?_
        refine lv_iload_n C0.1 C0.2.1 dX8_choosePartition_4 rfl (lv_at hl 0 rfl) ?_
        refine lv_iconst (v := iI (3)) C0.1 C0.2.1 dX8_choosePartition_5 rfl ?_
        refine k_icmp_ge (tgt := 52) C0 ⟨by decide, by decide⟩ ⟨by decide, by decide⟩ dX8_choosePartition_6 (by decide) (fun _ => ?_) (fun hc => absurd hc (by decide))
        refine lv_iload_n C0.1 C0.2.1 dX8_choosePartition_52 rfl (lv_at hl 1 rfl) ?_
        subst hQ
        refine k_iret C0 S hAe hsz hr hlk dX8_choosePartition_53 ?_
        refine ⟨congrArg iI ?_, rfl⟩
        classical
        unfold chs ac
        simp only [c1, c13, c19, and_true, true_and, and_false, false_and, and_self, if_true, if_false, not_true, not_false_iff, ite_self]
def rmX8_isCluster : Room := { frames := 0, cells := 0, slots := 0, locals := 0 }
set_option maxHeartbeats 4000000 in
set_option maxRecDepth 100000 in
theorem c_X8_isCluster (l : Launch) (D : va_G) (cA : Nat → ClassId) (hV hB aB : Nat) (v1 v2 v3 v4 v5 v6 v7 v8 : Int) (d : Nat → Int) (z : Int) (hz : ir z) (hN1 : -100000 ≤ v3) (hN2 : v3 ≤ 100000) : kCi l D vwCl (kTys cA) yX8_isCluster wsX8_isCluster rmX8_isCluster [.ref hV, .int (iI (z))] [(hV, .inr (8, [.ref hB, .int (iI (v1)), .int (iI (v2)), .int (iI (v3)), .int (iI (v4)), .int (iI (v5)), .int (iI (v6)), .int (iI (v7)), .int (iI (v8))])), (hB, .inr (0, [.ref aB])), (aB, .inl (cA 1, 2048, .inl (fun y_ => bI (d y_))))] (fun r u => r = iI (bz (2 ≤ z ∧ z ≤ v3 + 1)) ∧ u = [(hV, .inr (8, [.ref hB, .int (iI (v1)), .int (iI (v2)), .int (iI (v3)), .int (iI (v4)), .int (iI (v5)), .int (iI (v6)), .int (iI (v7)), .int (iI (v8))])), (hB, .inr (0, [.ref aB])), (aB, .inl (cA 1, 2048, .inl (fun y_ => bI (d y_))))]) := by
  intro sz
  refine kEntry (cc := cX8_isCluster) (maxL := 2) (ret := (some .boolean)) (by decide) rfl (Nat.le_of_ble_eq_true rfl) ?_
  intro p e s m args below meth c A Q hAe hQ C0 hr hlk S hsz ls hl
  have hl : lv_has ls 2 [(0, .ref hV), (1, .int (iI (z)))] := hl
  obtain ⟨hz1, hz2⟩ := hz
  refine lv_iload_n C0.1 C0.2.1 dX8_isCluster_0 rfl (lv_at hl 1 rfl) ?_
  refine lv_iconst (v := iI (2)) C0.1 C0.2.1 dX8_isCluster_1 rfl ?_
  refine k_icmp_lt (tgt := 19) C0 (by constructor <;> omega) ⟨by decide, by decide⟩ dX8_isCluster_2 (by decide) (fun c1 => ?_) (fun c1 => ?_)
  · refine lv_iconst (v := iI (0)) C0.1 C0.2.1 dX8_isCluster_19 rfl ?_
    subst hQ
    refine k_zret C0 S hAe hsz hr hlk (by rfl) dX8_isCluster_20 ?_
    exact ⟨congrArg iI (bz_f (by omega)).symm, rfl⟩
  · refine lv_iload_n C0.1 C0.2.1 dX8_isCluster_5 rfl (lv_at hl 1 rfl) ?_
    refine lv_aload_n C0.1 C0.2.1 dX8_isCluster_6 rfl (lv_at hl 0 rfl) ?_
    refine k_get C0 S (C := RX8) (T := TX8) (N := 9) (ci := 8) (by decide +kernel) 0 rfl rfl 3 (by decide) (by decide +kernel) (v := .int (iI (v3))) rfl dX8_isCluster_7 ?_
    refine lv_iconst (v := iI (1)) C0.1 C0.2.1 dX8_isCluster_10 rfl ?_
    refine k_iadd C0 dX8_isCluster_11 ?_
    refine k_icmp_gt (tgt := 19) C0 (by constructor <;> omega) (by constructor <;> omega) dX8_isCluster_12 (by decide) (fun c2 => ?_) (fun c2 => ?_)
    · refine lv_iconst (v := iI (0)) C0.1 C0.2.1 dX8_isCluster_19 rfl ?_
      subst hQ
      refine k_zret C0 S hAe hsz hr hlk (by rfl) dX8_isCluster_20 ?_
      exact ⟨congrArg iI (bz_f (by omega)).symm, rfl⟩
    · refine lv_iconst (v := iI (1)) C0.1 C0.2.1 dX8_isCluster_15 rfl ?_
      refine lv_goto (tgt := 20) C0.1 C0.2.1 dX8_isCluster_16 (by decide) ?_
      subst hQ
      refine k_zret C0 S hAe hsz hr hlk (by rfl) dX8_isCluster_20 ?_
      exact ⟨congrArg iI (bz_t (by omega)).symm, rfl⟩
def rmX8_isEnd : Room := { frames := 0, cells := 0, slots := 0, locals := 0 }
set_option maxHeartbeats 4000000 in
set_option maxRecDepth 100000 in
theorem c_X8_isEnd (l : Launch) (D : va_G) (cA : Nat → ClassId) (hV hB aB : Nat) (v1 v2 v3 v4 v5 v6 v7 v8 : Int) (d : Nat → Int) (z : Int) (hz : ir z) : kCi l D vwCl (kTys cA) yX8_isEnd wsX8_isEnd rmX8_isEnd [.ref hV, .int (iI (z))] [(hV, .inr (8, [.ref hB, .int (iI (v1)), .int (iI (v2)), .int (iI (v3)), .int (iI (v4)), .int (iI (v5)), .int (iI (v6)), .int (iI (v7)), .int (iI (v8))])), (hB, .inr (0, [.ref aB])), (aB, .inl (cA 1, 2048, .inl (fun y_ => bI (d y_))))] (fun r u => r = iI (bz (4088 ≤ z)) ∧ u = [(hV, .inr (8, [.ref hB, .int (iI (v1)), .int (iI (v2)), .int (iI (v3)), .int (iI (v4)), .int (iI (v5)), .int (iI (v6)), .int (iI (v7)), .int (iI (v8))])), (hB, .inr (0, [.ref aB])), (aB, .inl (cA 1, 2048, .inl (fun y_ => bI (d y_))))]) := by
  intro sz
  refine kEntry (cc := cX8_isEnd) (maxL := 2) (ret := (some .boolean)) (by decide) rfl (Nat.le_of_ble_eq_true rfl) ?_
  intro p e s m args below meth c A Q hAe hQ C0 hr hlk S hsz ls hl
  have hl : lv_has ls 2 [(0, .ref hV), (1, .int (iI (z)))] := hl
  obtain ⟨hz1, hz2⟩ := hz
  refine lv_iload_n C0.1 C0.2.1 dX8_isEnd_0 rfl (lv_at hl 1 rfl) ?_
  refine lv_sipush (v := iI (4088)) C0.1 C0.2.1 dX8_isEnd_1 (by decide) ?_
  refine k_icmp_lt (tgt := 11) C0 (by constructor <;> omega) ⟨by decide, by decide⟩ dX8_isEnd_4 (by decide) (fun c1 => ?_) (fun c1 => ?_)
  · refine lv_iconst (v := iI (0)) C0.1 C0.2.1 dX8_isEnd_11 rfl ?_
    subst hQ
    refine k_zret C0 S hAe hsz hr hlk (by rfl) dX8_isEnd_12 ?_
    exact ⟨congrArg iI (bz_f (by omega)).symm, rfl⟩
  · refine lv_iconst (v := iI (1)) C0.1 C0.2.1 dX8_isEnd_7 rfl ?_
    refine lv_goto (tgt := 12) C0.1 C0.2.1 dX8_isEnd_8 (by decide) ?_
    subst hQ
    refine k_zret C0 S hAe hsz hr hlk (by rfl) dX8_isEnd_12 ?_
    exact ⟨congrArg iI (bz_t (by omega)).symm, rfl⟩
def rmX8_takeGeometry : Room := { frames := 2, cells := 0, slots := 0, locals := 42 }
set_option maxHeartbeats 4000000 in
set_option maxRecDepth 100000 in
theorem c_X8_takeGeometry (l : Launch) (D : va_G) (cA : Nat → ClassId) (hV hB aB : Nat) (v1 v2 v3 v4 v5 v6 v7 v8 : Int) (d : Nat → Int) (hd : By d) (hc : 0 ≤ chs d) : kCi l D vwCl (kTys cA) yX8_takeGeometry wsX8_takeGeometry rmX8_takeGeometry [.ref hV, .int (iI (gP d)), .int (iI (gMany d))] [(hV, .inr (8, [.ref hB, .int (iI (v1)), .int (iI (v2)), .int (iI (v3)), .int (iI (v4)), .int (iI (v5)), .int (iI (v6)), .int (iI (v7)), .int (iI (v8))])), (hB, .inr (0, [.ref aB])), (aB, .inl (cA 1, 2048, .inl (fun y_ => bI (d y_))))] (fun r u => ∃ x2 x3 x4 x5 x6 x7 x8 : Int, r = iI (bz (gOk1 d ∧ gOk2 d)) ∧ u = [(hV, .inr (8, [.ref hB, .int (iI (v1)), .int (iI (x2)), .int (iI (x3)), .int (iI (x4)), .int (iI (x5)), .int (iI (x6)), .int (iI (x7)), .int (iI (x8))])), (hB, .inr (0, [.ref aB])), (aB, .inl (cA 1, 2048, .inl (fun y_ => bI (d y_))))] ∧ ((gOk1 d ∧ gOk2 d) → x2 = gRoot d ∧ x3 = gN d ∧ x4 = gSz d ∧ x5 = gT d ∧ x6 = gTB d ∧ x7 = gTA d ∧ x8 = gCA d)) := by
  intro sz
  refine kEntry (cc := cX8_takeGeometry) (maxL := 7) (ret := (some .boolean)) (by decide) rfl (Nat.le_of_ble_eq_true rfl) ?_
  intro p e s m args below meth c A Q hAe hQ C0 hr hlk S hsz ls hl
  have hl : lv_has ls 7 [(0, .ref hV), (1, .int (iI (gP d))), (2, .int (iI (gMany d)))] := hl
  obtain ⟨⟨hp1, hp2⟩, hp3⟩ := gP_bound hd hc
  have hmb : 0 ≤ gMany d ∧ gMany d < 256 := By.rd hd _
  refine lv_aload_n C0.1 C0.2.1 dX8_takeGeometry_0 rfl (lv_at hl 0 rfl) ?_
  refine k_get C0 S (C := RX8) (T := TX8) (N := 9) (ci := 8) (by decide +kernel) 0 rfl rfl 0 (by decide) (by decide +kernel) (v := .ref hB) rfl dX8_takeGeometry_1 ?_
  refine lv_iload_n C0.1 C0.2.1 dX8_takeGeometry_4 rfl (lv_at hl 1 rfl) ?_
  refine lv_iconst (v := iI (1)) C0.1 C0.2.1 dX8_takeGeometry_5 rfl ?_
  refine k_iadd C0 dX8_takeGeometry_6 ?_
  refine k_calli (n := 1) (wr := [(hV, .inr (8, [.ref hB, .int (iI (v1)), .int (iI (v2)), .int (iI (v3)), .int (iI (v4)), .int (iI (v5)), .int (iI (v6)), .int (iI (v7)), .int (iI (v8))]))]) C0 S (c_X0_byteAt l D cA hB aB 2048 d ((gP d) + 1) hd (by constructor <;> omega) (by omega)) gX8_takeGeometry_X0_byteAt rfl ⟨rfl, rfl⟩ (by decide +kernel) ⟨Nat.le_of_ble_eq_true rfl, Nat.le_of_ble_eq_true rfl⟩ [1, 2] [0] rfl rfl rfl rfl (by decide) (ci := 0) (q0 := 0) rfl rfl (As := [.int (iI ((gP d) + 1))]) rfl hl.1 rfl (Nat.le_of_ble_eq_true rfl) dX8_takeGeometry_7 ⟨Nat.zero_le _, Nat.zero_le _⟩ (fun r u H locs hp S => ?_)
  obtain ⟨rfl, rfl⟩ := hp
  have S := S.sub (ws' := [(hV, .inr (8, [.ref hB, .int (iI (v1)), .int (iI (v2)), .int (iI (v3)), .int (iI (v4)), .int (iI (v5)), .int (iI (v6)), .int (iI (v7)), .int (iI (v8))])), (hB, .inr (0, [.ref aB])), (aB, .inl (cA 1, 2048, .inl (fun y_ => bI (d y_))))]) [0, 1, 2] rfl rfl
  rw [bAt_in (n := 2048) (z := (gP d) + 1) (by omega) (by omega)]
  have hb1 := By.rd hd ((gP d) + 1)
  refine k_topeq (v := iI (gCS d)) (rfl) ?_
  have q1 : 0 ≤ gCS d ∧ gCS d < 256 := By.rd hd _
  refine lv_istore_n (lv' := [(3, .int (iI (gCS d))), (0, .ref hV), (1, .int (iI (gP d))), (2, .int (iI (gMany d)))]) C0.1 C0.2.1 dX8_takeGeometry_10 rfl hl (by decide) rfl (fun ls hl => ?_)
  refine lv_aload_n C0.1 C0.2.1 dX8_takeGeometry_11 rfl (lv_at hl 1 rfl) ?_
  refine k_get C0 S (C := RX8) (T := TX8) (N := 9) (ci := 8) (by decide +kernel) 0 rfl rfl 0 (by decide) (by decide +kernel) (v := .ref hB) rfl dX8_takeGeometry_12 ?_
  refine lv_iload_n C0.1 C0.2.1 dX8_takeGeometry_15 rfl (lv_at hl 2 rfl) ?_
  refine lv_iconst (v := iI (2)) C0.1 C0.2.1 dX8_takeGeometry_16 rfl ?_
  refine k_iadd C0 dX8_takeGeometry_17 ?_
  refine k_calli (n := 1) (wr := [(hV, .inr (8, [.ref hB, .int (iI (v1)), .int (iI (v2)), .int (iI (v3)), .int (iI (v4)), .int (iI (v5)), .int (iI (v6)), .int (iI (v7)), .int (iI (v8))]))]) C0 S (c_X0_byteAt l D cA hB aB 2048 d ((gP d) + 2) hd (by constructor <;> omega) (by omega)) gX8_takeGeometry_X0_byteAt rfl ⟨rfl, rfl⟩ (by decide +kernel) ⟨Nat.le_of_ble_eq_true rfl, Nat.le_of_ble_eq_true rfl⟩ [1, 2] [0] rfl rfl rfl rfl (by decide) (ci := 0) (q0 := 0) rfl rfl (As := [.int (iI ((gP d) + 2))]) rfl hl.1 rfl (Nat.le_of_ble_eq_true rfl) dX8_takeGeometry_18 ⟨Nat.zero_le _, Nat.zero_le _⟩ (fun r u H locs hp S => ?_)
  obtain ⟨rfl, rfl⟩ := hp
  have S := S.sub (ws' := [(hV, .inr (8, [.ref hB, .int (iI (v1)), .int (iI (v2)), .int (iI (v3)), .int (iI (v4)), .int (iI (v5)), .int (iI (v6)), .int (iI (v7)), .int (iI (v8))])), (hB, .inr (0, [.ref aB])), (aB, .inl (cA 1, 2048, .inl (fun y_ => bI (d y_))))]) [0, 1, 2] rfl rfl
  rw [bAt_in (n := 2048) (z := (gP d) + 2) (by omega) (by omega)]
  have hb2 := By.rd hd ((gP d) + 2)
  refine k_topeq (v := iI (gBef d)) (rfl) ?_
  have q2 : 0 ≤ gBef d ∧ gBef d < 256 := By.rd hd _
  refine lv_istore (lv' := [(4, .int (iI (gBef d))), (3, .int (iI (gCS d))), (0, .ref hV), (1, .int (iI (gP d))), (2, .int (iI (gMany d)))]) C0.1 C0.2.1 dX8_takeGeometry_21 hl (by decide) rfl (fun ls hl => ?_)
  refine lv_aload_n C0.1 C0.2.1 dX8_takeGeometry_23 rfl (lv_at hl 2 rfl) ?_
  refine lv_aload_n C0.1 C0.2.1 dX8_takeGeometry_24 rfl (lv_at hl 2 rfl) ?_
  refine k_get C0 S (C := RX8) (T := TX8) (N := 9) (ci := 8) (by decide +kernel) 0 rfl rfl 0 (by decide) (by decide +kernel) (v := .ref hB) rfl dX8_takeGeometry_25 ?_
  refine lv_iload_n C0.1 C0.2.1 dX8_takeGeometry_28 rfl (lv_at hl 3 rfl) ?_
  refine lv_iconst (v := iI (3)) C0.1 C0.2.1 dX8_takeGeometry_29 rfl ?_
  refine k_iadd C0 dX8_takeGeometry_30 ?_
  refine k_calli (n := 1) (wr := [(hV, .inr (8, [.ref hB, .int (iI (v1)), .int (iI (v2)), .int (iI (v3)), .int (iI (v4)), .int (iI (v5)), .int (iI (v6)), .int (iI (v7)), .int (iI (v8))]))]) C0 S (c_X0_byteAt l D cA hB aB 2048 d ((gP d) + 3) hd (by constructor <;> omega) (by omega)) gX8_takeGeometry_X0_byteAt rfl ⟨rfl, rfl⟩ (by decide +kernel) ⟨Nat.le_of_ble_eq_true rfl, Nat.le_of_ble_eq_true rfl⟩ [1, 2] [0] rfl rfl rfl rfl (by decide) (ci := 0) (q0 := 0) rfl rfl (As := [.int (iI ((gP d) + 3))]) rfl hl.1 rfl (Nat.le_of_ble_eq_true rfl) dX8_takeGeometry_31 ⟨Nat.zero_le _, Nat.zero_le _⟩ (fun r u H locs hp S => ?_)
  obtain ⟨rfl, rfl⟩ := hp
  have S := S.sub (ws' := [(hV, .inr (8, [.ref hB, .int (iI (v1)), .int (iI (v2)), .int (iI (v3)), .int (iI (v4)), .int (iI (v5)), .int (iI (v6)), .int (iI (v7)), .int (iI (v8))])), (hB, .inr (0, [.ref aB])), (aB, .inl (cA 1, 2048, .inl (fun y_ => bI (d y_))))]) [0, 1, 2] rfl rfl
  rw [bAt_in (n := 2048) (z := (gP d) + 3) (by omega) (by omega)]
  have hb3 := By.rd hd ((gP d) + 3)
  refine k_topeq (v := iI (gT d)) (rfl) ?_
  have q3 : 0 ≤ gT d ∧ gT d < 256 := By.rd hd _
  refine k_put (ws' := [(hV, .inr (8, [.ref hB, .int (iI (v1)), .int (iI (v2)), .int (iI (v3)), .int (iI (v4)), .int (iI (gT d)), .int (iI (v6)), .int (iI (v7)), .int (iI (v8))])), (hB, .inr (0, [.ref aB])), (aB, .inl (cA 1, 2048, .inl (fun y_ => bI (d y_))))]) C0 S (C := RX8) (T := TX8) (N := 9) (ci := 8) (by decide +kernel) tyX8 tyX8_ok nmX8 0 rfl rfl 5 (by decide) (by decide +kernel) rfl (v := .int (iI (gT d))) rfl rfl (Nat.le_of_ble_eq_true rfl) dX8_takeGeometry_34 rfl (fun H locs S => ?_)
  refine lv_aload_n C0.1 C0.2.1 dX8_takeGeometry_37 rfl (lv_at hl 2 rfl) ?_
  refine k_get C0 S (C := RX8) (T := TX8) (N := 9) (ci := 8) (by decide +kernel) 0 rfl rfl 0 (by decide) (by decide +kernel) (v := .ref hB) rfl dX8_takeGeometry_38 ?_
  refine lv_iload_n C0.1 C0.2.1 dX8_takeGeometry_41 rfl (lv_at hl 3 rfl) ?_
  refine lv_iconst (v := iI (4)) C0.1 C0.2.1 dX8_takeGeometry_42 rfl ?_
  refine k_iadd C0 dX8_takeGeometry_43 ?_
  refine k_calli (n := 1) (wr := [(hV, .inr (8, [.ref hB, .int (iI (v1)), .int (iI (v2)), .int (iI (v3)), .int (iI (v4)), .int (iI (gT d)), .int (iI (v6)), .int (iI (v7)), .int (iI (v8))]))]) C0 S (c_X0_byteAt l D cA hB aB 2048 d ((gP d) + 4) hd (by constructor <;> omega) (by omega)) gX8_takeGeometry_X0_byteAt rfl ⟨rfl, rfl⟩ (by decide +kernel) ⟨Nat.le_of_ble_eq_true rfl, Nat.le_of_ble_eq_true rfl⟩ [1, 2] [0] rfl rfl rfl rfl (by decide) (ci := 0) (q0 := 0) rfl rfl (As := [.int (iI ((gP d) + 4))]) rfl hl.1 rfl (Nat.le_of_ble_eq_true rfl) dX8_takeGeometry_44 ⟨Nat.zero_le _, Nat.zero_le _⟩ (fun r u H locs hp S => ?_)
  obtain ⟨rfl, rfl⟩ := hp
  have S := S.sub (ws' := [(hV, .inr (8, [.ref hB, .int (iI (v1)), .int (iI (v2)), .int (iI (v3)), .int (iI (v4)), .int (iI (gT d)), .int (iI (v6)), .int (iI (v7)), .int (iI (v8))])), (hB, .inr (0, [.ref aB])), (aB, .inl (cA 1, 2048, .inl (fun y_ => bI (d y_))))]) [0, 1, 2] rfl rfl
  rw [bAt_in (n := 2048) (z := (gP d) + 4) (by omega) (by omega)]
  have hb4 := By.rd hd ((gP d) + 4)
  refine k_topeq (v := iI (gTS d)) (rfl) ?_
  have q4 : 0 ≤ gTS d ∧ gTS d < 256 := By.rd hd _
  refine lv_istore (lv' := [(5, .int (iI (gTS d))), (4, .int (iI (gBef d))), (3, .int (iI (gCS d))), (0, .ref hV), (1, .int (iI (gP d))), (2, .int (iI (gMany d)))]) C0.1 C0.2.1 dX8_takeGeometry_47 hl (by decide) rfl (fun ls hl => ?_)
  refine lv_aload_n C0.1 C0.2.1 dX8_takeGeometry_49 rfl (lv_at hl 3 rfl) ?_
  refine lv_aload_n C0.1 C0.2.1 dX8_takeGeometry_50 rfl (lv_at hl 3 rfl) ?_
  refine k_get C0 S (C := RX8) (T := TX8) (N := 9) (ci := 8) (by decide +kernel) 0 rfl rfl 0 (by decide) (by decide +kernel) (v := .ref hB) rfl dX8_takeGeometry_51 ?_
  refine lv_iload_n C0.1 C0.2.1 dX8_takeGeometry_54 rfl (lv_at hl 4 rfl) ?_
  refine lv_iconst (v := iI (5)) C0.1 C0.2.1 dX8_takeGeometry_55 rfl ?_
  refine k_iadd C0 dX8_takeGeometry_56 ?_
  refine k_calli (n := 1) (wr := [(hV, .inr (8, [.ref hB, .int (iI (v1)), .int (iI (v2)), .int (iI (v3)), .int (iI (v4)), .int (iI (gT d)), .int (iI (v6)), .int (iI (v7)), .int (iI (v8))]))]) C0 S (c_X0_byteAt l D cA hB aB 2048 d ((gP d) + 5) hd (by constructor <;> omega) (by omega)) gX8_takeGeometry_X0_byteAt rfl ⟨rfl, rfl⟩ (by decide +kernel) ⟨Nat.le_of_ble_eq_true rfl, Nat.le_of_ble_eq_true rfl⟩ [1, 2] [0] rfl rfl rfl rfl (by decide) (ci := 0) (q0 := 0) rfl rfl (As := [.int (iI ((gP d) + 5))]) rfl hl.1 rfl (Nat.le_of_ble_eq_true rfl) dX8_takeGeometry_57 ⟨Nat.zero_le _, Nat.zero_le _⟩ (fun r u H locs hp S => ?_)
  obtain ⟨rfl, rfl⟩ := hp
  have S := S.sub (ws' := [(hV, .inr (8, [.ref hB, .int (iI (v1)), .int (iI (v2)), .int (iI (v3)), .int (iI (v4)), .int (iI (gT d)), .int (iI (v6)), .int (iI (v7)), .int (iI (v8))])), (hB, .inr (0, [.ref aB])), (aB, .inl (cA 1, 2048, .inl (fun y_ => bI (d y_))))]) [0, 1, 2] rfl rfl
  rw [bAt_in (n := 2048) (z := (gP d) + 5) (by omega) (by omega)]
  have hb5 := By.rd hd ((gP d) + 5)
  refine k_topeq (v := iI (gRoot d)) (rfl) ?_
  have q5 : 0 ≤ gRoot d ∧ gRoot d < 256 := By.rd hd _
  refine k_put (ws' := [(hV, .inr (8, [.ref hB, .int (iI (v1)), .int (iI (gRoot d)), .int (iI (v3)), .int (iI (v4)), .int (iI (gT d)), .int (iI (v6)), .int (iI (v7)), .int (iI (v8))])), (hB, .inr (0, [.ref aB])), (aB, .inl (cA 1, 2048, .inl (fun y_ => bI (d y_))))]) C0 S (C := RX8) (T := TX8) (N := 9) (ci := 8) (by decide +kernel) tyX8 tyX8_ok nmX8 0 rfl rfl 2 (by decide) (by decide +kernel) rfl (v := .int (iI (gRoot d))) rfl rfl (Nat.le_of_ble_eq_true rfl) dX8_takeGeometry_60 rfl (fun H locs S => ?_)
  refine lv_aload_n C0.1 C0.2.1 dX8_takeGeometry_63 rfl (lv_at hl 3 rfl) ?_
  refine k_get C0 S (C := RX8) (T := TX8) (N := 9) (ci := 8) (by decide +kernel) 0 rfl rfl 0 (by decide) (by decide +kernel) (v := .ref hB) rfl dX8_takeGeometry_64 ?_
  refine lv_iload_n C0.1 C0.2.1 dX8_takeGeometry_67 rfl (lv_at hl 4 rfl) ?_
  refine k_calli (n := 1) (wr := [(hV, .inr (8, [.ref hB, .int (iI (v1)), .int (iI (gRoot d)), .int (iI (v3)), .int (iI (v4)), .int (iI (gT d)), .int (iI (v6)), .int (iI (v7)), .int (iI (v8))]))]) C0 S (c_X0_byteAt l D cA hB aB 2048 d (gP d) hd (by constructor <;> omega) (by omega)) gX8_takeGeometry_X0_byteAt rfl ⟨rfl, rfl⟩ (by decide +kernel) ⟨Nat.le_of_ble_eq_true rfl, Nat.le_of_ble_eq_true rfl⟩ [1, 2] [0] rfl rfl rfl rfl (by decide) (ci := 0) (q0 := 0) rfl rfl (As := [.int (iI (gP d))]) rfl hl.1 rfl (Nat.le_of_ble_eq_true rfl) dX8_takeGeometry_68 ⟨Nat.zero_le _, Nat.zero_le _⟩ (fun r u H locs hp S => ?_)
  obtain ⟨rfl, rfl⟩ := hp
  have S := S.sub (ws' := [(hV, .inr (8, [.ref hB, .int (iI (v1)), .int (iI (gRoot d)), .int (iI (v3)), .int (iI (v4)), .int (iI (gT d)), .int (iI (v6)), .int (iI (v7)), .int (iI (v8))])), (hB, .inr (0, [.ref aB])), (aB, .inl (cA 1, 2048, .inl (fun y_ => bI (d y_))))]) [0, 1, 2] rfl rfl
  rw [bAt_in (n := 2048) (z := gP d) (by omega) (by omega)]
  have hb6 := By.rd hd (gP d)
  refine lv_sipush (v := iI (235)) C0.1 C0.2.1 dX8_takeGeometry_71 (by decide) ?_
  refine k_icmp_ne (tgt := 85) C0 (by constructor <;> omega) ⟨by decide, by decide⟩ dX8_takeGeometry_74 (by decide) (fun c7 => ?_) (fun c7 => ?_)
  · refine lv_iconst (v := iI (0)) C0.1 C0.2.1 dX8_takeGeometry_85 rfl ?_
    subst hQ
    refine k_zret C0 S hAe hsz hr hlk (by rfl) dX8_takeGeometry_86 ?_
    exact ⟨_, _, _, _, _, _, _, congrArg iI (bz_f (show ¬ (gOk1 d ∧ gOk2 d) by unfold gOk1 gOk2; omega)).symm, rfl, fun h => absurd h (by unfold gOk1 gOk2; omega)⟩
  · refine lv_aload_n C0.1 C0.2.1 dX8_takeGeometry_77 rfl (lv_at hl 3 rfl) ?_
    refine lv_iload_n C0.1 C0.2.1 dX8_takeGeometry_78 rfl (lv_at hl 4 rfl) ?_
    refine k_calli (n := 1) (wr := []) C0 S (c_X8_isSigned l D cA hV hB aB (v1) (gRoot d) (v3) (v4) (gT d) (v6) (v7) (v8) d (gP d) hd (by omega) (by omega)) gX8_takeGeometry_X8_isSigned rfl ⟨rfl, rfl⟩ (by decide +kernel) ⟨Nat.le_of_ble_eq_true rfl, Nat.le_of_ble_eq_true rfl⟩ [0, 1, 2] [] rfl rfl rfl rfl (by decide) (ci := 8) (q0 := 0) rfl rfl (As := [.int (iI (gP d))]) rfl hl.1 rfl (Nat.le_of_ble_eq_true rfl) dX8_takeGeometry_79 ⟨Nat.zero_le _, Nat.zero_le _⟩ (fun r u H locs hp S => ?_)
    obtain ⟨rfl, rfl⟩ := hp
    have S := S.sub (ws' := [(hV, .inr (8, [.ref hB, .int (iI (v1)), .int (iI (gRoot d)), .int (iI (v3)), .int (iI (v4)), .int (iI (gT d)), .int (iI (v6)), .int (iI (v7)), .int (iI (v8))])), (hB, .inr (0, [.ref aB])), (aB, .inl (cA 1, 2048, .inl (fun y_ => bI (d y_))))]) [0, 1, 2] rfl rfl
    refine k_bz_ne (tgt := 87) C0 dX8_takeGeometry_82 (by decide) (fun c8 => ?_) (fun c8 => ?_)
    · refine lv_iload_n C0.1 C0.2.1 dX8_takeGeometry_87 rfl (lv_at hl 2 rfl) ?_
      refine lv_iconst (v := iI (1)) C0.1 C0.2.1 dX8_takeGeometry_88 rfl ?_
      refine k_icmp_eq (tgt := 104) C0 (by constructor <;> omega) ⟨by decide, by decide⟩ dX8_takeGeometry_89 (by decide) (fun c9 => ?_) (fun c9 => ?_)
      · refine lv_iload C0.1 C0.2.1 dX8_takeGeometry_104 (lv_at hl 1 rfl) ?_
        refine lv_iconst (v := iI (1)) C0.1 C0.2.1 dX8_takeGeometry_106 rfl ?_
        refine k_icmp_lt (tgt := 132) C0 (by constructor <;> omega) ⟨by decide, by decide⟩ dX8_takeGeometry_107 (by decide) (fun c10 => ?_) (fun c10 => ?_)
        · refine lv_iconst (v := iI (0)) C0.1 C0.2.1 dX8_takeGeometry_132 rfl ?_
          subst hQ
          refine k_zret C0 S hAe hsz hr hlk (by rfl) dX8_takeGeometry_133 ?_
          exact ⟨_, _, _, _, _, _, _, congrArg iI (bz_f (show ¬ (gOk1 d ∧ gOk2 d) by unfold gOk1 gOk2; omega)).symm, rfl, fun h => absurd h (by unfold gOk1 gOk2; omega)⟩
        · refine lv_aload_n C0.1 C0.2.1 dX8_takeGeometry_110 rfl (lv_at hl 3 rfl) ?_
          refine k_get C0 S (C := RX8) (T := TX8) (N := 9) (ci := 8) (by decide +kernel) 0 rfl rfl 5 (by decide) (by decide +kernel) (v := .int (iI (gT d))) rfl dX8_takeGeometry_111 ?_
          refine lv_iconst (v := iI (1)) C0.1 C0.2.1 dX8_takeGeometry_114 rfl ?_
          refine k_icmp_lt (tgt := 132) C0 (by constructor <;> omega) ⟨by decide, by decide⟩ dX8_takeGeometry_115 (by decide) (fun c11 => ?_) (fun c11 => ?_)
          · refine lv_iconst (v := iI (0)) C0.1 C0.2.1 dX8_takeGeometry_132 rfl ?_
            subst hQ
            refine k_zret C0 S hAe hsz hr hlk (by rfl) dX8_takeGeometry_133 ?_
            exact ⟨_, _, _, _, _, _, _, congrArg iI (bz_f (show ¬ (gOk1 d ∧ gOk2 d) by unfold gOk1 gOk2; omega)).symm, rfl, fun h => absurd h (by unfold gOk1 gOk2; omega)⟩
          · refine lv_aload_n C0.1 C0.2.1 dX8_takeGeometry_118 rfl (lv_at hl 3 rfl) ?_
            refine k_get C0 S (C := RX8) (T := TX8) (N := 9) (ci := 8) (by decide +kernel) 0 rfl rfl 5 (by decide) (by decide +kernel) (v := .int (iI (gT d))) rfl dX8_takeGeometry_119 ?_
            refine lv_iconst (v := iI (2)) C0.1 C0.2.1 dX8_takeGeometry_122 rfl ?_
            refine k_icmp_gt (tgt := 132) C0 (by constructor <;> omega) ⟨by decide, by decide⟩ dX8_takeGeometry_123 (by decide) (fun c12 => ?_) (fun c12 => ?_)
            · refine lv_iconst (v := iI (0)) C0.1 C0.2.1 dX8_takeGeometry_132 rfl ?_
              subst hQ
              refine k_zret C0 S hAe hsz hr hlk (by rfl) dX8_takeGeometry_133 ?_
              exact ⟨_, _, _, _, _, _, _, congrArg iI (bz_f (show ¬ (gOk1 d ∧ gOk2 d) by unfold gOk1 gOk2; omega)).symm, rfl, fun h => absurd h (by unfold gOk1 gOk2; omega)⟩
            · refine lv_iload C0.1 C0.2.1 dX8_takeGeometry_126 (lv_at hl 0 rfl) ?_
              refine lv_iconst (v := iI (1)) C0.1 C0.2.1 dX8_takeGeometry_128 rfl ?_
              refine k_icmp_ge (tgt := 134) C0 (by constructor <;> omega) ⟨by decide, by decide⟩ dX8_takeGeometry_129 (by decide) (fun c13 => ?_) (fun c13 => ?_)
              · obtain ⟨qN, qM⟩ := gN_range hd (by omega) (by omega) (by omega)
                refine lv_iload C0.1 C0.2.1 dX8_takeGeometry_134 (lv_at hl 1 rfl) ?_
                refine lv_aload_n C0.1 C0.2.1 dX8_takeGeometry_136 rfl (lv_at hl 3 rfl) ?_
                refine k_get C0 S (C := RX8) (T := TX8) (N := 9) (ci := 8) (by decide +kernel) 0 rfl rfl 5 (by decide) (by decide +kernel) (v := .int (iI (gT d))) rfl dX8_takeGeometry_137 ?_
                refine lv_iload C0.1 C0.2.1 dX8_takeGeometry_140 (lv_at hl 0 rfl) ?_
                refine k_imul C0 dX8_takeGeometry_142 ?_
                refine k_iadd C0 dX8_takeGeometry_143 ?_
                refine lv_istore (lv' := [(6, .int (iI ((gBef d) + ((gT d) * (gTS d))))), (5, .int (iI (gTS d))), (4, .int (iI (gBef d))), (3, .int (iI (gCS d))), (0, .ref hV), (1, .int (iI (gP d))), (2, .int (iI (gMany d)))]) C0.1 C0.2.1 dX8_takeGeometry_144 hl (by decide) rfl (fun ls hl => ?_)
                refine lv_aload_n C0.1 C0.2.1 dX8_takeGeometry_146 rfl (lv_at hl 4 rfl) ?_
                refine lv_iload_n C0.1 C0.2.1 dX8_takeGeometry_147 rfl (lv_at hl 6 rfl) ?_
                refine lv_iload C0.1 C0.2.1 dX8_takeGeometry_148 (lv_at hl 0 rfl) ?_
                refine k_isub C0 dX8_takeGeometry_150 ?_
                refine lv_iload_n C0.1 C0.2.1 dX8_takeGeometry_151 rfl (lv_at hl 3 rfl) ?_
                refine k_idiv C0 (by constructor <;> omega) (by omega) (by omega) dX8_takeGeometry_152 ?_
                refine k_topeq (v := iI (gN d)) (rfl) ?_
                refine k_put (ws' := [(hV, .inr (8, [.ref hB, .int (iI (v1)), .int (iI (gRoot d)), .int (iI (gN d)), .int (iI (v4)), .int (iI (gT d)), .int (iI (v6)), .int (iI (v7)), .int (iI (v8))])), (hB, .inr (0, [.ref aB])), (aB, .inl (cA 1, 2048, .inl (fun y_ => bI (d y_))))]) C0 S (C := RX8) (T := TX8) (N := 9) (ci := 8) (by decide +kernel) tyX8 tyX8_ok nmX8 0 rfl rfl 3 (by decide) (by decide +kernel) rfl (v := .int (iI (gN d))) rfl rfl (Nat.le_of_ble_eq_true rfl) dX8_takeGeometry_153 rfl (fun H locs S => ?_)
                refine lv_aload_n C0.1 C0.2.1 dX8_takeGeometry_156 rfl (lv_at hl 4 rfl) ?_
                refine lv_iload_n C0.1 C0.2.1 dX8_takeGeometry_157 rfl (lv_at hl 3 rfl) ?_
                refine lv_bipush (v := iI (32)) C0.1 C0.2.1 dX8_takeGeometry_158 (by decide) ?_
                refine k_imul C0 dX8_takeGeometry_160 ?_
                refine k_topeq (v := iI (gSz d)) (rfl) ?_
                refine k_put (ws' := [(hV, .inr (8, [.ref hB, .int (iI (v1)), .int (iI (gRoot d)), .int (iI (gN d)), .int (iI (gSz d)), .int (iI (gT d)), .int (iI (v6)), .int (iI (v7)), .int (iI (v8))])), (hB, .inr (0, [.ref aB])), (aB, .inl (cA 1, 2048, .inl (fun y_ => bI (d y_))))]) C0 S (C := RX8) (T := TX8) (N := 9) (ci := 8) (by decide +kernel) tyX8 tyX8_ok nmX8 0 rfl rfl 4 (by decide) (by decide +kernel) rfl (v := .int (iI (gSz d))) rfl rfl (Nat.le_of_ble_eq_true rfl) dX8_takeGeometry_161 rfl (fun H locs S => ?_)
                refine lv_aload_n C0.1 C0.2.1 dX8_takeGeometry_164 rfl (lv_at hl 4 rfl) ?_
                refine lv_iload C0.1 C0.2.1 dX8_takeGeometry_165 (lv_at hl 1 rfl) ?_
                refine lv_bipush (v := iI (32)) C0.1 C0.2.1 dX8_takeGeometry_167 (by decide) ?_
                refine k_imul C0 dX8_takeGeometry_169 ?_
                refine k_topeq (v := iI (gTB d)) (rfl) ?_
                refine k_put (ws' := [(hV, .inr (8, [.ref hB, .int (iI (v1)), .int (iI (gRoot d)), .int (iI (gN d)), .int (iI (gSz d)), .int (iI (gT d)), .int (iI (gTB d)), .int (iI (v7)), .int (iI (v8))])), (hB, .inr (0, [.ref aB])), (aB, .inl (cA 1, 2048, .inl (fun y_ => bI (d y_))))]) C0 S (C := RX8) (T := TX8) (N := 9) (ci := 8) (by decide +kernel) tyX8 tyX8_ok nmX8 0 rfl rfl 6 (by decide) (by decide +kernel) rfl (v := .int (iI (gTB d))) rfl rfl (Nat.le_of_ble_eq_true rfl) dX8_takeGeometry_170 rfl (fun H locs S => ?_)
                refine lv_aload_n C0.1 C0.2.1 dX8_takeGeometry_173 rfl (lv_at hl 4 rfl) ?_
                refine lv_iload_n C0.1 C0.2.1 dX8_takeGeometry_174 rfl (lv_at hl 5 rfl) ?_
                refine lv_iload C0.1 C0.2.1 dX8_takeGeometry_175 (lv_at hl 2 rfl) ?_
                refine lv_bipush (v := iI (32)) C0.1 C0.2.1 dX8_takeGeometry_177 (by decide) ?_
                refine k_imul C0 dX8_takeGeometry_179 ?_
                refine k_iadd C0 dX8_takeGeometry_180 ?_
                refine k_topeq (v := iI (gTA d)) (rfl) ?_
                refine k_put (ws' := [(hV, .inr (8, [.ref hB, .int (iI (v1)), .int (iI (gRoot d)), .int (iI (gN d)), .int (iI (gSz d)), .int (iI (gT d)), .int (iI (gTB d)), .int (iI (gTA d)), .int (iI (v8))])), (hB, .inr (0, [.ref aB])), (aB, .inl (cA 1, 2048, .inl (fun y_ => bI (d y_))))]) C0 S (C := RX8) (T := TX8) (N := 9) (ci := 8) (by decide +kernel) tyX8 tyX8_ok nmX8 0 rfl rfl 7 (by decide) (by decide +kernel) rfl (v := .int (iI (gTA d))) rfl rfl (Nat.le_of_ble_eq_true rfl) dX8_takeGeometry_181 rfl (fun H locs S => ?_)
                refine lv_aload_n C0.1 C0.2.1 dX8_takeGeometry_184 rfl (lv_at hl 4 rfl) ?_
                refine lv_iload_n C0.1 C0.2.1 dX8_takeGeometry_185 rfl (lv_at hl 5 rfl) ?_
                refine lv_iload C0.1 C0.2.1 dX8_takeGeometry_186 (lv_at hl 0 rfl) ?_
                refine lv_bipush (v := iI (32)) C0.1 C0.2.1 dX8_takeGeometry_188 (by decide) ?_
                refine k_imul C0 dX8_takeGeometry_190 ?_
                refine k_iadd C0 dX8_takeGeometry_191 ?_
                refine k_topeq (v := iI (gCA d)) (rfl) ?_
                refine k_put (ws' := [(hV, .inr (8, [.ref hB, .int (iI (v1)), .int (iI (gRoot d)), .int (iI (gN d)), .int (iI (gSz d)), .int (iI (gT d)), .int (iI (gTB d)), .int (iI (gTA d)), .int (iI (gCA d))])), (hB, .inr (0, [.ref aB])), (aB, .inl (cA 1, 2048, .inl (fun y_ => bI (d y_))))]) C0 S (C := RX8) (T := TX8) (N := 9) (ci := 8) (by decide +kernel) tyX8 tyX8_ok nmX8 0 rfl rfl 8 (by decide) (by decide +kernel) rfl (v := .int (iI (gCA d))) rfl rfl (Nat.le_of_ble_eq_true rfl) dX8_takeGeometry_192 rfl (fun H locs S => ?_)
                have e6 : gTB d = gTS d * 32 := rfl
                refine lv_aload_n C0.1 C0.2.1 dX8_takeGeometry_195 rfl (lv_at hl 4 rfl) ?_
                refine k_get C0 S (C := RX8) (T := TX8) (N := 9) (ci := 8) (by decide +kernel) 0 rfl rfl 3 (by decide) (by decide +kernel) (v := .int (iI (gN d))) rfl dX8_takeGeometry_196 ?_
                refine lv_iconst (v := iI (1)) C0.1 C0.2.1 dX8_takeGeometry_199 rfl ?_
                refine k_icmp_lt (tgt := 233) C0 (by constructor <;> omega) ⟨by decide, by decide⟩ dX8_takeGeometry_200 (by decide) (fun c14 => ?_) (fun c14 => ?_)
                · refine lv_iconst (v := iI (0)) C0.1 C0.2.1 dX8_takeGeometry_233 rfl ?_
                  subst hQ
                  refine k_zret C0 S hAe hsz hr hlk (by rfl) dX8_takeGeometry_234 ?_
                  exact ⟨_, _, _, _, _, _, _, congrArg iI (bz_f (show ¬ (gOk1 d ∧ gOk2 d) by unfold gOk1 gOk2; omega)).symm, rfl, fun h => absurd h (by unfold gOk1 gOk2; omega)⟩
                · refine lv_aload_n C0.1 C0.2.1 dX8_takeGeometry_203 rfl (lv_at hl 4 rfl) ?_
                  refine k_get C0 S (C := RX8) (T := TX8) (N := 9) (ci := 8) (by decide +kernel) 0 rfl rfl 6 (by decide) (by decide +kernel) (v := .int (iI (gTB d))) rfl dX8_takeGeometry_204 ?_
                  refine lv_iconst (v := iI (2)) C0.1 C0.2.1 dX8_takeGeometry_207 rfl ?_
                  refine lv_aload_n C0.1 C0.2.1 dX8_takeGeometry_208 rfl (lv_at hl 4 rfl) ?_
                  refine k_get C0 S (C := RX8) (T := TX8) (N := 9) (ci := 8) (by decide +kernel) 0 rfl rfl 3 (by decide) (by decide +kernel) (v := .int (iI (gN d))) rfl dX8_takeGeometry_209 ?_
                  refine lv_iconst (v := iI (2)) C0.1 C0.2.1 dX8_takeGeometry_212 rfl ?_
                  refine k_iadd C0 dX8_takeGeometry_213 ?_
                  refine k_imul C0 dX8_takeGeometry_214 ?_
                  refine k_icmp_lt (tgt := 233) C0 (by constructor <;> omega) (by constructor <;> omega) dX8_takeGeometry_215 (by decide) (fun c15 => ?_) (fun c15 => ?_)
                  · refine lv_iconst (v := iI (0)) C0.1 C0.2.1 dX8_takeGeometry_233 rfl ?_
                    subst hQ
                    refine k_zret C0 S hAe hsz hr hlk (by rfl) dX8_takeGeometry_234 ?_
                    exact ⟨_, _, _, _, _, _, _, congrArg iI (bz_f (show ¬ (gOk1 d ∧ gOk2 d) by unfold gOk1 gOk2; omega)).symm, rfl, fun h => absurd h (by unfold gOk1 gOk2; omega)⟩
                  · refine lv_aload_n C0.1 C0.2.1 dX8_takeGeometry_218 rfl (lv_at hl 4 rfl) ?_
                    refine lv_aload_n C0.1 C0.2.1 dX8_takeGeometry_219 rfl (lv_at hl 4 rfl) ?_
                    refine k_get C0 S (C := RX8) (T := TX8) (N := 9) (ci := 8) (by decide +kernel) 0 rfl rfl 2 (by decide) (by decide +kernel) (v := .int (iI (gRoot d))) rfl dX8_takeGeometry_220 ?_
                    refine k_calli (n := 1) (wr := []) C0 S (c_X8_isCluster l D cA hV hB aB (v1) (gRoot d) (gN d) (gSz d) (gT d) (gTB d) (gTA d) (gCA d) d (gRoot d) (by constructor <;> omega) (by omega) (by omega)) gX8_takeGeometry_X8_isCluster rfl ⟨rfl, rfl⟩ (by decide +kernel) ⟨Nat.le_of_ble_eq_true rfl, Nat.le_of_ble_eq_true rfl⟩ [0, 1, 2] [] rfl rfl rfl rfl (by decide) (ci := 8) (q0 := 0) rfl rfl (As := [.int (iI (gRoot d))]) rfl hl.1 rfl (Nat.le_of_ble_eq_true rfl) dX8_takeGeometry_223 ⟨Nat.zero_le _, Nat.zero_le _⟩ (fun r u H locs hp S => ?_)
                    obtain ⟨rfl, rfl⟩ := hp
                    have S := S.sub (ws' := [(hV, .inr (8, [.ref hB, .int (iI (v1)), .int (iI (gRoot d)), .int (iI (gN d)), .int (iI (gSz d)), .int (iI (gT d)), .int (iI (gTB d)), .int (iI (gTA d)), .int (iI (gCA d))])), (hB, .inr (0, [.ref aB])), (aB, .inl (cA 1, 2048, .inl (fun y_ => bI (d y_))))]) [0, 1, 2] rfl rfl
                    refine k_bz_eq (tgt := 233) C0 dX8_takeGeometry_226 (by decide) (fun c16 => ?_) (fun c16 => ?_)
                    · refine lv_iconst (v := iI (0)) C0.1 C0.2.1 dX8_takeGeometry_233 rfl ?_
                      subst hQ
                      refine k_zret C0 S hAe hsz hr hlk (by rfl) dX8_takeGeometry_234 ?_
                      exact ⟨_, _, _, _, _, _, _, congrArg iI (bz_f (show ¬ (gOk1 d ∧ gOk2 d) by unfold gOk1 gOk2; omega)).symm, rfl, fun h => absurd h (by unfold gOk1 gOk2; omega)⟩
                    · refine lv_iconst (v := iI (1)) C0.1 C0.2.1 dX8_takeGeometry_229 rfl ?_
                      refine lv_goto (tgt := 234) C0.1 C0.2.1 dX8_takeGeometry_230 (by decide) ?_
                      subst hQ
                      refine k_zret C0 S hAe hsz hr hlk (by rfl) dX8_takeGeometry_234 ?_
                      exact ⟨_, _, _, _, _, _, _, congrArg iI (bz_t (show gOk1 d ∧ gOk2 d by unfold gOk1 gOk2; omega)).symm, rfl, fun _ => ⟨rfl, rfl, rfl, rfl, rfl, rfl, rfl⟩⟩
              · refine lv_iconst (v := iI (0)) C0.1 C0.2.1 dX8_takeGeometry_132 rfl ?_
                subst hQ
                refine k_zret C0 S hAe hsz hr hlk (by rfl) dX8_takeGeometry_133 ?_
                exact ⟨_, _, _, _, _, _, _, congrArg iI (bz_f (show ¬ (gOk1 d ∧ gOk2 d) by unfold gOk1 gOk2; omega)).symm, rfl, fun h => absurd h (by unfold gOk1 gOk2; omega)⟩
      · refine lv_iload_n C0.1 C0.2.1 dX8_takeGeometry_92 rfl (lv_at hl 2 rfl) ?_
        refine lv_iconst (v := iI (2)) C0.1 C0.2.1 dX8_takeGeometry_93 rfl ?_
        refine k_icmp_eq (tgt := 104) C0 (by constructor <;> omega) ⟨by decide, by decide⟩ dX8_takeGeometry_94 (by decide) (fun c17 => ?_) (fun c17 => ?_)
        · refine lv_iload C0.1 C0.2.1 dX8_takeGeometry_104 (lv_at hl 1 rfl) ?_
          refine lv_iconst (v := iI (1)) C0.1 C0.2.1 dX8_takeGeometry_106 rfl ?_
          refine k_icmp_lt (tgt := 132) C0 (by constructor <;> omega) ⟨by decide, by decide⟩ dX8_takeGeometry_107 (by decide) (fun c18 => ?_) (fun c18 => ?_)
          · refine lv_iconst (v := iI (0)) C0.1 C0.2.1 dX8_takeGeometry_132 rfl ?_
            subst hQ
            refine k_zret C0 S hAe hsz hr hlk (by rfl) dX8_takeGeometry_133 ?_
            exact ⟨_, _, _, _, _, _, _, congrArg iI (bz_f (show ¬ (gOk1 d ∧ gOk2 d) by unfold gOk1 gOk2; omega)).symm, rfl, fun h => absurd h (by unfold gOk1 gOk2; omega)⟩
          · refine lv_aload_n C0.1 C0.2.1 dX8_takeGeometry_110 rfl (lv_at hl 3 rfl) ?_
            refine k_get C0 S (C := RX8) (T := TX8) (N := 9) (ci := 8) (by decide +kernel) 0 rfl rfl 5 (by decide) (by decide +kernel) (v := .int (iI (gT d))) rfl dX8_takeGeometry_111 ?_
            refine lv_iconst (v := iI (1)) C0.1 C0.2.1 dX8_takeGeometry_114 rfl ?_
            refine k_icmp_lt (tgt := 132) C0 (by constructor <;> omega) ⟨by decide, by decide⟩ dX8_takeGeometry_115 (by decide) (fun c19 => ?_) (fun c19 => ?_)
            · refine lv_iconst (v := iI (0)) C0.1 C0.2.1 dX8_takeGeometry_132 rfl ?_
              subst hQ
              refine k_zret C0 S hAe hsz hr hlk (by rfl) dX8_takeGeometry_133 ?_
              exact ⟨_, _, _, _, _, _, _, congrArg iI (bz_f (show ¬ (gOk1 d ∧ gOk2 d) by unfold gOk1 gOk2; omega)).symm, rfl, fun h => absurd h (by unfold gOk1 gOk2; omega)⟩
            · refine lv_aload_n C0.1 C0.2.1 dX8_takeGeometry_118 rfl (lv_at hl 3 rfl) ?_
              refine k_get C0 S (C := RX8) (T := TX8) (N := 9) (ci := 8) (by decide +kernel) 0 rfl rfl 5 (by decide) (by decide +kernel) (v := .int (iI (gT d))) rfl dX8_takeGeometry_119 ?_
              refine lv_iconst (v := iI (2)) C0.1 C0.2.1 dX8_takeGeometry_122 rfl ?_
              refine k_icmp_gt (tgt := 132) C0 (by constructor <;> omega) ⟨by decide, by decide⟩ dX8_takeGeometry_123 (by decide) (fun c20 => ?_) (fun c20 => ?_)
              · refine lv_iconst (v := iI (0)) C0.1 C0.2.1 dX8_takeGeometry_132 rfl ?_
                subst hQ
                refine k_zret C0 S hAe hsz hr hlk (by rfl) dX8_takeGeometry_133 ?_
                exact ⟨_, _, _, _, _, _, _, congrArg iI (bz_f (show ¬ (gOk1 d ∧ gOk2 d) by unfold gOk1 gOk2; omega)).symm, rfl, fun h => absurd h (by unfold gOk1 gOk2; omega)⟩
              · refine lv_iload C0.1 C0.2.1 dX8_takeGeometry_126 (lv_at hl 0 rfl) ?_
                refine lv_iconst (v := iI (1)) C0.1 C0.2.1 dX8_takeGeometry_128 rfl ?_
                refine k_icmp_ge (tgt := 134) C0 (by constructor <;> omega) ⟨by decide, by decide⟩ dX8_takeGeometry_129 (by decide) (fun c21 => ?_) (fun c21 => ?_)
                · obtain ⟨qN, qM⟩ := gN_range hd (by omega) (by omega) (by omega)
                  refine lv_iload C0.1 C0.2.1 dX8_takeGeometry_134 (lv_at hl 1 rfl) ?_
                  refine lv_aload_n C0.1 C0.2.1 dX8_takeGeometry_136 rfl (lv_at hl 3 rfl) ?_
                  refine k_get C0 S (C := RX8) (T := TX8) (N := 9) (ci := 8) (by decide +kernel) 0 rfl rfl 5 (by decide) (by decide +kernel) (v := .int (iI (gT d))) rfl dX8_takeGeometry_137 ?_
                  refine lv_iload C0.1 C0.2.1 dX8_takeGeometry_140 (lv_at hl 0 rfl) ?_
                  refine k_imul C0 dX8_takeGeometry_142 ?_
                  refine k_iadd C0 dX8_takeGeometry_143 ?_
                  refine lv_istore (lv' := [(6, .int (iI ((gBef d) + ((gT d) * (gTS d))))), (5, .int (iI (gTS d))), (4, .int (iI (gBef d))), (3, .int (iI (gCS d))), (0, .ref hV), (1, .int (iI (gP d))), (2, .int (iI (gMany d)))]) C0.1 C0.2.1 dX8_takeGeometry_144 hl (by decide) rfl (fun ls hl => ?_)
                  refine lv_aload_n C0.1 C0.2.1 dX8_takeGeometry_146 rfl (lv_at hl 4 rfl) ?_
                  refine lv_iload_n C0.1 C0.2.1 dX8_takeGeometry_147 rfl (lv_at hl 6 rfl) ?_
                  refine lv_iload C0.1 C0.2.1 dX8_takeGeometry_148 (lv_at hl 0 rfl) ?_
                  refine k_isub C0 dX8_takeGeometry_150 ?_
                  refine lv_iload_n C0.1 C0.2.1 dX8_takeGeometry_151 rfl (lv_at hl 3 rfl) ?_
                  refine k_idiv C0 (by constructor <;> omega) (by omega) (by omega) dX8_takeGeometry_152 ?_
                  refine k_topeq (v := iI (gN d)) (rfl) ?_
                  refine k_put (ws' := [(hV, .inr (8, [.ref hB, .int (iI (v1)), .int (iI (gRoot d)), .int (iI (gN d)), .int (iI (v4)), .int (iI (gT d)), .int (iI (v6)), .int (iI (v7)), .int (iI (v8))])), (hB, .inr (0, [.ref aB])), (aB, .inl (cA 1, 2048, .inl (fun y_ => bI (d y_))))]) C0 S (C := RX8) (T := TX8) (N := 9) (ci := 8) (by decide +kernel) tyX8 tyX8_ok nmX8 0 rfl rfl 3 (by decide) (by decide +kernel) rfl (v := .int (iI (gN d))) rfl rfl (Nat.le_of_ble_eq_true rfl) dX8_takeGeometry_153 rfl (fun H locs S => ?_)
                  refine lv_aload_n C0.1 C0.2.1 dX8_takeGeometry_156 rfl (lv_at hl 4 rfl) ?_
                  refine lv_iload_n C0.1 C0.2.1 dX8_takeGeometry_157 rfl (lv_at hl 3 rfl) ?_
                  refine lv_bipush (v := iI (32)) C0.1 C0.2.1 dX8_takeGeometry_158 (by decide) ?_
                  refine k_imul C0 dX8_takeGeometry_160 ?_
                  refine k_topeq (v := iI (gSz d)) (rfl) ?_
                  refine k_put (ws' := [(hV, .inr (8, [.ref hB, .int (iI (v1)), .int (iI (gRoot d)), .int (iI (gN d)), .int (iI (gSz d)), .int (iI (gT d)), .int (iI (v6)), .int (iI (v7)), .int (iI (v8))])), (hB, .inr (0, [.ref aB])), (aB, .inl (cA 1, 2048, .inl (fun y_ => bI (d y_))))]) C0 S (C := RX8) (T := TX8) (N := 9) (ci := 8) (by decide +kernel) tyX8 tyX8_ok nmX8 0 rfl rfl 4 (by decide) (by decide +kernel) rfl (v := .int (iI (gSz d))) rfl rfl (Nat.le_of_ble_eq_true rfl) dX8_takeGeometry_161 rfl (fun H locs S => ?_)
                  refine lv_aload_n C0.1 C0.2.1 dX8_takeGeometry_164 rfl (lv_at hl 4 rfl) ?_
                  refine lv_iload C0.1 C0.2.1 dX8_takeGeometry_165 (lv_at hl 1 rfl) ?_
                  refine lv_bipush (v := iI (32)) C0.1 C0.2.1 dX8_takeGeometry_167 (by decide) ?_
                  refine k_imul C0 dX8_takeGeometry_169 ?_
                  refine k_topeq (v := iI (gTB d)) (rfl) ?_
                  refine k_put (ws' := [(hV, .inr (8, [.ref hB, .int (iI (v1)), .int (iI (gRoot d)), .int (iI (gN d)), .int (iI (gSz d)), .int (iI (gT d)), .int (iI (gTB d)), .int (iI (v7)), .int (iI (v8))])), (hB, .inr (0, [.ref aB])), (aB, .inl (cA 1, 2048, .inl (fun y_ => bI (d y_))))]) C0 S (C := RX8) (T := TX8) (N := 9) (ci := 8) (by decide +kernel) tyX8 tyX8_ok nmX8 0 rfl rfl 6 (by decide) (by decide +kernel) rfl (v := .int (iI (gTB d))) rfl rfl (Nat.le_of_ble_eq_true rfl) dX8_takeGeometry_170 rfl (fun H locs S => ?_)
                  refine lv_aload_n C0.1 C0.2.1 dX8_takeGeometry_173 rfl (lv_at hl 4 rfl) ?_
                  refine lv_iload_n C0.1 C0.2.1 dX8_takeGeometry_174 rfl (lv_at hl 5 rfl) ?_
                  refine lv_iload C0.1 C0.2.1 dX8_takeGeometry_175 (lv_at hl 2 rfl) ?_
                  refine lv_bipush (v := iI (32)) C0.1 C0.2.1 dX8_takeGeometry_177 (by decide) ?_
                  refine k_imul C0 dX8_takeGeometry_179 ?_
                  refine k_iadd C0 dX8_takeGeometry_180 ?_
                  refine k_topeq (v := iI (gTA d)) (rfl) ?_
                  refine k_put (ws' := [(hV, .inr (8, [.ref hB, .int (iI (v1)), .int (iI (gRoot d)), .int (iI (gN d)), .int (iI (gSz d)), .int (iI (gT d)), .int (iI (gTB d)), .int (iI (gTA d)), .int (iI (v8))])), (hB, .inr (0, [.ref aB])), (aB, .inl (cA 1, 2048, .inl (fun y_ => bI (d y_))))]) C0 S (C := RX8) (T := TX8) (N := 9) (ci := 8) (by decide +kernel) tyX8 tyX8_ok nmX8 0 rfl rfl 7 (by decide) (by decide +kernel) rfl (v := .int (iI (gTA d))) rfl rfl (Nat.le_of_ble_eq_true rfl) dX8_takeGeometry_181 rfl (fun H locs S => ?_)
                  refine lv_aload_n C0.1 C0.2.1 dX8_takeGeometry_184 rfl (lv_at hl 4 rfl) ?_
                  refine lv_iload_n C0.1 C0.2.1 dX8_takeGeometry_185 rfl (lv_at hl 5 rfl) ?_
                  refine lv_iload C0.1 C0.2.1 dX8_takeGeometry_186 (lv_at hl 0 rfl) ?_
                  refine lv_bipush (v := iI (32)) C0.1 C0.2.1 dX8_takeGeometry_188 (by decide) ?_
                  refine k_imul C0 dX8_takeGeometry_190 ?_
                  refine k_iadd C0 dX8_takeGeometry_191 ?_
                  refine k_topeq (v := iI (gCA d)) (rfl) ?_
                  refine k_put (ws' := [(hV, .inr (8, [.ref hB, .int (iI (v1)), .int (iI (gRoot d)), .int (iI (gN d)), .int (iI (gSz d)), .int (iI (gT d)), .int (iI (gTB d)), .int (iI (gTA d)), .int (iI (gCA d))])), (hB, .inr (0, [.ref aB])), (aB, .inl (cA 1, 2048, .inl (fun y_ => bI (d y_))))]) C0 S (C := RX8) (T := TX8) (N := 9) (ci := 8) (by decide +kernel) tyX8 tyX8_ok nmX8 0 rfl rfl 8 (by decide) (by decide +kernel) rfl (v := .int (iI (gCA d))) rfl rfl (Nat.le_of_ble_eq_true rfl) dX8_takeGeometry_192 rfl (fun H locs S => ?_)
                  have e6 : gTB d = gTS d * 32 := rfl
                  refine lv_aload_n C0.1 C0.2.1 dX8_takeGeometry_195 rfl (lv_at hl 4 rfl) ?_
                  refine k_get C0 S (C := RX8) (T := TX8) (N := 9) (ci := 8) (by decide +kernel) 0 rfl rfl 3 (by decide) (by decide +kernel) (v := .int (iI (gN d))) rfl dX8_takeGeometry_196 ?_
                  refine lv_iconst (v := iI (1)) C0.1 C0.2.1 dX8_takeGeometry_199 rfl ?_
                  refine k_icmp_lt (tgt := 233) C0 (by constructor <;> omega) ⟨by decide, by decide⟩ dX8_takeGeometry_200 (by decide) (fun c22 => ?_) (fun c22 => ?_)
                  · refine lv_iconst (v := iI (0)) C0.1 C0.2.1 dX8_takeGeometry_233 rfl ?_
                    subst hQ
                    refine k_zret C0 S hAe hsz hr hlk (by rfl) dX8_takeGeometry_234 ?_
                    exact ⟨_, _, _, _, _, _, _, congrArg iI (bz_f (show ¬ (gOk1 d ∧ gOk2 d) by unfold gOk1 gOk2; omega)).symm, rfl, fun h => absurd h (by unfold gOk1 gOk2; omega)⟩
                  · refine lv_aload_n C0.1 C0.2.1 dX8_takeGeometry_203 rfl (lv_at hl 4 rfl) ?_
                    refine k_get C0 S (C := RX8) (T := TX8) (N := 9) (ci := 8) (by decide +kernel) 0 rfl rfl 6 (by decide) (by decide +kernel) (v := .int (iI (gTB d))) rfl dX8_takeGeometry_204 ?_
                    refine lv_iconst (v := iI (2)) C0.1 C0.2.1 dX8_takeGeometry_207 rfl ?_
                    refine lv_aload_n C0.1 C0.2.1 dX8_takeGeometry_208 rfl (lv_at hl 4 rfl) ?_
                    refine k_get C0 S (C := RX8) (T := TX8) (N := 9) (ci := 8) (by decide +kernel) 0 rfl rfl 3 (by decide) (by decide +kernel) (v := .int (iI (gN d))) rfl dX8_takeGeometry_209 ?_
                    refine lv_iconst (v := iI (2)) C0.1 C0.2.1 dX8_takeGeometry_212 rfl ?_
                    refine k_iadd C0 dX8_takeGeometry_213 ?_
                    refine k_imul C0 dX8_takeGeometry_214 ?_
                    refine k_icmp_lt (tgt := 233) C0 (by constructor <;> omega) (by constructor <;> omega) dX8_takeGeometry_215 (by decide) (fun c23 => ?_) (fun c23 => ?_)
                    · refine lv_iconst (v := iI (0)) C0.1 C0.2.1 dX8_takeGeometry_233 rfl ?_
                      subst hQ
                      refine k_zret C0 S hAe hsz hr hlk (by rfl) dX8_takeGeometry_234 ?_
                      exact ⟨_, _, _, _, _, _, _, congrArg iI (bz_f (show ¬ (gOk1 d ∧ gOk2 d) by unfold gOk1 gOk2; omega)).symm, rfl, fun h => absurd h (by unfold gOk1 gOk2; omega)⟩
                    · refine lv_aload_n C0.1 C0.2.1 dX8_takeGeometry_218 rfl (lv_at hl 4 rfl) ?_
                      refine lv_aload_n C0.1 C0.2.1 dX8_takeGeometry_219 rfl (lv_at hl 4 rfl) ?_
                      refine k_get C0 S (C := RX8) (T := TX8) (N := 9) (ci := 8) (by decide +kernel) 0 rfl rfl 2 (by decide) (by decide +kernel) (v := .int (iI (gRoot d))) rfl dX8_takeGeometry_220 ?_
                      refine k_calli (n := 1) (wr := []) C0 S (c_X8_isCluster l D cA hV hB aB (v1) (gRoot d) (gN d) (gSz d) (gT d) (gTB d) (gTA d) (gCA d) d (gRoot d) (by constructor <;> omega) (by omega) (by omega)) gX8_takeGeometry_X8_isCluster rfl ⟨rfl, rfl⟩ (by decide +kernel) ⟨Nat.le_of_ble_eq_true rfl, Nat.le_of_ble_eq_true rfl⟩ [0, 1, 2] [] rfl rfl rfl rfl (by decide) (ci := 8) (q0 := 0) rfl rfl (As := [.int (iI (gRoot d))]) rfl hl.1 rfl (Nat.le_of_ble_eq_true rfl) dX8_takeGeometry_223 ⟨Nat.zero_le _, Nat.zero_le _⟩ (fun r u H locs hp S => ?_)
                      obtain ⟨rfl, rfl⟩ := hp
                      have S := S.sub (ws' := [(hV, .inr (8, [.ref hB, .int (iI (v1)), .int (iI (gRoot d)), .int (iI (gN d)), .int (iI (gSz d)), .int (iI (gT d)), .int (iI (gTB d)), .int (iI (gTA d)), .int (iI (gCA d))])), (hB, .inr (0, [.ref aB])), (aB, .inl (cA 1, 2048, .inl (fun y_ => bI (d y_))))]) [0, 1, 2] rfl rfl
                      refine k_bz_eq (tgt := 233) C0 dX8_takeGeometry_226 (by decide) (fun c24 => ?_) (fun c24 => ?_)
                      · refine lv_iconst (v := iI (0)) C0.1 C0.2.1 dX8_takeGeometry_233 rfl ?_
                        subst hQ
                        refine k_zret C0 S hAe hsz hr hlk (by rfl) dX8_takeGeometry_234 ?_
                        exact ⟨_, _, _, _, _, _, _, congrArg iI (bz_f (show ¬ (gOk1 d ∧ gOk2 d) by unfold gOk1 gOk2; omega)).symm, rfl, fun h => absurd h (by unfold gOk1 gOk2; omega)⟩
                      · refine lv_iconst (v := iI (1)) C0.1 C0.2.1 dX8_takeGeometry_229 rfl ?_
                        refine lv_goto (tgt := 234) C0.1 C0.2.1 dX8_takeGeometry_230 (by decide) ?_
                        subst hQ
                        refine k_zret C0 S hAe hsz hr hlk (by rfl) dX8_takeGeometry_234 ?_
                        exact ⟨_, _, _, _, _, _, _, congrArg iI (bz_t (show gOk1 d ∧ gOk2 d by unfold gOk1 gOk2; omega)).symm, rfl, fun _ => ⟨rfl, rfl, rfl, rfl, rfl, rfl, rfl⟩⟩
                · refine lv_iconst (v := iI (0)) C0.1 C0.2.1 dX8_takeGeometry_132 rfl ?_
                  subst hQ
                  refine k_zret C0 S hAe hsz hr hlk (by rfl) dX8_takeGeometry_133 ?_
                  exact ⟨_, _, _, _, _, _, _, congrArg iI (bz_f (show ¬ (gOk1 d ∧ gOk2 d) by unfold gOk1 gOk2; omega)).symm, rfl, fun h => absurd h (by unfold gOk1 gOk2; omega)⟩
        · refine lv_iload_n C0.1 C0.2.1 dX8_takeGeometry_97 rfl (lv_at hl 2 rfl) ?_
          refine lv_iconst (v := iI (4)) C0.1 C0.2.1 dX8_takeGeometry_98 rfl ?_
          refine k_icmp_eq (tgt := 104) C0 (by constructor <;> omega) ⟨by decide, by decide⟩ dX8_takeGeometry_99 (by decide) (fun c25 => ?_) (fun c25 => ?_)
          · refine lv_iload C0.1 C0.2.1 dX8_takeGeometry_104 (lv_at hl 1 rfl) ?_
            refine lv_iconst (v := iI (1)) C0.1 C0.2.1 dX8_takeGeometry_106 rfl ?_
            refine k_icmp_lt (tgt := 132) C0 (by constructor <;> omega) ⟨by decide, by decide⟩ dX8_takeGeometry_107 (by decide) (fun c26 => ?_) (fun c26 => ?_)
            · refine lv_iconst (v := iI (0)) C0.1 C0.2.1 dX8_takeGeometry_132 rfl ?_
              subst hQ
              refine k_zret C0 S hAe hsz hr hlk (by rfl) dX8_takeGeometry_133 ?_
              exact ⟨_, _, _, _, _, _, _, congrArg iI (bz_f (show ¬ (gOk1 d ∧ gOk2 d) by unfold gOk1 gOk2; omega)).symm, rfl, fun h => absurd h (by unfold gOk1 gOk2; omega)⟩
            · refine lv_aload_n C0.1 C0.2.1 dX8_takeGeometry_110 rfl (lv_at hl 3 rfl) ?_
              refine k_get C0 S (C := RX8) (T := TX8) (N := 9) (ci := 8) (by decide +kernel) 0 rfl rfl 5 (by decide) (by decide +kernel) (v := .int (iI (gT d))) rfl dX8_takeGeometry_111 ?_
              refine lv_iconst (v := iI (1)) C0.1 C0.2.1 dX8_takeGeometry_114 rfl ?_
              refine k_icmp_lt (tgt := 132) C0 (by constructor <;> omega) ⟨by decide, by decide⟩ dX8_takeGeometry_115 (by decide) (fun c27 => ?_) (fun c27 => ?_)
              · refine lv_iconst (v := iI (0)) C0.1 C0.2.1 dX8_takeGeometry_132 rfl ?_
                subst hQ
                refine k_zret C0 S hAe hsz hr hlk (by rfl) dX8_takeGeometry_133 ?_
                exact ⟨_, _, _, _, _, _, _, congrArg iI (bz_f (show ¬ (gOk1 d ∧ gOk2 d) by unfold gOk1 gOk2; omega)).symm, rfl, fun h => absurd h (by unfold gOk1 gOk2; omega)⟩
              · refine lv_aload_n C0.1 C0.2.1 dX8_takeGeometry_118 rfl (lv_at hl 3 rfl) ?_
                refine k_get C0 S (C := RX8) (T := TX8) (N := 9) (ci := 8) (by decide +kernel) 0 rfl rfl 5 (by decide) (by decide +kernel) (v := .int (iI (gT d))) rfl dX8_takeGeometry_119 ?_
                refine lv_iconst (v := iI (2)) C0.1 C0.2.1 dX8_takeGeometry_122 rfl ?_
                refine k_icmp_gt (tgt := 132) C0 (by constructor <;> omega) ⟨by decide, by decide⟩ dX8_takeGeometry_123 (by decide) (fun c28 => ?_) (fun c28 => ?_)
                · refine lv_iconst (v := iI (0)) C0.1 C0.2.1 dX8_takeGeometry_132 rfl ?_
                  subst hQ
                  refine k_zret C0 S hAe hsz hr hlk (by rfl) dX8_takeGeometry_133 ?_
                  exact ⟨_, _, _, _, _, _, _, congrArg iI (bz_f (show ¬ (gOk1 d ∧ gOk2 d) by unfold gOk1 gOk2; omega)).symm, rfl, fun h => absurd h (by unfold gOk1 gOk2; omega)⟩
                · refine lv_iload C0.1 C0.2.1 dX8_takeGeometry_126 (lv_at hl 0 rfl) ?_
                  refine lv_iconst (v := iI (1)) C0.1 C0.2.1 dX8_takeGeometry_128 rfl ?_
                  refine k_icmp_ge (tgt := 134) C0 (by constructor <;> omega) ⟨by decide, by decide⟩ dX8_takeGeometry_129 (by decide) (fun c29 => ?_) (fun c29 => ?_)
                  · obtain ⟨qN, qM⟩ := gN_range hd (by omega) (by omega) (by omega)
                    refine lv_iload C0.1 C0.2.1 dX8_takeGeometry_134 (lv_at hl 1 rfl) ?_
                    refine lv_aload_n C0.1 C0.2.1 dX8_takeGeometry_136 rfl (lv_at hl 3 rfl) ?_
                    refine k_get C0 S (C := RX8) (T := TX8) (N := 9) (ci := 8) (by decide +kernel) 0 rfl rfl 5 (by decide) (by decide +kernel) (v := .int (iI (gT d))) rfl dX8_takeGeometry_137 ?_
                    refine lv_iload C0.1 C0.2.1 dX8_takeGeometry_140 (lv_at hl 0 rfl) ?_
                    refine k_imul C0 dX8_takeGeometry_142 ?_
                    refine k_iadd C0 dX8_takeGeometry_143 ?_
                    refine lv_istore (lv' := [(6, .int (iI ((gBef d) + ((gT d) * (gTS d))))), (5, .int (iI (gTS d))), (4, .int (iI (gBef d))), (3, .int (iI (gCS d))), (0, .ref hV), (1, .int (iI (gP d))), (2, .int (iI (gMany d)))]) C0.1 C0.2.1 dX8_takeGeometry_144 hl (by decide) rfl (fun ls hl => ?_)
                    refine lv_aload_n C0.1 C0.2.1 dX8_takeGeometry_146 rfl (lv_at hl 4 rfl) ?_
                    refine lv_iload_n C0.1 C0.2.1 dX8_takeGeometry_147 rfl (lv_at hl 6 rfl) ?_
                    refine lv_iload C0.1 C0.2.1 dX8_takeGeometry_148 (lv_at hl 0 rfl) ?_
                    refine k_isub C0 dX8_takeGeometry_150 ?_
                    refine lv_iload_n C0.1 C0.2.1 dX8_takeGeometry_151 rfl (lv_at hl 3 rfl) ?_
                    refine k_idiv C0 (by constructor <;> omega) (by omega) (by omega) dX8_takeGeometry_152 ?_
                    refine k_topeq (v := iI (gN d)) (rfl) ?_
                    refine k_put (ws' := [(hV, .inr (8, [.ref hB, .int (iI (v1)), .int (iI (gRoot d)), .int (iI (gN d)), .int (iI (v4)), .int (iI (gT d)), .int (iI (v6)), .int (iI (v7)), .int (iI (v8))])), (hB, .inr (0, [.ref aB])), (aB, .inl (cA 1, 2048, .inl (fun y_ => bI (d y_))))]) C0 S (C := RX8) (T := TX8) (N := 9) (ci := 8) (by decide +kernel) tyX8 tyX8_ok nmX8 0 rfl rfl 3 (by decide) (by decide +kernel) rfl (v := .int (iI (gN d))) rfl rfl (Nat.le_of_ble_eq_true rfl) dX8_takeGeometry_153 rfl (fun H locs S => ?_)
                    refine lv_aload_n C0.1 C0.2.1 dX8_takeGeometry_156 rfl (lv_at hl 4 rfl) ?_
                    refine lv_iload_n C0.1 C0.2.1 dX8_takeGeometry_157 rfl (lv_at hl 3 rfl) ?_
                    refine lv_bipush (v := iI (32)) C0.1 C0.2.1 dX8_takeGeometry_158 (by decide) ?_
                    refine k_imul C0 dX8_takeGeometry_160 ?_
                    refine k_topeq (v := iI (gSz d)) (rfl) ?_
                    refine k_put (ws' := [(hV, .inr (8, [.ref hB, .int (iI (v1)), .int (iI (gRoot d)), .int (iI (gN d)), .int (iI (gSz d)), .int (iI (gT d)), .int (iI (v6)), .int (iI (v7)), .int (iI (v8))])), (hB, .inr (0, [.ref aB])), (aB, .inl (cA 1, 2048, .inl (fun y_ => bI (d y_))))]) C0 S (C := RX8) (T := TX8) (N := 9) (ci := 8) (by decide +kernel) tyX8 tyX8_ok nmX8 0 rfl rfl 4 (by decide) (by decide +kernel) rfl (v := .int (iI (gSz d))) rfl rfl (Nat.le_of_ble_eq_true rfl) dX8_takeGeometry_161 rfl (fun H locs S => ?_)
                    refine lv_aload_n C0.1 C0.2.1 dX8_takeGeometry_164 rfl (lv_at hl 4 rfl) ?_
                    refine lv_iload C0.1 C0.2.1 dX8_takeGeometry_165 (lv_at hl 1 rfl) ?_
                    refine lv_bipush (v := iI (32)) C0.1 C0.2.1 dX8_takeGeometry_167 (by decide) ?_
                    refine k_imul C0 dX8_takeGeometry_169 ?_
                    refine k_topeq (v := iI (gTB d)) (rfl) ?_
                    refine k_put (ws' := [(hV, .inr (8, [.ref hB, .int (iI (v1)), .int (iI (gRoot d)), .int (iI (gN d)), .int (iI (gSz d)), .int (iI (gT d)), .int (iI (gTB d)), .int (iI (v7)), .int (iI (v8))])), (hB, .inr (0, [.ref aB])), (aB, .inl (cA 1, 2048, .inl (fun y_ => bI (d y_))))]) C0 S (C := RX8) (T := TX8) (N := 9) (ci := 8) (by decide +kernel) tyX8 tyX8_ok nmX8 0 rfl rfl 6 (by decide) (by decide +kernel) rfl (v := .int (iI (gTB d))) rfl rfl (Nat.le_of_ble_eq_true rfl) dX8_takeGeometry_170 rfl (fun H locs S => ?_)
                    refine lv_aload_n C0.1 C0.2.1 dX8_takeGeometry_173 rfl (lv_at hl 4 rfl) ?_
                    refine lv_iload_n C0.1 C0.2.1 dX8_takeGeometry_174 rfl (lv_at hl 5 rfl) ?_
                    refine lv_iload C0.1 C0.2.1 dX8_takeGeometry_175 (lv_at hl 2 rfl) ?_
                    refine lv_bipush (v := iI (32)) C0.1 C0.2.1 dX8_takeGeometry_177 (by decide) ?_
                    refine k_imul C0 dX8_takeGeometry_179 ?_
                    refine k_iadd C0 dX8_takeGeometry_180 ?_
                    refine k_topeq (v := iI (gTA d)) (rfl) ?_
                    refine k_put (ws' := [(hV, .inr (8, [.ref hB, .int (iI (v1)), .int (iI (gRoot d)), .int (iI (gN d)), .int (iI (gSz d)), .int (iI (gT d)), .int (iI (gTB d)), .int (iI (gTA d)), .int (iI (v8))])), (hB, .inr (0, [.ref aB])), (aB, .inl (cA 1, 2048, .inl (fun y_ => bI (d y_))))]) C0 S (C := RX8) (T := TX8) (N := 9) (ci := 8) (by decide +kernel) tyX8 tyX8_ok nmX8 0 rfl rfl 7 (by decide) (by decide +kernel) rfl (v := .int (iI (gTA d))) rfl rfl (Nat.le_of_ble_eq_true rfl) dX8_takeGeometry_181 rfl (fun H locs S => ?_)
                    refine lv_aload_n C0.1 C0.2.1 dX8_takeGeometry_184 rfl (lv_at hl 4 rfl) ?_
                    refine lv_iload_n C0.1 C0.2.1 dX8_takeGeometry_185 rfl (lv_at hl 5 rfl) ?_
                    refine lv_iload C0.1 C0.2.1 dX8_takeGeometry_186 (lv_at hl 0 rfl) ?_
                    refine lv_bipush (v := iI (32)) C0.1 C0.2.1 dX8_takeGeometry_188 (by decide) ?_
                    refine k_imul C0 dX8_takeGeometry_190 ?_
                    refine k_iadd C0 dX8_takeGeometry_191 ?_
                    refine k_topeq (v := iI (gCA d)) (rfl) ?_
                    refine k_put (ws' := [(hV, .inr (8, [.ref hB, .int (iI (v1)), .int (iI (gRoot d)), .int (iI (gN d)), .int (iI (gSz d)), .int (iI (gT d)), .int (iI (gTB d)), .int (iI (gTA d)), .int (iI (gCA d))])), (hB, .inr (0, [.ref aB])), (aB, .inl (cA 1, 2048, .inl (fun y_ => bI (d y_))))]) C0 S (C := RX8) (T := TX8) (N := 9) (ci := 8) (by decide +kernel) tyX8 tyX8_ok nmX8 0 rfl rfl 8 (by decide) (by decide +kernel) rfl (v := .int (iI (gCA d))) rfl rfl (Nat.le_of_ble_eq_true rfl) dX8_takeGeometry_192 rfl (fun H locs S => ?_)
                    have e6 : gTB d = gTS d * 32 := rfl
                    refine lv_aload_n C0.1 C0.2.1 dX8_takeGeometry_195 rfl (lv_at hl 4 rfl) ?_
                    refine k_get C0 S (C := RX8) (T := TX8) (N := 9) (ci := 8) (by decide +kernel) 0 rfl rfl 3 (by decide) (by decide +kernel) (v := .int (iI (gN d))) rfl dX8_takeGeometry_196 ?_
                    refine lv_iconst (v := iI (1)) C0.1 C0.2.1 dX8_takeGeometry_199 rfl ?_
                    refine k_icmp_lt (tgt := 233) C0 (by constructor <;> omega) ⟨by decide, by decide⟩ dX8_takeGeometry_200 (by decide) (fun c30 => ?_) (fun c30 => ?_)
                    · refine lv_iconst (v := iI (0)) C0.1 C0.2.1 dX8_takeGeometry_233 rfl ?_
                      subst hQ
                      refine k_zret C0 S hAe hsz hr hlk (by rfl) dX8_takeGeometry_234 ?_
                      exact ⟨_, _, _, _, _, _, _, congrArg iI (bz_f (show ¬ (gOk1 d ∧ gOk2 d) by unfold gOk1 gOk2; omega)).symm, rfl, fun h => absurd h (by unfold gOk1 gOk2; omega)⟩
                    · refine lv_aload_n C0.1 C0.2.1 dX8_takeGeometry_203 rfl (lv_at hl 4 rfl) ?_
                      refine k_get C0 S (C := RX8) (T := TX8) (N := 9) (ci := 8) (by decide +kernel) 0 rfl rfl 6 (by decide) (by decide +kernel) (v := .int (iI (gTB d))) rfl dX8_takeGeometry_204 ?_
                      refine lv_iconst (v := iI (2)) C0.1 C0.2.1 dX8_takeGeometry_207 rfl ?_
                      refine lv_aload_n C0.1 C0.2.1 dX8_takeGeometry_208 rfl (lv_at hl 4 rfl) ?_
                      refine k_get C0 S (C := RX8) (T := TX8) (N := 9) (ci := 8) (by decide +kernel) 0 rfl rfl 3 (by decide) (by decide +kernel) (v := .int (iI (gN d))) rfl dX8_takeGeometry_209 ?_
                      refine lv_iconst (v := iI (2)) C0.1 C0.2.1 dX8_takeGeometry_212 rfl ?_
                      refine k_iadd C0 dX8_takeGeometry_213 ?_
                      refine k_imul C0 dX8_takeGeometry_214 ?_
                      refine k_icmp_lt (tgt := 233) C0 (by constructor <;> omega) (by constructor <;> omega) dX8_takeGeometry_215 (by decide) (fun c31 => ?_) (fun c31 => ?_)
                      · refine lv_iconst (v := iI (0)) C0.1 C0.2.1 dX8_takeGeometry_233 rfl ?_
                        subst hQ
                        refine k_zret C0 S hAe hsz hr hlk (by rfl) dX8_takeGeometry_234 ?_
                        exact ⟨_, _, _, _, _, _, _, congrArg iI (bz_f (show ¬ (gOk1 d ∧ gOk2 d) by unfold gOk1 gOk2; omega)).symm, rfl, fun h => absurd h (by unfold gOk1 gOk2; omega)⟩
                      · refine lv_aload_n C0.1 C0.2.1 dX8_takeGeometry_218 rfl (lv_at hl 4 rfl) ?_
                        refine lv_aload_n C0.1 C0.2.1 dX8_takeGeometry_219 rfl (lv_at hl 4 rfl) ?_
                        refine k_get C0 S (C := RX8) (T := TX8) (N := 9) (ci := 8) (by decide +kernel) 0 rfl rfl 2 (by decide) (by decide +kernel) (v := .int (iI (gRoot d))) rfl dX8_takeGeometry_220 ?_
                        refine k_calli (n := 1) (wr := []) C0 S (c_X8_isCluster l D cA hV hB aB (v1) (gRoot d) (gN d) (gSz d) (gT d) (gTB d) (gTA d) (gCA d) d (gRoot d) (by constructor <;> omega) (by omega) (by omega)) gX8_takeGeometry_X8_isCluster rfl ⟨rfl, rfl⟩ (by decide +kernel) ⟨Nat.le_of_ble_eq_true rfl, Nat.le_of_ble_eq_true rfl⟩ [0, 1, 2] [] rfl rfl rfl rfl (by decide) (ci := 8) (q0 := 0) rfl rfl (As := [.int (iI (gRoot d))]) rfl hl.1 rfl (Nat.le_of_ble_eq_true rfl) dX8_takeGeometry_223 ⟨Nat.zero_le _, Nat.zero_le _⟩ (fun r u H locs hp S => ?_)
                        obtain ⟨rfl, rfl⟩ := hp
                        have S := S.sub (ws' := [(hV, .inr (8, [.ref hB, .int (iI (v1)), .int (iI (gRoot d)), .int (iI (gN d)), .int (iI (gSz d)), .int (iI (gT d)), .int (iI (gTB d)), .int (iI (gTA d)), .int (iI (gCA d))])), (hB, .inr (0, [.ref aB])), (aB, .inl (cA 1, 2048, .inl (fun y_ => bI (d y_))))]) [0, 1, 2] rfl rfl
                        refine k_bz_eq (tgt := 233) C0 dX8_takeGeometry_226 (by decide) (fun c32 => ?_) (fun c32 => ?_)
                        · refine lv_iconst (v := iI (0)) C0.1 C0.2.1 dX8_takeGeometry_233 rfl ?_
                          subst hQ
                          refine k_zret C0 S hAe hsz hr hlk (by rfl) dX8_takeGeometry_234 ?_
                          exact ⟨_, _, _, _, _, _, _, congrArg iI (bz_f (show ¬ (gOk1 d ∧ gOk2 d) by unfold gOk1 gOk2; omega)).symm, rfl, fun h => absurd h (by unfold gOk1 gOk2; omega)⟩
                        · refine lv_iconst (v := iI (1)) C0.1 C0.2.1 dX8_takeGeometry_229 rfl ?_
                          refine lv_goto (tgt := 234) C0.1 C0.2.1 dX8_takeGeometry_230 (by decide) ?_
                          subst hQ
                          refine k_zret C0 S hAe hsz hr hlk (by rfl) dX8_takeGeometry_234 ?_
                          exact ⟨_, _, _, _, _, _, _, congrArg iI (bz_t (show gOk1 d ∧ gOk2 d by unfold gOk1 gOk2; omega)).symm, rfl, fun _ => ⟨rfl, rfl, rfl, rfl, rfl, rfl, rfl⟩⟩
                  · refine lv_iconst (v := iI (0)) C0.1 C0.2.1 dX8_takeGeometry_132 rfl ?_
                    subst hQ
                    refine k_zret C0 S hAe hsz hr hlk (by rfl) dX8_takeGeometry_133 ?_
                    exact ⟨_, _, _, _, _, _, _, congrArg iI (bz_f (show ¬ (gOk1 d ∧ gOk2 d) by unfold gOk1 gOk2; omega)).symm, rfl, fun h => absurd h (by unfold gOk1 gOk2; omega)⟩
          · refine lv_iconst (v := iI (0)) C0.1 C0.2.1 dX8_takeGeometry_102 rfl ?_
            subst hQ
            refine k_zret C0 S hAe hsz hr hlk (by rfl) dX8_takeGeometry_103 ?_
            exact ⟨_, _, _, _, _, _, _, congrArg iI (bz_f (show ¬ (gOk1 d ∧ gOk2 d) by unfold gOk1 gOk2; omega)).symm, rfl, fun h => absurd h (by unfold gOk1 gOk2; omega)⟩
    · refine lv_iconst (v := iI (0)) C0.1 C0.2.1 dX8_takeGeometry_85 rfl ?_
      subst hQ
      refine k_zret C0 S hAe hsz hr hlk (by rfl) dX8_takeGeometry_86 ?_
      exact ⟨_, _, _, _, _, _, _, congrArg iI (bz_f (show ¬ (gOk1 d ∧ gOk2 d) by unfold gOk1 gOk2; omega)).symm, rfl, fun h => absurd h (by unfold gOk1 gOk2; omega)⟩
theorem vol_2 {d : Nat → Int} (h : ¬ gSig d) : vol d = -2 := by
  classical
  unfold vol; rw [if_neg h]
theorem vol_3 {d : Nat → Int} (h : gSig d) (h2 : chs d < 0) : vol d = -3 := by
  classical
  unfold vol; rw [if_pos h, if_pos h2]
theorem vol_4 {d : Nat → Int} (h : gSig d) (h2 : ¬ chs d < 0) (h3 : ¬ (gOk1 d ∧ gOk2 d)) : vol d = -4 := by
  classical
  unfold vol; rw [if_pos h, if_neg h2, if_neg h3]
def rmX8_mount : Room := { frames := 3, cells := 0, slots := 0, locals := 68 }
set_option maxHeartbeats 4000000 in
set_option maxRecDepth 100000 in
theorem c_X8_mount (l : Launch) (D : va_G) (cA : Nat → ClassId) (hV hB aB : Nat) (v1 v2 v3 v4 v5 v6 v7 v8 : Int) (d : Nat → Int) (hd : By d) : kCi l D vwCl (kTys cA) yX8_mount wsX8_mount rmX8_mount [.ref hV] [(hV, .inr (8, [.ref hB, .int (iI (v1)), .int (iI (v2)), .int (iI (v3)), .int (iI (v4)), .int (iI (v5)), .int (iI (v6)), .int (iI (v7)), .int (iI (v8))])), (hB, .inr (0, [.ref aB])), (aB, .inl (cA 1, 2048, .inl (fun y_ => bI (d y_))))] (fun r u => ∃ x1 x2 x3 x4 x5 x6 x7 x8 : Int, r = iI (vol d) ∧ u = [(hV, .inr (8, [.ref hB, .int (iI (x1)), .int (iI (x2)), .int (iI (x3)), .int (iI (x4)), .int (iI (x5)), .int (iI (x6)), .int (iI (x7)), .int (iI (x8))])), (hB, .inr (0, [.ref aB])), (aB, .inl (cA 1, 2048, .inl (fun y_ => bI (d y_))))] ∧ (0 ≤ vol d → x1 = chs d ∧ x2 = gRoot d ∧ x3 = gN d ∧ x4 = gSz d ∧ x5 = gT d ∧ x6 = gTB d ∧ x7 = gTA d ∧ x8 = gCA d)) := by
  intro sz
  refine kEntry (cc := cX8_mount) (maxL := 2) (ret := (some .int)) (by decide) rfl (Nat.le_of_ble_eq_true rfl) ?_
  intro p e s m args below meth c A Q hAe hQ C0 hr hlk S hsz ls hl
  have hl : lv_has ls 2 [(0, .ref hV)] := hl
  refine lv_aload_n C0.1 C0.2.1 dX8_mount_0 rfl (lv_at hl 0 rfl) ?_
  refine lv_iconst (v := iI (0)) C0.1 C0.2.1 dX8_mount_1 rfl ?_
  refine k_calli (n := 1) (wr := []) C0 S (c_X8_isSigned l D cA hV hB aB (v1) (v2) (v3) (v4) (v5) (v6) (v7) (v8) d (0) hd (by omega) (by omega)) gX8_mount_X8_isSigned rfl ⟨rfl, rfl⟩ (by decide +kernel) ⟨Nat.le_of_ble_eq_true rfl, Nat.le_of_ble_eq_true rfl⟩ [0, 1, 2] [] rfl rfl rfl rfl (by decide) (ci := 8) (q0 := 0) rfl rfl (As := [.int (iI (0))]) rfl hl.1 rfl (Nat.le_of_ble_eq_true rfl) dX8_mount_2 ⟨Nat.zero_le _, Nat.zero_le _⟩ (fun r u H locs hp S => ?_)
  obtain ⟨rfl, rfl⟩ := hp
  have S := S.sub (ws' := [(hV, .inr (8, [.ref hB, .int (iI (v1)), .int (iI (v2)), .int (iI (v3)), .int (iI (v4)), .int (iI (v5)), .int (iI (v6)), .int (iI (v7)), .int (iI (v8))])), (hB, .inr (0, [.ref aB])), (aB, .inl (cA 1, 2048, .inl (fun y_ => bI (d y_))))]) [0, 1, 2] rfl rfl
  refine k_bz_ne (tgt := 11) C0 dX8_mount_5 (by decide) (fun c5 => ?_) (fun c5 => ?_)
  · have c5 : gSig d := c5
    refine lv_aload_n C0.1 C0.2.1 dX8_mount_11 rfl (lv_at hl 0 rfl) ?_
    refine lv_aload_n C0.1 C0.2.1 dX8_mount_12 rfl (lv_at hl 0 rfl) ?_
    refine k_calli (n := 0) (wr := []) C0 S (c_X8_choosePartition l D cA hV hB aB (v1) (v2) (v3) (v4) (v5) (v6) (v7) (v8) d hd) gX8_mount_X8_choosePartition rfl ⟨rfl, rfl⟩ (by decide +kernel) ⟨Nat.le_of_ble_eq_true rfl, Nat.le_of_ble_eq_true rfl⟩ [0, 1, 2] [] rfl rfl rfl rfl (by decide) (ci := 8) (q0 := 0) rfl rfl (As := []) rfl hl.1 rfl (Nat.le_of_ble_eq_true rfl) dX8_mount_13 ⟨Nat.zero_le _, Nat.zero_le _⟩ (fun r u H locs hp S => ?_)
    obtain ⟨rfl, rfl⟩ := hp
    have S := S.sub (ws' := [(hV, .inr (8, [.ref hB, .int (iI (v1)), .int (iI (v2)), .int (iI (v3)), .int (iI (v4)), .int (iI (v5)), .int (iI (v6)), .int (iI (v7)), .int (iI (v8))])), (hB, .inr (0, [.ref aB])), (aB, .inl (cA 1, 2048, .inl (fun y_ => bI (d y_))))]) [0, 1, 2] rfl rfl
    have hcc := chs_cases d
    refine k_put (ws' := [(hV, .inr (8, [.ref hB, .int (iI (chs d)), .int (iI (v2)), .int (iI (v3)), .int (iI (v4)), .int (iI (v5)), .int (iI (v6)), .int (iI (v7)), .int (iI (v8))])), (hB, .inr (0, [.ref aB])), (aB, .inl (cA 1, 2048, .inl (fun y_ => bI (d y_))))]) C0 S (C := RX8) (T := TX8) (N := 9) (ci := 8) (by decide +kernel) tyX8 tyX8_ok nmX8 0 rfl rfl 1 (by decide) (by decide +kernel) rfl (v := .int (iI (chs d))) rfl rfl (Nat.le_of_ble_eq_true rfl) dX8_mount_16 rfl (fun H locs S => ?_)
    refine lv_aload_n C0.1 C0.2.1 dX8_mount_19 rfl (lv_at hl 0 rfl) ?_
    refine k_get C0 S (C := RX8) (T := TX8) (N := 9) (ci := 8) (by decide +kernel) 0 rfl rfl 1 (by decide) (by decide +kernel) (v := .int (iI (chs d))) rfl dX8_mount_20 ?_
    refine k_if_ge (tgt := 29) C0 (by constructor <;> omega) dX8_mount_23 (by decide) (fun c1 => ?_) (fun c1 => ?_)
    · refine lv_aload_n C0.1 C0.2.1 dX8_mount_29 rfl (lv_at hl 0 rfl) ?_
      refine lv_aload_n C0.1 C0.2.1 dX8_mount_30 rfl (lv_at hl 0 rfl) ?_
      refine k_get C0 S (C := RX8) (T := TX8) (N := 9) (ci := 8) (by decide +kernel) 0 rfl rfl 1 (by decide) (by decide +kernel) (v := .int (iI (chs d))) rfl dX8_mount_31 ?_
      refine k_calli (n := 1) (wr := []) C0 S (c_X8_placeOfRecord l D cA hV hB aB (chs d) (v2) (v3) (v4) (v5) (v6) (v7) (v8) d (chs d)) gX8_mount_X8_placeOfRecord rfl ⟨rfl, rfl⟩ (by decide +kernel) ⟨Nat.le_of_ble_eq_true rfl, Nat.le_of_ble_eq_true rfl⟩ [0, 1, 2] [] rfl rfl rfl rfl (by decide) (ci := 8) (q0 := 0) rfl rfl (As := [.int (iI (chs d))]) rfl hl.1 rfl (Nat.le_of_ble_eq_true rfl) dX8_mount_34 ⟨Nat.zero_le _, Nat.zero_le _⟩ (fun r u H locs hp S => ?_)
      obtain ⟨rfl, rfl⟩ := hp
      have S := S.sub (ws' := [(hV, .inr (8, [.ref hB, .int (iI (chs d)), .int (iI (v2)), .int (iI (v3)), .int (iI (v4)), .int (iI (v5)), .int (iI (v6)), .int (iI (v7)), .int (iI (v8))])), (hB, .inr (0, [.ref aB])), (aB, .inl (cA 1, 2048, .inl (fun y_ => bI (d y_))))]) [0, 1, 2] rfl rfl
      refine lv_istore_n (lv' := [(1, .int (iI (6 + 8 * (chs d)))), (0, .ref hV)]) C0.1 C0.2.1 dX8_mount_37 rfl hl (by decide) rfl (fun ls hl => ?_)
      refine lv_aload_n C0.1 C0.2.1 dX8_mount_38 rfl (lv_at hl 1 rfl) ?_
      refine lv_aload_n C0.1 C0.2.1 dX8_mount_39 rfl (lv_at hl 1 rfl) ?_
      refine k_get C0 S (C := RX8) (T := TX8) (N := 9) (ci := 8) (by decide +kernel) 0 rfl rfl 0 (by decide) (by decide +kernel) (v := .ref hB) rfl dX8_mount_40 ?_
      refine lv_iload_n C0.1 C0.2.1 dX8_mount_43 rfl (lv_at hl 0 rfl) ?_
      refine lv_iconst (v := iI (2)) C0.1 C0.2.1 dX8_mount_44 rfl ?_
      refine k_iadd C0 dX8_mount_45 ?_
      refine k_calli (n := 1) (wr := [(hV, .inr (8, [.ref hB, .int (iI (chs d)), .int (iI (v2)), .int (iI (v3)), .int (iI (v4)), .int (iI (v5)), .int (iI (v6)), .int (iI (v7)), .int (iI (v8))]))]) C0 S (c_X0_byteAt l D cA hB aB 2048 d ((6 + 8 * (chs d)) + 2) hd (by constructor <;> omega) (by omega)) gX8_mount_X0_byteAt rfl ⟨rfl, rfl⟩ (by decide +kernel) ⟨Nat.le_of_ble_eq_true rfl, Nat.le_of_ble_eq_true rfl⟩ [1, 2] [0] rfl rfl rfl rfl (by decide) (ci := 0) (q0 := 0) rfl rfl (As := [.int (iI ((6 + 8 * (chs d)) + 2))]) rfl hl.1 rfl (Nat.le_of_ble_eq_true rfl) dX8_mount_46 ⟨Nat.zero_le _, Nat.zero_le _⟩ (fun r u H locs hp S => ?_)
      obtain ⟨rfl, rfl⟩ := hp
      have S := S.sub (ws' := [(hV, .inr (8, [.ref hB, .int (iI (chs d)), .int (iI (v2)), .int (iI (v3)), .int (iI (v4)), .int (iI (v5)), .int (iI (v6)), .int (iI (v7)), .int (iI (v8))])), (hB, .inr (0, [.ref aB])), (aB, .inl (cA 1, 2048, .inl (fun y_ => bI (d y_))))]) [0, 1, 2] rfl rfl
      rw [bAt_in (n := 2048) (z := (6 + 8 * (chs d)) + 2) (by omega) (by omega)]
      have hb2 := By.rd hd ((6 + 8 * (chs d)) + 2)
      refine lv_bipush (v := iI (32)) C0.1 C0.2.1 dX8_mount_49 (by decide) ?_
      refine k_imul C0 dX8_mount_51 ?_
      refine k_topeq (v := iI (gP d)) (rfl) ?_
      refine lv_aload_n C0.1 C0.2.1 dX8_mount_52 rfl (lv_at hl 1 rfl) ?_
      refine k_get C0 S (C := RX8) (T := TX8) (N := 9) (ci := 8) (by decide +kernel) 0 rfl rfl 0 (by decide) (by decide +kernel) (v := .ref hB) rfl dX8_mount_53 ?_
      refine lv_iload_n C0.1 C0.2.1 dX8_mount_56 rfl (lv_at hl 0 rfl) ?_
      refine lv_iconst (v := iI (3)) C0.1 C0.2.1 dX8_mount_57 rfl ?_
      refine k_iadd C0 dX8_mount_58 ?_
      refine k_calli (n := 1) (wr := [(hV, .inr (8, [.ref hB, .int (iI (chs d)), .int (iI (v2)), .int (iI (v3)), .int (iI (v4)), .int (iI (v5)), .int (iI (v6)), .int (iI (v7)), .int (iI (v8))]))]) C0 S (c_X0_byteAt l D cA hB aB 2048 d ((6 + 8 * (chs d)) + 3) hd (by constructor <;> omega) (by omega)) gX8_mount_X0_byteAt rfl ⟨rfl, rfl⟩ (by decide +kernel) ⟨Nat.le_of_ble_eq_true rfl, Nat.le_of_ble_eq_true rfl⟩ [1, 2] [0] rfl rfl rfl rfl (by decide) (ci := 0) (q0 := 0) rfl rfl (As := [.int (iI ((6 + 8 * (chs d)) + 3))]) rfl hl.1 rfl (Nat.le_of_ble_eq_true rfl) dX8_mount_59 ⟨Nat.zero_le _, Nat.zero_le _⟩ (fun r u H locs hp S => ?_)
      obtain ⟨rfl, rfl⟩ := hp
      have S := S.sub (ws' := [(hV, .inr (8, [.ref hB, .int (iI (chs d)), .int (iI (v2)), .int (iI (v3)), .int (iI (v4)), .int (iI (v5)), .int (iI (v6)), .int (iI (v7)), .int (iI (v8))])), (hB, .inr (0, [.ref aB])), (aB, .inl (cA 1, 2048, .inl (fun y_ => bI (d y_))))]) [0, 1, 2] rfl rfl
      rw [bAt_in (n := 2048) (z := (6 + 8 * (chs d)) + 3) (by omega) (by omega)]
      have hb3 := By.rd hd ((6 + 8 * (chs d)) + 3)
      refine k_topeq (v := iI (gMany d)) (rfl) ?_
      refine k_calli (n := 2) (wr := []) C0 S (c_X8_takeGeometry l D cA hV hB aB (chs d) (v2) (v3) (v4) (v5) (v6) (v7) (v8) d hd (by omega)) gX8_mount_X8_takeGeometry rfl ⟨rfl, rfl⟩ (by decide +kernel) ⟨Nat.le_of_ble_eq_true rfl, Nat.le_of_ble_eq_true rfl⟩ [0, 1, 2] [] rfl rfl rfl rfl (by decide) (ci := 8) (q0 := 0) rfl rfl (As := [.int (iI (gP d)), .int (iI (gMany d))]) rfl hl.1 rfl (Nat.le_of_ble_eq_true rfl) dX8_mount_62 ⟨Nat.zero_le _, Nat.zero_le _⟩ (fun r u H locs hp S => ?_)
      obtain ⟨x4, x5, x6, x7, x8, x9, x10, rfl, rfl, hgeo⟩ := hp
      have S := S.sub (ws' := [(hV, .inr (8, [.ref hB, .int (iI (chs d)), .int (iI (x4)), .int (iI (x5)), .int (iI (x6)), .int (iI (x7)), .int (iI (x8)), .int (iI (x9)), .int (iI (x10))])), (hB, .inr (0, [.ref aB])), (aB, .inl (cA 1, 2048, .inl (fun y_ => bI (d y_))))]) [0, 1, 2] rfl rfl
      refine k_bz_eq (tgt := 75) C0 dX8_mount_65 (by decide) (fun c11 => ?_) (fun c11 => ?_)
      · refine lv_bipush (v := iI (-4)) C0.1 C0.2.1 dX8_mount_75 (by decide) ?_
        subst hQ
        refine k_iret C0 S hAe hsz hr hlk dX8_mount_77 ?_
        exact ⟨_, _, _, _, _, _, _, _, congrArg iI (vol_4 c5 (by omega) c11).symm, rfl, fun h => absurd h (by rw [vol_4 c5 (by omega) c11]; decide)⟩
      · refine lv_aload_n C0.1 C0.2.1 dX8_mount_68 rfl (lv_at hl 1 rfl) ?_
        refine k_get C0 S (C := RX8) (T := TX8) (N := 9) (ci := 8) (by decide +kernel) 0 rfl rfl 3 (by decide) (by decide +kernel) (v := .int (iI (x5))) rfl dX8_mount_69 ?_
        refine lv_goto (tgt := 77) C0.1 C0.2.1 dX8_mount_72 (by decide) ?_
        subst hQ
        refine k_iret C0 S hAe hsz hr hlk dX8_mount_77 ?_
        obtain ⟨e2, e3, e4, e5, e6, e7, e8⟩ := hgeo c11
        have hG : Good d := ⟨c5, by omega, c11.1, c11.2⟩
        exact ⟨_, _, _, _, _, _, _, _, congrArg iI (e3.trans (vol_of_good hG).symm), rfl, fun _ => ⟨rfl, e2, e3, e4, e5, e6, e7, e8⟩⟩
    · refine lv_bipush (v := iI (-3)) C0.1 C0.2.1 dX8_mount_26 (by decide) ?_
      subst hQ
      refine k_iret C0 S hAe hsz hr hlk dX8_mount_28 ?_
      exact ⟨_, _, _, _, _, _, _, _, congrArg iI (vol_3 c5 (by omega)).symm, rfl, fun h => absurd h (by rw [vol_3 c5 (by omega)]; decide)⟩
  · have c5 : ¬ gSig d := c5
    refine lv_bipush (v := iI (-2)) C0.1 C0.2.1 dX8_mount_8 (by decide) ?_
    subst hQ
    refine k_iret C0 S hAe hsz hr hlk dX8_mount_10 ?_
    exact ⟨_, _, _, _, _, _, _, _, congrArg iI (vol_2 c5).symm, rfl, fun h => absurd h (by rw [vol_2 c5]; decide)⟩
