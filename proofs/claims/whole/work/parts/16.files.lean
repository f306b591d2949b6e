def rmX5_isNameAt : Room := { frames := 1, cells := 0, slots := 0, locals := 21 }
set_option maxHeartbeats 4000000 in
set_option maxRecDepth 100000 in
theorem c_X5_isNameAt (l : Launch) (D : va_G) (cA : Nat → ClassId) (hP aL hB aB : Nat) (v1 : Int) (L d : Nat → Int) (k : Nat) (a : Int) (hd : By d) (hL : By16 L) (hk : k ≤ 3) (ha0 : 0 ≤ a) (ha1 : a + 8 ≤ 2048) : kCi l D vwCl (kTys cA) yX5_isNameAt wsX5_isNameAt rmX5_isNameAt [.ref hP, .int (iI ((k : Int))), .ref hB, .int (iI (a))] [(hP, .inr (5, [.ref aL, .int (iI (v1))])), (aL, .inl (cA 0, 16, .inl (fun y_ => iI (L y_)))), (hB, .inr (0, [.ref aB])), (aB, .inl (cA 1, 2048, .inl (fun y_ => bI (d y_))))] (fun r u => r = iI (bz (n4 d a = lkey L k)) ∧ u = [(hP, .inr (5, [.ref aL, .int (iI (v1))])), (aL, .inl (cA 0, 16, .inl (fun y_ => iI (L y_)))), (hB, .inr (0, [.ref aB])), (aB, .inl (cA 1, 2048, .inl (fun y_ => bI (d y_))))]) := by
  intro sz
  refine kEntry (cc := cX5_isNameAt) (maxL := 5) (ret := (some .boolean)) (by decide) rfl (Nat.le_of_ble_eq_true rfl) ?_
  intro p e s m args below meth c A Q hAe hQ C0 hr hlk S hsz ls hl
  have hl : lv_has ls 5 [(0, .ref hP), (1, .int (iI ((k : Int)))), (2, .ref hB), (3, .int (iI (a)))] := hl
  have l0 := hL (4 * k) (by omega)
  have l1 := hL (4 * k + 1) (by omega)
  have l2 := hL (4 * k + 2) (by omega)
  have l3 := hL (4 * k + 3) (by omega)
  have b0 := hd.rd a
  have b1 := hd.rd (a + 1)
  have b2 := hd.rd (a + 2)
  have b3 := hd.rd (a + 3)
  refine lv_iconst (v := iI (0)) C0.1 C0.2.1 dX5_isNameAt_0 rfl ?_
  refine lv_istore (lv' := [(4, .int (iI (0))), (0, .ref hP), (1, .int (iI ((k : Int)))), (2, .ref hB), (3, .int (iI (a)))]) C0.1 C0.2.1 dX5_isNameAt_1 hl (by decide) rfl (fun ls hl => ?_)
  refine lv_iload C0.1 C0.2.1 dX5_isNameAt_3 (lv_at hl 0 rfl) ?_
  refine lv_iconst (v := iI (4)) C0.1 C0.2.1 dX5_isNameAt_5 rfl ?_
  refine k_icmp_ge (tgt := 39) C0 ⟨by decide, by decide⟩ ⟨by decide, by decide⟩ dX5_isNameAt_6 (by decide) (fun hc => absurd hc (by decide)) (fun _ => ?_)
  refine lv_aload_n C0.1 C0.2.1 dX5_isNameAt_9 rfl (lv_at hl 3 rfl) ?_
  refine lv_iload_n C0.1 C0.2.1 dX5_isNameAt_10 rfl (lv_at hl 4 rfl) ?_
  refine lv_iload C0.1 C0.2.1 dX5_isNameAt_11 (lv_at hl 0 rfl) ?_
  refine k_iadd C0 dX5_isNameAt_13 ?_
  refine k_calli (n := 1) (wr := [(hP, .inr (5, [.ref aL, .int (iI (v1))])), (aL, .inl (cA 0, 16, .inl (fun y_ => iI (L y_))))]) C0 S (c_X0_byteAt l D cA hB aB 2048 d (a + 0) hd (by constructor <;> omega) (by omega)) gX5_isNameAt_X0_byteAt rfl ⟨rfl, rfl⟩ (by decide +kernel) ⟨Nat.le_of_ble_eq_true rfl, Nat.le_of_ble_eq_true rfl⟩ [2, 3] [0, 1] rfl rfl rfl rfl (by decide) (ci := 0) (q0 := 0) rfl rfl (As := [.int (iI (a + 0))]) rfl hl.1 rfl (Nat.le_of_ble_eq_true rfl) dX5_isNameAt_14 ⟨Nat.zero_le _, Nat.zero_le _⟩ (fun r u H locs hp S => ?_)
  obtain ⟨rfl, rfl⟩ := hp
  have S := S.sub (ws' := [(hP, .inr (5, [.ref aL, .int (iI (v1))])), (aL, .inl (cA 0, 16, .inl (fun y_ => iI (L y_)))), (hB, .inr (0, [.ref aB])), (aB, .inl (cA 1, 2048, .inl (fun y_ => bI (d y_))))]) [0, 1, 2, 3] rfl rfl
  rw [bAt_in (n := 2048) (z := a + 0) (by omega) (by omega)]
  have hb1 := By.rd hd (a + 0)
  refine k_topeq (v := iI (rd d a)) (by rw [Int.add_zero]) ?_
  refine lv_aload_n C0.1 C0.2.1 dX5_isNameAt_17 rfl (lv_at hl 1 rfl) ?_
  refine k_get C0 S (C := RX5) (T := TX5) (N := 2) (ci := 5) (by decide +kernel) 0 rfl rfl 0 (by decide) (by decide +kernel) (v := .ref aL) rfl dX5_isNameAt_18 ?_
  refine lv_iload_n C0.1 C0.2.1 dX5_isNameAt_21 rfl (lv_at hl 2 rfl) ?_
  refine lv_iconst (v := iI (4)) C0.1 C0.2.1 dX5_isNameAt_22 rfl ?_
  refine k_imul C0 dX5_isNameAt_23 ?_
  refine lv_iload C0.1 C0.2.1 dX5_isNameAt_24 (lv_at hl 0 rfl) ?_
  refine k_iadd C0 dX5_isNameAt_26 ?_
  refine k_iald C0 S 1 0 rfl rfl (z := (((k : Int)) * 4) + 0) (by omega) (by omega) (by omega) dX5_isNameAt_27 ?_
  refine k_topeq (v := iI (L (4 * k))) (by rw [show ((k : Int) * 4 + 0).toNat = 4 * k by omega]) ?_
  refine k_icmp_eq (tgt := 33) C0 (by constructor <;> omega) (by constructor <;> omega) dX5_isNameAt_28 (by decide) (fun c2 => ?_) (fun c2 => ?_)
  · refine lv_iinc (v := iI (1)) (lv' := [(4, .int (iI (1))), (0, .ref hP), (1, .int (iI ((k : Int)))), (2, .ref hB), (3, .int (iI (a)))]) C0.1 C0.2.1 dX5_isNameAt_33 hl (k := 0) rfl (by decide) (by decide) rfl (fun ls hl => ?_)
    refine lv_goto (tgt := 3) C0.1 C0.2.1 dX5_isNameAt_36 (by decide) ?_
    refine lv_iload C0.1 C0.2.1 dX5_isNameAt_3 (lv_at hl 0 rfl) ?_
    refine lv_iconst (v := iI (4)) C0.1 C0.2.1 dX5_isNameAt_5 rfl ?_
    refine k_icmp_ge (tgt := 39) C0 ⟨by decide, by decide⟩ ⟨by decide, by decide⟩ dX5_isNameAt_6 (by decide) (fun hc => absurd hc (by decide)) (fun _ => ?_)
    refine lv_aload_n C0.1 C0.2.1 dX5_isNameAt_9 rfl (lv_at hl 3 rfl) ?_
    refine lv_iload_n C0.1 C0.2.1 dX5_isNameAt_10 rfl (lv_at hl 4 rfl) ?_
    refine lv_iload C0.1 C0.2.1 dX5_isNameAt_11 (lv_at hl 0 rfl) ?_
    refine k_iadd C0 dX5_isNameAt_13 ?_
    refine k_calli (n := 1) (wr := [(hP, .inr (5, [.ref aL, .int (iI (v1))])), (aL, .inl (cA 0, 16, .inl (fun y_ => iI (L y_))))]) C0 S (c_X0_byteAt l D cA hB aB 2048 d (a + 1) hd (by constructor <;> omega) (by omega)) gX5_isNameAt_X0_byteAt rfl ⟨rfl, rfl⟩ (by decide +kernel) ⟨Nat.le_of_ble_eq_true rfl, Nat.le_of_ble_eq_true rfl⟩ [2, 3] [0, 1] rfl rfl rfl rfl (by decide) (ci := 0) (q0 := 0) rfl rfl (As := [.int (iI (a + 1))]) rfl hl.1 rfl (Nat.le_of_ble_eq_true rfl) dX5_isNameAt_14 ⟨Nat.zero_le _, Nat.zero_le _⟩ (fun r u H locs hp S => ?_)
    obtain ⟨rfl, rfl⟩ := hp
    have S := S.sub (ws' := [(hP, .inr (5, [.ref aL, .int (iI (v1))])), (aL, .inl (cA 0, 16, .inl (fun y_ => iI (L y_)))), (hB, .inr (0, [.ref aB])), (aB, .inl (cA 1, 2048, .inl (fun y_ => bI (d y_))))]) [0, 1, 2, 3] rfl rfl
    rw [bAt_in (n := 2048) (z := a + 1) (by omega) (by omega)]
    have hb3 := By.rd hd (a + 1)
    refine k_topeq (v := iI (rd d (a + 1))) (rfl) ?_
    refine lv_aload_n C0.1 C0.2.1 dX5_isNameAt_17 rfl (lv_at hl 1 rfl) ?_
    refine k_get C0 S (C := RX5) (T := TX5) (N := 2) (ci := 5) (by decide +kernel) 0 rfl rfl 0 (by decide) (by decide +kernel) (v := .ref aL) rfl dX5_isNameAt_18 ?_
    refine lv_iload_n C0.1 C0.2.1 dX5_isNameAt_21 rfl (lv_at hl 2 rfl) ?_
    refine lv_iconst (v := iI (4)) C0.1 C0.2.1 dX5_isNameAt_22 rfl ?_
    refine k_imul C0 dX5_isNameAt_23 ?_
    refine lv_iload C0.1 C0.2.1 dX5_isNameAt_24 (lv_at hl 0 rfl) ?_
    refine k_iadd C0 dX5_isNameAt_26 ?_
    refine k_iald C0 S 1 0 rfl rfl (z := (((k : Int)) * 4) + 1) (by omega) (by omega) (by omega) dX5_isNameAt_27 ?_
    refine k_topeq (v := iI (L (4 * k + 1))) (by rw [show ((k : Int) * 4 + 1).toNat = 4 * k + 1 by omega]) ?_
    refine k_icmp_eq (tgt := 33) C0 (by constructor <;> omega) (by constructor <;> omega) dX5_isNameAt_28 (by decide) (fun c4 => ?_) (fun c4 => ?_)
    · refine lv_iinc (v := iI (2)) (lv' := [(4, .int (iI (2))), (0, .ref hP), (1, .int (iI ((k : Int)))), (2, .ref hB), (3, .int (iI (a)))]) C0.1 C0.2.1 dX5_isNameAt_33 hl (k := 0) rfl (by decide) (by decide) rfl (fun ls hl => ?_)
      refine lv_goto (tgt := 3) C0.1 C0.2.1 dX5_isNameAt_36 (by decide) ?_
      refine lv_iload C0.1 C0.2.1 dX5_isNameAt_3 (lv_at hl 0 rfl) ?_
      refine lv_iconst (v := iI (4)) C0.1 C0.2.1 dX5_isNameAt_5 rfl ?_
      refine k_icmp_ge (tgt := 39) C0 ⟨by decide, by decide⟩ ⟨by decide, by decide⟩ dX5_isNameAt_6 (by decide) (fun hc => absurd hc (by decide)) (fun _ => ?_)
      refine lv_aload_n C0.1 C0.2.1 dX5_isNameAt_9 rfl (lv_at hl 3 rfl) ?_
      refine lv_iload_n C0.1 C0.2.1 dX5_isNameAt_10 rfl (lv_at hl 4 rfl) ?_
      refine lv_iload C0.1 C0.2.1 dX5_isNameAt_11 (lv_at hl 0 rfl) ?_
      refine k_iadd C0 dX5_isNameAt_13 ?_
      refine k_calli (n := 1) (wr := [(hP, .inr (5, [.ref aL, .int (iI (v1))])), (aL, .inl (cA 0, 16, .inl (fun y_ => iI (L y_))))]) C0 S (c_X0_byteAt l D cA hB aB 2048 d (a + 2) hd (by constructor <;> omega) (by omega)) gX5_isNameAt_X0_byteAt rfl ⟨rfl, rfl⟩ (by decide +kernel) ⟨Nat.le_of_ble_eq_true rfl, Nat.le_of_ble_eq_true rfl⟩ [2, 3] [0, 1] rfl rfl rfl rfl (by decide) (ci := 0) (q0 := 0) rfl rfl (As := [.int (iI (a + 2))]) rfl hl.1 rfl (Nat.le_of_ble_eq_true rfl) dX5_isNameAt_14 ⟨Nat.zero_le _, Nat.zero_le _⟩ (fun r u H locs hp S => ?_)
      obtain ⟨rfl, rfl⟩ := hp
      have S := S.sub (ws' := [(hP, .inr (5, [.ref aL, .int (iI (v1))])), (aL, .inl (cA 0, 16, .inl (fun y_ => iI (L y_)))), (hB, .inr (0, [.ref aB])), (aB, .inl (cA 1, 2048, .inl (fun y_ => bI (d y_))))]) [0, 1, 2, 3] rfl rfl
      rw [bAt_in (n := 2048) (z := a + 2) (by omega) (by omega)]
      have hb5 := By.rd hd (a + 2)
      refine k_topeq (v := iI (rd d (a + 2))) (rfl) ?_
      refine lv_aload_n C0.1 C0.2.1 dX5_isNameAt_17 rfl (lv_at hl 1 rfl) ?_
      refine k_get C0 S (C := RX5) (T := TX5) (N := 2) (ci := 5) (by decide +kernel) 0 rfl rfl 0 (by decide) (by decide +kernel) (v := .ref aL) rfl dX5_isNameAt_18 ?_
      refine lv_iload_n C0.1 C0.2.1 dX5_isNameAt_21 rfl (lv_at hl 2 rfl) ?_
      refine lv_iconst (v := iI (4)) C0.1 C0.2.1 dX5_isNameAt_22 rfl ?_
      refine k_imul C0 dX5_isNameAt_23 ?_
      refine lv_iload C0.1 C0.2.1 dX5_isNameAt_24 (lv_at hl 0 rfl) ?_
      refine k_iadd C0 dX5_isNameAt_26 ?_
      refine k_iald C0 S 1 0 rfl rfl (z := (((k : Int)) * 4) + 2) (by omega) (by omega) (by omega) dX5_isNameAt_27 ?_
      refine k_topeq (v := iI (L (4 * k + 2))) (by rw [show ((k : Int) * 4 + 2).toNat = 4 * k + 2 by omega]) ?_
      refine k_icmp_eq (tgt := 33) C0 (by constructor <;> omega) (by constructor <;> omega) dX5_isNameAt_28 (by decide) (fun c6 => ?_) (fun c6 => ?_)
      · refine lv_iinc (v := iI (3)) (lv' := [(4, .int (iI (3))), (0, .ref hP), (1, .int (iI ((k : Int)))), (2, .ref hB), (3, .int (iI (a)))]) C0.1 C0.2.1 dX5_isNameAt_33 hl (k := 0) rfl (by decide) (by decide) rfl (fun ls hl => ?_)
        refine lv_goto (tgt := 3) C0.1 C0.2.1 dX5_isNameAt_36 (by decide) ?_
        refine lv_iload C0.1 C0.2.1 dX5_isNameAt_3 (lv_at hl 0 rfl) ?_
        refine lv_iconst (v := iI (4)) C0.1 C0.2.1 dX5_isNameAt_5 rfl ?_
        refine k_icmp_ge (tgt := 39) C0 ⟨by decide, by decide⟩ ⟨by decide, by decide⟩ dX5_isNameAt_6 (by decide) (fun hc => absurd hc (by decide)) (fun _ => ?_)
        refine lv_aload_n C0.1 C0.2.1 dX5_isNameAt_9 rfl (lv_at hl 3 rfl) ?_
        refine lv_iload_n C0.1 C0.2.1 dX5_isNameAt_10 rfl (lv_at hl 4 rfl) ?_
        refine lv_iload C0.1 C0.2.1 dX5_isNameAt_11 (lv_at hl 0 rfl) ?_
        refine k_iadd C0 dX5_isNameAt_13 ?_
        refine k_calli (n := 1) (wr := [(hP, .inr (5, [.ref aL, .int (iI (v1))])), (aL, .inl (cA 0, 16, .inl (fun y_ => iI (L y_))))]) C0 S (c_X0_byteAt l D cA hB aB 2048 d (a + 3) hd (by constructor <;> omega) (by omega)) gX5_isNameAt_X0_byteAt rfl ⟨rfl, rfl⟩ (by decide +kernel) ⟨Nat.le_of_ble_eq_true rfl, Nat.le_of_ble_eq_true rfl⟩ [2, 3] [0, 1] rfl rfl rfl rfl (by decide) (ci := 0) (q0 := 0) rfl rfl (As := [.int (iI (a + 3))]) rfl hl.1 rfl (Nat.le_of_ble_eq_true rfl) dX5_isNameAt_14 ⟨Nat.zero_le _, Nat.zero_le _⟩ (fun r u H locs hp S => ?_)
        obtain ⟨rfl, rfl⟩ := hp
        have S := S.sub (ws' := [(hP, .inr (5, [.ref aL, .int (iI (v1))])), (aL, .inl (cA 0, 16, .inl (fun y_ => iI (L y_)))), (hB, .inr (0, [.ref aB])), (aB, .inl (cA 1, 2048, .inl (fun y_ => bI (d y_))))]) [0, 1, 2, 3] rfl rfl
        rw [bAt_in (n := 2048) (z := a + 3) (by omega) (by omega)]
        have hb7 := By.rd hd (a + 3)
        refine k_topeq (v := iI (rd d (a + 3))) (rfl) ?_
        refine lv_aload_n C0.1 C0.2.1 dX5_isNameAt_17 rfl (lv_at hl 1 rfl) ?_
        refine k_get C0 S (C := RX5) (T := TX5) (N := 2) (ci := 5) (by decide +kernel) 0 rfl rfl 0 (by decide) (by decide +kernel) (v := .ref aL) rfl dX5_isNameAt_18 ?_
        refine lv_iload_n C0.1 C0.2.1 dX5_isNameAt_21 rfl (lv_at hl 2 rfl) ?_
        refine lv_iconst (v := iI (4)) C0.1 C0.2.1 dX5_isNameAt_22 rfl ?_
        refine k_imul C0 dX5_isNameAt_23 ?_
        refine lv_iload C0.1 C0.2.1 dX5_isNameAt_24 (lv_at hl 0 rfl) ?_
        refine k_iadd C0 dX5_isNameAt_26 ?_
        refine k_iald C0 S 1 0 rfl rfl (z := (((k : Int)) * 4) + 3) (by omega) (by omega) (by omega) dX5_isNameAt_27 ?_
        refine k_topeq (v := iI (L (4 * k + 3))) (by rw [show ((k : Int) * 4 + 3).toNat = 4 * k + 3 by omega]) ?_
        refine k_icmp_eq (tgt := 33) C0 (by constructor <;> omega) (by constructor <;> omega) dX5_isNameAt_28 (by decide) (fun c8 => ?_) (fun c8 => ?_)
        · refine lv_iinc (v := iI (4)) (lv' := [(4, .int (iI (4))), (0, .ref hP), (1, .int (iI ((k : Int)))), (2, .ref hB), (3, .int (iI (a)))]) C0.1 C0.2.1 dX5_isNameAt_33 hl (k := 0) rfl (by decide) (by decide) rfl (fun ls hl => ?_)
          refine lv_goto (tgt := 3) C0.1 C0.2.1 dX5_isNameAt_36 (by decide) ?_
          refine lv_iload C0.1 C0.2.1 dX5_isNameAt_3 (lv_at hl 0 rfl) ?_
          refine lv_iconst (v := iI (4)) C0.1 C0.2.1 dX5_isNameAt_5 rfl ?_
          refine k_icmp_ge (tgt := 39) C0 ⟨by decide, by decide⟩ ⟨by decide, by decide⟩ dX5_isNameAt_6 (by decide) (fun _ => ?_) (fun hc => absurd hc (by decide))
          refine lv_iconst (v := iI (1)) C0.1 C0.2.1 dX5_isNameAt_39 rfl ?_
          subst hQ
          refine k_zret C0 S hAe hsz hr hlk (by rfl) dX5_isNameAt_40 ?_
          exact ⟨congrArg iI (bz_t (by unfold n4 lkey; omega)).symm, rfl⟩
        · refine lv_iconst (v := iI (0)) C0.1 C0.2.1 dX5_isNameAt_31 rfl ?_
          subst hQ
          refine k_zret C0 S hAe hsz hr hlk (by rfl) dX5_isNameAt_32 ?_
          exact ⟨congrArg iI (bz_f (by unfold n4 lkey; omega)).symm, rfl⟩
      · refine lv_iconst (v := iI (0)) C0.1 C0.2.1 dX5_isNameAt_31 rfl ?_
        subst hQ
        refine k_zret C0 S hAe hsz hr hlk (by rfl) dX5_isNameAt_32 ?_
        exact ⟨congrArg iI (bz_f (by unfold n4 lkey; omega)).symm, rfl⟩
    · refine lv_iconst (v := iI (0)) C0.1 C0.2.1 dX5_isNameAt_31 rfl ?_
      subst hQ
      refine k_zret C0 S hAe hsz hr hlk (by rfl) dX5_isNameAt_32 ?_
      exact ⟨congrArg iI (bz_f (by unfold n4 lkey; omega)).symm, rfl⟩
  · refine lv_iconst (v := iI (0)) C0.1 C0.2.1 dX5_isNameAt_31 rfl ?_
    subst hQ
    refine k_zret C0 S hAe hsz hr hlk (by rfl) dX5_isNameAt_32 ?_
    exact ⟨congrArg iI (bz_f (by unfold n4 lkey; omega)).symm, rfl⟩
def rmX3_findName : Room := { frames := 2, cells := 0, slots := 0, locals := 45 }
set_option maxHeartbeats 4000000 in
set_option maxRecDepth 100000 in
theorem c_X3_findName (l : Launch) (D : va_G) (cA : Nat → ClassId) (hF hP aL hE aE hV hB aB hC : Nat) (v1 cnt : Int) (L pl d : Nat → Int) (k : Nat) (first : Int) (hd : By d) (hB2 : gB d) (hL : By16 L) (hk : k ≤ 3) (hT : Tr d first cnt pl) : kCi l D vwCl (kTys cA) yX3_findName wsX3_findName rmX3_findName [.ref hF, .ref hP, .int (iI ((k : Int)))] [(hF, .inr (3, [.ref hB, .ref hV, .ref hE, .ref hC])), (hP, .inr (5, [.ref aL, .int (iI (v1))])), (aL, .inl (cA 0, 16, .inl (fun y_ => iI (L y_)))), (hE, .inr (2, [.ref hB, .ref hV, .ref aE, .int (iI (cnt)), .int (iI (0))])), (aE, .inl (cA 0, 64, .inl (fun y_ => iI (pl y_)))), (hV, .inr (8, [.ref hB, .int (iI (chs d)), .int (iI (gRoot d)), .int (iI (gN d)), .int (iI (gSz d)), .int (iI (gT d)), .int (iI (gTB d)), .int (iI (gTA d)), .int (iI (gCA d))])), (hB, .inr (0, [.ref aB])), (aB, .inl (cA 1, 2048, .inl (fun y_ => bI (d y_))))] (fun r u => ∃ (a t : Int), r = iI a ∧ u = [(hF, .inr (3, [.ref hB, .ref hV, .ref hE, .ref hC])), (hP, .inr (5, [.ref aL, .int (iI (v1))])), (aL, .inl (cA 0, 16, .inl (fun y_ => iI (L y_)))), (hE, .inr (2, [.ref hB, .ref hV, .ref aE, .int (iI (cnt)), .int (iI (t))])), (aE, .inl (cA 0, 64, .inl (fun y_ => iI (pl y_)))), (hV, .inr (8, [.ref hB, .int (iI (chs d)), .int (iI (gRoot d)), .int (iI (gN d)), .int (iI (gSz d)), .int (iI (gT d)), .int (iI (gTB d)), .int (iI (gTA d)), .int (iI (gCA d))])), (hB, .inr (0, [.ref aB])), (aB, .inl (cA 1, 2048, .inl (fun y_ => bI (d y_))))] ∧ ((a = -1 ∧ lk d first (chn d first) (lkey L k) 0 = -6) ∨ (0 ≤ a ∧ a + 8 ≤ 2048 ∧ lk d first (chn d first) (lkey L k) 0 = a))) := by
  intro sz
  refine kEntry (cc := cX3_findName) (maxL := 5) (ret := (some .int)) (by decide) rfl (Nat.le_of_ble_eq_true rfl) ?_
  intro p e s m args below meth c A Q hAe hQ C0 hr hlk S hsz ls hl
  have hl : lv_has ls 5 [(0, .ref hF), (1, .ref hP), (2, .int (iI ((k : Int))))] := hl
  obtain ⟨n1, n2⟩ := nsl_range hB2 hT.1
  refine lv_iconst (v := iI (0)) C0.1 C0.2.1 dX3_findName_0 rfl ?_
  refine lv_istore_n (lv' := [(3, .int (iI (0))), (0, .ref hF), (1, .ref hP), (2, .int (iI ((k : Int))))]) C0.1 C0.2.1 dX3_findName_1 rfl hl (by decide) rfl (fun ls hl => ?_)
  have L2 : ∀ (n_ : Nat) (q : Nat) (s1 : Int), ((q : Int) ≤ 256) → ((q : Int) ≤ s1 ∧ s1 ≤ 256) → (lk d first (chn d first) (lkey L k) 0 = lk d first (chn d first) (lkey L k) s1) → (256 - q < n_) → ∀ (H : Heap) (locs : List Loc), kS D vwCl (kTys cA) A s [(hF, .inr (3, [.ref hB, .ref hV, .ref hE, .ref hC])), (hP, .inr (5, [.ref aL, .int (iI (v1))])), (aL, .inl (cA 0, 16, .inl (fun y_ => iI (L y_)))), (hE, .inr (2, [.ref hB, .ref hV, .ref aE, .int (iI (cnt)), .int (iI (s1))])), (aE, .inl (cA 0, 64, .inl (fun y_ => iI (pl y_)))), (hV, .inr (8, [.ref hB, .int (iI (chs d)), .int (iI (gRoot d)), .int (iI (gN d)), .int (iI (gSz d)), .int (iI (gT d)), .int (iI (gTB d)), .int (iI (gTA d)), .int (iI (gCA d))])), (hB, .inr (0, [.ref aB])), (aB, .inl (cA 1, 2048, .inl (fun y_ => bI (d y_))))] H locs → ∀ ls : Array Slot, lv_has ls 5 [(3, .int (iI ((q : Int)))), (0, .ref hF), (1, .ref hP), (2, .int (iI ((k : Int))))] → W p l e rmX3_findName s m args below meth c H locs 0 0 Q (F0 m 2 ls []) := by
    intro n_
    induction n_ with
    | zero => intro q s1 hi2_0 hi2_1 hi2_2 hm; exact absurd hm (Nat.not_lt_zero _)
    | succ n_ ih2 =>
      intro q s1 hi2_0 hi2_1 hi2_2 hm H locs S ls hl
      refine lv_iload_n C0.1 C0.2.1 dX3_findName_2 rfl (lv_at hl 0 rfl) ?_
      refine lv_sipush (v := iI (256)) C0.1 C0.2.1 dX3_findName_3 (by decide) ?_
      refine k_icmp_ge (tgt := 46) C0 (by constructor <;> omega) ⟨by decide, by decide⟩ dX3_findName_6 (by decide) (fun c6 => ?_) (fun c6 => ?_)
      · refine lv_iconst (v := iI (-1)) C0.1 C0.2.1 dX3_findName_46 rfl ?_
        subst hQ
        refine k_iret C0 S hAe hsz hr hlk dX3_findName_47 ?_
        refine ⟨_, _, rfl, rfl, Or.inl ⟨rfl, ?_⟩⟩
        rw [hi2_2]
        exact lk_none (by rw [ent_neg (by omega)]; decide)
      · refine lv_aload_n C0.1 C0.2.1 dX3_findName_9 rfl (lv_at hl 1 rfl) ?_
        refine k_get C0 S (C := RX3) (T := TX3) (N := 4) (ci := 3) (by decide +kernel) 0 rfl rfl 2 (by decide) (by decide +kernel) (v := .ref hE) rfl dX3_findName_10 ?_
        refine k_calli (n := 0) (wr := [(hF, .inr (3, [.ref hB, .ref hV, .ref hE, .ref hC])), (hP, .inr (5, [.ref aL, .int (iI (v1))])), (aL, .inl (cA 0, 16, .inl (fun y_ => iI (L y_))))]) C0 S (c_X2_nextEntry l D cA hE aE hV hB aB d (cnt) (s1) pl (first) hd hB2 hT (by omega) (by omega)) gX3_findName_X2_nextEntry rfl ⟨rfl, rfl⟩ (by decide +kernel) ⟨Nat.le_of_ble_eq_true rfl, Nat.le_of_ble_eq_true rfl⟩ [3, 4, 5, 6, 7] [0, 1, 2] rfl rfl rfl rfl (by decide) (ci := 2) (q0 := 0) rfl rfl (As := []) rfl hl.1 rfl (Nat.le_of_ble_eq_true rfl) dX3_findName_13 ⟨Nat.zero_le _, Nat.zero_le _⟩ (fun r u H locs hp S => ?_)
        obtain ⟨a1, t2, rfl, rfl, hnx, ⟨ht0, ht1⟩, hra⟩ := hp
        have S := S.sub (ws' := [(hF, .inr (3, [.ref hB, .ref hV, .ref hE, .ref hC])), (hP, .inr (5, [.ref aL, .int (iI (v1))])), (aL, .inl (cA 0, 16, .inl (fun y_ => iI (L y_)))), (hE, .inr (2, [.ref hB, .ref hV, .ref aE, .int (iI (cnt)), .int (iI (t2))])), (aE, .inl (cA 0, 64, .inl (fun y_ => iI (pl y_)))), (hV, .inr (8, [.ref hB, .int (iI (chs d)), .int (iI (gRoot d)), .int (iI (gN d)), .int (iI (gSz d)), .int (iI (gT d)), .int (iI (gTB d)), .int (iI (gTA d)), .int (iI (gCA d))])), (hB, .inr (0, [.ref aB])), (aB, .inl (cA 1, 2048, .inl (fun y_ => bI (d y_))))]) [0, 1, 2, 3, 4, 5, 6, 7] rfl rfl
        have hsk := NX.skip (F := fun j => lk d first (chn d first) (lkey L k) j) hnx (by omega) (fun j _ h1 h2 => lk_step (by omega) (Or.inl h2))
        refine lv_istore (lv' := [(4, .int (iI (a1))), (3, .int (iI ((q : Int)))), (0, .ref hF), (1, .ref hP), (2, .int (iI ((k : Int))))]) C0.1 C0.2.1 dX3_findName_16 hl (by decide) rfl (fun ls hl => ?_)
        refine lv_iload C0.1 C0.2.1 dX3_findName_18 (lv_at hl 0 rfl) ?_
        refine k_if_lt (tgt := 37) C0 (by constructor <;> omega) dX3_findName_20 (by decide) (fun c20 => ?_) (fun c20 => ?_)
        · refine lv_iload C0.1 C0.2.1 dX3_findName_37 (lv_at hl 0 rfl) ?_
          subst hQ
          refine k_iret C0 S hAe hsz hr hlk dX3_findName_39 ?_
          rcases hsk with ⟨s1_, s2_, s3_, s4_⟩ | ⟨s1_, s2_, s3_, s4_, s5_⟩
          · refine ⟨_, _, rfl, rfl, Or.inl ⟨s1_, ?_⟩⟩
            rw [hi2_2, s4_]; exact lk_none (by omega)
          · exact absurd c20 (by omega)
        · refine lv_aload_n C0.1 C0.2.1 dX3_findName_23 rfl (lv_at hl 3 rfl) ?_
          refine lv_iload_n C0.1 C0.2.1 dX3_findName_24 rfl (lv_at hl 4 rfl) ?_
          refine lv_aload_n C0.1 C0.2.1 dX3_findName_25 rfl (lv_at hl 2 rfl) ?_
          refine k_get C0 S (C := RX3) (T := TX3) (N := 4) (ci := 3) (by decide +kernel) 0 rfl rfl 0 (by decide) (by decide +kernel) (v := .ref hB) rfl dX3_findName_26 ?_
          refine lv_iload C0.1 C0.2.1 dX3_findName_29 (lv_at hl 0 rfl) ?_
          refine k_calli (n := 3) (wr := [(hF, .inr (3, [.ref hB, .ref hV, .ref hE, .ref hC])), (hE, .inr (2, [.ref hB, .ref hV, .ref aE, .int (iI (cnt)), .int (iI (t2))])), (aE, .inl (cA 0, 64, .inl (fun y_ => iI (pl y_)))), (hV, .inr (8, [.ref hB, .int (iI (chs d)), .int (iI (gRoot d)), .int (iI (gN d)), .int (iI (gSz d)), .int (iI (gT d)), .int (iI (gTB d)), .int (iI (gTA d)), .int (iI (gCA d))]))]) C0 S (c_X5_isNameAt l D cA hP aL hB aB (v1) L d k (a1) hd hL hk (by omega) (by omega)) gX3_findName_X5_isNameAt rfl ⟨rfl, rfl⟩ (by decide +kernel) ⟨Nat.le_of_ble_eq_true rfl, Nat.le_of_ble_eq_true rfl⟩ [1, 2, 6, 7] [0, 3, 4, 5] rfl rfl rfl rfl (by decide) (ci := 5) (q0 := 0) rfl rfl (As := [.int (iI ((k : Int))), .ref hB, .int (iI (a1))]) rfl hl.1 rfl (Nat.le_of_ble_eq_true rfl) dX3_findName_31 ⟨Nat.zero_le _, Nat.zero_le _⟩ (fun r u H locs hp S => ?_)
          obtain ⟨rfl, rfl⟩ := hp
          have S := S.sub (ws' := [(hF, .inr (3, [.ref hB, .ref hV, .ref hE, .ref hC])), (hP, .inr (5, [.ref aL, .int (iI (v1))])), (aL, .inl (cA 0, 16, .inl (fun y_ => iI (L y_)))), (hE, .inr (2, [.ref hB, .ref hV, .ref aE, .int (iI (cnt)), .int (iI (t2))])), (aE, .inl (cA 0, 64, .inl (fun y_ => iI (pl y_)))), (hV, .inr (8, [.ref hB, .int (iI (chs d)), .int (iI (gRoot d)), .int (iI (gN d)), .int (iI (gSz d)), .int (iI (gT d)), .int (iI (gTB d)), .int (iI (gTA d)), .int (iI (gCA d))])), (hB, .inr (0, [.ref aB])), (aB, .inl (cA 1, 2048, .inl (fun y_ => bI (d y_))))]) [0, 4, 5, 1, 2, 3, 6, 7] rfl rfl
          refine k_bz_eq (tgt := 40) C0 dX3_findName_34 (by decide) (fun c34 => ?_) (fun c34 => ?_)
          · refine lv_iinc (v := iI ((q : Int) + 1)) (lv' := [(3, .int (iI ((q : Int) + 1))), (4, .int (iI (a1))), (0, .ref hF), (1, .ref hP), (2, .int (iI ((k : Int))))]) C0.1 C0.2.1 dX3_findName_40 hl (k := 1) rfl (iI_add _ _) (by decide) rfl (fun ls hl => ?_)
            refine lv_goto (tgt := 2) C0.1 C0.2.1 dX3_findName_43 (by decide) ?_
            rcases hsk with ⟨s1_, s2_, s3_, s4_⟩ | ⟨s1_, s2_, s3_, s4_, s5_⟩
            · exact absurd s1_ (by omega)
            have hq : lk d first (chn d first) (lkey L k) 0 = lk d first (chn d first) (lkey L k) t2 := by
              rw [hi2_2, s5_, lk_step (by omega) (Or.inr (by rw [s3_]; exact c34))]
              congr 1; omega
            exact ih2 (q + 1) (t2) (by omega) ⟨by omega, by omega⟩ hq (by omega) _ _ S _ (lv_sub hl [0, 2, 3, 4] rfl)
          · refine lv_iload C0.1 C0.2.1 dX3_findName_37 (lv_at hl 0 rfl) ?_
            subst hQ
            refine k_iret C0 S hAe hsz hr hlk dX3_findName_39 ?_
            rcases hsk with ⟨s1_, s2_, s3_, s4_⟩ | ⟨s1_, s2_, s3_, s4_, s5_⟩
            · exact absurd s1_ (by omega)
            · refine ⟨_, _, rfl, rfl, Or.inr ⟨s1_, by omega, ?_⟩⟩
              rw [hi2_2, s5_, lk_hit (by omega) (by rw [s3_]; exact s4_) (by rw [s3_]; exact c34), s3_]
  exact L2 (257) (0) (0) (by omega) ⟨by omega, by omega⟩ rfl (by omega) _ _ S _ (lv_sub hl [0, 1, 2, 3] rfl)
/-- where a search stands: before name k of m, at the entry a of the name before -/
def FI (d ks : Nat → Int) (m k : Nat) (first a : Int) : Prop := (k = 0 ∧ first = gRoot d) ∨ (0 < k ∧ (0 ≤ a ∧ a + 8 ≤ 2048) ∧ (k = m → fnd d ks m = a) ∧ (k < m → isD d a → fnd d ks m = fnF d ks (m - k) k (rd d (a + 5))) ∧ (k < m → ¬ isD d a → fnd d ks m = -8))
theorem FI_step {d ks : Nat → Int} {m k : Nat} {first : Int} (hm : k < m) (h : fnd d ks m = fnF d ks (m - k) k first) (h0 : 0 ≤ lkp d first (ks k)) (h1 : lkp d first (ks k) + 8 ≤ 2048) {fx : Int} : FI d ks m (k + 1) fx (lkp d first (ks k)) := by
  refine Or.inr ⟨by omega, ⟨h0, h1⟩, fun e => ?_, fun e i => ?_, fun e i => ?_⟩
  · rw [h, show m - k = 1 by omega]; exact fnF_last (by omega)
  · rw [h, show m - k = (m - (k + 1) - 1) + 2 by omega, show m - (k + 1) = (m - (k + 1) - 1) + 1 by omega]; exact fnF_dir (by omega) i
  · rw [h, show m - k = (m - (k + 1) - 1) + 2 by omega]; exact fnF_nodir (by omega) i
def rmX3_find : Room := { frames := 3, cells := 0, slots := 0, locals := 69 }
set_option maxHeartbeats 4000000 in
set_option maxRecDepth 100000 in
theorem c_X3_find (l : Launch) (D : va_G) (cA : Nat → ClassId) (hF hP aL hE aE hV hB aB hC : Nat) (cnt v2 : Int) (L pl d ks : Nat → Int) (m2 : Nat) (hd : By d) (hB2 : gB d) (hL : By16 L) (hm1 : 1 ≤ m2) (hm2 : m2 ≤ 4) (hks : ∀ k, k < m2 → lkey L k = ks k) : kCi l D vwCl (kTys cA) yX3_find wsX3_find rmX3_find [.ref hF, .ref hP] [(hF, .inr (3, [.ref hB, .ref hV, .ref hE, .ref hC])), (hP, .inr (5, [.ref aL, .int (iI ((m2 : Int)))])), (aL, .inl (cA 0, 16, .inl (fun y_ => iI (L y_)))), (hE, .inr (2, [.ref hB, .ref hV, .ref aE, .int (iI (cnt)), .int (iI (v2))])), (aE, .inl (cA 0, 64, .inl (fun y_ => iI (pl y_)))), (hV, .inr (8, [.ref hB, .int (iI (chs d)), .int (iI (gRoot d)), .int (iI (gN d)), .int (iI (gSz d)), .int (iI (gT d)), .int (iI (gTB d)), .int (iI (gTA d)), .int (iI (gCA d))])), (hB, .inr (0, [.ref aB])), (aB, .inl (cA 1, 2048, .inl (fun y_ => bI (d y_))))] (fun r u => ∃ (cnt2 t2 : Int) (pl2 : Nat → Int), r = iI (fnd d ks m2) ∧ u = [(hF, .inr (3, [.ref hB, .ref hV, .ref hE, .ref hC])), (hP, .inr (5, [.ref aL, .int (iI ((m2 : Int)))])), (aL, .inl (cA 0, 16, .inl (fun y_ => iI (L y_)))), (hE, .inr (2, [.ref hB, .ref hV, .ref aE, .int (iI (cnt2)), .int (iI (t2))])), (aE, .inl (cA 0, 64, .inl (fun y_ => iI (pl2 y_)))), (hV, .inr (8, [.ref hB, .int (iI (chs d)), .int (iI (gRoot d)), .int (iI (gN d)), .int (iI (gSz d)), .int (iI (gT d)), .int (iI (gTB d)), .int (iI (gTA d)), .int (iI (gCA d))])), (hB, .inr (0, [.ref aB])), (aB, .inl (cA 1, 2048, .inl (fun y_ => bI (d y_))))] ∧ (fnd d ks m2 < 0 ∨ fnd d ks m2 + 8 ≤ 2048) ∧ -100 ≤ fnd d ks m2) := by
  intro sz
  refine kEntry (cc := cX3_find) (maxL := 5) (ret := (some .int)) (by decide) rfl (Nat.le_of_ble_eq_true rfl) ?_
  intro p e s m args below meth c A Q hAe hQ C0 hr hlk S hsz ls hl
  have hl : lv_has ls 5 [(0, .ref hF), (1, .ref hP)] := hl
  obtain ⟨⟨g1, g2⟩, g3, ⟨g4, g5⟩, g6, ⟨g7, g8⟩, ⟨g9, g10⟩, g11, ⟨g12, g13⟩, g14⟩ := hB2.lin
  refine lv_aload_n C0.1 C0.2.1 dX3_find_0 rfl (lv_at hl 0 rfl) ?_
  refine k_get C0 S (C := RX3) (T := TX3) (N := 4) (ci := 3) (by decide +kernel) 0 rfl rfl 1 (by decide) (by decide +kernel) (v := .ref hV) rfl dX3_find_1 ?_
  refine k_get C0 S (C := RX8) (T := TX8) (N := 9) (ci := 8) (by decide +kernel) 5 rfl rfl 2 (by decide) (by decide +kernel) (v := .int (iI (gRoot d))) rfl dX3_find_4 ?_
  refine lv_istore_n (lv' := [(2, .int (iI (gRoot d))), (0, .ref hF), (1, .ref hP)]) C0.1 C0.2.1 dX3_find_7 rfl hl (by decide) rfl (fun ls hl => ?_)
  refine lv_bipush (v := iI (-6)) C0.1 C0.2.1 dX3_find_8 (by decide) ?_
  refine lv_istore_n (lv' := [(3, .int (iI (-6))), (2, .int (iI (gRoot d))), (0, .ref hF), (1, .ref hP)]) C0.1 C0.2.1 dX3_find_10 rfl hl (by decide) rfl (fun ls hl => ?_)
  refine lv_iconst (v := iI (0)) C0.1 C0.2.1 dX3_find_11 rfl ?_
  refine lv_istore (lv' := [(4, .int (iI (0))), (3, .int (iI (-6))), (2, .int (iI (gRoot d))), (0, .ref hF), (1, .ref hP)]) C0.1 C0.2.1 dX3_find_12 hl (by decide) rfl (fun ls hl => ?_)
  have L14 : ∀ (n_ : Nat) (k : Nat) (first : Int) (a : Int) (c2 : Int) (x2 : Int) (pl2 : Nat → Int), (k ≤ m2) → (FI d ks m2 k first a) → (ir a) → (m2 - k < n_) → ∀ (H : Heap) (locs : List Loc), kS D vwCl (kTys cA) A s [(hF, .inr (3, [.ref hB, .ref hV, .ref hE, .ref hC])), (hP, .inr (5, [.ref aL, .int (iI ((m2 : Int)))])), (aL, .inl (cA 0, 16, .inl (fun y_ => iI (L y_)))), (hE, .inr (2, [.ref hB, .ref hV, .ref aE, .int (iI (c2)), .int (iI (x2))])), (aE, .inl (cA 0, 64, .inl (fun y_ => iI (pl2 y_)))), (hV, .inr (8, [.ref hB, .int (iI (chs d)), .int (iI (gRoot d)), .int (iI (gN d)), .int (iI (gSz d)), .int (iI (gT d)), .int (iI (gTB d)), .int (iI (gTA d)), .int (iI (gCA d))])), (hB, .inr (0, [.ref aB])), (aB, .inl (cA 1, 2048, .inl (fun y_ => bI (d y_))))] H locs → ∀ ls : Array Slot, lv_has ls 5 [(4, .int (iI ((k : Int)))), (3, .int (iI (a))), (2, .int (iI (first))), (0, .ref hF), (1, .ref hP)] → W p l e rmX3_find s m args below meth c H locs 0 0 Q (F0 m 14 ls []) := by
    intro n_
    induction n_ with
    | zero => intro k first a c2 x2 pl2 hi14_0 hi14_1 hi14_2 hm; exact absurd hm (Nat.not_lt_zero _)
    | succ n_ ih14 =>
      intro k first a c2 x2 pl2 hi14_0 hi14_1 hi14_2 hm H locs S ls hl
      obtain ⟨hia1, hia2⟩ := hi14_2
      refine lv_iload C0.1 C0.2.1 dX3_find_14 (lv_at hl 0 rfl) ?_
      refine lv_aload_n C0.1 C0.2.1 dX3_find_16 rfl (lv_at hl 4 rfl) ?_
      refine k_get C0 S (C := RX5) (T := TX5) (N := 2) (ci := 5) (by decide +kernel) 1 rfl rfl 1 (by decide) (by decide +kernel) (v := .int (iI ((m2 : Int)))) rfl dX3_find_17 ?_
      refine k_icmp_ge (tgt := 86) C0 (by constructor <;> omega) (by constructor <;> omega) dX3_find_20 (by decide) (fun c20 => ?_) (fun c20 => ?_)
      · refine lv_iload_n C0.1 C0.2.1 dX3_find_86 rfl (lv_at hl 1 rfl) ?_
        subst hQ
        refine k_iret C0 S hAe hsz hr hlk dX3_find_87 ?_
        obtain ⟨hi1, ⟨hi2, hi3⟩, hi4, -, -⟩ : 0 < k ∧ (0 ≤ a ∧ a + 8 ≤ 2048) ∧ (k = m2 → fnd d ks m2 = a) ∧ (k < m2 → isD d a → fnd d ks m2 = fnF d ks (m2 - k) k (rd d (a + 5))) ∧ (k < m2 → ¬ isD d a → fnd d ks m2 = -8) := by rcases hi14_1 with h | h; omega; exact h
        have hq := hi4 (by omega)
        exact ⟨_, _, _, congrArg iI hq.symm, rfl, Or.inr (by omega), by omega⟩
      · refine lv_iload C0.1 C0.2.1 dX3_find_23 (lv_at hl 0 rfl) ?_
        refine k_if_le (tgt := 51) C0 (by constructor <;> omega) dX3_find_25 (by decide) (fun c25 => ?_) (fun c25 => ?_)
        · obtain ⟨hk0, hfr⟩ : k = 0 ∧ first = gRoot d := by rcases hi14_1 with h | h; exact h; omega
          have hfd : fnd d ks m2 = fnF d ks (m2 - k) k first := by rw [hk0, hfr]; rfl
          refine lv_aload_n C0.1 C0.2.1 dX3_find_51 rfl (lv_at hl 3 rfl) ?_
          refine k_get C0 S (C := RX3) (T := TX3) (N := 4) (ci := 3) (by decide +kernel) 0 rfl rfl 2 (by decide) (by decide +kernel) (v := .ref hE) rfl dX3_find_52 ?_
          refine lv_iload_n C0.1 C0.2.1 dX3_find_55 rfl (lv_at hl 2 rfl) ?_
          refine k_calli (n := 1) (wr := [(hF, .inr (3, [.ref hB, .ref hV, .ref hE, .ref hC])), (hP, .inr (5, [.ref aL, .int (iI ((m2 : Int)))])), (aL, .inl (cA 0, 16, .inl (fun y_ => iI (L y_))))]) C0 S (c_X2_trace l D cA hE aE hV hB aB d (c2) (x2) pl2 (first) hd hB2 (by omega) (by omega)) gX3_find_X2_trace rfl ⟨rfl, rfl⟩ (by decide +kernel) ⟨Nat.le_of_ble_eq_true rfl, Nat.le_of_ble_eq_true rfl⟩ [3, 4, 5, 6, 7] [0, 1, 2] rfl rfl rfl rfl (by decide) (ci := 2) (q0 := 0) rfl rfl (As := [.int (iI (first))]) rfl hl.1 rfl (Nat.le_of_ble_eq_true rfl) dX3_find_56 ⟨Nat.zero_le _, Nat.zero_le _⟩ (fun r u H locs hp S => ?_)
          obtain ⟨cnt1, pl2, rfl, rfl, htcnt1⟩ := hp
          have S := S.sub (ws' := [(hF, .inr (3, [.ref hB, .ref hV, .ref hE, .ref hC])), (hP, .inr (5, [.ref aL, .int (iI ((m2 : Int)))])), (aL, .inl (cA 0, 16, .inl (fun y_ => iI (L y_)))), (hE, .inr (2, [.ref hB, .ref hV, .ref aE, .int (iI (cnt1)), .int (iI (0))])), (aE, .inl (cA 0, 64, .inl (fun y_ => iI (pl2 y_)))), (hV, .inr (8, [.ref hB, .int (iI (chs d)), .int (iI (gRoot d)), .int (iI (gN d)), .int (iI (gSz d)), .int (iI (gT d)), .int (iI (gTB d)), .int (iI (gTA d)), .int (iI (gCA d))])), (hB, .inr (0, [.ref aB])), (aB, .inl (cA 1, 2048, .inl (fun y_ => bI (d y_))))]) [0, 1, 2, 3, 4, 5, 6, 7] rfl rfl
          refine k_bz_ne (tgt := 65) C0 dX3_find_59 (by decide) (fun c59 => ?_) (fun c59 => ?_)
          · refine lv_aload_n C0.1 C0.2.1 dX3_find_65 rfl (lv_at hl 3 rfl) ?_
            refine lv_aload_n C0.1 C0.2.1 dX3_find_66 rfl (lv_at hl 4 rfl) ?_
            refine lv_iload C0.1 C0.2.1 dX3_find_67 (lv_at hl 0 rfl) ?_
            refine k_calli (n := 2) (wr := []) C0 S (c_X3_findName l D cA hF hP aL hE aE hV hB aB hC ((m2 : Int)) (cnt1) L pl2 d k (first) hd hB2 hL (by omega) (htcnt1 c59)) gX3_find_X3_findName rfl ⟨rfl, rfl⟩ (by decide +kernel) ⟨Nat.le_of_ble_eq_true rfl, Nat.le_of_ble_eq_true rfl⟩ [0, 1, 2, 3, 4, 5, 6, 7] [] rfl rfl rfl rfl (by decide) (ci := 3) (q0 := 0) rfl rfl (As := [.ref hP, .int (iI ((k : Int)))]) rfl hl.1 rfl (Nat.le_of_ble_eq_true rfl) dX3_find_69 ⟨Nat.zero_le _, Nat.zero_le _⟩ (fun r u H locs hp S => ?_)
            obtain ⟨a3, t4, rfl, rfl, hfn⟩ := hp
            have S := S.sub (ws' := [(hF, .inr (3, [.ref hB, .ref hV, .ref hE, .ref hC])), (hP, .inr (5, [.ref aL, .int (iI ((m2 : Int)))])), (aL, .inl (cA 0, 16, .inl (fun y_ => iI (L y_)))), (hE, .inr (2, [.ref hB, .ref hV, .ref aE, .int (iI (cnt1)), .int (iI (t4))])), (aE, .inl (cA 0, 64, .inl (fun y_ => iI (pl2 y_)))), (hV, .inr (8, [.ref hB, .int (iI (chs d)), .int (iI (gRoot d)), .int (iI (gN d)), .int (iI (gSz d)), .int (iI (gT d)), .int (iI (gTB d)), .int (iI (gTA d)), .int (iI (gCA d))])), (hB, .inr (0, [.ref aB])), (aB, .inl (cA 1, 2048, .inl (fun y_ => bI (d y_))))]) [0, 1, 2, 3, 4, 5, 6, 7] rfl rfl
            have hra : a3 = -1 ∨ (0 ≤ a3 ∧ a3 + 8 ≤ 2048) := by omega
            refine lv_istore_n (lv' := [(3, .int (iI (a3))), (4, .int (iI ((k : Int)))), (2, .int (iI (first))), (0, .ref hF), (1, .ref hP)]) C0.1 C0.2.1 dX3_find_72 rfl hl (by decide) rfl (fun ls hl => ?_)
            refine lv_iload_n C0.1 C0.2.1 dX3_find_73 rfl (lv_at hl 0 rfl) ?_
            refine k_if_ge (tgt := 80) C0 (by constructor <;> omega) dX3_find_74 (by decide) (fun c74 => ?_) (fun c74 => ?_)
            · refine lv_iinc (v := iI ((k : Int) + 1)) (lv' := [(4, .int (iI ((k : Int) + 1))), (3, .int (iI (a3))), (2, .int (iI (first))), (0, .ref hF), (1, .ref hP)]) C0.1 C0.2.1 dX3_find_80 hl (k := 1) rfl (iI_add _ _) (by decide) rfl (fun ls hl => ?_)
              refine lv_goto (tgt := 14) C0.1 C0.2.1 dX3_find_83 (by decide) ?_
              have hlk : lkp d (first) (ks k) = a3 := by rw [lkp_ok c59, ← hks k (by omega)]; omega
              have hfi := FI_step (fx := first) (show k < m2 by omega) hfd (by omega) (by omega)
              rw [hlk] at hfi
              exact ih14 (k + 1) (first) (a3) (cnt1) (t4) (pl2) (by omega) hfi ⟨by omega, by omega⟩ (by omega) _ _ S _ (lv_sub hl [0, 1, 2, 3, 4] rfl)
            · refine lv_bipush (v := iI (-6)) C0.1 C0.2.1 dX3_find_77 (by decide) ?_
              subst hQ
              refine k_iret C0 S hAe hsz hr hlk dX3_find_79 ?_
              have hlk : lkp d (first) (ks k) = -6 := by rw [lkp_ok c59, ← hks k (by omega)]; omega
              have hq : fnd d ks m2 = -6 := by rw [hfd, show m2 - k = (m2 - k - 1) + 1 by omega, fnF_neg (by rw [hlk]; decide), hlk]
              exact ⟨_, _, _, congrArg iI hq.symm, rfl, Or.inl (by omega), by omega⟩
          · refine lv_bipush (v := iI (-9)) C0.1 C0.2.1 dX3_find_62 (by decide) ?_
            subst hQ
            refine k_iret C0 S hAe hsz hr hlk dX3_find_64 ?_
            have hq : fnd d ks m2 = -9 := by rw [hfd, show m2 - k = (m2 - k - 1) + 1 by omega, fnF_neg (by rw [lkp_no c59]; decide), lkp_no c59]
            exact ⟨_, _, _, congrArg iI hq.symm, rfl, Or.inl (by omega), by omega⟩
        · obtain ⟨hi1, ⟨hi2, hi3⟩, hi4, hi5, hi6⟩ : 0 < k ∧ (0 ≤ a ∧ a + 8 ≤ 2048) ∧ (k = m2 → fnd d ks m2 = a) ∧ (k < m2 → isD d a → fnd d ks m2 = fnF d ks (m2 - k) k (rd d (a + 5))) ∧ (k < m2 → ¬ isD d a → fnd d ks m2 = -8) := by rcases hi14_1 with h | h; omega; exact h
          refine lv_aload_n C0.1 C0.2.1 dX3_find_28 rfl (lv_at hl 3 rfl) ?_
          refine k_get C0 S (C := RX3) (T := TX3) (N := 4) (ci := 3) (by decide +kernel) 0 rfl rfl 1 (by decide) (by decide +kernel) (v := .ref hV) rfl dX3_find_29 ?_
          refine lv_iload_n C0.1 C0.2.1 dX3_find_32 rfl (lv_at hl 1 rfl) ?_
          refine k_calli (n := 1) (wr := [(hF, .inr (3, [.ref hB, .ref hV, .ref hE, .ref hC])), (hP, .inr (5, [.ref aL, .int (iI ((m2 : Int)))])), (aL, .inl (cA 0, 16, .inl (fun y_ => iI (L y_)))), (hE, .inr (2, [.ref hB, .ref hV, .ref aE, .int (iI (c2)), .int (iI (x2))])), (aE, .inl (cA 0, 64, .inl (fun y_ => iI (pl2 y_))))]) C0 S (c_X8_isDirectory l D cA hV hB aB d (a) hd hB2 (by omega) (by omega)) gX3_find_X8_isDirectory rfl ⟨rfl, rfl⟩ (by decide +kernel) ⟨Nat.le_of_ble_eq_true rfl, Nat.le_of_ble_eq_true rfl⟩ [5, 6, 7] [0, 1, 2, 3, 4] rfl rfl rfl rfl (by decide) (ci := 8) (q0 := 0) rfl rfl (As := [.int (iI (a))]) rfl hl.1 rfl (Nat.le_of_ble_eq_true rfl) dX3_find_33 ⟨Nat.zero_le _, Nat.zero_le _⟩ (fun r u H locs hp S => ?_)
          obtain ⟨rfl, rfl⟩ := hp
          have S := S.sub (ws' := [(hF, .inr (3, [.ref hB, .ref hV, .ref hE, .ref hC])), (hP, .inr (5, [.ref aL, .int (iI ((m2 : Int)))])), (aL, .inl (cA 0, 16, .inl (fun y_ => iI (L y_)))), (hE, .inr (2, [.ref hB, .ref hV, .ref aE, .int (iI (c2)), .int (iI (x2))])), (aE, .inl (cA 0, 64, .inl (fun y_ => iI (pl2 y_)))), (hV, .inr (8, [.ref hB, .int (iI (chs d)), .int (iI (gRoot d)), .int (iI (gN d)), .int (iI (gSz d)), .int (iI (gT d)), .int (iI (gTB d)), .int (iI (gTA d)), .int (iI (gCA d))])), (hB, .inr (0, [.ref aB])), (aB, .inl (cA 1, 2048, .inl (fun y_ => bI (d y_))))]) [0, 1, 2, 3, 4, 5, 6, 7] rfl rfl
          refine k_bz_ne (tgt := 42) C0 dX3_find_36 (by decide) (fun c36 => ?_) (fun c36 => ?_)
          · refine lv_aload_n C0.1 C0.2.1 dX3_find_42 rfl (lv_at hl 3 rfl) ?_
            refine k_get C0 S (C := RX3) (T := TX3) (N := 4) (ci := 3) (by decide +kernel) 0 rfl rfl 1 (by decide) (by decide +kernel) (v := .ref hV) rfl dX3_find_43 ?_
            refine lv_iload_n C0.1 C0.2.1 dX3_find_46 rfl (lv_at hl 1 rfl) ?_
            refine k_calli (n := 1) (wr := [(hF, .inr (3, [.ref hB, .ref hV, .ref hE, .ref hC])), (hP, .inr (5, [.ref aL, .int (iI ((m2 : Int)))])), (aL, .inl (cA 0, 16, .inl (fun y_ => iI (L y_)))), (hE, .inr (2, [.ref hB, .ref hV, .ref aE, .int (iI (c2)), .int (iI (x2))])), (aE, .inl (cA 0, 64, .inl (fun y_ => iI (pl2 y_))))]) C0 S (c_X8_firstClusterOf l D cA hV hB aB d (a) hd hB2 (by omega) (by omega)) gX3_find_X8_firstClusterOf rfl ⟨rfl, rfl⟩ (by decide +kernel) ⟨Nat.le_of_ble_eq_true rfl, Nat.le_of_ble_eq_true rfl⟩ [5, 6, 7] [0, 1, 2, 3, 4] rfl rfl rfl rfl (by decide) (ci := 8) (q0 := 0) rfl rfl (As := [.int (iI (a))]) rfl hl.1 rfl (Nat.le_of_ble_eq_true rfl) dX3_find_47 ⟨Nat.zero_le _, Nat.zero_le _⟩ (fun r u H locs hp S => ?_)
            obtain ⟨rfl, rfl⟩ := hp
            have S := S.sub (ws' := [(hF, .inr (3, [.ref hB, .ref hV, .ref hE, .ref hC])), (hP, .inr (5, [.ref aL, .int (iI ((m2 : Int)))])), (aL, .inl (cA 0, 16, .inl (fun y_ => iI (L y_)))), (hE, .inr (2, [.ref hB, .ref hV, .ref aE, .int (iI (c2)), .int (iI (x2))])), (aE, .inl (cA 0, 64, .inl (fun y_ => iI (pl2 y_)))), (hV, .inr (8, [.ref hB, .int (iI (chs d)), .int (iI (gRoot d)), .int (iI (gN d)), .int (iI (gSz d)), .int (iI (gT d)), .int (iI (gTB d)), .int (iI (gTA d)), .int (iI (gCA d))])), (hB, .inr (0, [.ref aB])), (aB, .inl (cA 1, 2048, .inl (fun y_ => bI (d y_))))]) [0, 1, 2, 3, 4, 5, 6, 7] rfl rfl
            have hb5 := By.rd hd ((a) + 5)
            refine lv_istore_n (lv' := [(2, .int (iI (rd d ((a) + 5)))), (4, .int (iI ((k : Int)))), (3, .int (iI (a))), (0, .ref hF), (1, .ref hP)]) C0.1 C0.2.1 dX3_find_50 rfl hl (by decide) rfl (fun ls hl => ?_)
            have hfd := hi5 (by omega) c36
            refine lv_aload_n C0.1 C0.2.1 dX3_find_51 rfl (lv_at hl 3 rfl) ?_
            refine k_get C0 S (C := RX3) (T := TX3) (N := 4) (ci := 3) (by decide +kernel) 0 rfl rfl 2 (by decide) (by decide +kernel) (v := .ref hE) rfl dX3_find_52 ?_
            refine lv_iload_n C0.1 C0.2.1 dX3_find_55 rfl (lv_at hl 0 rfl) ?_
            refine k_calli (n := 1) (wr := [(hF, .inr (3, [.ref hB, .ref hV, .ref hE, .ref hC])), (hP, .inr (5, [.ref aL, .int (iI ((m2 : Int)))])), (aL, .inl (cA 0, 16, .inl (fun y_ => iI (L y_))))]) C0 S (c_X2_trace l D cA hE aE hV hB aB d (c2) (x2) pl2 (rd d ((a) + 5)) hd hB2 (by omega) (by omega)) gX3_find_X2_trace rfl ⟨rfl, rfl⟩ (by decide +kernel) ⟨Nat.le_of_ble_eq_true rfl, Nat.le_of_ble_eq_true rfl⟩ [3, 4, 5, 6, 7] [0, 1, 2] rfl rfl rfl rfl (by decide) (ci := 2) (q0 := 0) rfl rfl (As := [.int (iI (rd d ((a) + 5)))]) rfl hl.1 rfl (Nat.le_of_ble_eq_true rfl) dX3_find_56 ⟨Nat.zero_le _, Nat.zero_le _⟩ (fun r u H locs hp S => ?_)
            obtain ⟨cnt6, pl7, rfl, rfl, htcnt6⟩ := hp
            have S := S.sub (ws' := [(hF, .inr (3, [.ref hB, .ref hV, .ref hE, .ref hC])), (hP, .inr (5, [.ref aL, .int (iI ((m2 : Int)))])), (aL, .inl (cA 0, 16, .inl (fun y_ => iI (L y_)))), (hE, .inr (2, [.ref hB, .ref hV, .ref aE, .int (iI (cnt6)), .int (iI (0))])), (aE, .inl (cA 0, 64, .inl (fun y_ => iI (pl7 y_)))), (hV, .inr (8, [.ref hB, .int (iI (chs d)), .int (iI (gRoot d)), .int (iI (gN d)), .int (iI (gSz d)), .int (iI (gT d)), .int (iI (gTB d)), .int (iI (gTA d)), .int (iI (gCA d))])), (hB, .inr (0, [.ref aB])), (aB, .inl (cA 1, 2048, .inl (fun y_ => bI (d y_))))]) [0, 1, 2, 3, 4, 5, 6, 7] rfl rfl
            refine k_bz_ne (tgt := 65) C0 dX3_find_59 (by decide) (fun c59 => ?_) (fun c59 => ?_)
            · refine lv_aload_n C0.1 C0.2.1 dX3_find_65 rfl (lv_at hl 3 rfl) ?_
              refine lv_aload_n C0.1 C0.2.1 dX3_find_66 rfl (lv_at hl 4 rfl) ?_
              refine lv_iload C0.1 C0.2.1 dX3_find_67 (lv_at hl 1 rfl) ?_
              refine k_calli (n := 2) (wr := []) C0 S (c_X3_findName l D cA hF hP aL hE aE hV hB aB hC ((m2 : Int)) (cnt6) L pl7 d k (rd d ((a) + 5)) hd hB2 hL (by omega) (htcnt6 c59)) gX3_find_X3_findName rfl ⟨rfl, rfl⟩ (by decide +kernel) ⟨Nat.le_of_ble_eq_true rfl, Nat.le_of_ble_eq_true rfl⟩ [0, 1, 2, 3, 4, 5, 6, 7] [] rfl rfl rfl rfl (by decide) (ci := 3) (q0 := 0) rfl rfl (As := [.ref hP, .int (iI ((k : Int)))]) rfl hl.1 rfl (Nat.le_of_ble_eq_true rfl) dX3_find_69 ⟨Nat.zero_le _, Nat.zero_le _⟩ (fun r u H locs hp S => ?_)
              obtain ⟨a8, t9, rfl, rfl, hfn⟩ := hp
              have S := S.sub (ws' := [(hF, .inr (3, [.ref hB, .ref hV, .ref hE, .ref hC])), (hP, .inr (5, [.ref aL, .int (iI ((m2 : Int)))])), (aL, .inl (cA 0, 16, .inl (fun y_ => iI (L y_)))), (hE, .inr (2, [.ref hB, .ref hV, .ref aE, .int (iI (cnt6)), .int (iI (t9))])), (aE, .inl (cA 0, 64, .inl (fun y_ => iI (pl7 y_)))), (hV, .inr (8, [.ref hB, .int (iI (chs d)), .int (iI (gRoot d)), .int (iI (gN d)), .int (iI (gSz d)), .int (iI (gT d)), .int (iI (gTB d)), .int (iI (gTA d)), .int (iI (gCA d))])), (hB, .inr (0, [.ref aB])), (aB, .inl (cA 1, 2048, .inl (fun y_ => bI (d y_))))]) [0, 1, 2, 3, 4, 5, 6, 7] rfl rfl
              have hra : a8 = -1 ∨ (0 ≤ a8 ∧ a8 + 8 ≤ 2048) := by omega
              refine lv_istore_n (lv' := [(3, .int (iI (a8))), (2, .int (iI (rd d ((a) + 5)))), (4, .int (iI ((k : Int)))), (0, .ref hF), (1, .ref hP)]) C0.1 C0.2.1 dX3_find_72 rfl hl (by decide) rfl (fun ls hl => ?_)
              refine lv_iload_n C0.1 C0.2.1 dX3_find_73 rfl (lv_at hl 0 rfl) ?_
              refine k_if_ge (tgt := 80) C0 (by constructor <;> omega) dX3_find_74 (by decide) (fun c74 => ?_) (fun c74 => ?_)
              · refine lv_iinc (v := iI ((k : Int) + 1)) (lv' := [(4, .int (iI ((k : Int) + 1))), (3, .int (iI (a8))), (2, .int (iI (rd d ((a) + 5)))), (0, .ref hF), (1, .ref hP)]) C0.1 C0.2.1 dX3_find_80 hl (k := 2) rfl (iI_add _ _) (by decide) rfl (fun ls hl => ?_)
                refine lv_goto (tgt := 14) C0.1 C0.2.1 dX3_find_83 (by decide) ?_
                have hlk : lkp d (rd d ((a) + 5)) (ks k) = a8 := by rw [lkp_ok c59, ← hks k (by omega)]; omega
                have hfi := FI_step (fx := rd d ((a) + 5)) (show k < m2 by omega) hfd (by omega) (by omega)
                rw [hlk] at hfi
                exact ih14 (k + 1) (rd d ((a) + 5)) (a8) (cnt6) (t9) (pl7) (by omega) hfi ⟨by omega, by omega⟩ (by omega) _ _ S _ (lv_sub hl [0, 1, 2, 3, 4] rfl)
              · refine lv_bipush (v := iI (-6)) C0.1 C0.2.1 dX3_find_77 (by decide) ?_
                subst hQ
                refine k_iret C0 S hAe hsz hr hlk dX3_find_79 ?_
                have hlk : lkp d (rd d ((a) + 5)) (ks k) = -6 := by rw [lkp_ok c59, ← hks k (by omega)]; omega
                have hq : fnd d ks m2 = -6 := by rw [hfd, show m2 - k = (m2 - k - 1) + 1 by omega, fnF_neg (by rw [hlk]; decide), hlk]
                exact ⟨_, _, _, congrArg iI hq.symm, rfl, Or.inl (by omega), by omega⟩
            · refine lv_bipush (v := iI (-9)) C0.1 C0.2.1 dX3_find_62 (by decide) ?_
              subst hQ
              refine k_iret C0 S hAe hsz hr hlk dX3_find_64 ?_
              have hq : fnd d ks m2 = -9 := by rw [hfd, show m2 - k = (m2 - k - 1) + 1 by omega, fnF_neg (by rw [lkp_no c59]; decide), lkp_no c59]
              exact ⟨_, _, _, congrArg iI hq.symm, rfl, Or.inl (by omega), by omega⟩
          · refine lv_bipush (v := iI (-8)) C0.1 C0.2.1 dX3_find_39 (by decide) ?_
            subst hQ
            refine k_iret C0 S hAe hsz hr hlk dX3_find_41 ?_
            have hq := hi6 (by omega) c36
            exact ⟨_, _, _, congrArg iI hq.symm, rfl, Or.inl (by omega), by omega⟩
  exact L14 (m2 + 1) (0) (gRoot d) (-6) (cnt) (v2) (pl) (by omega) (Or.inl ⟨rfl, rfl⟩) ⟨by decide, by decide⟩ (by omega) _ _ S _ (lv_sub hl [0, 1, 2, 3, 4] rfl)
theorem fil_dir {d ks : Nat → Int} {n : Nat} (h : 0 ≤ fnd d ks n) (h2 : isD d (fnd d ks n)) : fil d ks n = -7 := by
  classical
  unfold fil; rw [if_pos ⟨h, h2⟩]
theorem fil_no {d ks : Nat → Int} {n : Nat} (h : ¬ (0 ≤ fnd d ks n ∧ isD d (fnd d ks n))) : fil d ks n = fnd d ks n := by
  classical
  unfold fil; rw [if_neg h]
def rmX3_findFile : Room := { frames := 4, cells := 0, slots := 0, locals := 93 }
set_option maxHeartbeats 4000000 in
set_option maxRecDepth 100000 in
theorem c_X3_findFile (l : Launch) (D : va_G) (cA : Nat → ClassId) (hF hP aL hE aE hV hB aB hC : Nat) (cnt v2 : Int) (L pl d ks : Nat → Int) (m2 : Nat) (hd : By d) (hB2 : gB d) (hL : By16 L) (hm1 : 1 ≤ m2) (hm2 : m2 ≤ 4) (hks : ∀ k, k < m2 → lkey L k = ks k) : kCi l D vwCl (kTys cA) yX3_findFile wsX3_findFile rmX3_findFile [.ref hF, .ref hP] [(hF, .inr (3, [.ref hB, .ref hV, .ref hE, .ref hC])), (hP, .inr (5, [.ref aL, .int (iI ((m2 : Int)))])), (aL, .inl (cA 0, 16, .inl (fun y_ => iI (L y_)))), (hE, .inr (2, [.ref hB, .ref hV, .ref aE, .int (iI (cnt)), .int (iI (v2))])), (aE, .inl (cA 0, 64, .inl (fun y_ => iI (pl y_)))), (hV, .inr (8, [.ref hB, .int (iI (chs d)), .int (iI (gRoot d)), .int (iI (gN d)), .int (iI (gSz d)), .int (iI (gT d)), .int (iI (gTB d)), .int (iI (gTA d)), .int (iI (gCA d))])), (hB, .inr (0, [.ref aB])), (aB, .inl (cA 1, 2048, .inl (fun y_ => bI (d y_))))] (fun r u => ∃ (cnt2 t2 : Int) (pl2 : Nat → Int), r = iI (fil d ks m2) ∧ u = [(hF, .inr (3, [.ref hB, .ref hV, .ref hE, .ref hC])), (hP, .inr (5, [.ref aL, .int (iI ((m2 : Int)))])), (aL, .inl (cA 0, 16, .inl (fun y_ => iI (L y_)))), (hE, .inr (2, [.ref hB, .ref hV, .ref aE, .int (iI (cnt2)), .int (iI (t2))])), (aE, .inl (cA 0, 64, .inl (fun y_ => iI (pl2 y_)))), (hV, .inr (8, [.ref hB, .int (iI (chs d)), .int (iI (gRoot d)), .int (iI (gN d)), .int (iI (gSz d)), .int (iI (gT d)), .int (iI (gTB d)), .int (iI (gTA d)), .int (iI (gCA d))])), (hB, .inr (0, [.ref aB])), (aB, .inl (cA 1, 2048, .inl (fun y_ => bI (d y_))))] ∧ (fil d ks m2 < 0 ∨ fil d ks m2 + 8 ≤ 2048) ∧ -100 ≤ fil d ks m2) := by
  intro sz
  refine kEntry (cc := cX3_findFile) (maxL := 3) (ret := (some .int)) (by decide) rfl (Nat.le_of_ble_eq_true rfl) ?_
  intro p e s m args below meth c A Q hAe hQ C0 hr hlk S hsz ls hl
  have hl : lv_has ls 3 [(0, .ref hF), (1, .ref hP)] := hl
  refine lv_aload_n C0.1 C0.2.1 dX3_findFile_0 rfl (lv_at hl 0 rfl) ?_
  refine lv_aload_n C0.1 C0.2.1 dX3_findFile_1 rfl (lv_at hl 1 rfl) ?_
  refine k_calli (n := 1) (wr := []) C0 S (c_X3_find l D cA hF hP aL hE aE hV hB aB hC (cnt) (v2) L pl d ks m2 hd hB2 hL (by omega) (by omega) hks) gX3_findFile_X3_find rfl ⟨rfl, rfl⟩ (by decide +kernel) ⟨Nat.le_of_ble_eq_true rfl, Nat.le_of_ble_eq_true rfl⟩ [0, 1, 2, 3, 4, 5, 6, 7] [] rfl rfl rfl rfl (by decide) (ci := 3) (q0 := 0) rfl rfl (As := [.ref hP]) rfl hl.1 rfl (Nat.le_of_ble_eq_true rfl) dX3_findFile_2 ⟨Nat.zero_le _, Nat.zero_le _⟩ (fun r u H locs hp S => ?_)
  obtain ⟨c1, t2, pl3, rfl, rfl, hfr1, hfr2⟩ := hp
  have S := S.sub (ws' := [(hF, .inr (3, [.ref hB, .ref hV, .ref hE, .ref hC])), (hP, .inr (5, [.ref aL, .int (iI ((m2 : Int)))])), (aL, .inl (cA 0, 16, .inl (fun y_ => iI (L y_)))), (hE, .inr (2, [.ref hB, .ref hV, .ref aE, .int (iI (c1)), .int (iI (t2))])), (aE, .inl (cA 0, 64, .inl (fun y_ => iI (pl3 y_)))), (hV, .inr (8, [.ref hB, .int (iI (chs d)), .int (iI (gRoot d)), .int (iI (gN d)), .int (iI (gSz d)), .int (iI (gT d)), .int (iI (gTB d)), .int (iI (gTA d)), .int (iI (gCA d))])), (hB, .inr (0, [.ref aB])), (aB, .inl (cA 1, 2048, .inl (fun y_ => bI (d y_))))]) [0, 1, 2, 3, 4, 5, 6, 7] rfl rfl
  refine lv_istore_n (lv' := [(2, .int (iI (fnd d ks m2))), (0, .ref hF), (1, .ref hP)]) C0.1 C0.2.1 dX3_findFile_5 rfl hl (by decide) rfl (fun ls hl => ?_)
  refine lv_iload_n C0.1 C0.2.1 dX3_findFile_6 rfl (lv_at hl 0 rfl) ?_
  refine k_if_lt (tgt := 26) C0 (by constructor <;> omega) dX3_findFile_7 (by decide) (fun c7 => ?_) (fun c7 => ?_)
  · refine lv_iload_n C0.1 C0.2.1 dX3_findFile_26 rfl (lv_at hl 0 rfl) ?_
    subst hQ
    refine k_iret C0 S hAe hsz hr hlk dX3_findFile_27 ?_
    have hq : fil d ks m2 = fnd d ks m2 := fil_no (by rintro ⟨h1, h2⟩; exact absurd h1 (by omega))
    exact ⟨_, _, _, congrArg iI hq.symm, rfl, by omega, by omega⟩
  · refine lv_aload_n C0.1 C0.2.1 dX3_findFile_10 rfl (lv_at hl 1 rfl) ?_
    refine k_get C0 S (C := RX3) (T := TX3) (N := 4) (ci := 3) (by decide +kernel) 0 rfl rfl 1 (by decide) (by decide +kernel) (v := .ref hV) rfl dX3_findFile_11 ?_
    refine lv_iload_n C0.1 C0.2.1 dX3_findFile_14 rfl (lv_at hl 0 rfl) ?_
    refine k_calli (n := 1) (wr := [(hF, .inr (3, [.ref hB, .ref hV, .ref hE, .ref hC])), (hP, .inr (5, [.ref aL, .int (iI ((m2 : Int)))])), (aL, .inl (cA 0, 16, .inl (fun y_ => iI (L y_)))), (hE, .inr (2, [.ref hB, .ref hV, .ref aE, .int (iI (c1)), .int (iI (t2))])), (aE, .inl (cA 0, 64, .inl (fun y_ => iI (pl3 y_))))]) C0 S (c_X8_isDirectory l D cA hV hB aB d (fnd d ks m2) hd hB2 (by omega) (by omega)) gX3_findFile_X8_isDirectory rfl ⟨rfl, rfl⟩ (by decide +kernel) ⟨Nat.le_of_ble_eq_true rfl, Nat.le_of_ble_eq_true rfl⟩ [5, 6, 7] [0, 1, 2, 3, 4] rfl rfl rfl rfl (by decide) (ci := 8) (q0 := 0) rfl rfl (As := [.int (iI (fnd d ks m2))]) rfl hl.1 rfl (Nat.le_of_ble_eq_true rfl) dX3_findFile_15 ⟨Nat.zero_le _, Nat.zero_le _⟩ (fun r u H locs hp S => ?_)
    obtain ⟨rfl, rfl⟩ := hp
    have S := S.sub (ws' := [(hF, .inr (3, [.ref hB, .ref hV, .ref hE, .ref hC])), (hP, .inr (5, [.ref aL, .int (iI ((m2 : Int)))])), (aL, .inl (cA 0, 16, .inl (fun y_ => iI (L y_)))), (hE, .inr (2, [.ref hB, .ref hV, .ref aE, .int (iI (c1)), .int (iI (t2))])), (aE, .inl (cA 0, 64, .inl (fun y_ => iI (pl3 y_)))), (hV, .inr (8, [.ref hB, .int (iI (chs d)), .int (iI (gRoot d)), .int (iI (gN d)), .int (iI (gSz d)), .int (iI (gT d)), .int (iI (gTB d)), .int (iI (gTA d)), .int (iI (gCA d))])), (hB, .inr (0, [.ref aB])), (aB, .inl (cA 1, 2048, .inl (fun y_ => bI (d y_))))]) [0, 1, 2, 3, 4, 5, 6, 7] rfl rfl
    refine k_bz_eq (tgt := 26) C0 dX3_findFile_18 (by decide) (fun c18 => ?_) (fun c18 => ?_)
    · refine lv_iload_n C0.1 C0.2.1 dX3_findFile_26 rfl (lv_at hl 0 rfl) ?_
      subst hQ
      refine k_iret C0 S hAe hsz hr hlk dX3_findFile_27 ?_
      have hq : fil d ks m2 = fnd d ks m2 := fil_no (by rintro ⟨h1, h2⟩; exact c18 h2)
      exact ⟨_, _, _, congrArg iI hq.symm, rfl, by omega, by omega⟩
    · refine lv_bipush (v := iI (-7)) C0.1 C0.2.1 dX3_findFile_21 (by decide) ?_
      refine lv_goto (tgt := 27) C0.1 C0.2.1 dX3_findFile_23 (by decide) ?_
      subst hQ
      refine k_iret C0 S hAe hsz hr hlk dX3_findFile_27 ?_
      have hq := fil_dir (by omega) c18
      exact ⟨_, _, _, congrArg iI hq.symm, rfl, Or.inl (by omega), by omega⟩
def rmX3_open : Room := { frames := 3, cells := 0, slots := 0, locals := 66 }
set_option maxHeartbeats 4000000 in
set_option maxRecDepth 100000 in
theorem c_X3_open (l : Launch) (D : va_G) (cA : Nat → ClassId) (hF hC aC hV hB aB hE : Nat) (v1 v2 : Int) (pl d : Nat → Int) (a : Int) (hd : By d) (hB2 : gB d) (ha0 : 0 ≤ a) (ha1 : a + 8 ≤ 2048) : kCi l D vwCl (kTys cA) yX3_open wsX3_open rmX3_open [.ref hF, .int (iI (a))] [(hF, .inr (3, [.ref hB, .ref hV, .ref hE, .ref hC])), (hC, .inr (2, [.ref hB, .ref hV, .ref aC, .int (iI (v1)), .int (iI (v2))])), (aC, .inl (cA 0, 64, .inl (fun y_ => iI (pl y_)))), (hV, .inr (8, [.ref hB, .int (iI (chs d)), .int (iI (gRoot d)), .int (iI (gN d)), .int (iI (gSz d)), .int (iI (gT d)), .int (iI (gTB d)), .int (iI (gTA d)), .int (iI (gCA d))])), (hB, .inr (0, [.ref aB])), (aB, .inl (cA 1, 2048, .inl (fun y_ => bI (d y_))))] (fun r u => ∃ (c2 t2 : Int) (pl2 : Nat → Int), r = iI (opn d a) ∧ u = [(hF, .inr (3, [.ref hB, .ref hV, .ref hE, .ref hC])), (hC, .inr (2, [.ref hB, .ref hV, .ref aC, .int (iI (c2)), .int (iI (t2))])), (aC, .inl (cA 0, 64, .inl (fun y_ => iI (pl2 y_)))), (hV, .inr (8, [.ref hB, .int (iI (chs d)), .int (iI (gRoot d)), .int (iI (gN d)), .int (iI (gSz d)), .int (iI (gT d)), .int (iI (gTB d)), .int (iI (gTA d)), .int (iI (gCA d))])), (hB, .inr (0, [.ref aB])), (aB, .inl (cA 1, 2048, .inl (fun y_ => bI (d y_))))] ∧ (0 < opn d a → Tr d (rd d (a + 5)) c2 pl2) ∧ (-100 ≤ opn d a ∧ opn d a < 65536)) := by
  intro sz
  refine kEntry (cc := cX3_open) (maxL := 4) (ret := (some .int)) (by decide) rfl (Nat.le_of_ble_eq_true rfl) ?_
  intro p e s m args below meth c A Q hAe hQ C0 hr hlk S hsz ls hl
  have hl : lv_has ls 4 [(0, .ref hF), (1, .int (iI (a)))] := hl
  obtain ⟨⟨g1, g2⟩, g3, ⟨g4, g5⟩, g6, ⟨g7, g8⟩, ⟨g9, g10⟩, g11, ⟨g12, g13⟩, g14⟩ := hB2.lin
  refine lv_aload_n C0.1 C0.2.1 dX3_open_0 rfl (lv_at hl 0 rfl) ?_
  refine k_get C0 S (C := RX3) (T := TX3) (N := 4) (ci := 3) (by decide +kernel) 0 rfl rfl 1 (by decide) (by decide +kernel) (v := .ref hV) rfl dX3_open_1 ?_
  refine lv_iload_n C0.1 C0.2.1 dX3_open_4 rfl (lv_at hl 1 rfl) ?_
  refine k_calli (n := 1) (wr := [(hF, .inr (3, [.ref hB, .ref hV, .ref hE, .ref hC])), (hC, .inr (2, [.ref hB, .ref hV, .ref aC, .int (iI (v1)), .int (iI (v2))])), (aC, .inl (cA 0, 64, .inl (fun y_ => iI (pl y_))))]) C0 S (c_X8_sizeOf l D cA hV hB aB d (a) hd hB2 (by omega) (by omega)) gX3_open_X8_sizeOf rfl ⟨rfl, rfl⟩ (by decide +kernel) ⟨Nat.le_of_ble_eq_true rfl, Nat.le_of_ble_eq_true rfl⟩ [3, 4, 5] [0, 1, 2] rfl rfl rfl rfl (by decide) (ci := 8) (q0 := 0) rfl rfl (As := [.int (iI (a))]) rfl hl.1 rfl (Nat.le_of_ble_eq_true rfl) dX3_open_5 ⟨Nat.zero_le _, Nat.zero_le _⟩ (fun r u H locs hp S => ?_)
  obtain ⟨rfl, rfl⟩ := hp
  have S := S.sub (ws' := [(hF, .inr (3, [.ref hB, .ref hV, .ref hE, .ref hC])), (hC, .inr (2, [.ref hB, .ref hV, .ref aC, .int (iI (v1)), .int (iI (v2))])), (aC, .inl (cA 0, 64, .inl (fun y_ => iI (pl y_)))), (hV, .inr (8, [.ref hB, .int (iI (chs d)), .int (iI (gRoot d)), .int (iI (gN d)), .int (iI (gSz d)), .int (iI (gT d)), .int (iI (gTB d)), .int (iI (gTA d)), .int (iI (gCA d))])), (hB, .inr (0, [.ref aB])), (aB, .inl (cA 1, 2048, .inl (fun y_ => bI (d y_))))]) [0, 1, 2, 3, 4, 5] rfl rfl
  have hb1 := By_wrd hd ((a) + 6)
  refine lv_istore_n (lv' := [(2, .int (iI (wrd d ((a) + 6)))), (0, .ref hF), (1, .int (iI (a)))]) C0.1 C0.2.1 dX3_open_8 rfl hl (by decide) rfl (fun ls hl => ?_)
  refine lv_iload_n C0.1 C0.2.1 dX3_open_9 rfl (lv_at hl 0 rfl) ?_
  refine k_if_ne (tgt := 15) C0 (by constructor <;> omega) dX3_open_10 (by decide) (fun c10 => ?_) (fun c10 => ?_)
  · refine lv_aload_n C0.1 C0.2.1 dX3_open_15 rfl (lv_at hl 1 rfl) ?_
    refine k_get C0 S (C := RX3) (T := TX3) (N := 4) (ci := 3) (by decide +kernel) 0 rfl rfl 3 (by decide) (by decide +kernel) (v := .ref hC) rfl dX3_open_16 ?_
    refine lv_aload_n C0.1 C0.2.1 dX3_open_19 rfl (lv_at hl 1 rfl) ?_
    refine k_get C0 S (C := RX3) (T := TX3) (N := 4) (ci := 3) (by decide +kernel) 0 rfl rfl 1 (by decide) (by decide +kernel) (v := .ref hV) rfl dX3_open_20 ?_
    refine lv_iload_n C0.1 C0.2.1 dX3_open_23 rfl (lv_at hl 2 rfl) ?_
    refine k_calli (n := 1) (wr := [(hF, .inr (3, [.ref hB, .ref hV, .ref hE, .ref hC])), (hC, .inr (2, [.ref hB, .ref hV, .ref aC, .int (iI (v1)), .int (iI (v2))])), (aC, .inl (cA 0, 64, .inl (fun y_ => iI (pl y_))))]) C0 S (c_X8_firstClusterOf l D cA hV hB aB d (a) hd hB2 (by omega) (by omega)) gX3_open_X8_firstClusterOf rfl ⟨rfl, rfl⟩ (by decide +kernel) ⟨Nat.le_of_ble_eq_true rfl, Nat.le_of_ble_eq_true rfl⟩ [3, 4, 5] [0, 1, 2] rfl rfl rfl rfl (by decide) (ci := 8) (q0 := 0) rfl rfl (As := [.int (iI (a))]) rfl hl.1 rfl (Nat.le_of_ble_eq_true rfl) dX3_open_24 ⟨Nat.zero_le _, Nat.zero_le _⟩ (fun r u H locs hp S => ?_)
    obtain ⟨rfl, rfl⟩ := hp
    have S := S.sub (ws' := [(hF, .inr (3, [.ref hB, .ref hV, .ref hE, .ref hC])), (hC, .inr (2, [.ref hB, .ref hV, .ref aC, .int (iI (v1)), .int (iI (v2))])), (aC, .inl (cA 0, 64, .inl (fun y_ => iI (pl y_)))), (hV, .inr (8, [.ref hB, .int (iI (chs d)), .int (iI (gRoot d)), .int (iI (gN d)), .int (iI (gSz d)), .int (iI (gT d)), .int (iI (gTB d)), .int (iI (gTA d)), .int (iI (gCA d))])), (hB, .inr (0, [.ref aB])), (aB, .inl (cA 1, 2048, .inl (fun y_ => bI (d y_))))]) [0, 1, 2, 3, 4, 5] rfl rfl
    have hb2 := By.rd hd ((a) + 5)
    refine k_calli (n := 1) (wr := [(hF, .inr (3, [.ref hB, .ref hV, .ref hE, .ref hC]))]) C0 S (c_X2_trace l D cA hC aC hV hB aB d (v1) (v2) pl (rd d ((a) + 5)) hd hB2 (by omega) (by omega)) gX3_open_X2_trace rfl ⟨rfl, rfl⟩ (by decide +kernel) ⟨Nat.le_of_ble_eq_true rfl, Nat.le_of_ble_eq_true rfl⟩ [1, 2, 3, 4, 5] [0] rfl rfl rfl rfl (by decide) (ci := 2) (q0 := 0) rfl rfl (As := [.int (iI (rd d ((a) + 5)))]) rfl hl.1 rfl (Nat.le_of_ble_eq_true rfl) dX3_open_27 ⟨Nat.zero_le _, Nat.zero_le _⟩ (fun r u H locs hp S => ?_)
    obtain ⟨cnt3, pl4, rfl, rfl, htcnt3⟩ := hp
    have S := S.sub (ws' := [(hF, .inr (3, [.ref hB, .ref hV, .ref hE, .ref hC])), (hC, .inr (2, [.ref hB, .ref hV, .ref aC, .int (iI (cnt3)), .int (iI (0))])), (aC, .inl (cA 0, 64, .inl (fun y_ => iI (pl4 y_)))), (hV, .inr (8, [.ref hB, .int (iI (chs d)), .int (iI (gRoot d)), .int (iI (gN d)), .int (iI (gSz d)), .int (iI (gT d)), .int (iI (gTB d)), .int (iI (gTA d)), .int (iI (gCA d))])), (hB, .inr (0, [.ref aB])), (aB, .inl (cA 1, 2048, .inl (fun y_ => bI (d y_))))]) [0, 1, 2, 3, 4, 5] rfl rfl
    refine k_bz_eq (tgt := 48) C0 dX3_open_30 (by decide) (fun c30 => ?_) (fun c30 => ?_)
    · refine lv_iconst (v := iI (0)) C0.1 C0.2.1 dX3_open_48 rfl ?_
      refine lv_istore_n (lv' := [(3, .int (iI (0))), (2, .int (iI (wrd d ((a) + 6)))), (0, .ref hF), (1, .int (iI (a)))]) C0.1 C0.2.1 dX3_open_49 rfl hl (by decide) rfl (fun ls hl => ?_)
      refine lv_iload_n C0.1 C0.2.1 dX3_open_50 rfl (lv_at hl 0 rfl) ?_
      refine k_if_eq (tgt := 58) C0 ⟨by decide, by decide⟩ dX3_open_51 (by decide) (fun _ => ?_) (fun hc => absurd hc (by decide))
      refine lv_bipush (v := iI (-9)) C0.1 C0.2.1 dX3_open_58 (by decide) ?_
      subst hQ
      refine k_iret C0 S hAe hsz hr hlk dX3_open_60 ?_
      have hq := opn_no c10 (by rintro ⟨h1, h2⟩; exact c30 h1)
      exact ⟨_, _, _, congrArg iI hq.symm, rfl, fun h => absurd h (by omega), by omega, by omega⟩
    · refine lv_aload_n C0.1 C0.2.1 dX3_open_33 rfl (lv_at hl 1 rfl) ?_
      refine k_get C0 S (C := RX3) (T := TX3) (N := 4) (ci := 3) (by decide +kernel) 0 rfl rfl 3 (by decide) (by decide +kernel) (v := .ref hC) rfl dX3_open_34 ?_
      have hcn := (htcnt3 c30).2.1
      obtain ⟨⟨hca1, hca2⟩, -⟩ := chn_all hB2 c30
      have hcb : 0 ≤ chn d (rd d (a + 5)) * gSz d ∧ chn d (rd d (a + 5)) * gSz d ≤ 16384 := by rcases g11 with e | e | e <;> rw [e] <;> omega
      refine k_calli (n := 0) (wr := [(hF, .inr (3, [.ref hB, .ref hV, .ref hE, .ref hC]))]) C0 S (c_X2_bytes l D cA hC aC hV hB aB d (cnt3) (0) pl4 hd hB2) gX3_open_X2_bytes rfl ⟨rfl, rfl⟩ (by decide +kernel) ⟨Nat.le_of_ble_eq_true rfl, Nat.le_of_ble_eq_true rfl⟩ [1, 2, 3, 4, 5] [0] rfl rfl rfl rfl (by decide) (ci := 2) (q0 := 0) rfl rfl (As := []) rfl hl.1 rfl (Nat.le_of_ble_eq_true rfl) dX3_open_37 ⟨Nat.zero_le _, Nat.zero_le _⟩ (fun r u H locs hp S => ?_)
      obtain ⟨rfl, rfl⟩ := hp
      have S := S.sub (ws' := [(hF, .inr (3, [.ref hB, .ref hV, .ref hE, .ref hC])), (hC, .inr (2, [.ref hB, .ref hV, .ref aC, .int (iI (cnt3)), .int (iI (0))])), (aC, .inl (cA 0, 64, .inl (fun y_ => iI (pl4 y_)))), (hV, .inr (8, [.ref hB, .int (iI (chs d)), .int (iI (gRoot d)), .int (iI (gN d)), .int (iI (gSz d)), .int (iI (gT d)), .int (iI (gTB d)), .int (iI (gTA d)), .int (iI (gCA d))])), (hB, .inr (0, [.ref aB])), (aB, .inl (cA 1, 2048, .inl (fun y_ => bI (d y_))))]) [0, 1, 2, 3, 4, 5] rfl rfl
      refine k_topeq (v := iI (chn d (rd d (a + 5)) * gSz d)) (by rw [hcn]) ?_
      refine lv_iload_n C0.1 C0.2.1 dX3_open_40 rfl (lv_at hl 0 rfl) ?_
      refine k_icmp_lt (tgt := 48) C0 (by constructor <;> omega) (by constructor <;> omega) dX3_open_41 (by decide) (fun c41 => ?_) (fun c41 => ?_)
      · refine lv_iconst (v := iI (0)) C0.1 C0.2.1 dX3_open_48 rfl ?_
        refine lv_istore_n (lv' := [(3, .int (iI (0))), (2, .int (iI (wrd d ((a) + 6)))), (0, .ref hF), (1, .int (iI (a)))]) C0.1 C0.2.1 dX3_open_49 rfl hl (by decide) rfl (fun ls hl => ?_)
        refine lv_iload_n C0.1 C0.2.1 dX3_open_50 rfl (lv_at hl 0 rfl) ?_
        refine k_if_eq (tgt := 58) C0 ⟨by decide, by decide⟩ dX3_open_51 (by decide) (fun _ => ?_) (fun hc => absurd hc (by decide))
        refine lv_bipush (v := iI (-9)) C0.1 C0.2.1 dX3_open_58 (by decide) ?_
        subst hQ
        refine k_iret C0 S hAe hsz hr hlk dX3_open_60 ?_
        have hq := opn_no c10 (by rintro ⟨h1, h2⟩; exact absurd h2 (by omega))
        exact ⟨_, _, _, congrArg iI hq.symm, rfl, fun h => absurd h (by omega), by omega, by omega⟩
      · refine lv_iconst (v := iI (1)) C0.1 C0.2.1 dX3_open_44 rfl ?_
        refine lv_goto (tgt := 49) C0.1 C0.2.1 dX3_open_45 (by decide) ?_
        refine lv_istore_n (lv' := [(3, .int (iI (1))), (2, .int (iI (wrd d ((a) + 6)))), (0, .ref hF), (1, .int (iI (a)))]) C0.1 C0.2.1 dX3_open_49 rfl hl (by decide) rfl (fun ls hl => ?_)
        refine lv_iload_n C0.1 C0.2.1 dX3_open_50 rfl (lv_at hl 0 rfl) ?_
        refine k_if_eq (tgt := 58) C0 ⟨by decide, by decide⟩ dX3_open_51 (by decide) (fun hc => absurd hc (by decide)) (fun _ => ?_)
        refine lv_iload_n C0.1 C0.2.1 dX3_open_54 rfl (lv_at hl 1 rfl) ?_
        refine lv_goto (tgt := 60) C0.1 C0.2.1 dX3_open_55 (by decide) ?_
        subst hQ
        refine k_iret C0 S hAe hsz hr hlk dX3_open_60 ?_
        have hq := opn_ok c10 c30 (by omega)
        exact ⟨_, _, _, congrArg iI hq.symm, rfl, fun _ => htcnt3 c30, by omega, by omega⟩
  · refine lv_iconst (v := iI (0)) C0.1 C0.2.1 dX3_open_13 rfl ?_
    subst hQ
    refine k_iret C0 S hAe hsz hr hlk dX3_open_14 ?_
    have hq := opn_0 c10
    exact ⟨_, _, _, congrArg iI hq.symm, rfl, fun h => absurd h (by omega), by omega, by omega⟩
def rmX3_nameNumbered : Room := { frames := 3, cells := 0, slots := 0, locals := 66 }
set_option maxHeartbeats 4000000 in
set_option maxRecDepth 100000 in
theorem c_X3_nameNumbered (l : Launch) (D : va_G) (cA : Nat → ClassId) (hF hE aE hV hB aB hC : Nat) (v1 v2 : Int) (pl d : Nat → Int) (first i : Int) (hd : By d) (hB2 : gB d) (hf1 : 0 ≤ first) (hf2 : first < 256) (hi : ir i) : kCl l D vwCl (kTys cA) yX3_nameNumbered wsX3_nameNumbered rmX3_nameNumbered [.ref hF, .int (iI (first)), .int (iI (i))] [(hF, .inr (3, [.ref hB, .ref hV, .ref hE, .ref hC])), (hE, .inr (2, [.ref hB, .ref hV, .ref aE, .int (iI (v1)), .int (iI (v2))])), (aE, .inl (cA 0, 64, .inl (fun y_ => iI (pl y_)))), (hV, .inr (8, [.ref hB, .int (iI (chs d)), .int (iI (gRoot d)), .int (iI (gN d)), .int (iI (gSz d)), .int (iI (gT d)), .int (iI (gTB d)), .int (iI (gTA d)), .int (iI (gCA d))])), (hB, .inr (0, [.ref aB])), (aB, .inl (cA 1, 2048, .inl (fun y_ => bI (d y_))))] (fun r u => ∃ (c2 t2 : Int) (pl2 : Nat → Int), r = lI (lnm d first i) ∧ u = [(hF, .inr (3, [.ref hB, .ref hV, .ref hE, .ref hC])), (hE, .inr (2, [.ref hB, .ref hV, .ref aE, .int (iI (c2)), .int (iI (t2))])), (aE, .inl (cA 0, 64, .inl (fun y_ => iI (pl2 y_)))), (hV, .inr (8, [.ref hB, .int (iI (chs d)), .int (iI (gRoot d)), .int (iI (gN d)), .int (iI (gSz d)), .int (iI (gT d)), .int (iI (gTB d)), .int (iI (gTA d)), .int (iI (gCA d))])), (hB, .inr (0, [.ref aB])), (aB, .inl (cA 1, 2048, .inl (fun y_ => bI (d y_))))]) := by
  intro sz
  refine kEntry (cc := cX3_nameNumbered) (maxL := 5) (ret := (some .long)) (by decide) rfl (Nat.le_of_ble_eq_true rfl) ?_
  intro p e s m args below meth c A Q hAe hQ C0 hr hlk S hsz ls hl
  have hl : lv_has ls 5 [(0, .ref hF), (1, .int (iI (first))), (2, .int (iI (i)))] := hl
  obtain ⟨hii1, hii2⟩ := hi
  refine lv_aload_n C0.1 C0.2.1 dX3_nameNumbered_0 rfl (lv_at hl 0 rfl) ?_
  refine k_get C0 S (C := RX3) (T := TX3) (N := 4) (ci := 3) (by decide +kernel) 0 rfl rfl 2 (by decide) (by decide +kernel) (v := .ref hE) rfl dX3_nameNumbered_1 ?_
  refine lv_iload_n C0.1 C0.2.1 dX3_nameNumbered_4 rfl (lv_at hl 1 rfl) ?_
  refine k_calli (n := 1) (wr := [(hF, .inr (3, [.ref hB, .ref hV, .ref hE, .ref hC]))]) C0 S (c_X2_trace l D cA hE aE hV hB aB d (v1) (v2) pl (first) hd hB2 (by omega) (by omega)) gX3_nameNumbered_X2_trace rfl ⟨rfl, rfl⟩ (by decide +kernel) ⟨Nat.le_of_ble_eq_true rfl, Nat.le_of_ble_eq_true rfl⟩ [1, 2, 3, 4, 5] [0] rfl rfl rfl rfl (by decide) (ci := 2) (q0 := 0) rfl rfl (As := [.int (iI (first))]) rfl hl.1 rfl (Nat.le_of_ble_eq_true rfl) dX3_nameNumbered_5 ⟨Nat.zero_le _, Nat.zero_le _⟩ (fun r u H locs hp S => ?_)
  obtain ⟨cnt1, pl2, rfl, rfl, htcnt1⟩ := hp
  have S := S.sub (ws' := [(hF, .inr (3, [.ref hB, .ref hV, .ref hE, .ref hC])), (hE, .inr (2, [.ref hB, .ref hV, .ref aE, .int (iI (cnt1)), .int (iI (0))])), (aE, .inl (cA 0, 64, .inl (fun y_ => iI (pl2 y_)))), (hV, .inr (8, [.ref hB, .int (iI (chs d)), .int (iI (gRoot d)), .int (iI (gN d)), .int (iI (gSz d)), .int (iI (gT d)), .int (iI (gTB d)), .int (iI (gTA d)), .int (iI (gCA d))])), (hB, .inr (0, [.ref aB])), (aB, .inl (cA 1, 2048, .inl (fun y_ => bI (d y_))))]) [0, 1, 2, 3, 4, 5] rfl rfl
  refine k_bz_ne (tgt := 15) C0 dX3_nameNumbered_8 (by decide) (fun c8 => ?_) (fun c8 => ?_)
  · have hT := htcnt1 c8
    obtain ⟨n1, n2⟩ := nsl_range hB2 hT.1
    refine lv_iconst (v := iI (0)) C0.1 C0.2.1 dX3_nameNumbered_15 rfl ?_
    refine lv_istore_n (lv' := [(3, .int (iI (0))), (0, .ref hF), (1, .int (iI (first))), (2, .int (iI (i)))]) C0.1 C0.2.1 dX3_nameNumbered_16 rfl hl (by decide) rfl (fun ls hl => ?_)
    have L17 : ∀ (n_ : Nat) (q : Nat) (s1 : Int), ((q : Int) ≤ 256) → ((q : Int) ≤ s1 ∧ s1 ≤ 256) → (lst d first (chn d first) 0 i = lst d first (chn d first) s1 (i - (q : Int))) → (256 - q < n_) → ∀ (H : Heap) (locs : List Loc), kS D vwCl (kTys cA) A s [(hF, .inr (3, [.ref hB, .ref hV, .ref hE, .ref hC])), (hE, .inr (2, [.ref hB, .ref hV, .ref aE, .int (iI (cnt1)), .int (iI (s1))])), (aE, .inl (cA 0, 64, .inl (fun y_ => iI (pl2 y_)))), (hV, .inr (8, [.ref hB, .int (iI (chs d)), .int (iI (gRoot d)), .int (iI (gN d)), .int (iI (gSz d)), .int (iI (gT d)), .int (iI (gTB d)), .int (iI (gTA d)), .int (iI (gCA d))])), (hB, .inr (0, [.ref aB])), (aB, .inl (cA 1, 2048, .inl (fun y_ => bI (d y_))))] H locs → ∀ ls : Array Slot, lv_has ls 5 [(3, .int (iI ((q : Int)))), (0, .ref hF), (1, .int (iI (first))), (2, .int (iI (i)))] → W p l e rmX3_nameNumbered s m args below meth c H locs 0 0 Q (F0 m 17 ls []) := by
      intro n_
      induction n_ with
      | zero => intro q s1 hi17_0 hi17_1 hi17_2 hm; exact absurd hm (Nat.not_lt_zero _)
      | succ n_ ih17 =>
        intro q s1 hi17_0 hi17_1 hi17_2 hm H locs S ls hl
        refine lv_iload_n C0.1 C0.2.1 dX3_nameNumbered_17 rfl (lv_at hl 0 rfl) ?_
        refine lv_sipush (v := iI (256)) C0.1 C0.2.1 dX3_nameNumbered_18 (by decide) ?_
        refine k_icmp_ge (tgt := 80) C0 (by constructor <;> omega) ⟨by decide, by decide⟩ dX3_nameNumbered_21 (by decide) (fun c21 => ?_) (fun c21 => ?_)
        · refine lv_ldc2 (v := (-1 : Int64)) C0.1 C0.2.1 C0.2.2.2.1 (C0.2.2.2.2 (.constantLong RX3 77 (-1)) (by decide +kernel)) dX3_nameNumbered_80 ?_
          refine k_topeql (v := lI (-1)) (by decide) ?_
          subst hQ
          refine k_lret C0 S hAe hsz hr hlk dX3_nameNumbered_83 ?_
          refine ⟨_, _, _, congrArg lI ?_, rfl⟩
          rw [lnm_ok c8, hi17_2]
          exact (lst_none (by rw [ent_neg (by omega)]; decide)).symm
        · refine lv_aload_n C0.1 C0.2.1 dX3_nameNumbered_24 rfl (lv_at hl 1 rfl) ?_
          refine k_get C0 S (C := RX3) (T := TX3) (N := 4) (ci := 3) (by decide +kernel) 0 rfl rfl 2 (by decide) (by decide +kernel) (v := .ref hE) rfl dX3_nameNumbered_25 ?_
          refine k_calli (n := 0) (wr := [(hF, .inr (3, [.ref hB, .ref hV, .ref hE, .ref hC]))]) C0 S (c_X2_nextEntry l D cA hE aE hV hB aB d (cnt1) (s1) pl2 (first) hd hB2 hT (by omega) (by omega)) gX3_nameNumbered_X2_nextEntry rfl ⟨rfl, rfl⟩ (by decide +kernel) ⟨Nat.le_of_ble_eq_true rfl, Nat.le_of_ble_eq_true rfl⟩ [1, 2, 3, 4, 5] [0] rfl rfl rfl rfl (by decide) (ci := 2) (q0 := 0) rfl rfl (As := []) rfl hl.1 rfl (Nat.le_of_ble_eq_true rfl) dX3_nameNumbered_28 ⟨Nat.zero_le _, Nat.zero_le _⟩ (fun r u H locs hp S => ?_)
          obtain ⟨a3, t4, rfl, rfl, hnx, ⟨ht0, ht1⟩, hra⟩ := hp
          have S := S.sub (ws' := [(hF, .inr (3, [.ref hB, .ref hV, .ref hE, .ref hC])), (hE, .inr (2, [.ref hB, .ref hV, .ref aE, .int (iI (cnt1)), .int (iI (t4))])), (aE, .inl (cA 0, 64, .inl (fun y_ => iI (pl2 y_)))), (hV, .inr (8, [.ref hB, .int (iI (chs d)), .int (iI (gRoot d)), .int (iI (gN d)), .int (iI (gSz d)), .int (iI (gT d)), .int (iI (gTB d)), .int (iI (gTA d)), .int (iI (gCA d))])), (hB, .inr (0, [.ref aB])), (aB, .inl (cA 1, 2048, .inl (fun y_ => bI (d y_))))]) [0, 1, 2, 3, 4, 5] rfl rfl
          have hsk := NX.skip (F := fun j => lst d first (chn d first) j (i - (q : Int))) hnx (by omega) (fun j _ h1 h2 => lst_pas (by omega) h2)
          refine lv_istore (lv' := [(4, .int (iI (a3))), (3, .int (iI ((q : Int)))), (0, .ref hF), (1, .int (iI (first))), (2, .int (iI (i)))]) C0.1 C0.2.1 dX3_nameNumbered_31 hl (by decide) rfl (fun ls hl => ?_)
          refine lv_iload C0.1 C0.2.1 dX3_nameNumbered_33 (lv_at hl 0 rfl) ?_
          refine k_if_ge (tgt := 42) C0 (by constructor <;> omega) dX3_nameNumbered_35 (by decide) (fun c35 => ?_) (fun c35 => ?_)
          · refine lv_iload_n C0.1 C0.2.1 dX3_nameNumbered_42 rfl (lv_at hl 1 rfl) ?_
            refine lv_iload_n C0.1 C0.2.1 dX3_nameNumbered_43 rfl (lv_at hl 4 rfl) ?_
            refine k_icmp_ne (tgt := 74) C0 (by constructor <;> omega) (by constructor <;> omega) dX3_nameNumbered_44 (by decide) (fun c44 => ?_) (fun c44 => ?_)
            · refine lv_iinc (v := iI ((q : Int) + 1)) (lv' := [(3, .int (iI ((q : Int) + 1))), (4, .int (iI (a3))), (0, .ref hF), (1, .int (iI (first))), (2, .int (iI (i)))]) C0.1 C0.2.1 dX3_nameNumbered_74 hl (k := 1) rfl (iI_add _ _) (by decide) rfl (fun ls hl => ?_)
              refine lv_goto (tgt := 17) C0.1 C0.2.1 dX3_nameNumbered_77 (by decide) ?_
              rcases hsk with ⟨s1_, s2_, s3_, s4_⟩ | ⟨s1_, s2_, s3_, s4_, s5_⟩
              · exact absurd s1_ (by omega)
              have hq : lst d first (chn d first) 0 i = lst d first (chn d first) t4 (i - ((q + 1 : Nat) : Int)) := by
                rw [hi17_2, s5_, lst_step (by omega) (by rw [s3_]; exact s4_) (by omega)]
                congr 1 <;> omega
              exact ih17 (q + 1) (t4) (by omega) ⟨by omega, by omega⟩ hq (by omega) _ _ S _ (lv_sub hl [0, 2, 3, 4] rfl)
            · refine lv_aload_n C0.1 C0.2.1 dX3_nameNumbered_47 rfl (lv_at hl 2 rfl) ?_
              refine k_get C0 S (C := RX3) (T := TX3) (N := 4) (ci := 3) (by decide +kernel) 0 rfl rfl 0 (by decide) (by decide +kernel) (v := .ref hB) rfl dX3_nameNumbered_48 ?_
              refine lv_iload C0.1 C0.2.1 dX3_nameNumbered_51 (lv_at hl 0 rfl) ?_
              refine k_calli (n := 1) (wr := [(hF, .inr (3, [.ref hB, .ref hV, .ref hE, .ref hC])), (hE, .inr (2, [.ref hB, .ref hV, .ref aE, .int (iI (cnt1)), .int (iI (t4))])), (aE, .inl (cA 0, 64, .inl (fun y_ => iI (pl2 y_)))), (hV, .inr (8, [.ref hB, .int (iI (chs d)), .int (iI (gRoot d)), .int (iI (gN d)), .int (iI (gSz d)), .int (iI (gT d)), .int (iI (gTB d)), .int (iI (gTA d)), .int (iI (gCA d))]))]) C0 S (c_X0_wordAt l D cA hB aB 2048 d (a3) hd (by constructor <;> omega) (by omega)) gX3_nameNumbered_X0_wordAt rfl ⟨rfl, rfl⟩ (by decide +kernel) ⟨Nat.le_of_ble_eq_true rfl, Nat.le_of_ble_eq_true rfl⟩ [4, 5] [0, 1, 2, 3] rfl rfl rfl rfl (by decide) (ci := 0) (q0 := 0) rfl rfl (As := [.int (iI (a3))]) rfl hl.1 rfl (Nat.le_of_ble_eq_true rfl) dX3_nameNumbered_53 ⟨Nat.zero_le _, Nat.zero_le _⟩ (fun r u H locs hp S => ?_)
              obtain ⟨rfl, rfl⟩ := hp
              have S := S.sub (ws' := [(hF, .inr (3, [.ref hB, .ref hV, .ref hE, .ref hC])), (hE, .inr (2, [.ref hB, .ref hV, .ref aE, .int (iI (cnt1)), .int (iI (t4))])), (aE, .inl (cA 0, 64, .inl (fun y_ => iI (pl2 y_)))), (hV, .inr (8, [.ref hB, .int (iI (chs d)), .int (iI (gRoot d)), .int (iI (gN d)), .int (iI (gSz d)), .int (iI (gT d)), .int (iI (gTB d)), .int (iI (gTA d)), .int (iI (gCA d))])), (hB, .inr (0, [.ref aB])), (aB, .inl (cA 1, 2048, .inl (fun y_ => bI (d y_))))]) [0, 1, 2, 3, 4, 5] rfl rfl
              rw [wAt_in (n := 2048) (z := a3) (by omega) (by omega)]
              have hb5 := By_wrd hd (a3)
              refine lv_i2l (v := (iI (wrd d (a3))).toInt64) C0.1 C0.2.1 dX3_nameNumbered_56 rfl ?_
              refine lv_aload_n C0.1 C0.2.1 dX3_nameNumbered_57 rfl (lv_at hl 2 rfl) ?_
              refine k_get C0 S (C := RX3) (T := TX3) (N := 4) (ci := 3) (by decide +kernel) 0 rfl rfl 0 (by decide) (by decide +kernel) (v := .ref hB) rfl dX3_nameNumbered_58 ?_
              refine lv_iload C0.1 C0.2.1 dX3_nameNumbered_61 (lv_at hl 0 rfl) ?_
              refine lv_iconst (v := iI (2)) C0.1 C0.2.1 dX3_nameNumbered_63 rfl ?_
              refine k_iadd C0 dX3_nameNumbered_64 ?_
              refine k_calli (n := 1) (wr := [(hF, .inr (3, [.ref hB, .ref hV, .ref hE, .ref hC])), (hE, .inr (2, [.ref hB, .ref hV, .ref aE, .int (iI (cnt1)), .int (iI (t4))])), (aE, .inl (cA 0, 64, .inl (fun y_ => iI (pl2 y_)))), (hV, .inr (8, [.ref hB, .int (iI (chs d)), .int (iI (gRoot d)), .int (iI (gN d)), .int (iI (gSz d)), .int (iI (gT d)), .int (iI (gTB d)), .int (iI (gTA d)), .int (iI (gCA d))]))]) C0 S (c_X0_wordAt l D cA hB aB 2048 d (a3 + 2) hd (by constructor <;> omega) (by omega)) gX3_nameNumbered_X0_wordAt rfl ⟨rfl, rfl⟩ (by decide +kernel) ⟨Nat.le_of_ble_eq_true rfl, Nat.le_of_ble_eq_true rfl⟩ [4, 5] [0, 1, 2, 3] rfl rfl rfl rfl (by decide) (ci := 0) (q0 := 0) rfl rfl (As := [.int (iI (a3 + 2))]) rfl hl.1 rfl (Nat.le_of_ble_eq_true rfl) dX3_nameNumbered_65 ⟨Nat.zero_le _, Nat.zero_le _⟩ (fun r u H locs hp S => ?_)
              obtain ⟨rfl, rfl⟩ := hp
              have S := S.sub (ws' := [(hF, .inr (3, [.ref hB, .ref hV, .ref hE, .ref hC])), (hE, .inr (2, [.ref hB, .ref hV, .ref aE, .int (iI (cnt1)), .int (iI (t4))])), (aE, .inl (cA 0, 64, .inl (fun y_ => iI (pl2 y_)))), (hV, .inr (8, [.ref hB, .int (iI (chs d)), .int (iI (gRoot d)), .int (iI (gN d)), .int (iI (gSz d)), .int (iI (gT d)), .int (iI (gTB d)), .int (iI (gTA d)), .int (iI (gCA d))])), (hB, .inr (0, [.ref aB])), (aB, .inl (cA 1, 2048, .inl (fun y_ => bI (d y_))))]) [0, 1, 2, 3, 4, 5] rfl rfl
              rw [wAt_in (n := 2048) (z := a3 + 2) (by omega) (by omega)]
              have hb6 := By_wrd hd (a3 + 2)
              refine lv_i2l (v := (iI (wrd d (a3 + 2))).toInt64) C0.1 C0.2.1 dX3_nameNumbered_68 rfl ?_
              refine lv_bipush (v := iI (16)) C0.1 C0.2.1 dX3_nameNumbered_69 (by decide) ?_
              refine lv_lshl (v := ((iI (wrd d (a3 + 2))).toInt64) <<< ((iI (16)).toInt64 &&& 63)) C0.1 C0.2.1 dX3_nameNumbered_71 rfl ?_
              refine lv_lor C0.1 C0.2.1 dX3_nameNumbered_72 ?_
              refine k_topeql (v := lI (wrd d (a3) + wrd d (a3 + 2) * 65536)) (l_name (By_wrd hd _).1 (By_wrd hd _).2 (By_wrd hd _).1 (By_wrd hd _).2) ?_
              subst hQ
              refine k_lret C0 S hAe hsz hr hlk dX3_nameNumbered_73 ?_
              rcases hsk with ⟨s1_, s2_, s3_, s4_⟩ | ⟨s1_, s2_, s3_, s4_, s5_⟩
              · exact absurd s1_ (by omega)
              · refine ⟨_, _, _, congrArg lI ?_, rfl⟩
                rw [lnm_ok c8, hi17_2, s5_, lst_hit (by omega) (by rw [s3_]; exact s4_) (by omega), s3_]
                unfold wrd n4
                rw [show ∀ x : Int, x + 2 + 1 = x + 3 from fun x => by omega]
                omega
          · refine lv_ldc2 (v := (-1 : Int64)) C0.1 C0.2.1 C0.2.2.2.1 (C0.2.2.2.2 (.constantLong RX3 77 (-1)) (by decide +kernel)) dX3_nameNumbered_38 ?_
            refine k_topeql (v := lI (-1)) (by decide) ?_
            subst hQ
            refine k_lret C0 S hAe hsz hr hlk dX3_nameNumbered_41 ?_
            rcases hsk with ⟨s1_, s2_, s3_, s4_⟩ | ⟨s1_, s2_, s3_, s4_, s5_⟩
            · refine ⟨_, _, _, congrArg lI ?_, rfl⟩
              rw [lnm_ok c8, hi17_2, s4_]; exact (lst_none (by omega)).symm
            · exact absurd s1_ (by omega)
    exact L17 (257) (0) (0) (by omega) ⟨by omega, by omega⟩ (by congr 1; omega) (by omega) _ _ S _ (lv_sub hl [0, 1, 2, 3] rfl)
  · refine lv_ldc2 (v := (-9 : Int64)) C0.1 C0.2.1 C0.2.2.2.1 (C0.2.2.2.2 (.constantLong RX3 75 (-9)) (by decide +kernel)) dX3_nameNumbered_11 ?_
    refine k_topeql (v := lI (-9)) (by decide) ?_
    subst hQ
    refine k_lret C0 S hAe hsz hr hlk dX3_nameNumbered_14 ?_
    exact ⟨_, _, _, congrArg lI (lnm_no c8).symm, rfl⟩
