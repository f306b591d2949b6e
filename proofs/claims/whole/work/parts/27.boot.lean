set_option maxHeartbeats 4000000 in
set_option maxRecDepth 100000 in
theorem c_parseX (l : Launch) (D : va_G) (cA : Nat → ClassId) (t hP aL : Nat) (v1 : Int) (L : Nat → Int)  : kCiX l D vwCl (kTys cA) t yX5_parse wsX5_parse rmX5_parse [.ref hP, .ref t, .int (iI (0)), .int (iI (4))] [(hP, .inr (5, [.ref aL, .int (iI (v1))])), (aL, .inl (cA 0, 16, .inl (fun y_ => iI (L y_))))] (fun r u => ∃ (L2 : Nat → Int), r = iI 1 ∧ u = [(hP, .inr (5, [.ref aL, .int (iI (1))])), (aL, .inl (cA 0, 16, .inl (fun y_ => iI (L2 y_))))] ∧ lkey L2 0 = 1414483778 ∧ By16 L2) := by
  intro sz
  refine kEntryX (cc := cX5_parse) (maxL := 7) (ret := (some .boolean)) (by decide) rfl (Nat.le_of_ble_eq_true rfl) ?_
  intro p e s m args below meth c A Q hAe hQ C0 hr hlk S hsz hXs ls hl
  have hl : lv_has ls 7 [(0, .ref hP), (1, .ref t), (2, .int (iI (0))), (3, .int (iI (4)))] := hl
  refine lv_aload_n C0.1 C0.2.1 dX5_parse_0 rfl (lv_at hl 0 rfl) ?_
  refine k_get C0 S (C := RX5) (T := TX5) (N := 2) (ci := 5) (by decide +kernel) 0 rfl rfl 0 (by decide) (by decide +kernel) (v := .ref aL) rfl dX5_parse_1 ?_
  refine lv_bipush (v := iI (32)) C0.1 C0.2.1 dX5_parse_4 (by decide) ?_
  refine k_callSv (n := 2) (wr := [(hP, .inr (5, [.ref aL, .int (iI (v1))]))]) C0 S (c_J7_fill_53178 l D cA aL 16 L (32) (by omega)) gX5_parse_J7_fill_53178 rfl ⟨rfl, rfl⟩ (by decide +kernel) ⟨Nat.le_of_ble_eq_true rfl, Nat.le_of_ble_eq_true rfl⟩ [1] [0] rfl rfl rfl rfl (by decide) (As := [.ref aL, .int (iI (32))]) rfl hl.1 rfl (Nat.le_of_ble_eq_true rfl) dX5_parse_6 ⟨Nat.zero_le _, Nat.zero_le _⟩ (fun u H locs hp S => ?_)
  obtain ⟨f1, rfl, hf1⟩ := hp
  have S := S.sub (ws' := [(hP, .inr (5, [.ref aL, .int (iI (v1))])), (aL, .inl (cA 0, 16, .inl (fun y_ => iI (f1 y_))))]) [0, 1] rfl rfl
  refine lv_iconst (v := iI (0)) C0.1 C0.2.1 dX5_parse_9 rfl ?_
  refine lv_istore (lv' := [(4, .int (iI (0))), (0, .ref hP), (1, .ref t), (2, .int (iI (0))), (3, .int (iI (4)))]) C0.1 C0.2.1 dX5_parse_10 hl (by decide) rfl (fun ls hl => ?_)
  refine lv_iconst (v := iI (0)) C0.1 C0.2.1 dX5_parse_12 rfl ?_
  refine lv_istore (lv' := [(5, .int (iI (0))), (4, .int (iI (0))), (0, .ref hP), (1, .ref t), (2, .int (iI (0))), (3, .int (iI (4)))]) C0.1 C0.2.1 dX5_parse_13 hl (by decide) rfl (fun ls hl => ?_)
  refine lv_iload_n C0.1 C0.2.1 dX5_parse_15 rfl (lv_at hl 4 rfl) ?_
  refine lv_istore (lv' := [(6, .int (iI (0))), (5, .int (iI (0))), (4, .int (iI (0))), (0, .ref hP), (1, .ref t), (2, .int (iI (0))), (3, .int (iI (4)))]) C0.1 C0.2.1 dX5_parse_16 hl (by decide) rfl (fun ls hl => ?_)
  refine lv_iload C0.1 C0.2.1 dX5_parse_18 (lv_at hl 0 rfl) ?_
  refine lv_iload_n C0.1 C0.2.1 dX5_parse_20 rfl (lv_at hl 6 rfl) ?_
  refine k_icmp_ge (tgt := 99) C0 ⟨by decide, by decide⟩ ⟨by decide, by decide⟩ dX5_parse_21 (by decide) (fun hc => absurd hc (by decide)) (fun _ => ?_)
  refine lv_aload_n C0.1 C0.2.1 dX5_parse_24 rfl (lv_at hl 4 rfl) ?_
  refine lv_iload C0.1 C0.2.1 dX5_parse_25 (lv_at hl 0 rfl) ?_
  refine k_sld C0 S hXs (z := 0) (by decide) (by decide) dX5_parse_27 ?_
  refine k_topeq (v := iI (66)) (congrArg iI (by decide)) ?_
  refine lv_bipush (v := iI (47)) C0.1 C0.2.1 dX5_parse_28 (by decide) ?_
  refine k_icmp_ne (tgt := 55) C0 ⟨by decide, by decide⟩ ⟨by decide, by decide⟩ dX5_parse_30 (by decide) (fun _ => ?_) (fun hc => absurd hc (by decide))
  refine lv_iload C0.1 C0.2.1 dX5_parse_55 (lv_at hl 1 rfl) ?_
  refine lv_iconst (v := iI (4)) C0.1 C0.2.1 dX5_parse_57 rfl ?_
  refine k_icmp_eq (tgt := 72) C0 ⟨by decide, by decide⟩ ⟨by decide, by decide⟩ dX5_parse_58 (by decide) (fun hc => absurd hc (by decide)) (fun _ => ?_)
  refine lv_aload_n C0.1 C0.2.1 dX5_parse_61 rfl (lv_at hl 3 rfl) ?_
  refine lv_aload_n C0.1 C0.2.1 dX5_parse_62 rfl (lv_at hl 4 rfl) ?_
  refine lv_iload C0.1 C0.2.1 dX5_parse_63 (lv_at hl 0 rfl) ?_
  refine k_sld C0 S hXs (z := 0) (by decide) (by decide) dX5_parse_65 ?_
  refine k_topeq (v := iI (66)) (congrArg iI (by decide)) ?_
  refine k_calli (n := 1) (wr := []) C0 S (c_X5_isLetter l D cA hP aL (v1) f1 (66) ⟨by decide, by decide⟩) gX5_parse_X5_isLetter rfl ⟨rfl, rfl⟩ (by decide +kernel) ⟨Nat.le_of_ble_eq_true rfl, Nat.le_of_ble_eq_true rfl⟩ [0, 1] [] rfl rfl rfl rfl (by decide) (ci := 5) (q0 := 0) rfl rfl (As := [.int (iI (66))]) rfl hl.1 rfl (Nat.le_of_ble_eq_true rfl) dX5_parse_66 ⟨Nat.zero_le _, Nat.zero_le _⟩ (fun r u H locs hp S => ?_)
  obtain ⟨rfl, rfl⟩ := hp
  have S := S.sub (ws' := [(hP, .inr (5, [.ref aL, .int (iI (v1))])), (aL, .inl (cA 0, 16, .inl (fun y_ => iI (f1 y_))))]) [0, 1] rfl rfl
  refine k_bz_ne (tgt := 74) C0 dX5_parse_69 (by decide) (fun c69 => ?_) (fun c69 => ?_)
  · refine lv_aload_n C0.1 C0.2.1 dX5_parse_74 rfl (lv_at hl 3 rfl) ?_
    refine k_get C0 S (C := RX5) (T := TX5) (N := 2) (ci := 5) (by decide +kernel) 0 rfl rfl 0 (by decide) (by decide +kernel) (v := .ref aL) rfl dX5_parse_75 ?_
    refine lv_iload C0.1 C0.2.1 dX5_parse_78 (lv_at hl 2 rfl) ?_
    refine lv_iconst (v := iI (4)) C0.1 C0.2.1 dX5_parse_80 rfl ?_
    refine k_imul C0 dX5_parse_81 ?_
    refine k_topeq (v := iI (0)) (congrArg iI (by decide)) ?_
    refine lv_iload C0.1 C0.2.1 dX5_parse_82 (lv_at hl 1 rfl) ?_
    refine k_iadd C0 dX5_parse_84 ?_
    refine k_topeq (v := iI (0)) (congrArg iI (by decide)) ?_
    refine lv_aload_n C0.1 C0.2.1 dX5_parse_85 rfl (lv_at hl 4 rfl) ?_
    refine lv_iload C0.1 C0.2.1 dX5_parse_86 (lv_at hl 0 rfl) ?_
    refine k_sld C0 S hXs (z := 0) (by decide) (by decide) dX5_parse_88 ?_
    refine k_topeq (v := iI (66)) (congrArg iI (by decide)) ?_
    refine k_iast (ws' := [(hP, .inr (5, [.ref aL, .int (iI (v1))])), (aL, .inl (cA 0, 16, .inl (fun y_ => iI ((va_up f1 0 (66)) y_))))]) C0 S 1 0 rfl rfl (z := 0) (by omega) (by omega) (by omega) dX5_parse_89 rfl (fun H locs S => ?_)
    refine lv_iinc (v := iI (1)) (lv' := [(5, .int (iI (1))), (6, .int (iI (0))), (4, .int (iI (0))), (0, .ref hP), (1, .ref t), (2, .int (iI (0))), (3, .int (iI (4)))]) C0.1 C0.2.1 dX5_parse_90 hl (k := 1) rfl (by decide) (by decide) rfl (fun ls hl => ?_)
    refine lv_iinc (v := iI (1)) (lv' := [(6, .int (iI (1))), (5, .int (iI (1))), (4, .int (iI (0))), (0, .ref hP), (1, .ref t), (2, .int (iI (0))), (3, .int (iI (4)))]) C0.1 C0.2.1 dX5_parse_93 hl (k := 1) rfl (by decide) (by decide) rfl (fun ls hl => ?_)
    refine lv_goto (tgt := 18) C0.1 C0.2.1 dX5_parse_96 (by decide) ?_
    refine lv_iload C0.1 C0.2.1 dX5_parse_18 (lv_at hl 0 rfl) ?_
    refine lv_iload_n C0.1 C0.2.1 dX5_parse_20 rfl (lv_at hl 6 rfl) ?_
    refine k_icmp_ge (tgt := 99) C0 ⟨by decide, by decide⟩ ⟨by decide, by decide⟩ dX5_parse_21 (by decide) (fun hc => absurd hc (by decide)) (fun _ => ?_)
    refine lv_aload_n C0.1 C0.2.1 dX5_parse_24 rfl (lv_at hl 4 rfl) ?_
    refine lv_iload C0.1 C0.2.1 dX5_parse_25 (lv_at hl 0 rfl) ?_
    refine k_sld C0 S hXs (z := 1) (by decide) (by decide) dX5_parse_27 ?_
    refine k_topeq (v := iI (79)) (congrArg iI (by decide)) ?_
    refine lv_bipush (v := iI (47)) C0.1 C0.2.1 dX5_parse_28 (by decide) ?_
    refine k_icmp_ne (tgt := 55) C0 ⟨by decide, by decide⟩ ⟨by decide, by decide⟩ dX5_parse_30 (by decide) (fun _ => ?_) (fun hc => absurd hc (by decide))
    refine lv_iload C0.1 C0.2.1 dX5_parse_55 (lv_at hl 1 rfl) ?_
    refine lv_iconst (v := iI (4)) C0.1 C0.2.1 dX5_parse_57 rfl ?_
    refine k_icmp_eq (tgt := 72) C0 ⟨by decide, by decide⟩ ⟨by decide, by decide⟩ dX5_parse_58 (by decide) (fun hc => absurd hc (by decide)) (fun _ => ?_)
    refine lv_aload_n C0.1 C0.2.1 dX5_parse_61 rfl (lv_at hl 3 rfl) ?_
    refine lv_aload_n C0.1 C0.2.1 dX5_parse_62 rfl (lv_at hl 4 rfl) ?_
    refine lv_iload C0.1 C0.2.1 dX5_parse_63 (lv_at hl 0 rfl) ?_
    refine k_sld C0 S hXs (z := 1) (by decide) (by decide) dX5_parse_65 ?_
    refine k_topeq (v := iI (79)) (congrArg iI (by decide)) ?_
    refine k_calli (n := 1) (wr := []) C0 S (c_X5_isLetter l D cA hP aL (v1) (va_up f1 0 (66)) (79) ⟨by decide, by decide⟩) gX5_parse_X5_isLetter rfl ⟨rfl, rfl⟩ (by decide +kernel) ⟨Nat.le_of_ble_eq_true rfl, Nat.le_of_ble_eq_true rfl⟩ [0, 1] [] rfl rfl rfl rfl (by decide) (ci := 5) (q0 := 0) rfl rfl (As := [.int (iI (79))]) rfl hl.1 rfl (Nat.le_of_ble_eq_true rfl) dX5_parse_66 ⟨Nat.zero_le _, Nat.zero_le _⟩ (fun r u H locs hp S => ?_)
    obtain ⟨rfl, rfl⟩ := hp
    have S := S.sub (ws' := [(hP, .inr (5, [.ref aL, .int (iI (v1))])), (aL, .inl (cA 0, 16, .inl (fun y_ => iI ((va_up f1 0 (66)) y_))))]) [0, 1] rfl rfl
    refine k_bz_ne (tgt := 74) C0 dX5_parse_69 (by decide) (fun c69 => ?_) (fun c69 => ?_)
    · refine lv_aload_n C0.1 C0.2.1 dX5_parse_74 rfl (lv_at hl 3 rfl) ?_
      refine k_get C0 S (C := RX5) (T := TX5) (N := 2) (ci := 5) (by decide +kernel) 0 rfl rfl 0 (by decide) (by decide +kernel) (v := .ref aL) rfl dX5_parse_75 ?_
      refine lv_iload C0.1 C0.2.1 dX5_parse_78 (lv_at hl 2 rfl) ?_
      refine lv_iconst (v := iI (4)) C0.1 C0.2.1 dX5_parse_80 rfl ?_
      refine k_imul C0 dX5_parse_81 ?_
      refine k_topeq (v := iI (0)) (congrArg iI (by decide)) ?_
      refine lv_iload C0.1 C0.2.1 dX5_parse_82 (lv_at hl 1 rfl) ?_
      refine k_iadd C0 dX5_parse_84 ?_
      refine k_topeq (v := iI (1)) (congrArg iI (by decide)) ?_
      refine lv_aload_n C0.1 C0.2.1 dX5_parse_85 rfl (lv_at hl 4 rfl) ?_
      refine lv_iload C0.1 C0.2.1 dX5_parse_86 (lv_at hl 0 rfl) ?_
      refine k_sld C0 S hXs (z := 1) (by decide) (by decide) dX5_parse_88 ?_
      refine k_topeq (v := iI (79)) (congrArg iI (by decide)) ?_
      refine k_iast (ws' := [(hP, .inr (5, [.ref aL, .int (iI (v1))])), (aL, .inl (cA 0, 16, .inl (fun y_ => iI ((va_up (va_up f1 0 (66)) 1 (79)) y_))))]) C0 S 1 0 rfl rfl (z := 1) (by omega) (by omega) (by omega) dX5_parse_89 rfl (fun H locs S => ?_)
      refine lv_iinc (v := iI (2)) (lv' := [(5, .int (iI (2))), (6, .int (iI (1))), (4, .int (iI (0))), (0, .ref hP), (1, .ref t), (2, .int (iI (0))), (3, .int (iI (4)))]) C0.1 C0.2.1 dX5_parse_90 hl (k := 1) rfl (by decide) (by decide) rfl (fun ls hl => ?_)
      refine lv_iinc (v := iI (2)) (lv' := [(6, .int (iI (2))), (5, .int (iI (2))), (4, .int (iI (0))), (0, .ref hP), (1, .ref t), (2, .int (iI (0))), (3, .int (iI (4)))]) C0.1 C0.2.1 dX5_parse_93 hl (k := 1) rfl (by decide) (by decide) rfl (fun ls hl => ?_)
      refine lv_goto (tgt := 18) C0.1 C0.2.1 dX5_parse_96 (by decide) ?_
      refine lv_iload C0.1 C0.2.1 dX5_parse_18 (lv_at hl 0 rfl) ?_
      refine lv_iload_n C0.1 C0.2.1 dX5_parse_20 rfl (lv_at hl 6 rfl) ?_
      refine k_icmp_ge (tgt := 99) C0 ⟨by decide, by decide⟩ ⟨by decide, by decide⟩ dX5_parse_21 (by decide) (fun hc => absurd hc (by decide)) (fun _ => ?_)
      refine lv_aload_n C0.1 C0.2.1 dX5_parse_24 rfl (lv_at hl 4 rfl) ?_
      refine lv_iload C0.1 C0.2.1 dX5_parse_25 (lv_at hl 0 rfl) ?_
      refine k_sld C0 S hXs (z := 2) (by decide) (by decide) dX5_parse_27 ?_
      refine k_topeq (v := iI (79)) (congrArg iI (by decide)) ?_
      refine lv_bipush (v := iI (47)) C0.1 C0.2.1 dX5_parse_28 (by decide) ?_
      refine k_icmp_ne (tgt := 55) C0 ⟨by decide, by decide⟩ ⟨by decide, by decide⟩ dX5_parse_30 (by decide) (fun _ => ?_) (fun hc => absurd hc (by decide))
      refine lv_iload C0.1 C0.2.1 dX5_parse_55 (lv_at hl 1 rfl) ?_
      refine lv_iconst (v := iI (4)) C0.1 C0.2.1 dX5_parse_57 rfl ?_
      refine k_icmp_eq (tgt := 72) C0 ⟨by decide, by decide⟩ ⟨by decide, by decide⟩ dX5_parse_58 (by decide) (fun hc => absurd hc (by decide)) (fun _ => ?_)
      refine lv_aload_n C0.1 C0.2.1 dX5_parse_61 rfl (lv_at hl 3 rfl) ?_
      refine lv_aload_n C0.1 C0.2.1 dX5_parse_62 rfl (lv_at hl 4 rfl) ?_
      refine lv_iload C0.1 C0.2.1 dX5_parse_63 (lv_at hl 0 rfl) ?_
      refine k_sld C0 S hXs (z := 2) (by decide) (by decide) dX5_parse_65 ?_
      refine k_topeq (v := iI (79)) (congrArg iI (by decide)) ?_
      refine k_calli (n := 1) (wr := []) C0 S (c_X5_isLetter l D cA hP aL (v1) (va_up (va_up f1 0 (66)) 1 (79)) (79) ⟨by decide, by decide⟩) gX5_parse_X5_isLetter rfl ⟨rfl, rfl⟩ (by decide +kernel) ⟨Nat.le_of_ble_eq_true rfl, Nat.le_of_ble_eq_true rfl⟩ [0, 1] [] rfl rfl rfl rfl (by decide) (ci := 5) (q0 := 0) rfl rfl (As := [.int (iI (79))]) rfl hl.1 rfl (Nat.le_of_ble_eq_true rfl) dX5_parse_66 ⟨Nat.zero_le _, Nat.zero_le _⟩ (fun r u H locs hp S => ?_)
      obtain ⟨rfl, rfl⟩ := hp
      have S := S.sub (ws' := [(hP, .inr (5, [.ref aL, .int (iI (v1))])), (aL, .inl (cA 0, 16, .inl (fun y_ => iI ((va_up (va_up f1 0 (66)) 1 (79)) y_))))]) [0, 1] rfl rfl
      refine k_bz_ne (tgt := 74) C0 dX5_parse_69 (by decide) (fun c69 => ?_) (fun c69 => ?_)
      · refine lv_aload_n C0.1 C0.2.1 dX5_parse_74 rfl (lv_at hl 3 rfl) ?_
        refine k_get C0 S (C := RX5) (T := TX5) (N := 2) (ci := 5) (by decide +kernel) 0 rfl rfl 0 (by decide) (by decide +kernel) (v := .ref aL) rfl dX5_parse_75 ?_
        refine lv_iload C0.1 C0.2.1 dX5_parse_78 (lv_at hl 2 rfl) ?_
        refine lv_iconst (v := iI (4)) C0.1 C0.2.1 dX5_parse_80 rfl ?_
        refine k_imul C0 dX5_parse_81 ?_
        refine k_topeq (v := iI (0)) (congrArg iI (by decide)) ?_
        refine lv_iload C0.1 C0.2.1 dX5_parse_82 (lv_at hl 1 rfl) ?_
        refine k_iadd C0 dX5_parse_84 ?_
        refine k_topeq (v := iI (2)) (congrArg iI (by decide)) ?_
        refine lv_aload_n C0.1 C0.2.1 dX5_parse_85 rfl (lv_at hl 4 rfl) ?_
        refine lv_iload C0.1 C0.2.1 dX5_parse_86 (lv_at hl 0 rfl) ?_
        refine k_sld C0 S hXs (z := 2) (by decide) (by decide) dX5_parse_88 ?_
        refine k_topeq (v := iI (79)) (congrArg iI (by decide)) ?_
        refine k_iast (ws' := [(hP, .inr (5, [.ref aL, .int (iI (v1))])), (aL, .inl (cA 0, 16, .inl (fun y_ => iI ((va_up (va_up (va_up f1 0 (66)) 1 (79)) 2 (79)) y_))))]) C0 S 1 0 rfl rfl (z := 2) (by omega) (by omega) (by omega) dX5_parse_89 rfl (fun H locs S => ?_)
        refine lv_iinc (v := iI (3)) (lv' := [(5, .int (iI (3))), (6, .int (iI (2))), (4, .int (iI (0))), (0, .ref hP), (1, .ref t), (2, .int (iI (0))), (3, .int (iI (4)))]) C0.1 C0.2.1 dX5_parse_90 hl (k := 1) rfl (by decide) (by decide) rfl (fun ls hl => ?_)
        refine lv_iinc (v := iI (3)) (lv' := [(6, .int (iI (3))), (5, .int (iI (3))), (4, .int (iI (0))), (0, .ref hP), (1, .ref t), (2, .int (iI (0))), (3, .int (iI (4)))]) C0.1 C0.2.1 dX5_parse_93 hl (k := 1) rfl (by decide) (by decide) rfl (fun ls hl => ?_)
        refine lv_goto (tgt := 18) C0.1 C0.2.1 dX5_parse_96 (by decide) ?_
        refine lv_iload C0.1 C0.2.1 dX5_parse_18 (lv_at hl 0 rfl) ?_
        refine lv_iload_n C0.1 C0.2.1 dX5_parse_20 rfl (lv_at hl 6 rfl) ?_
        refine k_icmp_ge (tgt := 99) C0 ⟨by decide, by decide⟩ ⟨by decide, by decide⟩ dX5_parse_21 (by decide) (fun hc => absurd hc (by decide)) (fun _ => ?_)
        refine lv_aload_n C0.1 C0.2.1 dX5_parse_24 rfl (lv_at hl 4 rfl) ?_
        refine lv_iload C0.1 C0.2.1 dX5_parse_25 (lv_at hl 0 rfl) ?_
        refine k_sld C0 S hXs (z := 3) (by decide) (by decide) dX5_parse_27 ?_
        refine k_topeq (v := iI (84)) (congrArg iI (by decide)) ?_
        refine lv_bipush (v := iI (47)) C0.1 C0.2.1 dX5_parse_28 (by decide) ?_
        refine k_icmp_ne (tgt := 55) C0 ⟨by decide, by decide⟩ ⟨by decide, by decide⟩ dX5_parse_30 (by decide) (fun _ => ?_) (fun hc => absurd hc (by decide))
        refine lv_iload C0.1 C0.2.1 dX5_parse_55 (lv_at hl 1 rfl) ?_
        refine lv_iconst (v := iI (4)) C0.1 C0.2.1 dX5_parse_57 rfl ?_
        refine k_icmp_eq (tgt := 72) C0 ⟨by decide, by decide⟩ ⟨by decide, by decide⟩ dX5_parse_58 (by decide) (fun hc => absurd hc (by decide)) (fun _ => ?_)
        refine lv_aload_n C0.1 C0.2.1 dX5_parse_61 rfl (lv_at hl 3 rfl) ?_
        refine lv_aload_n C0.1 C0.2.1 dX5_parse_62 rfl (lv_at hl 4 rfl) ?_
        refine lv_iload C0.1 C0.2.1 dX5_parse_63 (lv_at hl 0 rfl) ?_
        refine k_sld C0 S hXs (z := 3) (by decide) (by decide) dX5_parse_65 ?_
        refine k_topeq (v := iI (84)) (congrArg iI (by decide)) ?_
        refine k_calli (n := 1) (wr := []) C0 S (c_X5_isLetter l D cA hP aL (v1) (va_up (va_up (va_up f1 0 (66)) 1 (79)) 2 (79)) (84) ⟨by decide, by decide⟩) gX5_parse_X5_isLetter rfl ⟨rfl, rfl⟩ (by decide +kernel) ⟨Nat.le_of_ble_eq_true rfl, Nat.le_of_ble_eq_true rfl⟩ [0, 1] [] rfl rfl rfl rfl (by decide) (ci := 5) (q0 := 0) rfl rfl (As := [.int (iI (84))]) rfl hl.1 rfl (Nat.le_of_ble_eq_true rfl) dX5_parse_66 ⟨Nat.zero_le _, Nat.zero_le _⟩ (fun r u H locs hp S => ?_)
        obtain ⟨rfl, rfl⟩ := hp
        have S := S.sub (ws' := [(hP, .inr (5, [.ref aL, .int (iI (v1))])), (aL, .inl (cA 0, 16, .inl (fun y_ => iI ((va_up (va_up (va_up f1 0 (66)) 1 (79)) 2 (79)) y_))))]) [0, 1] rfl rfl
        refine k_bz_ne (tgt := 74) C0 dX5_parse_69 (by decide) (fun c69 => ?_) (fun c69 => ?_)
        · refine lv_aload_n C0.1 C0.2.1 dX5_parse_74 rfl (lv_at hl 3 rfl) ?_
          refine k_get C0 S (C := RX5) (T := TX5) (N := 2) (ci := 5) (by decide +kernel) 0 rfl rfl 0 (by decide) (by decide +kernel) (v := .ref aL) rfl dX5_parse_75 ?_
          refine lv_iload C0.1 C0.2.1 dX5_parse_78 (lv_at hl 2 rfl) ?_
          refine lv_iconst (v := iI (4)) C0.1 C0.2.1 dX5_parse_80 rfl ?_
          refine k_imul C0 dX5_parse_81 ?_
          refine k_topeq (v := iI (0)) (congrArg iI (by decide)) ?_
          refine lv_iload C0.1 C0.2.1 dX5_parse_82 (lv_at hl 1 rfl) ?_
          refine k_iadd C0 dX5_parse_84 ?_
          refine k_topeq (v := iI (3)) (congrArg iI (by decide)) ?_
          refine lv_aload_n C0.1 C0.2.1 dX5_parse_85 rfl (lv_at hl 4 rfl) ?_
          refine lv_iload C0.1 C0.2.1 dX5_parse_86 (lv_at hl 0 rfl) ?_
          refine k_sld C0 S hXs (z := 3) (by decide) (by decide) dX5_parse_88 ?_
          refine k_topeq (v := iI (84)) (congrArg iI (by decide)) ?_
          refine k_iast (ws' := [(hP, .inr (5, [.ref aL, .int (iI (v1))])), (aL, .inl (cA 0, 16, .inl (fun y_ => iI ((va_up (va_up (va_up (va_up f1 0 (66)) 1 (79)) 2 (79)) 3 (84)) y_))))]) C0 S 1 0 rfl rfl (z := 3) (by omega) (by omega) (by omega) dX5_parse_89 rfl (fun H locs S => ?_)
          refine lv_iinc (v := iI (4)) (lv' := [(5, .int (iI (4))), (6, .int (iI (3))), (4, .int (iI (0))), (0, .ref hP), (1, .ref t), (2, .int (iI (0))), (3, .int (iI (4)))]) C0.1 C0.2.1 dX5_parse_90 hl (k := 1) rfl (by decide) (by decide) rfl (fun ls hl => ?_)
          refine lv_iinc (v := iI (4)) (lv' := [(6, .int (iI (4))), (5, .int (iI (4))), (4, .int (iI (0))), (0, .ref hP), (1, .ref t), (2, .int (iI (0))), (3, .int (iI (4)))]) C0.1 C0.2.1 dX5_parse_93 hl (k := 1) rfl (by decide) (by decide) rfl (fun ls hl => ?_)
          refine lv_goto (tgt := 18) C0.1 C0.2.1 dX5_parse_96 (by decide) ?_
          refine lv_iload C0.1 C0.2.1 dX5_parse_18 (lv_at hl 0 rfl) ?_
          refine lv_iload_n C0.1 C0.2.1 dX5_parse_20 rfl (lv_at hl 6 rfl) ?_
          refine k_icmp_ge (tgt := 99) C0 ⟨by decide, by decide⟩ ⟨by decide, by decide⟩ dX5_parse_21 (by decide) (fun _ => ?_) (fun hc => absurd hc (by decide))
          refine lv_aload_n C0.1 C0.2.1 dX5_parse_99 rfl (lv_at hl 3 rfl) ?_
          refine lv_iload C0.1 C0.2.1 dX5_parse_100 (lv_at hl 2 rfl) ?_
          refine lv_iconst (v := iI (1)) C0.1 C0.2.1 dX5_parse_102 rfl ?_
          refine k_iadd C0 dX5_parse_103 ?_
          refine k_topeq (v := iI (1)) (congrArg iI (by decide)) ?_
          refine k_put (ws' := [(hP, .inr (5, [.ref aL, .int (iI (1))])), (aL, .inl (cA 0, 16, .inl (fun y_ => iI ((va_up (va_up (va_up (va_up f1 0 (66)) 1 (79)) 2 (79)) 3 (84)) y_))))]) C0 S (C := RX5) (T := TX5) (N := 2) (ci := 5) (by decide +kernel) tyX5 tyX5_ok nmX5 0 rfl rfl 1 (by decide) (by decide +kernel) rfl (v := .int (iI (1))) rfl rfl (Nat.le_of_ble_eq_true rfl) dX5_parse_104 rfl (fun H locs S => ?_)
          refine lv_iload C0.1 C0.2.1 dX5_parse_107 (lv_at hl 1 rfl) ?_
          refine k_if_le (tgt := 116) C0 ⟨by decide, by decide⟩ dX5_parse_109 (by decide) (fun hc => absurd hc (by decide)) (fun _ => ?_)
          refine lv_iconst (v := iI (1)) C0.1 C0.2.1 dX5_parse_112 rfl ?_
          refine lv_goto (tgt := 117) C0.1 C0.2.1 dX5_parse_113 (by decide) ?_
          subst hQ
          refine k_zret C0 S hAe hsz hr hlk (by rfl) dX5_parse_117 ?_
          refine ⟨_, rfl, rfl, rfl, fun j hj => ?_⟩
          unfold va_up
          have := hf1 j hj
          repeat' split
          all_goals omega
        · exact absurd (by unfold isLet; omega) c69
      · exact absurd (by unfold isLet; omega) c69
    · exact absurd (by unfold isLet; omega) c69
  · exact absurd (by unfold isLet; omega) c69
def rmX9_takeSettings : Room := { frames := 5, cells := 0, slots := 0, locals := 115 }
set_option maxHeartbeats 4000000 in
set_option maxRecDepth 100000 in
theorem c_X9_takeSettings (l : Launch) (D : va_G) (cA : Nat → ClassId) (t hX hB hR hV hP hF hZ hS hN aY aL aT hK hO hA hE aE hC aC aB : Nat) (tc en pc0 cnt nx cc cn k1 k2 k3 o1 o2 o3 a1 a2 a3 : Int) (L pl cpl tx d : Nat → Int) (hd : By d) (hB2 : gB d) (htx : By tx) : kCiX l D vwCl (kTys cA) t yX9_takeSettings wsX9_takeSettings rmX9_takeSettings [.ref hX] [(hX, .inr (9, [.ref hB, .ref hR, .ref hV, .ref hP, .ref hF, .ref hZ, .ref hS, .ref hN, .ref aY, .int (iI (tc)), .int (iI (en))])), (hP, .inr (5, [.ref aL, .int (iI (pc0))])), (aL, .inl (cA 0, 16, .inl (fun y_ => iI (L y_)))), (hS, .inr (6, [.ref aT, .ref hK, .ref hO, .ref hA])), (aT, .inl (cA 0, 200, .inl (fun y_ => iI (tx y_)))), (hK, .inr (7, [.int (iI (k1)), .int (iI (k2)), .int (iI (k3))])), (hO, .inr (7, [.int (iI (o1)), .int (iI (o2)), .int (iI (o3))])), (hA, .inr (7, [.int (iI (a1)), .int (iI (a2)), .int (iI (a3))])), (hF, .inr (3, [.ref hB, .ref hV, .ref hE, .ref hC])), (hE, .inr (2, [.ref hB, .ref hV, .ref aE, .int (iI (cnt)), .int (iI (nx))])), (aE, .inl (cA 0, 64, .inl (fun y_ => iI (pl y_)))), (hC, .inr (2, [.ref hB, .ref hV, .ref aC, .int (iI (cc)), .int (iI (cn))])), (aC, .inl (cA 0, 64, .inl (fun y_ => iI (cpl y_)))), (hV, .inr (8, [.ref hB, .int (iI (chs d)), .int (iI (gRoot d)), .int (iI (gN d)), .int (iI (gSz d)), .int (iI (gT d)), .int (iI (gTB d)), .int (iI (gTA d)), .int (iI (gCA d))])), (hB, .inr (0, [.ref aB])), (aB, .inl (cA 1, 2048, .inl (fun y_ => bI (d y_))))] (fun r u => ∃ (pc_ cnt_ nx_ cc_ cn_ w1_ w2_ w3_ w4_ w5_ w6_ w7_ w8_ w9_ : Int) (L_ pl_ cpl_ tx_ : Nat → Int), r = iI (stC d) ∧ u = [(hX, .inr (9, [.ref hB, .ref hR, .ref hV, .ref hP, .ref hF, .ref hZ, .ref hS, .ref hN, .ref aY, .int (iI (tc)), .int (iI (en))])), (hP, .inr (5, [.ref aL, .int (iI (pc_))])), (aL, .inl (cA 0, 16, .inl (fun y_ => iI (L_ y_)))), (hS, .inr (6, [.ref aT, .ref hK, .ref hO, .ref hA])), (aT, .inl (cA 0, 200, .inl (fun y_ => iI (tx_ y_)))), (hK, .inr (7, [.int (iI (w1_)), .int (iI (w2_)), .int (iI (w3_))])), (hO, .inr (7, [.int (iI (w4_)), .int (iI (w5_)), .int (iI (w6_))])), (hA, .inr (7, [.int (iI (w7_)), .int (iI (w8_)), .int (iI (w9_))])), (hF, .inr (3, [.ref hB, .ref hV, .ref hE, .ref hC])), (hE, .inr (2, [.ref hB, .ref hV, .ref aE, .int (iI (cnt_)), .int (iI (nx_))])), (aE, .inl (cA 0, 64, .inl (fun y_ => iI (pl_ y_)))), (hC, .inr (2, [.ref hB, .ref hV, .ref aC, .int (iI (cc_)), .int (iI (cn_))])), (aC, .inl (cA 0, 64, .inl (fun y_ => iI (cpl_ y_)))), (hV, .inr (8, [.ref hB, .int (iI (chs d)), .int (iI (gRoot d)), .int (iI (gN d)), .int (iI (gSz d)), .int (iI (gT d)), .int (iI (gTB d)), .int (iI (gTA d)), .int (iI (gCA d))])), (hB, .inr (0, [.ref aB])), (aB, .inl (cA 1, 2048, .inl (fun y_ => bI (d y_))))] ∧ (-100 ≤ stC d ∧ stC d ≤ 0) ∧ (0 ≤ stC d → ∃ S, bSt d = some S) ∧ (∀ S, bSt d = some S → 0 ≤ stC d → (VR w1_ w2_ w3_ S.1 S.2.1 ∧ VR w4_ w5_ w6_ S.2.2.1 S.2.2.2.1 ∧ VR w7_ w8_ w9_ S.2.2.2.2.1 S.2.2.2.2.2) ∧ SB S (opn d (bAd d)) ∧ ∀ j : Nat, (j : Int) < opn d (bAd d) → tx_ j = bTx d j) ∧ By tx_) := by
  intro sz
  refine kEntryX (cc := cX9_takeSettings) (maxL := 3) (ret := (some .int)) (by decide) rfl (Nat.le_of_ble_eq_true rfl) ?_
  intro p e s m args below meth c A Q hAe hQ C0 hr hlk S hsz hXs ls hl
  have hl : lv_has ls 3 [(0, .ref hX)] := hl
  refine lv_aload_n C0.1 C0.2.1 dX9_takeSettings_0 rfl (lv_at hl 0 rfl) ?_
  refine k_get C0 S (C := RX9) (T := TX9) (N := 11) (ci := 9) (by decide +kernel) 0 rfl rfl 3 (by decide) (by decide +kernel) (v := .ref hP) rfl dX9_takeSettings_1 ?_
  refine k_sgets C0 S hXs (by decide +kernel) dX9_takeSettings_4 ?_
  refine lv_iconst (v := iI (0)) C0.1 C0.2.1 dX9_takeSettings_7 rfl ?_
  refine k_sgets C0 S hXs (by decide +kernel) dX9_takeSettings_8 ?_
  refine k_slen C0 S hXs dX9_takeSettings_11 ?_
  refine k_calliX (n := 3) (wr := [(hX, .inr (9, [.ref hB, .ref hR, .ref hV, .ref hP, .ref hF, .ref hZ, .ref hS, .ref hN, .ref aY, .int (iI (tc)), .int (iI (en))])), (hS, .inr (6, [.ref aT, .ref hK, .ref hO, .ref hA])), (aT, .inl (cA 0, 200, .inl (fun y_ => iI (tx y_)))), (hK, .inr (7, [.int (iI (k1)), .int (iI (k2)), .int (iI (k3))])), (hO, .inr (7, [.int (iI (o1)), .int (iI (o2)), .int (iI (o3))])), (hA, .inr (7, [.int (iI (a1)), .int (iI (a2)), .int (iI (a3))])), (hF, .inr (3, [.ref hB, .ref hV, .ref hE, .ref hC])), (hE, .inr (2, [.ref hB, .ref hV, .ref aE, .int (iI (cnt)), .int (iI (nx))])), (aE, .inl (cA 0, 64, .inl (fun y_ => iI (pl y_)))), (hC, .inr (2, [.ref hB, .ref hV, .ref aC, .int (iI (cc)), .int (iI (cn))])), (aC, .inl (cA 0, 64, .inl (fun y_ => iI (cpl y_)))), (hV, .inr (8, [.ref hB, .int (iI (chs d)), .int (iI (gRoot d)), .int (iI (gN d)), .int (iI (gSz d)), .int (iI (gT d)), .int (iI (gTB d)), .int (iI (gTA d)), .int (iI (gCA d))])), (hB, .inr (0, [.ref aB])), (aB, .inl (cA 1, 2048, .inl (fun y_ => bI (d y_))))]) C0 S hXs (c_parseX l D cA t hP aL (pc0) L) gX9_takeSettings_X5_parse rfl ⟨rfl, rfl⟩ (by decide +kernel) ⟨Nat.le_of_ble_eq_true rfl, Nat.le_of_ble_eq_true rfl⟩ [1, 2] [0, 3, 4, 5, 6, 7, 8, 9, 10, 11, 12, 13, 14, 15] rfl rfl rfl rfl (by decide) (ci := 5) (q0 := 0) rfl rfl (As := [.ref t, .int (iI (0)), .int (iI (4))]) rfl hl.1 rfl (Nat.le_of_ble_eq_true rfl) dX9_takeSettings_12 ⟨Nat.zero_le _, Nat.zero_le _⟩ (fun r u H locs hp S => ?_)
  obtain ⟨L1, rfl, rfl, hlk0, hL⟩ := hp
  have S := S.sub (ws' := [(hX, .inr (9, [.ref hB, .ref hR, .ref hV, .ref hP, .ref hF, .ref hZ, .ref hS, .ref hN, .ref aY, .int (iI (tc)), .int (iI (en))])), (hP, .inr (5, [.ref aL, .int (iI (((1 : Nat) : Int)))])), (aL, .inl (cA 0, 16, .inl (fun y_ => iI (L1 y_)))), (hS, .inr (6, [.ref aT, .ref hK, .ref hO, .ref hA])), (aT, .inl (cA 0, 200, .inl (fun y_ => iI (tx y_)))), (hK, .inr (7, [.int (iI (k1)), .int (iI (k2)), .int (iI (k3))])), (hO, .inr (7, [.int (iI (o1)), .int (iI (o2)), .int (iI (o3))])), (hA, .inr (7, [.int (iI (a1)), .int (iI (a2)), .int (iI (a3))])), (hF, .inr (3, [.ref hB, .ref hV, .ref hE, .ref hC])), (hE, .inr (2, [.ref hB, .ref hV, .ref aE, .int (iI (cnt)), .int (iI (nx))])), (aE, .inl (cA 0, 64, .inl (fun y_ => iI (pl y_)))), (hC, .inr (2, [.ref hB, .ref hV, .ref aC, .int (iI (cc)), .int (iI (cn))])), (aC, .inl (cA 0, 64, .inl (fun y_ => iI (cpl y_)))), (hV, .inr (8, [.ref hB, .int (iI (chs d)), .int (iI (gRoot d)), .int (iI (gN d)), .int (iI (gSz d)), .int (iI (gT d)), .int (iI (gTB d)), .int (iI (gTA d)), .int (iI (gCA d))])), (hB, .inr (0, [.ref aB])), (aB, .inl (cA 1, 2048, .inl (fun y_ => bI (d y_))))]) [0, 14, 15, 1, 2, 3, 4, 5, 6, 7, 8, 9, 10, 11, 12, 13] rfl rfl
  have hks : ∀ k, k < 1 → lkey L1 k = bkey k := fun k hk => by rw [show k = 0 by omega, hlk0]; rfl
  refine lv_pop C0.1 C0.2.1 dX9_takeSettings_15 rfl ?_
  refine lv_aload_n C0.1 C0.2.1 dX9_takeSettings_16 rfl (lv_at hl 0 rfl) ?_
  refine k_get C0 S (C := RX9) (T := TX9) (N := 11) (ci := 9) (by decide +kernel) 0 rfl rfl 4 (by decide) (by decide +kernel) (v := .ref hF) rfl dX9_takeSettings_17 ?_
  refine lv_aload_n C0.1 C0.2.1 dX9_takeSettings_20 rfl (lv_at hl 0 rfl) ?_
  refine k_get C0 S (C := RX9) (T := TX9) (N := 11) (ci := 9) (by decide +kernel) 0 rfl rfl 3 (by decide) (by decide +kernel) (v := .ref hP) rfl dX9_takeSettings_21 ?_
  refine k_calli (n := 1) (wr := [(hX, .inr (9, [.ref hB, .ref hR, .ref hV, .ref hP, .ref hF, .ref hZ, .ref hS, .ref hN, .ref aY, .int (iI (tc)), .int (iI (en))])), (hS, .inr (6, [.ref aT, .ref hK, .ref hO, .ref hA])), (aT, .inl (cA 0, 200, .inl (fun y_ => iI (tx y_)))), (hK, .inr (7, [.int (iI (k1)), .int (iI (k2)), .int (iI (k3))])), (hO, .inr (7, [.int (iI (o1)), .int (iI (o2)), .int (iI (o3))])), (hA, .inr (7, [.int (iI (a1)), .int (iI (a2)), .int (iI (a3))])), (hC, .inr (2, [.ref hB, .ref hV, .ref aC, .int (iI (cc)), .int (iI (cn))])), (aC, .inl (cA 0, 64, .inl (fun y_ => iI (cpl y_))))]) C0 S (c_X3_findFile l D cA hF hP aL hE aE hV hB aB hC (cnt) (nx) L1 pl d bkey 1 hd hB2 hL (by omega) (by omega) hks) gX9_takeSettings_X3_findFile rfl ⟨rfl, rfl⟩ (by decide +kernel) ⟨Nat.le_of_ble_eq_true rfl, Nat.le_of_ble_eq_true rfl⟩ [8, 1, 2, 9, 10, 13, 14, 15] [0, 3, 4, 5, 6, 7, 11, 12] rfl rfl rfl rfl (by decide) (ci := 3) (q0 := 0) rfl rfl (As := [.ref hP]) rfl hl.1 rfl (Nat.le_of_ble_eq_true rfl) dX9_takeSettings_24 ⟨Nat.zero_le _, Nat.zero_le _⟩ (fun r u H locs hp S => ?_)
  obtain ⟨cf2, t3, pl4, rfl, rfl, hfr1, hfr2⟩ := hp
  have S := S.sub (ws' := [(hX, .inr (9, [.ref hB, .ref hR, .ref hV, .ref hP, .ref hF, .ref hZ, .ref hS, .ref hN, .ref aY, .int (iI (tc)), .int (iI (en))])), (hP, .inr (5, [.ref aL, .int (iI (((1 : Nat) : Int)))])), (aL, .inl (cA 0, 16, .inl (fun y_ => iI (L1 y_)))), (hS, .inr (6, [.ref aT, .ref hK, .ref hO, .ref hA])), (aT, .inl (cA 0, 200, .inl (fun y_ => iI (tx y_)))), (hK, .inr (7, [.int (iI (k1)), .int (iI (k2)), .int (iI (k3))])), (hO, .inr (7, [.int (iI (o1)), .int (iI (o2)), .int (iI (o3))])), (hA, .inr (7, [.int (iI (a1)), .int (iI (a2)), .int (iI (a3))])), (hF, .inr (3, [.ref hB, .ref hV, .ref hE, .ref hC])), (hE, .inr (2, [.ref hB, .ref hV, .ref aE, .int (iI (cf2)), .int (iI (t3))])), (aE, .inl (cA 0, 64, .inl (fun y_ => iI (pl4 y_)))), (hC, .inr (2, [.ref hB, .ref hV, .ref aC, .int (iI (cc)), .int (iI (cn))])), (aC, .inl (cA 0, 64, .inl (fun y_ => iI (cpl y_)))), (hV, .inr (8, [.ref hB, .int (iI (chs d)), .int (iI (gRoot d)), .int (iI (gN d)), .int (iI (gSz d)), .int (iI (gT d)), .int (iI (gTB d)), .int (iI (gTA d)), .int (iI (gCA d))])), (hB, .inr (0, [.ref aB])), (aB, .inl (cA 1, 2048, .inl (fun y_ => bI (d y_))))]) [0, 9, 10, 1, 2, 3, 4, 5, 8, 11, 12, 6, 7, 13, 14, 15] rfl rfl
  refine k_topeq (v := iI (bAd d)) rfl ?_
  have hfr1 : bAd d < 0 ∨ bAd d + 8 ≤ 2048 := hfr1
  have hfr2 : -100 ≤ bAd d := hfr2
  refine lv_istore_n (lv' := [(1, .int (iI (bAd d))), (0, .ref hX)]) C0.1 C0.2.1 dX9_takeSettings_27 rfl hl (by decide) rfl (fun ls hl => ?_)
  refine lv_iload_n C0.1 C0.2.1 dX9_takeSettings_28 rfl (lv_at hl 0 rfl) ?_
  refine k_if_ge (tgt := 34) C0 (by constructor <;> omega) dX9_takeSettings_29 (by decide) (fun c29 => ?_) (fun c29 => ?_)
  · refine lv_aload_n C0.1 C0.2.1 dX9_takeSettings_34 rfl (lv_at hl 1 rfl) ?_
    refine k_get C0 S (C := RX9) (T := TX9) (N := 11) (ci := 9) (by decide +kernel) 0 rfl rfl 4 (by decide) (by decide +kernel) (v := .ref hF) rfl dX9_takeSettings_35 ?_
    refine lv_iload_n C0.1 C0.2.1 dX9_takeSettings_38 rfl (lv_at hl 0 rfl) ?_
    refine k_calli (n := 1) (wr := [(hX, .inr (9, [.ref hB, .ref hR, .ref hV, .ref hP, .ref hF, .ref hZ, .ref hS, .ref hN, .ref aY, .int (iI (tc)), .int (iI (en))])), (hP, .inr (5, [.ref aL, .int (iI (((1 : Nat) : Int)))])), (aL, .inl (cA 0, 16, .inl (fun y_ => iI (L1 y_)))), (hS, .inr (6, [.ref aT, .ref hK, .ref hO, .ref hA])), (aT, .inl (cA 0, 200, .inl (fun y_ => iI (tx y_)))), (hK, .inr (7, [.int (iI (k1)), .int (iI (k2)), .int (iI (k3))])), (hO, .inr (7, [.int (iI (o1)), .int (iI (o2)), .int (iI (o3))])), (hA, .inr (7, [.int (iI (a1)), .int (iI (a2)), .int (iI (a3))])), (hE, .inr (2, [.ref hB, .ref hV, .ref aE, .int (iI (cf2)), .int (iI (t3))])), (aE, .inl (cA 0, 64, .inl (fun y_ => iI (pl4 y_))))]) C0 S (c_X3_open l D cA hF hC aC hV hB aB hE (cc) (cn) cpl d (bAd d) hd hB2 (by omega) (by omega)) gX9_takeSettings_X3_open rfl ⟨rfl, rfl⟩ (by decide +kernel) ⟨Nat.le_of_ble_eq_true rfl, Nat.le_of_ble_eq_true rfl⟩ [8, 11, 12, 13, 14, 15] [0, 1, 2, 3, 4, 5, 6, 7, 9, 10] rfl rfl rfl rfl (by decide) (ci := 3) (q0 := 0) rfl rfl (As := [.int (iI (bAd d))]) rfl hl.1 rfl (Nat.le_of_ble_eq_true rfl) dX9_takeSettings_39 ⟨Nat.zero_le _, Nat.zero_le _⟩ (fun r u H locs hp S => ?_)
    obtain ⟨co5, t6, pl7, rfl, rfl, hopT, hopr⟩ := hp
    have S := S.sub (ws' := [(hX, .inr (9, [.ref hB, .ref hR, .ref hV, .ref hP, .ref hF, .ref hZ, .ref hS, .ref hN, .ref aY, .int (iI (tc)), .int (iI (en))])), (hP, .inr (5, [.ref aL, .int (iI (((1 : Nat) : Int)))])), (aL, .inl (cA 0, 16, .inl (fun y_ => iI (L1 y_)))), (hS, .inr (6, [.ref aT, .ref hK, .ref hO, .ref hA])), (aT, .inl (cA 0, 200, .inl (fun y_ => iI (tx y_)))), (hK, .inr (7, [.int (iI (k1)), .int (iI (k2)), .int (iI (k3))])), (hO, .inr (7, [.int (iI (o1)), .int (iI (o2)), .int (iI (o3))])), (hA, .inr (7, [.int (iI (a1)), .int (iI (a2)), .int (iI (a3))])), (hF, .inr (3, [.ref hB, .ref hV, .ref hE, .ref hC])), (hE, .inr (2, [.ref hB, .ref hV, .ref aE, .int (iI (cf2)), .int (iI (t3))])), (aE, .inl (cA 0, 64, .inl (fun y_ => iI (pl4 y_)))), (hC, .inr (2, [.ref hB, .ref hV, .ref aC, .int (iI (co5)), .int (iI (t6))])), (aC, .inl (cA 0, 64, .inl (fun y_ => iI (pl7 y_)))), (hV, .inr (8, [.ref hB, .int (iI (chs d)), .int (iI (gRoot d)), .int (iI (gN d)), .int (iI (gSz d)), .int (iI (gT d)), .int (iI (gTB d)), .int (iI (gTA d)), .int (iI (gCA d))])), (hB, .inr (0, [.ref aB])), (aB, .inl (cA 1, 2048, .inl (fun y_ => bI (d y_))))]) [0, 1, 2, 3, 4, 5, 6, 7, 10, 8, 9, 11, 12, 13, 14, 15] rfl rfl
    refine lv_istore_n (lv' := [(2, .int (iI (opn d (bAd d)))), (1, .int (iI (bAd d))), (0, .ref hX)]) C0.1 C0.2.1 dX9_takeSettings_42 rfl hl (by decide) rfl (fun ls hl => ?_)
    refine lv_iload_n C0.1 C0.2.1 dX9_takeSettings_43 rfl (lv_at hl 0 rfl) ?_
    refine k_if_ge (tgt := 49) C0 (by constructor <;> omega) dX9_takeSettings_44 (by decide) (fun c44 => ?_) (fun c44 => ?_)
    · refine lv_aload_n C0.1 C0.2.1 dX9_takeSettings_49 rfl (lv_at hl 2 rfl) ?_
      refine k_get C0 S (C := RX9) (T := TX9) (N := 11) (ci := 9) (by decide +kernel) 0 rfl rfl 6 (by decide) (by decide +kernel) (v := .ref hS) rfl dX9_takeSettings_50 ?_
      refine lv_aload_n C0.1 C0.2.1 dX9_takeSettings_53 rfl (lv_at hl 2 rfl) ?_
      refine k_get C0 S (C := RX9) (T := TX9) (N := 11) (ci := 9) (by decide +kernel) 0 rfl rfl 4 (by decide) (by decide +kernel) (v := .ref hF) rfl dX9_takeSettings_54 ?_
      refine k_get C0 S (C := RX3) (T := TX3) (N := 4) (ci := 3) (by decide +kernel) 8 rfl rfl 3 (by decide) (by decide +kernel) (v := .ref hC) rfl dX9_takeSettings_57 ?_
      refine lv_iload_n C0.1 C0.2.1 dX9_takeSettings_60 rfl (lv_at hl 0 rfl) ?_
      refine k_calli (n := 2) (wr := [(hX, .inr (9, [.ref hB, .ref hR, .ref hV, .ref hP, .ref hF, .ref hZ, .ref hS, .ref hN, .ref aY, .int (iI (tc)), .int (iI (en))])), (hP, .inr (5, [.ref aL, .int (iI (((1 : Nat) : Int)))])), (aL, .inl (cA 0, 16, .inl (fun y_ => iI (L1 y_)))), (hF, .inr (3, [.ref hB, .ref hV, .ref hE, .ref hC])), (hE, .inr (2, [.ref hB, .ref hV, .ref aE, .int (iI (cf2)), .int (iI (t3))])), (aE, .inl (cA 0, 64, .inl (fun y_ => iI (pl4 y_))))]) C0 S (c_X6_take l D cA hS aT hK hO hA (k1) (k2) (k3) (o1) (o2) (o3) (a1) (a2) (a3) hC aC hV hB aB tx pl7 d (co5) (t6) (rd d (bAd d + 5)) (opn d (bAd d)) hd hB2 htx (by omega) (by omega) (fun h => ⟨hopT h, by have := opn_pos h; omega⟩)) gX9_takeSettings_X6_take rfl ⟨rfl, rfl⟩ (by decide +kernel) ⟨Nat.le_of_ble_eq_true rfl, Nat.le_of_ble_eq_true rfl⟩ [3, 4, 5, 6, 7, 11, 12, 13, 14, 15] [0, 1, 2, 8, 9, 10] rfl rfl rfl rfl (by decide) (ci := 6) (q0 := 0) rfl rfl (As := [.ref hC, .int (iI (opn d (bAd d)))]) rfl hl.1 rfl (Nat.le_of_ble_eq_true rfl) dX9_takeSettings_61 ⟨Nat.zero_le _, Nat.zero_le _⟩ (fun r u H locs hp S => ?_)
      obtain ⟨w8, w9, w10, w11, w12, w13, w14, w15, w16, tx17, rfl, rfl, hstS, htx2⟩ := hp
      have S := S.sub (ws' := [(hX, .inr (9, [.ref hB, .ref hR, .ref hV, .ref hP, .ref hF, .ref hZ, .ref hS, .ref hN, .ref aY, .int (iI (tc)), .int (iI (en))])), (hP, .inr (5, [.ref aL, .int (iI (((1 : Nat) : Int)))])), (aL, .inl (cA 0, 16, .inl (fun y_ => iI (L1 y_)))), (hS, .inr (6, [.ref aT, .ref hK, .ref hO, .ref hA])), (aT, .inl (cA 0, 200, .inl (fun y_ => iI (tx17 y_)))), (hK, .inr (7, [.int (iI (w8)), .int (iI (w9)), .int (iI (w10))])), (hO, .inr (7, [.int (iI (w11)), .int (iI (w12)), .int (iI (w13))])), (hA, .inr (7, [.int (iI (w14)), .int (iI (w15)), .int (iI (w16))])), (hF, .inr (3, [.ref hB, .ref hV, .ref hE, .ref hC])), (hE, .inr (2, [.ref hB, .ref hV, .ref aE, .int (iI (cf2)), .int (iI (t3))])), (aE, .inl (cA 0, 64, .inl (fun y_ => iI (pl4 y_)))), (hC, .inr (2, [.ref hB, .ref hV, .ref aC, .int (iI (co5)), .int (iI (t6))])), (aC, .inl (cA 0, 64, .inl (fun y_ => iI (pl7 y_)))), (hV, .inr (8, [.ref hB, .int (iI (chs d)), .int (iI (gRoot d)), .int (iI (gN d)), .int (iI (gSz d)), .int (iI (gT d)), .int (iI (gTB d)), .int (iI (gTA d)), .int (iI (gCA d))])), (hB, .inr (0, [.ref aB])), (aB, .inl (cA 1, 2048, .inl (fun y_ => bI (d y_))))]) [0, 1, 2, 6, 7, 8, 9, 10, 3, 4, 5, 11, 12, 13, 14, 15] rfl rfl
      refine k_bz_eq (tgt := 71) C0 dX9_takeSettings_64 (by decide) (fun c64 => ?_) (fun c64 => ?_)
      · refine lv_bipush (v := iI (-10)) C0.1 C0.2.1 dX9_takeSettings_71 (by decide) ?_
        subst hQ
        refine k_iret C0 S hAe hsz hr hlk dX9_takeSettings_73 ?_
        have hq := stC_3 (d := d) (by omega) (by omega) (Classical.not_not.mp c64)
        exact ⟨_, _, _, _, _, _, _, _, _, _, _, _, _, _, _, _, _, _, congrArg iI hq.symm, rfl, by omega, fun h => absurd h (by omega), fun S h h2 => absurd h2 (by omega), htx2⟩
      · refine lv_iconst (v := iI (0)) C0.1 C0.2.1 dX9_takeSettings_67 rfl ?_
        refine lv_goto (tgt := 73) C0.1 C0.2.1 dX9_takeSettings_68 (by decide) ?_
        subst hQ
        refine k_iret C0 S hAe hsz hr hlk dX9_takeSettings_73 ?_
        have hq := stC_4 (d := d) (by omega) (by omega) c64
        exact ⟨_, _, _, _, _, _, _, _, _, _, _, _, _, _, _, _, _, _, congrArg iI hq.symm, rfl, by omega, (fun _ => (Option.ne_none_iff_exists'.mp c64)), (fun S h _ => hstS S h), htx2⟩
    · refine lv_iload_n C0.1 C0.2.1 dX9_takeSettings_47 rfl (lv_at hl 0 rfl) ?_
      subst hQ
      refine k_iret C0 S hAe hsz hr hlk dX9_takeSettings_48 ?_
      have hq := stC_2 (d := d) (by omega) (by omega)
      exact ⟨_, _, _, _, _, _, _, _, _, _, _, _, _, _, _, _, _, _, congrArg iI hq.symm, rfl, by omega, fun h => absurd h (by omega), fun S h h2 => absurd h2 (by omega), htx⟩
  · refine lv_iload_n C0.1 C0.2.1 dX9_takeSettings_32 rfl (lv_at hl 0 rfl) ?_
    subst hQ
    refine k_iret C0 S hAe hsz hr hlk dX9_takeSettings_33 ?_
    have hq := stC_1 (d := d) (by omega)
    exact ⟨_, _, _, _, _, _, _, _, _, _, _, _, _, _, _, _, _, _, congrArg iI hq.symm, rfl, by omega, fun h => absurd h (by omega), fun S h h2 => absurd h2 (by omega), htx⟩
theorem stF_K {g : Nat → Int} {len : Int} : ∀ (f : Nat) (i fr : Int) (S S2 : SS), stF g len f i fr S = some S2 → 0 ≤ S2.2.1 := by
  intro f
  induction f with
  | zero =>
    intro i fr S S2 h
    by_cases q : 0 ≤ S.2.1
    · rw [stF_end q] at h; cases h; exact q
    · rw [stF_end_no q] at h; cases h
  | succ f ih =>
    intro i fr S S2 h
    by_cases q : i = len ∨ rd g i = 10
    · by_cases q2 : lnOk g fr i
      · rw [stF_line q q2] at h; exact ih _ _ _ _ h
      · rw [stF_bad q q2] at h; cases h
    · rw [stF_on q] at h; exact ih _ _ _ _ h
theorem stg_len0 {g : Nat → Int} {len : Int} {S : SS} (h : stg g len = some S) : len ≤ 200 := by
  by_cases q : len ≤ 200
  · exact q
  · rw [stg_long q] at h; cases h
theorem stg_len {d : Nat → Int} {S : SS} (h : bSt d = some S) : opn d (bAd d) ≤ 200 := stg_len0 h
theorem stg_K {d : Nat → Int} {S : SS} (h : bSt d = some S) : 0 ≤ S.2.1 := by
  have h2 : stg (bTx d) (opn d (bAd d)) = some S := h
  rw [stg_short (stg_len0 h2)] at h2
  exact stF_K _ _ _ _ _ h2
def rmX9_boot : Room := { frames := 6, cells := 0, slots := 0, locals := 138 }
set_option maxHeartbeats 4000000 in
set_option maxRecDepth 100000 in
theorem c_X9_boot (l : Launch) (D : va_G) (cA : Nat → ClassId) (t hX hB hR hV hP hF hZ hS hN aY aL aT hK hO hA hE aE hC aC aB aR : Nat) (tc en pc0 cnt nx cc cn v9 v10 v11 k1 k2 k3 o1 o2 o3 a1 a2 a3 v1 v2 v3 v4 v5 v6 v7 v8 : Int) (L pl cpl tx ra d : Nat → Int) (hd : By d) (htx : By tx) (hra : By ra) (hen : ir en) : kCiX l D vwCl (kTys cA) t yX9_boot wsX9_boot rmX9_boot [.ref hX] [(hX, .inr (9, [.ref hB, .ref hR, .ref hV, .ref hP, .ref hF, .ref hZ, .ref hS, .ref hN, .ref aY, .int (iI (tc)), .int (iI (en))])), (hP, .inr (5, [.ref aL, .int (iI (pc0))])), (aL, .inl (cA 0, 16, .inl (fun y_ => iI (L y_)))), (hS, .inr (6, [.ref aT, .ref hK, .ref hO, .ref hA])), (aT, .inl (cA 0, 200, .inl (fun y_ => iI (tx y_)))), (hK, .inr (7, [.int (iI (k1)), .int (iI (k2)), .int (iI (k3))])), (hO, .inr (7, [.int (iI (o1)), .int (iI (o2)), .int (iI (o3))])), (hA, .inr (7, [.int (iI (a1)), .int (iI (a2)), .int (iI (a3))])), (hF, .inr (3, [.ref hB, .ref hV, .ref hE, .ref hC])), (hE, .inr (2, [.ref hB, .ref hV, .ref aE, .int (iI (cnt)), .int (iI (nx))])), (aE, .inl (cA 0, 64, .inl (fun y_ => iI (pl y_)))), (hC, .inr (2, [.ref hB, .ref hV, .ref aC, .int (iI (cc)), .int (iI (cn))])), (aC, .inl (cA 0, 64, .inl (fun y_ => iI (cpl y_)))), (hN, .inr (4, [.int (iI (v9)), .int (iI (v10)), .int (iI (v11))])), (hV, .inr (8, [.ref hB, .int (iI (v1)), .int (iI (v2)), .int (iI (v3)), .int (iI (v4)), .int (iI (v5)), .int (iI (v6)), .int (iI (v7)), .int (iI (v8))])), (hB, .inr (0, [.ref aB])), (aB, .inl (cA 1, 2048, .inl (fun y_ => bI (d y_)))), (hR, .inr (0, [.ref aR])), (aR, .inl (cA 1, 1024, .inl (fun y_ => bI (ra y_))))] (fun r u => ∃ (en_ pc_ cnt_ nx_ cc_ cn_ v9_ v10_ v11_ w1_ w2_ w3_ w4_ w5_ w6_ w7_ w8_ w9_ x1_ x2_ x3_ x4_ x5_ x6_ x7_ x8_ : Int) (L_ pl_ cpl_ tx_ ra_ : Nat → Int), r = iI ((boA d ra en).1) ∧ u = [(hX, .inr (9, [.ref hB, .ref hR, .ref hV, .ref hP, .ref hF, .ref hZ, .ref hS, .ref hN, .ref aY, .int (iI (tc)), .int (iI (en_))])), (hP, .inr (5, [.ref aL, .int (iI (pc_))])), (aL, .inl (cA 0, 16, .inl (fun y_ => iI (L_ y_)))), (hS, .inr (6, [.ref aT, .ref hK, .ref hO, .ref hA])), (aT, .inl (cA 0, 200, .inl (fun y_ => iI (tx_ y_)))), (hK, .inr (7, [.int (iI (w1_)), .int (iI (w2_)), .int (iI (w3_))])), (hO, .inr (7, [.int (iI (w4_)), .int (iI (w5_)), .int (iI (w6_))])), (hA, .inr (7, [.int (iI (w7_)), .int (iI (w8_)), .int (iI (w9_))])), (hF, .inr (3, [.ref hB, .ref hV, .ref hE, .ref hC])), (hE, .inr (2, [.ref hB, .ref hV, .ref aE, .int (iI (cnt_)), .int (iI (nx_))])), (aE, .inl (cA 0, 64, .inl (fun y_ => iI (pl_ y_)))), (hC, .inr (2, [.ref hB, .ref hV, .ref aC, .int (iI (cc_)), .int (iI (cn_))])), (aC, .inl (cA 0, 64, .inl (fun y_ => iI (cpl_ y_)))), (hN, .inr (4, [.int (iI (v9_)), .int (iI (v10_)), .int (iI (v11_))])), (hV, .inr (8, [.ref hB, .int (iI (x1_)), .int (iI (x2_)), .int (iI (x3_)), .int (iI (x4_)), .int (iI (x5_)), .int (iI (x6_)), .int (iI (x7_)), .int (iI (x8_))])), (hB, .inr (0, [.ref aB])), (aB, .inl (cA 1, 2048, .inl (fun y_ => bI (d y_)))), (hR, .inr (0, [.ref aR])), (aR, .inl (cA 1, 1024, .inl (fun y_ => bI (ra_ y_))))] ∧ ra_ = (boA d ra en).2.1 ∧ en_ = (boA d ra en).2.2 ∧ By tx_ ∧ By ra_ ∧ ir en_ ∧ (-100 ≤ (boA d ra en).1 ∧ (boA d ra en).1 ≤ 1)) := by
  intro sz
  refine kEntryX (cc := cX9_boot) (maxL := 4) (ret := (some .int)) (by decide) rfl (Nat.le_of_ble_eq_true rfl) ?_
  intro p e s m args below meth c A Q hAe hQ C0 hr hlk S hsz hXs ls hl
  have hl : lv_has ls 4 [(0, .ref hX)] := hl
  refine lv_aload_n C0.1 C0.2.1 dX9_boot_0 rfl (lv_at hl 0 rfl) ?_
  refine k_get C0 S (C := RX9) (T := TX9) (N := 11) (ci := 9) (by decide +kernel) 0 rfl rfl 2 (by decide) (by decide +kernel) (v := .ref hV) rfl dX9_boot_1 ?_
  refine k_calli (n := 0) (wr := [(hX, .inr (9, [.ref hB, .ref hR, .ref hV, .ref hP, .ref hF, .ref hZ, .ref hS, .ref hN, .ref aY, .int (iI (tc)), .int (iI (en))])), (hP, .inr (5, [.ref aL, .int (iI (pc0))])), (aL, .inl (cA 0, 16, .inl (fun y_ => iI (L y_)))), (hS, .inr (6, [.ref aT, .ref hK, .ref hO, .ref hA])), (aT, .inl (cA 0, 200, .inl (fun y_ => iI (tx y_)))), (hK, .inr (7, [.int (iI (k1)), .int (iI (k2)), .int (iI (k3))])), (hO, .inr (7, [.int (iI (o1)), .int (iI (o2)), .int (iI (o3))])), (hA, .inr (7, [.int (iI (a1)), .int (iI (a2)), .int (iI (a3))])), (hF, .inr (3, [.ref hB, .ref hV, .ref hE, .ref hC])), (hE, .inr (2, [.ref hB, .ref hV, .ref aE, .int (iI (cnt)), .int (iI (nx))])), (aE, .inl (cA 0, 64, .inl (fun y_ => iI (pl y_)))), (hC, .inr (2, [.ref hB, .ref hV, .ref aC, .int (iI (cc)), .int (iI (cn))])), (aC, .inl (cA 0, 64, .inl (fun y_ => iI (cpl y_)))), (hN, .inr (4, [.int (iI (v9)), .int (iI (v10)), .int (iI (v11))])), (hR, .inr (0, [.ref aR])), (aR, .inl (cA 1, 1024, .inl (fun y_ => bI (ra y_))))]) C0 S (c_X8_mount l D cA hV hB aB (v1) (v2) (v3) (v4) (v5) (v6) (v7) (v8) d hd) gX9_boot_X8_mount rfl ⟨rfl, rfl⟩ (by decide +kernel) ⟨Nat.le_of_ble_eq_true rfl, Nat.le_of_ble_eq_true rfl⟩ [14, 15, 16] [0, 1, 2, 3, 4, 5, 6, 7, 8, 9, 10, 11, 12, 13, 17, 18] rfl rfl rfl rfl (by decide) (ci := 8) (q0 := 0) rfl rfl (As := []) rfl hl.1 rfl (Nat.le_of_ble_eq_true rfl) dX9_boot_4 ⟨Nat.zero_le _, Nat.zero_le _⟩ (fun r u H locs hp S => ?_)
  obtain ⟨x1, x2, x3, x4, x5, x6, x7, x8, rfl, rfl, hgeo⟩ := hp
  have S := S.sub (ws' := [(hX, .inr (9, [.ref hB, .ref hR, .ref hV, .ref hP, .ref hF, .ref hZ, .ref hS, .ref hN, .ref aY, .int (iI (tc)), .int (iI (en))])), (hP, .inr (5, [.ref aL, .int (iI (pc0))])), (aL, .inl (cA 0, 16, .inl (fun y_ => iI (L y_)))), (hS, .inr (6, [.ref aT, .ref hK, .ref hO, .ref hA])), (aT, .inl (cA 0, 200, .inl (fun y_ => iI (tx y_)))), (hK, .inr (7, [.int (iI (k1)), .int (iI (k2)), .int (iI (k3))])), (hO, .inr (7, [.int (iI (o1)), .int (iI (o2)), .int (iI (o3))])), (hA, .inr (7, [.int (iI (a1)), .int (iI (a2)), .int (iI (a3))])), (hF, .inr (3, [.ref hB, .ref hV, .ref hE, .ref hC])), (hE, .inr (2, [.ref hB, .ref hV, .ref aE, .int (iI (cnt)), .int (iI (nx))])), (aE, .inl (cA 0, 64, .inl (fun y_ => iI (pl y_)))), (hC, .inr (2, [.ref hB, .ref hV, .ref aC, .int (iI (cc)), .int (iI (cn))])), (aC, .inl (cA 0, 64, .inl (fun y_ => iI (cpl y_)))), (hN, .inr (4, [.int (iI (v9)), .int (iI (v10)), .int (iI (v11))])), (hV, .inr (8, [.ref hB, .int (iI (x1)), .int (iI (x2)), .int (iI (x3)), .int (iI (x4)), .int (iI (x5)), .int (iI (x6)), .int (iI (x7)), .int (iI (x8))])), (hB, .inr (0, [.ref aB])), (aB, .inl (cA 1, 2048, .inl (fun y_ => bI (d y_)))), (hR, .inr (0, [.ref aR])), (aR, .inl (cA 1, 1024, .inl (fun y_ => bI (ra y_))))]) [0, 1, 2, 3, 4, 5, 6, 7, 8, 9, 10, 11, 12, 13, 16, 17, 18, 14, 15] rfl rfl
  have hvr := vol_range hd
  refine lv_istore_n (lv' := [(1, .int (iI (vol d))), (0, .ref hX)]) C0.1 C0.2.1 dX9_boot_7 rfl hl (by decide) rfl (fun ls hl => ?_)
  refine lv_iload_n C0.1 C0.2.1 dX9_boot_8 rfl (lv_at hl 0 rfl) ?_
  refine k_if_ge (tgt := 14) C0 (by constructor <;> omega) dX9_boot_9 (by decide) (fun c9 => ?_) (fun c9 => ?_)
  · have hGood := good_of_vol (show 0 ≤ vol d by omega)
    have hB2 := hGood.bounds hd
    have hlin := hB2.lin
    obtain ⟨rfl, rfl, rfl, rfl, rfl, rfl, rfl, rfl⟩ := hgeo (by omega)
    refine lv_aload_n C0.1 C0.2.1 dX9_boot_14 rfl (lv_at hl 1 rfl) ?_
    refine k_calliX (n := 0) (wr := [(hN, .inr (4, [.int (iI (v9)), .int (iI (v10)), .int (iI (v11))])), (hR, .inr (0, [.ref aR])), (aR, .inl (cA 1, 1024, .inl (fun y_ => bI (ra y_))))]) C0 S hXs (c_X9_takeSettings l D cA t hX hB hR hV hP hF hZ hS hN aY aL aT hK hO hA hE aE hC aC aB (tc) (en) (pc0) (cnt) (nx) (cc) (cn) (k1) (k2) (k3) (o1) (o2) (o3) (a1) (a2) (a3) L pl cpl tx d hd hB2 htx) gX9_boot_X9_takeSettings rfl ⟨rfl, rfl⟩ (by decide +kernel) ⟨Nat.le_of_ble_eq_true rfl, Nat.le_of_ble_eq_true rfl⟩ [0, 1, 2, 3, 4, 5, 6, 7, 8, 9, 10, 11, 12, 14, 15, 16] [13, 17, 18] rfl rfl rfl rfl (by decide) (ci := 9) (q0 := 0) rfl rfl (As := []) rfl hl.1 rfl (Nat.le_of_ble_eq_true rfl) dX9_boot_15 ⟨Nat.zero_le _, Nat.zero_le _⟩ (fun r u H locs hp S => ?_)
    obtain ⟨e9, e10, e11, e12, e13, w14, w15, w16, w17, w18, w19, w20, w21, w22, f23, f24, f25, f26, rfl, rfl, hsr, hse, hsv, htx3⟩ := hp
    have S := S.sub (ws' := [(hX, .inr (9, [.ref hB, .ref hR, .ref hV, .ref hP, .ref hF, .ref hZ, .ref hS, .ref hN, .ref aY, .int (iI (tc)), .int (iI (en))])), (hP, .inr (5, [.ref aL, .int (iI (e9))])), (aL, .inl (cA 0, 16, .inl (fun y_ => iI (f23 y_)))), (hS, .inr (6, [.ref aT, .ref hK, .ref hO, .ref hA])), (aT, .inl (cA 0, 200, .inl (fun y_ => iI (f26 y_)))), (hK, .inr (7, [.int (iI (w14)), .int (iI (w15)), .int (iI (w16))])), (hO, .inr (7, [.int (iI (w17)), .int (iI (w18)), .int (iI (w19))])), (hA, .inr (7, [.int (iI (w20)), .int (iI (w21)), .int (iI (w22))])), (hF, .inr (3, [.ref hB, .ref hV, .ref hE, .ref hC])), (hE, .inr (2, [.ref hB, .ref hV, .ref aE, .int (iI (e10)), .int (iI (e11))])), (aE, .inl (cA 0, 64, .inl (fun y_ => iI (f24 y_)))), (hC, .inr (2, [.ref hB, .ref hV, .ref aC, .int (iI (e12)), .int (iI (e13))])), (aC, .inl (cA 0, 64, .inl (fun y_ => iI (f25 y_)))), (hN, .inr (4, [.int (iI (v9)), .int (iI (v10)), .int (iI (v11))])), (hV, .inr (8, [.ref hB, .int (iI (chs d)), .int (iI (gRoot d)), .int (iI (gN d)), .int (iI (gSz d)), .int (iI (gT d)), .int (iI (gTB d)), .int (iI (gTA d)), .int (iI (gCA d))])), (hB, .inr (0, [.ref aB])), (aB, .inl (cA 1, 2048, .inl (fun y_ => bI (d y_)))), (hR, .inr (0, [.ref aR])), (aR, .inl (cA 1, 1024, .inl (fun y_ => bI (ra y_))))]) [3, 4, 5, 6, 7, 8, 9, 10, 11, 12, 13, 14, 15, 0, 16, 17, 18, 1, 2] rfl rfl
    refine lv_istore_n (lv' := [(2, .int (iI (stC d))), (1, .int (iI (vol d))), (0, .ref hX)]) C0.1 C0.2.1 dX9_boot_18 rfl hl (by decide) rfl (fun ls hl => ?_)
    refine lv_iload_n C0.1 C0.2.1 dX9_boot_19 rfl (lv_at hl 0 rfl) ?_
    refine k_if_ge (tgt := 25) C0 (by constructor <;> omega) dX9_boot_20 (by decide) (fun c20 => ?_) (fun c20 => ?_)
    · obtain ⟨S9, hS9⟩ := hse (by omega)
      have hlen2 : opn d (bAd d) ≤ 200 := stg_len hS9
      obtain ⟨⟨vr1, vr2, vr3⟩, ⟨sb1, sb2, sb3⟩, htg⟩ := hsv S9 hS9 (by omega)
      have vk : 0 ≤ S9.2.1 ∧ w15 = S9.1 ∧ w16 = S9.1 + S9.2.1 := by rcases vr1 with ⟨_, a, b, c⟩ | ⟨_, a, b, c⟩; exact ⟨a, b, c⟩; exact absurd (stg_K hS9) (by omega)
      have va : 0 ≤ w21 ∧ w21 ≤ w22 ∧ w22 ≤ 200 ∧ w22 - w21 ≤ 24 := by rcases vr3 with ⟨_, a, b, c⟩ | ⟨_, a, b, c⟩ <;> omega
      refine lv_aload_n C0.1 C0.2.1 dX9_boot_25 rfl (lv_at hl 2 rfl) ?_
      refine lv_aload_n C0.1 C0.2.1 dX9_boot_26 rfl (lv_at hl 2 rfl) ?_
      refine k_get C0 S (C := RX9) (T := TX9) (N := 11) (ci := 9) (by decide +kernel) 0 rfl rfl 6 (by decide) (by decide +kernel) (v := .ref hS) rfl dX9_boot_27 ?_
      refine k_get C0 S (C := RX6) (T := TX6) (N := 4) (ci := 6) (by decide +kernel) 3 rfl rfl 1 (by decide) (by decide +kernel) (v := .ref hK) rfl dX9_boot_30 ?_
      refine k_calli (n := 1) (wr := []) C0 S (c_loadK l D cA hX hB hR hV hP hF hZ hS hN aY aL aT hK hO hA hE aE hC aC aB aR (tc) (en) (e9) (e10) (e11) (e12) (e13) (v9) (v10) (v11) (w14) (w15) (w16) (w17) (w18) (w19) (w20) (w21) (w22) f23 f24 f25 f26 ra d hd hB2 htx3 hra hen (by omega) (by omega) (by omega) (by omega) (by omega) (by omega) (by omega)) gX9_boot_X9_load rfl ⟨rfl, rfl⟩ (by decide +kernel) ⟨Nat.le_of_ble_eq_true rfl, Nat.le_of_ble_eq_true rfl⟩ [0, 1, 2, 3, 4, 5, 6, 7, 8, 9, 10, 11, 12, 13, 14, 15, 16, 17, 18] [] rfl rfl rfl rfl (by decide) (ci := 9) (q0 := 0) rfl rfl (As := [.ref hK]) rfl hl.1 rfl (Nat.le_of_ble_eq_true rfl) dX9_boot_33 ⟨Nat.zero_le _, Nat.zero_le _⟩ (fun r u H locs hp S => ?_)
      obtain ⟨e27, e28, e29, e30, e31, e32, e33, e34, e35, f36, f37, f38, f39, rfl, rfl, hlK0, hlK1, hra_K, hen_K, hlrK⟩ := hp
      have S := S.sub (ws' := [(hX, .inr (9, [.ref hB, .ref hR, .ref hV, .ref hP, .ref hF, .ref hZ, .ref hS, .ref hN, .ref aY, .int (iI (tc)), .int (iI (e27))])), (hP, .inr (5, [.ref aL, .int (iI (e28))])), (aL, .inl (cA 0, 16, .inl (fun y_ => iI (f36 y_)))), (hS, .inr (6, [.ref aT, .ref hK, .ref hO, .ref hA])), (aT, .inl (cA 0, 200, .inl (fun y_ => iI (f26 y_)))), (hK, .inr (7, [.int (iI (w14)), .int (iI (w15)), .int (iI (w16))])), (hO, .inr (7, [.int (iI (w17)), .int (iI (w18)), .int (iI (w19))])), (hA, .inr (7, [.int (iI (w20)), .int (iI (w21)), .int (iI (w22))])), (hF, .inr (3, [.ref hB, .ref hV, .ref hE, .ref hC])), (hE, .inr (2, [.ref hB, .ref hV, .ref aE, .int (iI (e29)), .int (iI (e30))])), (aE, .inl (cA 0, 64, .inl (fun y_ => iI (f37 y_)))), (hC, .inr (2, [.ref hB, .ref hV, .ref aC, .int (iI (e31)), .int (iI (e32))])), (aC, .inl (cA 0, 64, .inl (fun y_ => iI (f38 y_)))), (hN, .inr (4, [.int (iI (e33)), .int (iI (e34)), .int (iI (e35))])), (hV, .inr (8, [.ref hB, .int (iI (chs d)), .int (iI (gRoot d)), .int (iI (gN d)), .int (iI (gSz d)), .int (iI (gT d)), .int (iI (gTB d)), .int (iI (gTA d)), .int (iI (gCA d))])), (hB, .inr (0, [.ref aB])), (aB, .inl (cA 1, 2048, .inl (fun y_ => bI (d y_)))), (hR, .inr (0, [.ref aR])), (aR, .inl (cA 1, 1024, .inl (fun y_ => bI (f39 y_))))]) [0, 1, 2, 3, 4, 5, 6, 7, 8, 9, 10, 11, 12, 13, 14, 15, 16, 17, 18] rfl rfl
      refine lv_istore_n (lv' := [(3, .int (iI (ldC d f26 w15 (w16 - w15)))), (2, .int (iI (stC d))), (1, .int (iI (vol d))), (0, .ref hX)]) C0.1 C0.2.1 dX9_boot_36 rfl hl (by decide) rfl (fun ls hl => ?_)
      refine lv_iload_n C0.1 C0.2.1 dX9_boot_37 rfl (lv_at hl 0 rfl) ?_
      refine k_if_eq (tgt := 54) C0 (by constructor <;> omega) dX9_boot_38 (by decide) (fun c38 => ?_) (fun c38 => ?_)
      · refine lv_iload_n C0.1 C0.2.1 dX9_boot_54 rfl (lv_at hl 0 rfl) ?_
        subst hQ
        refine k_iret C0 S hAe hsz hr hlk dX9_boot_55 ?_
        have cK := ldC_congr (d := d) (F := S9.1) (N := S9.2.1) htg (by omega) (by omega)
        have eK : ldC d f26 w15 (w16 - w15) = ldC d (bTx d) S9.1 S9.2.1 ∧ ldA d f26 w15 (w16 - w15) = ldA d (bTx d) S9.1 S9.2.1 := by rw [vk.2.1, vk.2.2, show S9.1 + S9.2.1 - S9.1 = S9.2.1 by omega]; exact cK
        have hrc := ramS_congr (d := d) (a := ldA d (bTx d) S9.1 S9.2.1) htg vr3 sb3
        have hq : boA d ra en = _ := (boA_3 (by omega) (by omega) hS9).trans (boS_1 (by rw [← eK.1]; exact c38))
        refine ⟨_, _, _, _, _, _, _, _, _, _, _, _, _, _, _, _, _, _, _, _, _, _, _, _, _, _, _, _, _, _, _, congrArg iI ?_, rfl, ?_, ?_, htx3, hra_K, hen_K, by rw [hq]; dsimp only; omega⟩
        · rw [hq]; exact c38
        · rw [hq]; exact (hlK0 c38).1.trans (by rw [eK.2]; exact hrc)
        · rw [hq]; exact (hlK0 c38).2.trans (by rw [eK.2])
      · refine lv_aload_n C0.1 C0.2.1 dX9_boot_41 rfl (lv_at hl 3 rfl) ?_
        refine k_get C0 S (C := RX9) (T := TX9) (N := 11) (ci := 9) (by decide +kernel) 0 rfl rfl 6 (by decide) (by decide +kernel) (v := .ref hS) rfl dX9_boot_42 ?_
        refine k_get C0 S (C := RX6) (T := TX6) (N := 4) (ci := 6) (by decide +kernel) 3 rfl rfl 2 (by decide) (by decide +kernel) (v := .ref hO) rfl dX9_boot_45 ?_
        refine k_get C0 S (C := RX7) (T := TX7) (N := 3) (ci := 7) (by decide +kernel) 6 rfl rfl 0 (by decide) (by decide +kernel) (v := .int (iI (w17))) rfl dX9_boot_48 ?_
        have hg0 : w17 = 0 ∨ w17 = 1 := by rcases vr2 with ⟨a, _⟩ | ⟨a, _⟩ <;> omega
        refine k_if_ne (tgt := 56) C0 (by constructor <;> omega) dX9_boot_51 (by decide) (fun c51 => ?_) (fun c51 => ?_)
        · have vo : 0 ≤ S9.2.2.2.1 ∧ w18 = S9.2.2.1 ∧ w19 = S9.2.2.1 + S9.2.2.2.1 := by rcases vr2 with ⟨_, a, b, c⟩ | ⟨a, _⟩; exact ⟨a, b, c⟩; exact absurd a c51
          refine lv_aload_n C0.1 C0.2.1 dX9_boot_56 rfl (lv_at hl 3 rfl) ?_
          refine lv_aload_n C0.1 C0.2.1 dX9_boot_57 rfl (lv_at hl 3 rfl) ?_
          refine k_get C0 S (C := RX9) (T := TX9) (N := 11) (ci := 9) (by decide +kernel) 0 rfl rfl 6 (by decide) (by decide +kernel) (v := .ref hS) rfl dX9_boot_58 ?_
          refine k_get C0 S (C := RX6) (T := TX6) (N := 4) (ci := 6) (by decide +kernel) 3 rfl rfl 2 (by decide) (by decide +kernel) (v := .ref hO) rfl dX9_boot_61 ?_
          refine k_calli (n := 1) (wr := []) C0 S (c_loadO l D cA hX hB hR hV hP hF hZ hS hN aY aL aT hK hO hA hE aE hC aC aB aR (tc) (e27) (e28) (e29) (e30) (e31) (e32) (e33) (e34) (e35) (w14) (w15) (w16) (w17) (w18) (w19) (w20) (w21) (w22) f36 f37 f38 f26 f39 d hd hB2 htx3 hra_K hen_K (by omega) (by omega) (by omega) (by omega) (by omega) (by omega) (by omega)) gX9_boot_X9_load rfl ⟨rfl, rfl⟩ (by decide +kernel) ⟨Nat.le_of_ble_eq_true rfl, Nat.le_of_ble_eq_true rfl⟩ [0, 1, 2, 3, 4, 5, 6, 7, 8, 9, 10, 11, 12, 13, 14, 15, 16, 17, 18] [] rfl rfl rfl rfl (by decide) (ci := 9) (q0 := 0) rfl rfl (As := [.ref hO]) rfl hl.1 rfl (Nat.le_of_ble_eq_true rfl) dX9_boot_64 ⟨Nat.zero_le _, Nat.zero_le _⟩ (fun r u H locs hp S => ?_)
          obtain ⟨e40, e41, e42, e43, e44, e45, e46, e47, e48, f49, f50, f51, f52, rfl, rfl, hlO0, hlO1, hra_O, hen_O, hlrO⟩ := hp
          have S := S.sub (ws' := [(hX, .inr (9, [.ref hB, .ref hR, .ref hV, .ref hP, .ref hF, .ref hZ, .ref hS, .ref hN, .ref aY, .int (iI (tc)), .int (iI (e40))])), (hP, .inr (5, [.ref aL, .int (iI (e41))])), (aL, .inl (cA 0, 16, .inl (fun y_ => iI (f49 y_)))), (hS, .inr (6, [.ref aT, .ref hK, .ref hO, .ref hA])), (aT, .inl (cA 0, 200, .inl (fun y_ => iI (f26 y_)))), (hK, .inr (7, [.int (iI (w14)), .int (iI (w15)), .int (iI (w16))])), (hO, .inr (7, [.int (iI (w17)), .int (iI (w18)), .int (iI (w19))])), (hA, .inr (7, [.int (iI (w20)), .int (iI (w21)), .int (iI (w22))])), (hF, .inr (3, [.ref hB, .ref hV, .ref hE, .ref hC])), (hE, .inr (2, [.ref hB, .ref hV, .ref aE, .int (iI (e42)), .int (iI (e43))])), (aE, .inl (cA 0, 64, .inl (fun y_ => iI (f50 y_)))), (hC, .inr (2, [.ref hB, .ref hV, .ref aC, .int (iI (e44)), .int (iI (e45))])), (aC, .inl (cA 0, 64, .inl (fun y_ => iI (f51 y_)))), (hN, .inr (4, [.int (iI (e46)), .int (iI (e47)), .int (iI (e48))])), (hV, .inr (8, [.ref hB, .int (iI (chs d)), .int (iI (gRoot d)), .int (iI (gN d)), .int (iI (gSz d)), .int (iI (gT d)), .int (iI (gTB d)), .int (iI (gTA d)), .int (iI (gCA d))])), (hB, .inr (0, [.ref aB])), (aB, .inl (cA 1, 2048, .inl (fun y_ => bI (d y_)))), (hR, .inr (0, [.ref aR])), (aR, .inl (cA 1, 1024, .inl (fun y_ => bI (f52 y_))))]) [0, 1, 2, 3, 4, 5, 6, 7, 8, 9, 10, 11, 12, 13, 14, 15, 16, 17, 18] rfl rfl
          refine lv_istore_n (lv' := [(3, .int (iI (ldC d f26 w18 (w19 - w18)))), (2, .int (iI (stC d))), (1, .int (iI (vol d))), (0, .ref hX)]) C0.1 C0.2.1 dX9_boot_67 rfl hl (by decide) rfl (fun ls hl => ?_)
          refine lv_iload_n C0.1 C0.2.1 dX9_boot_68 rfl (lv_at hl 0 rfl) ?_
          refine k_if_ne (tgt := 76) C0 (by constructor <;> omega) dX9_boot_69 (by decide) (fun c69 => ?_) (fun c69 => ?_)
          · refine lv_iload_n C0.1 C0.2.1 dX9_boot_76 rfl (lv_at hl 0 rfl) ?_
            subst hQ
            refine k_iret C0 S hAe hsz hr hlk dX9_boot_77 ?_
            have cK := ldC_congr (d := d) (F := S9.1) (N := S9.2.1) htg (by omega) (by omega)
            have eK : ldC d f26 w15 (w16 - w15) = ldC d (bTx d) S9.1 S9.2.1 ∧ ldA d f26 w15 (w16 - w15) = ldA d (bTx d) S9.1 S9.2.1 := by rw [vk.2.1, vk.2.2, show S9.1 + S9.2.1 - S9.1 = S9.2.1 by omega]; exact cK
            have cO := ldC_congr (d := d) (F := S9.2.2.1) (N := S9.2.2.2.1) htg (by omega) (by omega)
            have eO : ldC d f26 w18 (w19 - w18) = ldC d (bTx d) S9.2.2.1 S9.2.2.2.1 ∧ ldA d f26 w18 (w19 - w18) = ldA d (bTx d) S9.2.2.1 S9.2.2.2.1 := by rw [vo.2.1, vo.2.2, show S9.2.2.1 + S9.2.2.2.1 - S9.2.2.1 = S9.2.2.2.1 by omega]; exact cO
            have hq : boA d ra en = _ := (boA_3 (by omega) (by omega) hS9).trans (boS_4 (by rw [← eK.1]; exact c38) (by omega) (by rw [← eO.1]; exact c69))
            refine ⟨_, _, _, _, _, _, _, _, _, _, _, _, _, _, _, _, _, _, _, _, _, _, _, _, _, _, _, _, _, _, _, congrArg iI ?_, rfl, ?_, ?_, htx3, hra_O, hen_O, by rw [hq]; dsimp only; omega⟩
            · rw [hq]; exact eO.1
            · rw [hq]; exact (hlO1 c69).1.trans (hlK1 c38).1
            · rw [hq]; exact (hlO1 c69).2.trans (hlK1 c38).2
          · refine lv_iconst (v := iI (1)) C0.1 C0.2.1 dX9_boot_72 rfl ?_
            refine lv_goto (tgt := 77) C0.1 C0.2.1 dX9_boot_73 (by decide) ?_
            subst hQ
            refine k_iret C0 S hAe hsz hr hlk dX9_boot_77 ?_
            have cK := ldC_congr (d := d) (F := S9.1) (N := S9.2.1) htg (by omega) (by omega)
            have eK : ldC d f26 w15 (w16 - w15) = ldC d (bTx d) S9.1 S9.2.1 ∧ ldA d f26 w15 (w16 - w15) = ldA d (bTx d) S9.1 S9.2.1 := by rw [vk.2.1, vk.2.2, show S9.1 + S9.2.1 - S9.1 = S9.2.1 by omega]; exact cK
            have cO := ldC_congr (d := d) (F := S9.2.2.1) (N := S9.2.2.2.1) htg (by omega) (by omega)
            have eO : ldC d f26 w18 (w19 - w18) = ldC d (bTx d) S9.2.2.1 S9.2.2.2.1 ∧ ldA d f26 w18 (w19 - w18) = ldA d (bTx d) S9.2.2.1 S9.2.2.2.1 := by rw [vo.2.1, vo.2.2, show S9.2.2.1 + S9.2.2.2.1 - S9.2.2.1 = S9.2.2.2.1 by omega]; exact cO
            have hrc := ramS_congr (d := d) (a := ldA d (bTx d) S9.2.2.1 S9.2.2.2.1) htg vr3 sb3
            have hq : boA d ra en = _ := (boA_3 (by omega) (by omega) hS9).trans (boS_3 (by rw [← eK.1]; exact c38) (by omega) (by rw [← eO.1]; exact c69))
            refine ⟨_, _, _, _, _, _, _, _, _, _, _, _, _, _, _, _, _, _, _, _, _, _, _, _, _, _, _, _, _, _, _, congrArg iI ?_, rfl, ?_, ?_, htx3, hra_O, hen_O, by rw [hq]; dsimp only; omega⟩
            · rw [hq]
            · rw [hq]; exact (hlO0 c69).1.trans (by rw [eO.2]; exact hrc)
            · rw [hq]; exact (hlO0 c69).2.trans (by rw [eO.2])
        · refine lv_iload_n C0.1 C0.2.1 dX9_boot_54 rfl (lv_at hl 0 rfl) ?_
          subst hQ
          refine k_iret C0 S hAe hsz hr hlk dX9_boot_55 ?_
          have cK := ldC_congr (d := d) (F := S9.1) (N := S9.2.1) htg (by omega) (by omega)
          have eK : ldC d f26 w15 (w16 - w15) = ldC d (bTx d) S9.1 S9.2.1 ∧ ldA d f26 w15 (w16 - w15) = ldA d (bTx d) S9.1 S9.2.1 := by rw [vk.2.1, vk.2.2, show S9.1 + S9.2.1 - S9.1 = S9.2.1 by omega]; exact cK
          have hno : S9.2.2.2.1 < 0 := by rcases vr2 with ⟨a, _⟩ | ⟨_, a, _⟩; exact absurd a (by omega); omega
          have hq : boA d ra en = _ := (boA_3 (by omega) (by omega) hS9).trans (boS_2 (by rw [← eK.1]; exact c38) hno)
          refine ⟨_, _, _, _, _, _, _, _, _, _, _, _, _, _, _, _, _, _, _, _, _, _, _, _, _, _, _, _, _, _, _, congrArg iI ?_, rfl, ?_, ?_, htx3, hra_K, hen_K, by rw [hq]; dsimp only; omega⟩
          · rw [hq]; exact eK.1
          · rw [hq]; exact (hlK1 c38).1
          · rw [hq]; exact (hlK1 c38).2
    · refine lv_iload_n C0.1 C0.2.1 dX9_boot_23 rfl (lv_at hl 0 rfl) ?_
      subst hQ
      refine k_iret C0 S hAe hsz hr hlk dX9_boot_24 ?_
      have hq : boA d ra en = _ := boA_2 (by omega) (by omega)
      exact ⟨_, _, _, _, _, _, _, _, _, _, _, _, _, _, _, _, _, _, _, _, _, _, _, _, _, _, _, _, _, _, _, congrArg iI (congrArg Prod.fst hq).symm, rfl, (congrArg (fun z => z.2.1) hq).symm, (congrArg (fun z => z.2.2) hq).symm, htx3, hra, hen, by rw [hq]; dsimp only; omega⟩
  · refine lv_iload_n C0.1 C0.2.1 dX9_boot_12 rfl (lv_at hl 0 rfl) ?_
    subst hQ
    refine k_iret C0 S hAe hsz hr hlk dX9_boot_13 ?_
    have hq : boA d ra en = _ := boA_1 (by omega)
    exact ⟨_, _, _, _, _, _, _, _, _, _, _, _, _, _, _, _, _, _, _, _, _, _, _, _, _, _, _, _, _, _, _, congrArg iI (congrArg Prod.fst hq).symm, rfl, (congrArg (fun z => z.2.1) hq).symm, (congrArg (fun z => z.2.2) hq).symm, htx, hra, hen, by rw [hq]; dsimp only; omega⟩
