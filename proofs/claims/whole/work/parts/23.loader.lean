def rmX9_poke : Room := { frames := 1, cells := 0, slots := 0, locals := 25 }
set_option maxHeartbeats 4000000 in
set_option maxRecDepth 100000 in
theorem c_X9_poke (l : Launch) (D : va_G) (cA : Nat → ClassId) (hX hB hR hV hP hF hZ hS hN aY : Nat) (tc en : Int) (aB : Nat) (d : Nat → Int) (z : Int) (b : Int64) (k : Int) (hd : By d) (hz : ir z) (hk : ir k) : kCi l D vwCl (kTys cA) yX9_poke wsX9_poke rmX9_poke [.ref hX, .int (iI (z)), .long (b), .int (iI (k))] [(hX, .inr (9, [.ref hB, .ref hR, .ref hV, .ref hP, .ref hF, .ref hZ, .ref hS, .ref hN, .ref aY, .int (iI (tc)), .int (iI (en))])), (hB, .inr (0, [.ref aB])), (aB, .inl (cA 1, 2048, .inl (fun y_ => bI (d y_))))] (fun r u => ∃ d2 : Nat → Int, r = iI (bz (putOk 2048 z k)) ∧ u = [(hX, .inr (9, [.ref hB, .ref hR, .ref hV, .ref hP, .ref hF, .ref hZ, .ref hS, .ref hN, .ref aY, .int (iI (tc)), .int (iI (en))])), (hB, .inr (0, [.ref aB])), (aB, .inl (cA 1, 2048, .inl (fun y_ => bI (d2 y_))))] ∧ (putOk 2048 z k → d2 = putK d z b k.toNat) ∧ (¬ putOk 2048 z k → d2 = d)) := by
  intro sz
  refine kEntry (cc := cX9_poke) (maxL := 5) (ret := (some .boolean)) (by decide) rfl (Nat.le_of_ble_eq_true rfl) ?_
  intro p e s m args below meth c A Q hAe hQ C0 hr hlk S hsz ls hl
  have hl : lv_has ls 5 [(0, .ref hX), (1, .int (iI (z))), (2, .long (b)), (4, .int (iI (k)))] := hl
  obtain ⟨hz1, hz2⟩ := hz
  obtain ⟨hk1, hk2⟩ := hk
  refine lv_aload_n C0.1 C0.2.1 dX9_poke_0 rfl (lv_at hl 0 rfl) ?_
  refine k_get C0 S (C := RX9) (T := TX9) (N := 11) (ci := 9) (by decide +kernel) 0 rfl rfl 0 (by decide) (by decide +kernel) (v := .ref hB) rfl dX9_poke_1 ?_
  refine lv_iload_n C0.1 C0.2.1 dX9_poke_4 rfl (lv_at hl 1 rfl) ?_
  refine lv_lload_n C0.1 C0.2.1 dX9_poke_5 rfl (lv_at hl 2 rfl) ?_
  refine lv_iload C0.1 C0.2.1 dX9_poke_6 (lv_at hl 3 rfl) ?_
  refine k_calli (n := 3) (wr := [(hX, .inr (9, [.ref hB, .ref hR, .ref hV, .ref hP, .ref hF, .ref hZ, .ref hS, .ref hN, .ref aY, .int (iI (tc)), .int (iI (en))]))]) C0 S (c_X0_put l D cA hB aB 2048 d (z) (b) (k) hd (by constructor <;> omega) (by constructor <;> omega) (by omega)) gX9_poke_X0_put rfl ⟨rfl, rfl⟩ (by decide +kernel) ⟨Nat.le_of_ble_eq_true rfl, Nat.le_of_ble_eq_true rfl⟩ [1, 2] [0] rfl rfl rfl rfl (by decide) (ci := 0) (q0 := 0) rfl rfl (As := [.int (iI (z)), .long (b), .int (iI (k))]) rfl hl.1 rfl (Nat.le_of_ble_eq_true rfl) dX9_poke_8 ⟨Nat.zero_le _, Nat.zero_le _⟩ (fun r u H locs hp S => ?_)
  obtain ⟨d1, rfl, rfl, hp1, hp2⟩ := hp
  have S := S.sub (ws' := [(hX, .inr (9, [.ref hB, .ref hR, .ref hV, .ref hP, .ref hF, .ref hZ, .ref hS, .ref hN, .ref aY, .int (iI (tc)), .int (iI (en))])), (hB, .inr (0, [.ref aB])), (aB, .inl (cA 1, 2048, .inl (fun y_ => bI (d1 y_))))]) [0, 1, 2] rfl rfl
  subst hQ
  refine k_zret C0 S hAe hsz hr hlk (nbz _) dX9_poke_11 ?_
  exact ⟨_, rfl, rfl, hp1, hp2⟩
def rmX9_peek : Room := { frames := 1, cells := 0, slots := 0, locals := 21 }
set_option maxHeartbeats 4000000 in
set_option maxRecDepth 100000 in
theorem c_X9_peek (l : Launch) (D : va_G) (cA : Nat → ClassId) (hX hB hR hV hP hF hZ hS hN aY : Nat) (tc en : Int) (aB : Nat) (d : Nat → Int) (z : Int) (hd : By d) (hz : ir z) : kCi l D vwCl (kTys cA) yX9_peek wsX9_peek rmX9_peek [.ref hX, .int (iI (z))] [(hX, .inr (9, [.ref hB, .ref hR, .ref hV, .ref hP, .ref hF, .ref hZ, .ref hS, .ref hN, .ref aY, .int (iI (tc)), .int (iI (en))])), (hB, .inr (0, [.ref aB])), (aB, .inl (cA 1, 2048, .inl (fun y_ => bI (d y_))))] (fun r u => r = iI (bAt 2048 d z) ∧ u = [(hX, .inr (9, [.ref hB, .ref hR, .ref hV, .ref hP, .ref hF, .ref hZ, .ref hS, .ref hN, .ref aY, .int (iI (tc)), .int (iI (en))])), (hB, .inr (0, [.ref aB])), (aB, .inl (cA 1, 2048, .inl (fun y_ => bI (d y_))))]) := by
  intro sz
  refine kEntry (cc := cX9_peek) (maxL := 2) (ret := (some .int)) (by decide) rfl (Nat.le_of_ble_eq_true rfl) ?_
  intro p e s m args below meth c A Q hAe hQ C0 hr hlk S hsz ls hl
  have hl : lv_has ls 2 [(0, .ref hX), (1, .int (iI (z)))] := hl
  obtain ⟨hz1, hz2⟩ := hz
  refine lv_aload_n C0.1 C0.2.1 dX9_peek_0 rfl (lv_at hl 0 rfl) ?_
  refine k_get C0 S (C := RX9) (T := TX9) (N := 11) (ci := 9) (by decide +kernel) 0 rfl rfl 0 (by decide) (by decide +kernel) (v := .ref hB) rfl dX9_peek_1 ?_
  refine lv_iload_n C0.1 C0.2.1 dX9_peek_4 rfl (lv_at hl 1 rfl) ?_
  refine k_calli (n := 1) (wr := [(hX, .inr (9, [.ref hB, .ref hR, .ref hV, .ref hP, .ref hF, .ref hZ, .ref hS, .ref hN, .ref aY, .int (iI (tc)), .int (iI (en))]))]) C0 S (c_X0_byteAt l D cA hB aB 2048 d (z) hd (by constructor <;> omega) (by omega)) gX9_peek_X0_byteAt rfl ⟨rfl, rfl⟩ (by decide +kernel) ⟨Nat.le_of_ble_eq_true rfl, Nat.le_of_ble_eq_true rfl⟩ [1, 2] [0] rfl rfl rfl rfl (by decide) (ci := 0) (q0 := 0) rfl rfl (As := [.int (iI (z))]) rfl hl.1 rfl (Nat.le_of_ble_eq_true rfl) dX9_peek_5 ⟨Nat.zero_le _, Nat.zero_le _⟩ (fun r u H locs hp S => ?_)
  obtain ⟨rfl, rfl⟩ := hp
  have S := S.sub (ws' := [(hX, .inr (9, [.ref hB, .ref hR, .ref hV, .ref hP, .ref hF, .ref hZ, .ref hS, .ref hN, .ref aY, .int (iI (tc)), .int (iI (en))])), (hB, .inr (0, [.ref aB])), (aB, .inl (cA 1, 2048, .inl (fun y_ => bI (d y_))))]) [0, 1, 2] rfl rfl
  subst hQ
  refine k_iret C0 S hAe hsz hr hlk dX9_peek_8 ?_
  exact ⟨rfl, rfl⟩
def rmX9_memory : Room := { frames := 1, cells := 0, slots := 0, locals := 21 }
set_option maxHeartbeats 4000000 in
set_option maxRecDepth 100000 in
theorem c_X9_memory (l : Launch) (D : va_G) (cA : Nat → ClassId) (hX hB hR hV hP hF hZ hS hN aY : Nat) (tc en : Int) (aR : Nat) (ra : Nat → Int) (z : Int) (hd : By ra) (hz : ir z) : kCi l D vwCl (kTys cA) yX9_memory wsX9_memory rmX9_memory [.ref hX, .int (iI (z))] [(hX, .inr (9, [.ref hB, .ref hR, .ref hV, .ref hP, .ref hF, .ref hZ, .ref hS, .ref hN, .ref aY, .int (iI (tc)), .int (iI (en))])), (hR, .inr (0, [.ref aR])), (aR, .inl (cA 1, 1024, .inl (fun y_ => bI (ra y_))))] (fun r u => r = iI (bAt 1024 ra z) ∧ u = [(hX, .inr (9, [.ref hB, .ref hR, .ref hV, .ref hP, .ref hF, .ref hZ, .ref hS, .ref hN, .ref aY, .int (iI (tc)), .int (iI (en))])), (hR, .inr (0, [.ref aR])), (aR, .inl (cA 1, 1024, .inl (fun y_ => bI (ra y_))))]) := by
  intro sz
  refine kEntry (cc := cX9_memory) (maxL := 2) (ret := (some .int)) (by decide) rfl (Nat.le_of_ble_eq_true rfl) ?_
  intro p e s m args below meth c A Q hAe hQ C0 hr hlk S hsz ls hl
  have hl : lv_has ls 2 [(0, .ref hX), (1, .int (iI (z)))] := hl
  obtain ⟨hz1, hz2⟩ := hz
  refine lv_aload_n C0.1 C0.2.1 dX9_memory_0 rfl (lv_at hl 0 rfl) ?_
  refine k_get C0 S (C := RX9) (T := TX9) (N := 11) (ci := 9) (by decide +kernel) 0 rfl rfl 1 (by decide) (by decide +kernel) (v := .ref hR) rfl dX9_memory_1 ?_
  refine lv_iload_n C0.1 C0.2.1 dX9_memory_4 rfl (lv_at hl 1 rfl) ?_
  refine k_calli (n := 1) (wr := [(hX, .inr (9, [.ref hB, .ref hR, .ref hV, .ref hP, .ref hF, .ref hZ, .ref hS, .ref hN, .ref aY, .int (iI (tc)), .int (iI (en))]))]) C0 S (c_X0_byteAt l D cA hR aR 1024 ra (z) hd (by constructor <;> omega) (by omega)) gX9_memory_X0_byteAt rfl ⟨rfl, rfl⟩ (by decide +kernel) ⟨Nat.le_of_ble_eq_true rfl, Nat.le_of_ble_eq_true rfl⟩ [1, 2] [0] rfl rfl rfl rfl (by decide) (ci := 0) (q0 := 0) rfl rfl (As := [.int (iI (z))]) rfl hl.1 rfl (Nat.le_of_ble_eq_true rfl) dX9_memory_5 ⟨Nat.zero_le _, Nat.zero_le _⟩ (fun r u H locs hp S => ?_)
  obtain ⟨rfl, rfl⟩ := hp
  have S := S.sub (ws' := [(hX, .inr (9, [.ref hB, .ref hR, .ref hV, .ref hP, .ref hF, .ref hZ, .ref hS, .ref hN, .ref aY, .int (iI (tc)), .int (iI (en))])), (hR, .inr (0, [.ref aR])), (aR, .inl (cA 1, 1024, .inl (fun y_ => bI (ra y_))))]) [0, 1, 2] rfl rfl
  subst hQ
  refine k_iret C0 S hAe hsz hr hlk dX9_memory_8 ?_
  exact ⟨rfl, rfl⟩
def rmX9_entry : Room := { frames := 0, cells := 0, slots := 0, locals := 0 }
set_option maxHeartbeats 4000000 in
set_option maxRecDepth 100000 in
theorem c_X9_entry (l : Launch) (D : va_G) (cA : Nat → ClassId) (hX hB hR hV hP hF hZ hS hN aY : Nat) (tc en : Int)  : kCi l D vwCl (kTys cA) yX9_entry wsX9_entry rmX9_entry [.ref hX] [(hX, .inr (9, [.ref hB, .ref hR, .ref hV, .ref hP, .ref hF, .ref hZ, .ref hS, .ref hN, .ref aY, .int (iI (tc)), .int (iI (en))]))] (fun r u => r = iI en ∧ u = [(hX, .inr (9, [.ref hB, .ref hR, .ref hV, .ref hP, .ref hF, .ref hZ, .ref hS, .ref hN, .ref aY, .int (iI (tc)), .int (iI (en))]))]) := by
  intro sz
  refine kEntry (cc := cX9_entry) (maxL := 1) (ret := (some .int)) (by decide) rfl (Nat.le_of_ble_eq_true rfl) ?_
  intro p e s m args below meth c A Q hAe hQ C0 hr hlk S hsz ls hl
  have hl : lv_has ls 1 [(0, .ref hX)] := hl
  refine lv_aload_n C0.1 C0.2.1 dX9_entry_0 rfl (lv_at hl 0 rfl) ?_
  refine k_get C0 S (C := RX9) (T := TX9) (N := 11) (ci := 9) (by decide +kernel) 0 rfl rfl 10 (by decide) (by decide +kernel) (v := .int (iI (en))) rfl dX9_entry_1 ?_
  subst hQ
  refine k_iret C0 S hAe hsz hr hlk dX9_entry_4 ?_
  exact ⟨rfl, rfl⟩
def rmX9_scrap : Room := { frames := 0, cells := 0, slots := 0, locals := 0 }
set_option maxHeartbeats 4000000 in
set_option maxRecDepth 100000 in
theorem c_X9_scrap (l : Launch) (D : va_G) (cA : Nat → ClassId) (hX hB hR hV hP hF hZ hS hN aY : Nat) (tc en : Int)  : kCi l D vwCl (kTys cA) yX9_scrap wsX9_scrap rmX9_scrap [.ref hX] [(hX, .inr (9, [.ref hB, .ref hR, .ref hV, .ref hP, .ref hF, .ref hZ, .ref hS, .ref hN, .ref aY, .int (iI (tc)), .int (iI (en))]))] (fun r u => r = iI tc ∧ u = [(hX, .inr (9, [.ref hB, .ref hR, .ref hV, .ref hP, .ref hF, .ref hZ, .ref hS, .ref hN, .ref aY, .int (iI (0)), .int (iI (en))]))]) := by
  intro sz
  refine kEntry (cc := cX9_scrap) (maxL := 2) (ret := (some .int)) (by decide) rfl (Nat.le_of_ble_eq_true rfl) ?_
  intro p e s m args below meth c A Q hAe hQ C0 hr hlk S hsz ls hl
  have hl : lv_has ls 2 [(0, .ref hX)] := hl
  refine lv_aload_n C0.1 C0.2.1 dX9_scrap_0 rfl (lv_at hl 0 rfl) ?_
  refine k_get C0 S (C := RX9) (T := TX9) (N := 11) (ci := 9) (by decide +kernel) 0 rfl rfl 9 (by decide) (by decide +kernel) (v := .int (iI (tc))) rfl dX9_scrap_1 ?_
  refine lv_istore_n (lv' := [(1, .int (iI (tc))), (0, .ref hX)]) C0.1 C0.2.1 dX9_scrap_4 rfl hl (by decide) rfl (fun ls hl => ?_)
  refine lv_aload_n C0.1 C0.2.1 dX9_scrap_5 rfl (lv_at hl 1 rfl) ?_
  refine lv_iconst (v := iI (0)) C0.1 C0.2.1 dX9_scrap_6 rfl ?_
  refine k_put (ws' := [(hX, .inr (9, [.ref hB, .ref hR, .ref hV, .ref hP, .ref hF, .ref hZ, .ref hS, .ref hN, .ref aY, .int (iI (0)), .int (iI (en))]))]) C0 S (C := RX9) (T := TX9) (N := 11) (ci := 9) (by decide +kernel) tyX9 tyX9_ok nmX9 0 rfl rfl 9 (by decide) (by decide +kernel) rfl (v := .int (iI (0))) rfl rfl (Nat.le_of_ble_eq_true rfl) dX9_scrap_7 rfl (fun H locs S => ?_)
  refine lv_iload_n C0.1 C0.2.1 dX9_scrap_10 rfl (lv_at hl 0 rfl) ?_
  subst hQ
  refine k_iret C0 S hAe hsz hr hlk dX9_scrap_11 ?_
  exact ⟨rfl, rfl⟩
def rmX9_type : Room := { frames := 0, cells := 0, slots := 0, locals := 0 }
set_option maxHeartbeats 4000000 in
set_option maxRecDepth 100000 in
theorem c_X9_type (l : Launch) (D : va_G) (cA : Nat → ClassId) (hX hB hR hV hP hF hZ hS hN aY : Nat) (tc en : Int) (ty : Nat → Int) (z : Int) (hz1 : 0 ≤ z) (hz2 : z < 65536) (ht1 : 0 ≤ tc) (ht2 : tc ≤ 20) : kCi l D vwCl (kTys cA) yX9_type wsX9_type rmX9_type [.ref hX, .int (iI (z))] [(hX, .inr (9, [.ref hB, .ref hR, .ref hV, .ref hP, .ref hF, .ref hZ, .ref hS, .ref hN, .ref aY, .int (iI (tc)), .int (iI (en))])), (aY, .inl (cA 0, 20, .inl (fun y_ => iI (ty y_))))] (fun r u => ∃ (tc2 : Int) (ty2 : Nat → Int), r = iI (bz (tc < 20 ∧ 32 ≤ z ∧ z ≤ 126)) ∧ u = [(hX, .inr (9, [.ref hB, .ref hR, .ref hV, .ref hP, .ref hF, .ref hZ, .ref hS, .ref hN, .ref aY, .int (iI (tc2)), .int (iI (en))])), (aY, .inl (cA 0, 20, .inl (fun y_ => iI (ty2 y_))))] ∧ ((tc < 20 ∧ 32 ≤ z ∧ z ≤ 126) → tc2 = tc + 1 ∧ ty2 = va_up ty tc.toNat z) ∧ (¬ (tc < 20 ∧ 32 ≤ z ∧ z ≤ 126) → tc2 = tc ∧ ty2 = ty)) := by
  intro sz
  refine kEntry (cc := cX9_type) (maxL := 2) (ret := (some .boolean)) (by decide) rfl (Nat.le_of_ble_eq_true rfl) ?_
  intro p e s m args below meth c A Q hAe hQ C0 hr hlk S hsz ls hl
  have hl : lv_has ls 2 [(0, .ref hX), (1, .int (iI (z)))] := hl
  refine lv_aload_n C0.1 C0.2.1 dX9_type_0 rfl (lv_at hl 0 rfl) ?_
  refine k_get C0 S (C := RX9) (T := TX9) (N := 11) (ci := 9) (by decide +kernel) 0 rfl rfl 9 (by decide) (by decide +kernel) (v := .int (iI (tc))) rfl dX9_type_1 ?_
  refine lv_bipush (v := iI (20)) C0.1 C0.2.1 dX9_type_4 (by decide) ?_
  refine k_icmp_ge (tgt := 21) C0 (by constructor <;> omega) ⟨by decide, by decide⟩ dX9_type_6 (by decide) (fun c1 => ?_) (fun c1 => ?_)
  · refine lv_iconst (v := iI (0)) C0.1 C0.2.1 dX9_type_21 rfl ?_
    subst hQ
    refine k_zret C0 S hAe hsz hr hlk (by rfl) dX9_type_22 ?_
    exact ⟨_, _, congrArg iI (bz_f (by omega)).symm, rfl, fun h => absurd h (by omega), fun _ => ⟨rfl, rfl⟩⟩
  · refine lv_iload_n C0.1 C0.2.1 dX9_type_9 rfl (lv_at hl 1 rfl) ?_
    refine lv_bipush (v := iI (32)) C0.1 C0.2.1 dX9_type_10 (by decide) ?_
    refine k_icmp_lt (tgt := 21) C0 (by constructor <;> omega) ⟨by decide, by decide⟩ dX9_type_12 (by decide) (fun c2 => ?_) (fun c2 => ?_)
    · refine lv_iconst (v := iI (0)) C0.1 C0.2.1 dX9_type_21 rfl ?_
      subst hQ
      refine k_zret C0 S hAe hsz hr hlk (by rfl) dX9_type_22 ?_
      exact ⟨_, _, congrArg iI (bz_f (by omega)).symm, rfl, fun h => absurd h (by omega), fun _ => ⟨rfl, rfl⟩⟩
    · refine lv_iload_n C0.1 C0.2.1 dX9_type_15 rfl (lv_at hl 1 rfl) ?_
      refine lv_bipush (v := iI (126)) C0.1 C0.2.1 dX9_type_16 (by decide) ?_
      refine k_icmp_le (tgt := 23) C0 (by constructor <;> omega) ⟨by decide, by decide⟩ dX9_type_18 (by decide) (fun c3 => ?_) (fun c3 => ?_)
      · refine lv_aload_n C0.1 C0.2.1 dX9_type_23 rfl (lv_at hl 0 rfl) ?_
        refine k_get C0 S (C := RX9) (T := TX9) (N := 11) (ci := 9) (by decide +kernel) 0 rfl rfl 8 (by decide) (by decide +kernel) (v := .ref aY) rfl dX9_type_24 ?_
        refine lv_aload_n C0.1 C0.2.1 dX9_type_27 rfl (lv_at hl 0 rfl) ?_
        refine k_get C0 S (C := RX9) (T := TX9) (N := 11) (ci := 9) (by decide +kernel) 0 rfl rfl 9 (by decide) (by decide +kernel) (v := .int (iI (tc))) rfl dX9_type_28 ?_
        refine lv_iload_n C0.1 C0.2.1 dX9_type_31 rfl (lv_at hl 1 rfl) ?_
        refine k_iast (ws' := [(hX, .inr (9, [.ref hB, .ref hR, .ref hV, .ref hP, .ref hF, .ref hZ, .ref hS, .ref hN, .ref aY, .int (iI (tc)), .int (iI (en))])), (aY, .inl (cA 0, 20, .inl (fun y_ => iI ((va_up ty (tc).toNat (z)) y_))))]) C0 S 1 0 rfl rfl (z := tc) (by omega) (by omega) (by omega) dX9_type_32 rfl (fun H locs S => ?_)
        refine lv_aload_n C0.1 C0.2.1 dX9_type_33 rfl (lv_at hl 0 rfl) ?_
        refine lv_dup C0.1 C0.2.1 dX9_type_34 rfl ?_
        refine k_get C0 S (C := RX9) (T := TX9) (N := 11) (ci := 9) (by decide +kernel) 0 rfl rfl 9 (by decide) (by decide +kernel) (v := .int (iI (tc))) rfl dX9_type_35 ?_
        refine lv_iconst (v := iI (1)) C0.1 C0.2.1 dX9_type_38 rfl ?_
        refine k_iadd C0 dX9_type_39 ?_
        refine k_put (ws' := [(hX, .inr (9, [.ref hB, .ref hR, .ref hV, .ref hP, .ref hF, .ref hZ, .ref hS, .ref hN, .ref aY, .int (iI (tc + 1)), .int (iI (en))])), (aY, .inl (cA 0, 20, .inl (fun y_ => iI ((va_up ty (tc).toNat (z)) y_))))]) C0 S (C := RX9) (T := TX9) (N := 11) (ci := 9) (by decide +kernel) tyX9 tyX9_ok nmX9 0 rfl rfl 9 (by decide) (by decide +kernel) rfl (v := .int (iI (tc + 1))) rfl rfl (Nat.le_of_ble_eq_true rfl) dX9_type_40 rfl (fun H locs S => ?_)
        refine lv_iconst (v := iI (1)) C0.1 C0.2.1 dX9_type_43 rfl ?_
        subst hQ
        refine k_zret C0 S hAe hsz hr hlk (by rfl) dX9_type_44 ?_
        exact ⟨_, _, congrArg iI (bz_t (by omega)).symm, rfl, fun _ => ⟨rfl, rfl⟩, fun h => absurd (by omega) h⟩
      · refine lv_iconst (v := iI (0)) C0.1 C0.2.1 dX9_type_21 rfl ?_
        subst hQ
        refine k_zret C0 S hAe hsz hr hlk (by rfl) dX9_type_22 ?_
        exact ⟨_, _, congrArg iI (bz_f (by omega)).symm, rfl, fun h => absurd h (by omega), fun _ => ⟨rfl, rfl⟩⟩
def rmX9_volume : Room := { frames := 4, cells := 0, slots := 0, locals := 89 }
set_option maxHeartbeats 4000000 in
set_option maxRecDepth 100000 in
theorem c_X9_volume (l : Launch) (D : va_G) (cA : Nat → ClassId) (hX hB hR hV hP hF hZ hS hN aY : Nat) (tc en : Int) (aB : Nat) (v1 v2 v3 v4 v5 v6 v7 v8 : Int) (d : Nat → Int) (hd : By d) : kCi l D vwCl (kTys cA) yX9_volume wsX9_volume rmX9_volume [.ref hX] [(hX, .inr (9, [.ref hB, .ref hR, .ref hV, .ref hP, .ref hF, .ref hZ, .ref hS, .ref hN, .ref aY, .int (iI (tc)), .int (iI (en))])), (hV, .inr (8, [.ref hB, .int (iI (v1)), .int (iI (v2)), .int (iI (v3)), .int (iI (v4)), .int (iI (v5)), .int (iI (v6)), .int (iI (v7)), .int (iI (v8))])), (hB, .inr (0, [.ref aB])), (aB, .inl (cA 1, 2048, .inl (fun y_ => bI (d y_))))] (fun r u => ∃ x1 x2 x3 x4 x5 x6 x7 x8 : Int, r = iI (vol d) ∧ u = [(hX, .inr (9, [.ref hB, .ref hR, .ref hV, .ref hP, .ref hF, .ref hZ, .ref hS, .ref hN, .ref aY, .int (iI (tc)), .int (iI (en))])), (hV, .inr (8, [.ref hB, .int (iI (x1)), .int (iI (x2)), .int (iI (x3)), .int (iI (x4)), .int (iI (x5)), .int (iI (x6)), .int (iI (x7)), .int (iI (x8))])), (hB, .inr (0, [.ref aB])), (aB, .inl (cA 1, 2048, .inl (fun y_ => bI (d y_))))]) := by
  intro sz
  refine kEntry (cc := cX9_volume) (maxL := 1) (ret := (some .int)) (by decide) rfl (Nat.le_of_ble_eq_true rfl) ?_
  intro p e s m args below meth c A Q hAe hQ C0 hr hlk S hsz ls hl
  have hl : lv_has ls 1 [(0, .ref hX)] := hl
  refine lv_aload_n C0.1 C0.2.1 dX9_volume_0 rfl (lv_at hl 0 rfl) ?_
  refine k_get C0 S (C := RX9) (T := TX9) (N := 11) (ci := 9) (by decide +kernel) 0 rfl rfl 2 (by decide) (by decide +kernel) (v := .ref hV) rfl dX9_volume_1 ?_
  refine k_calli (n := 0) (wr := [(hX, .inr (9, [.ref hB, .ref hR, .ref hV, .ref hP, .ref hF, .ref hZ, .ref hS, .ref hN, .ref aY, .int (iI (tc)), .int (iI (en))]))]) C0 S (c_X8_mount l D cA hV hB aB (v1) (v2) (v3) (v4) (v5) (v6) (v7) (v8) d hd) gX9_volume_X8_mount rfl ⟨rfl, rfl⟩ (by decide +kernel) ⟨Nat.le_of_ble_eq_true rfl, Nat.le_of_ble_eq_true rfl⟩ [1, 2, 3] [0] rfl rfl rfl rfl (by decide) (ci := 8) (q0 := 0) rfl rfl (As := []) rfl hl.1 rfl (Nat.le_of_ble_eq_true rfl) dX9_volume_4 ⟨Nat.zero_le _, Nat.zero_le _⟩ (fun r u H locs hp S => ?_)
  obtain ⟨x1, x2, x3, x4, x5, x6, x7, x8, rfl, rfl, hgeo⟩ := hp
  have S := S.sub (ws' := [(hX, .inr (9, [.ref hB, .ref hR, .ref hV, .ref hP, .ref hF, .ref hZ, .ref hS, .ref hN, .ref aY, .int (iI (tc)), .int (iI (en))])), (hV, .inr (8, [.ref hB, .int (iI (x1)), .int (iI (x2)), .int (iI (x3)), .int (iI (x4)), .int (iI (x5)), .int (iI (x6)), .int (iI (x7)), .int (iI (x8))])), (hB, .inr (0, [.ref aB])), (aB, .inl (cA 1, 2048, .inl (fun y_ => bI (d y_))))]) [0, 1, 2, 3] rfl rfl
  have hvr := vol_range hd
  subst hQ
  refine k_iret C0 S hAe hsz hr hlk dX9_volume_7 ?_
  exact ⟨_, _, _, _, _, _, _, _, rfl, rfl⟩
def rmX9_survey : Room := { frames := 13, cells := 0, slots := 0, locals := 305 }
set_option maxHeartbeats 4000000 in
set_option maxRecDepth 100000 in
theorem c_X9_survey (l : Launch) (D : va_G) (cA : Nat → ClassId) (hX hB hR hV hP hF hZ hS hN aY : Nat) (tc en : Int) (aG aB g0 g1 g2 g3 g4 b0 b1 b2 b3 b4 : Nat) (v1 v2 v3 v4 v5 v6 v7 v8 m0 k0 c0 c1 c2 c3 c4 n0 n1 n2 n3 n4 : Int) (d p0 p1 p2 p3 p4 : Nat → Int) (hd : By d) : kCi l D vwCl (kTys cA) yX9_survey wsX9_survey rmX9_survey [.ref hX] [(hX, .inr (9, [.ref hB, .ref hR, .ref hV, .ref hP, .ref hF, .ref hZ, .ref hS, .ref hN, .ref aY, .int (iI (tc)), .int (iI (en))])), (hZ, .inr (1, [.ref hV, .ref aG, .int (iI (m0)), .int (iI (k0))])), (aG, .inl (cA 2, 5, .inr (.inr (.inr (.inr ((lvf g0 g1 g2 g3 g4))))))), (g0, .inr (2, [.ref hB, .ref hV, .ref b0, .int (iI (c0)), .int (iI (n0))])), (b0, .inl (cA 0, 64, .inl (fun y_ => iI (p0 y_)))), (g1, .inr (2, [.ref hB, .ref hV, .ref b1, .int (iI (c1)), .int (iI (n1))])), (b1, .inl (cA 0, 64, .inl (fun y_ => iI (p1 y_)))), (g2, .inr (2, [.ref hB, .ref hV, .ref b2, .int (iI (c2)), .int (iI (n2))])), (b2, .inl (cA 0, 64, .inl (fun y_ => iI (p2 y_)))), (g3, .inr (2, [.ref hB, .ref hV, .ref b3, .int (iI (c3)), .int (iI (n3))])), (b3, .inl (cA 0, 64, .inl (fun y_ => iI (p3 y_)))), (g4, .inr (2, [.ref hB, .ref hV, .ref b4, .int (iI (c4)), .int (iI (n4))])), (b4, .inl (cA 0, 64, .inl (fun y_ => iI (p4 y_)))), (hV, .inr (8, [.ref hB, .int (iI (v1)), .int (iI (v2)), .int (iI (v3)), .int (iI (v4)), .int (iI (v5)), .int (iI (v6)), .int (iI (v7)), .int (iI (v8))])), (hB, .inr (0, [.ref aB])), (aB, .inl (cA 1, 2048, .inl (fun y_ => bI (d y_))))] (fun r u => ∃ (x1 x2 x3 x4 x5 x6 x7 x8 m_ k_ c0_ c1_ c2_ c3_ c4_ n0_ n1_ n2_ n3_ n4_ : Int) (p0_ p1_ p2_ p3_ p4_ : Nat → Int), r = iI (surS d) ∧ u = [(hX, .inr (9, [.ref hB, .ref hR, .ref hV, .ref hP, .ref hF, .ref hZ, .ref hS, .ref hN, .ref aY, .int (iI (tc)), .int (iI (en))])), (hZ, .inr (1, [.ref hV, .ref aG, .int (iI (m_)), .int (iI (k_))])), (aG, .inl (cA 2, 5, .inr (.inr (.inr (.inr ((lvf g0 g1 g2 g3 g4))))))), (g0, .inr (2, [.ref hB, .ref hV, .ref b0, .int (iI (c0_)), .int (iI (n0_))])), (b0, .inl (cA 0, 64, .inl (fun y_ => iI (p0_ y_)))), (g1, .inr (2, [.ref hB, .ref hV, .ref b1, .int (iI (c1_)), .int (iI (n1_))])), (b1, .inl (cA 0, 64, .inl (fun y_ => iI (p1_ y_)))), (g2, .inr (2, [.ref hB, .ref hV, .ref b2, .int (iI (c2_)), .int (iI (n2_))])), (b2, .inl (cA 0, 64, .inl (fun y_ => iI (p2_ y_)))), (g3, .inr (2, [.ref hB, .ref hV, .ref b3, .int (iI (c3_)), .int (iI (n3_))])), (b3, .inl (cA 0, 64, .inl (fun y_ => iI (p3_ y_)))), (g4, .inr (2, [.ref hB, .ref hV, .ref b4, .int (iI (c4_)), .int (iI (n4_))])), (b4, .inl (cA 0, 64, .inl (fun y_ => iI (p4_ y_)))), (hV, .inr (8, [.ref hB, .int (iI (x1)), .int (iI (x2)), .int (iI (x3)), .int (iI (x4)), .int (iI (x5)), .int (iI (x6)), .int (iI (x7)), .int (iI (x8))])), (hB, .inr (0, [.ref aB])), (aB, .inl (cA 1, 2048, .inl (fun y_ => bI (d y_))))]) := by
  intro sz
  refine kEntry (cc := cX9_survey) (maxL := 2) (ret := (some .int)) (by decide) rfl (Nat.le_of_ble_eq_true rfl) ?_
  intro p e s m args below meth c A Q hAe hQ C0 hr hlk S hsz ls hl
  have hl : lv_has ls 2 [(0, .ref hX)] := hl
  refine lv_aload_n C0.1 C0.2.1 dX9_survey_0 rfl (lv_at hl 0 rfl) ?_
  refine k_get C0 S (C := RX9) (T := TX9) (N := 11) (ci := 9) (by decide +kernel) 0 rfl rfl 2 (by decide) (by decide +kernel) (v := .ref hV) rfl dX9_survey_1 ?_
  refine k_calli (n := 0) (wr := [(hX, .inr (9, [.ref hB, .ref hR, .ref hV, .ref hP, .ref hF, .ref hZ, .ref hS, .ref hN, .ref aY, .int (iI (tc)), .int (iI (en))])), (hZ, .inr (1, [.ref hV, .ref aG, .int (iI (m0)), .int (iI (k0))])), (aG, .inl (cA 2, 5, .inr (.inr (.inr (.inr ((lvf g0 g1 g2 g3 g4))))))), (g0, .inr (2, [.ref hB, .ref hV, .ref b0, .int (iI (c0)), .int (iI (n0))])), (b0, .inl (cA 0, 64, .inl (fun y_ => iI (p0 y_)))), (g1, .inr (2, [.ref hB, .ref hV, .ref b1, .int (iI (c1)), .int (iI (n1))])), (b1, .inl (cA 0, 64, .inl (fun y_ => iI (p1 y_)))), (g2, .inr (2, [.ref hB, .ref hV, .ref b2, .int (iI (c2)), .int (iI (n2))])), (b2, .inl (cA 0, 64, .inl (fun y_ => iI (p2 y_)))), (g3, .inr (2, [.ref hB, .ref hV, .ref b3, .int (iI (c3)), .int (iI (n3))])), (b3, .inl (cA 0, 64, .inl (fun y_ => iI (p3 y_)))), (g4, .inr (2, [.ref hB, .ref hV, .ref b4, .int (iI (c4)), .int (iI (n4))])), (b4, .inl (cA 0, 64, .inl (fun y_ => iI (p4 y_))))]) C0 S (c_X8_mount l D cA hV hB aB (v1) (v2) (v3) (v4) (v5) (v6) (v7) (v8) d hd) gX9_survey_X8_mount rfl ⟨rfl, rfl⟩ (by decide +kernel) ⟨Nat.le_of_ble_eq_true rfl, Nat.le_of_ble_eq_true rfl⟩ [13, 14, 15] [0, 1, 2, 3, 4, 5, 6, 7, 8, 9, 10, 11, 12] rfl rfl rfl rfl (by decide) (ci := 8) (q0 := 0) rfl rfl (As := []) rfl hl.1 rfl (Nat.le_of_ble_eq_true rfl) dX9_survey_4 ⟨Nat.zero_le _, Nat.zero_le _⟩ (fun r u H locs hp S => ?_)
  obtain ⟨x1, x2, x3, x4, x5, x6, x7, x8, rfl, rfl, hgeo⟩ := hp
  have S := S.sub (ws' := [(hX, .inr (9, [.ref hB, .ref hR, .ref hV, .ref hP, .ref hF, .ref hZ, .ref hS, .ref hN, .ref aY, .int (iI (tc)), .int (iI (en))])), (hZ, .inr (1, [.ref hV, .ref aG, .int (iI (m0)), .int (iI (k0))])), (aG, .inl (cA 2, 5, .inr (.inr (.inr (.inr ((lvf g0 g1 g2 g3 g4))))))), (g0, .inr (2, [.ref hB, .ref hV, .ref b0, .int (iI (c0)), .int (iI (n0))])), (b0, .inl (cA 0, 64, .inl (fun y_ => iI (p0 y_)))), (g1, .inr (2, [.ref hB, .ref hV, .ref b1, .int (iI (c1)), .int (iI (n1))])), (b1, .inl (cA 0, 64, .inl (fun y_ => iI (p1 y_)))), (g2, .inr (2, [.ref hB, .ref hV, .ref b2, .int (iI (c2)), .int (iI (n2))])), (b2, .inl (cA 0, 64, .inl (fun y_ => iI (p2 y_)))), (g3, .inr (2, [.ref hB, .ref hV, .ref b3, .int (iI (c3)), .int (iI (n3))])), (b3, .inl (cA 0, 64, .inl (fun y_ => iI (p3 y_)))), (g4, .inr (2, [.ref hB, .ref hV, .ref b4, .int (iI (c4)), .int (iI (n4))])), (b4, .inl (cA 0, 64, .inl (fun y_ => iI (p4 y_)))), (hV, .inr (8, [.ref hB, .int (iI (x1)), .int (iI (x2)), .int (iI (x3)), .int (iI (x4)), .int (iI (x5)), .int (iI (x6)), .int (iI (x7)), .int (iI (x8))])), (hB, .inr (0, [.ref aB])), (aB, .inl (cA 1, 2048, .inl (fun y_ => bI (d y_))))]) [0, 1, 2, 3, 4, 5, 6, 7, 8, 9, 10, 11, 12, 13, 14, 15] rfl rfl
  have hvr := vol_range hd
  refine lv_istore_n (lv' := [(1, .int (iI (vol d))), (0, .ref hX)]) C0.1 C0.2.1 dX9_survey_7 rfl hl (by decide) rfl (fun ls hl => ?_)
  refine lv_iload_n C0.1 C0.2.1 dX9_survey_8 rfl (lv_at hl 0 rfl) ?_
  refine k_if_ge (tgt := 16) C0 (by constructor <;> omega) dX9_survey_9 (by decide) (fun c9 => ?_) (fun c9 => ?_)
  · have hGood := good_of_vol (show 0 ≤ vol d by omega)
    have hB2 := hGood.bounds hd
    have hlin := hB2.lin
    obtain ⟨rfl, rfl, rfl, rfl, rfl, rfl, rfl, rfl⟩ := hgeo (by omega)
    refine lv_aload_n C0.1 C0.2.1 dX9_survey_16 rfl (lv_at hl 1 rfl) ?_
    refine k_get C0 S (C := RX9) (T := TX9) (N := 11) (ci := 9) (by decide +kernel) 0 rfl rfl 5 (by decide) (by decide +kernel) (v := .ref hZ) rfl dX9_survey_17 ?_
    refine k_calli (n := 0) (wr := [(hX, .inr (9, [.ref hB, .ref hR, .ref hV, .ref hP, .ref hF, .ref hZ, .ref hS, .ref hN, .ref aY, .int (iI (tc)), .int (iI (en))]))]) C0 S (c_X1_countAll l D cA hZ aG hV hB aB g0 g1 g2 g3 g4 b0 b1 b2 b3 b4 (m0) (k0) (c0) (c1) (c2) (c3) (c4) (n0) (n1) (n2) (n3) (n4) d p0 p1 p2 p3 p4 hd hB2) gX9_survey_X1_countAll rfl ⟨rfl, rfl⟩ (by decide +kernel) ⟨Nat.le_of_ble_eq_true rfl, Nat.le_of_ble_eq_true rfl⟩ [1, 2, 3, 4, 5, 6, 7, 8, 9, 10, 11, 12, 13, 14, 15] [0] rfl rfl rfl rfl (by decide) (ci := 1) (q0 := 0) rfl rfl (As := []) rfl hl.1 rfl (Nat.le_of_ble_eq_true rfl) dX9_survey_20 ⟨Nat.zero_le _, Nat.zero_le _⟩ (fun r u H locs hp S => ?_)
    obtain ⟨met9, dirs10, y11, y12, y13, y14, y15, y16, y17, y18, y19, y20, pp21, pp22, pp23, pp24, pp25, rfl, rfl, hsv1, hsv2⟩ := hp
    have S := S.sub (ws' := [(hX, .inr (9, [.ref hB, .ref hR, .ref hV, .ref hP, .ref hF, .ref hZ, .ref hS, .ref hN, .ref aY, .int (iI (tc)), .int (iI (en))])), (hZ, .inr (1, [.ref hV, .ref aG, .int (iI (met9)), .int (iI (dirs10))])), (aG, .inl (cA 2, 5, .inr (.inr (.inr (.inr ((lvf g0 g1 g2 g3 g4))))))), (g0, .inr (2, [.ref hB, .ref hV, .ref b0, .int (iI (y11)), .int (iI (y16))])), (b0, .inl (cA 0, 64, .inl (fun y_ => iI (pp21 y_)))), (g1, .inr (2, [.ref hB, .ref hV, .ref b1, .int (iI (y12)), .int (iI (y17))])), (b1, .inl (cA 0, 64, .inl (fun y_ => iI (pp22 y_)))), (g2, .inr (2, [.ref hB, .ref hV, .ref b2, .int (iI (y13)), .int (iI (y18))])), (b2, .inl (cA 0, 64, .inl (fun y_ => iI (pp23 y_)))), (g3, .inr (2, [.ref hB, .ref hV, .ref b3, .int (iI (y14)), .int (iI (y19))])), (b3, .inl (cA 0, 64, .inl (fun y_ => iI (pp24 y_)))), (g4, .inr (2, [.ref hB, .ref hV, .ref b4, .int (iI (y15)), .int (iI (y20))])), (b4, .inl (cA 0, 64, .inl (fun y_ => iI (pp25 y_)))), (hV, .inr (8, [.ref hB, .int (iI (chs d)), .int (iI (gRoot d)), .int (iI (gN d)), .int (iI (gSz d)), .int (iI (gT d)), .int (iI (gTB d)), .int (iI (gTA d)), .int (iI (gCA d))])), (hB, .inr (0, [.ref aB])), (aB, .inl (cA 1, 2048, .inl (fun y_ => bI (d y_))))]) [0, 1, 2, 3, 4, 5, 6, 7, 8, 9, 10, 11, 12, 13, 14, 15] rfl rfl
    subst hQ
    refine k_iret C0 S hAe hsz hr hlk dX9_survey_23 ?_
    exact ⟨_, _, _, _, _, _, _, _, _, _, _, _, _, _, _, _, _, _, _, _, _, _, _, _, _, congrArg iI (surS_2 (by omega)).symm, rfl⟩
  · refine lv_iload_n C0.1 C0.2.1 dX9_survey_12 rfl (lv_at hl 0 rfl) ?_
    refine lv_goto (tgt := 23) C0.1 C0.2.1 dX9_survey_13 (by decide) ?_
    subst hQ
    refine k_iret C0 S hAe hsz hr hlk dX9_survey_23 ?_
    exact ⟨_, _, _, _, _, _, _, _, _, _, _, _, _, _, _, _, _, _, _, _, _, _, _, _, _, congrArg iI (surS_1 (by omega)).symm, rfl⟩
