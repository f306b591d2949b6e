theorem beh_1 {d : Nat → Int} {k : Int} (h : isCl d (wrd d (gTA d + 2 * k) % 4096) ∨ 4088 ≤ wrd d (gTA d + 2 * k) % 4096 ∨ gT d = 1) : beh d k = wrd d (gTA d + 2 * k) % 4096 := by
  classical
  unfold beh; rw [if_pos h]
theorem beh_2 {d : Nat → Int} {k : Int} (h1 : ¬ isCl d (wrd d (gTA d + 2 * k) % 4096)) (h2 : ¬ 4088 ≤ wrd d (gTA d + 2 * k) % 4096) (h3 : ¬ gT d = 1) : beh d k = wrd d (gTA d + 2 * k + gTB d) % 4096 := by
  classical
  unfold beh; rw [if_neg (by rintro (h | h | h); exact h1 h; exact h2 h; exact h3 h)]
def rmX8_behind : Room := { frames := 1, cells := 0, slots := 0, locals := 21 }
set_option maxHeartbeats 4000000 in
set_option maxRecDepth 100000 in
theorem c_X8_behind (l : Launch) (D : va_G) (cA : Nat → ClassId) (hV hB aB : Nat) (d : Nat → Int) (z : Int) (hd : By d) (hB2 : gB d) (hz1 : 2 ≤ z) (hz2 : z ≤ gN d + 1) : kCi l D vwCl (kTys cA) yX8_behind wsX8_behind rmX8_behind [.ref hV, .int (iI (z))] [(hV, .inr (8, [.ref hB, .int (iI (chs d)), .int (iI (gRoot d)), .int (iI (gN d)), .int (iI (gSz d)), .int (iI (gT d)), .int (iI (gTB d)), .int (iI (gTA d)), .int (iI (gCA d))])), (hB, .inr (0, [.ref aB])), (aB, .inl (cA 1, 2048, .inl (fun y_ => bI (d y_))))] (fun r u => r = iI (beh d z) ∧ u = [(hV, .inr (8, [.ref hB, .int (iI (chs d)), .int (iI (gRoot d)), .int (iI (gN d)), .int (iI (gSz d)), .int (iI (gT d)), .int (iI (gTB d)), .int (iI (gTA d)), .int (iI (gCA d))])), (hB, .inr (0, [.ref aB])), (aB, .inl (cA 1, 2048, .inl (fun y_ => bI (d y_))))]) := by
  intro sz
  refine kEntry (cc := cX8_behind) (maxL := 4) (ret := (some .int)) (by decide) rfl (Nat.le_of_ble_eq_true rfl) ?_
  intro p e s m args below meth c A Q hAe hQ C0 hr hlk S hsz ls hl
  have hl : lv_has ls 4 [(0, .ref hV), (1, .int (iI (z)))] := hl
  obtain ⟨⟨g1, g2⟩, g3, ⟨g4, g5⟩, g6, ⟨g7, g8⟩, ⟨g9, g10⟩, g11, ⟨g12, g13⟩, g14⟩ := hB2.lin
  refine lv_aload_n C0.1 C0.2.1 dX8_behind_0 rfl (lv_at hl 0 rfl) ?_
  refine k_get C0 S (C := RX8) (T := TX8) (N := 9) (ci := 8) (by decide +kernel) 0 rfl rfl 7 (by decide) (by decide +kernel) (v := .int (iI (gTA d))) rfl dX8_behind_1 ?_
  refine lv_iconst (v := iI (2)) C0.1 C0.2.1 dX8_behind_4 rfl ?_
  refine lv_iload_n C0.1 C0.2.1 dX8_behind_5 rfl (lv_at hl 1 rfl) ?_
  refine k_imul C0 dX8_behind_6 ?_
  refine k_iadd C0 dX8_behind_7 ?_
  refine lv_istore_n (lv' := [(2, .int (iI ((gTA d) + (2 * z)))), (0, .ref hV), (1, .int (iI (z)))]) C0.1 C0.2.1 dX8_behind_8 rfl hl (by decide) rfl (fun ls hl => ?_)
  refine lv_aload_n C0.1 C0.2.1 dX8_behind_9 rfl (lv_at hl 1 rfl) ?_
  refine k_get C0 S (C := RX8) (T := TX8) (N := 9) (ci := 8) (by decide +kernel) 0 rfl rfl 0 (by decide) (by decide +kernel) (v := .ref hB) rfl dX8_behind_10 ?_
  refine lv_iload_n C0.1 C0.2.1 dX8_behind_13 rfl (lv_at hl 0 rfl) ?_
  refine k_calli (n := 1) (wr := [(hV, .inr (8, [.ref hB, .int (iI (chs d)), .int (iI (gRoot d)), .int (iI (gN d)), .int (iI (gSz d)), .int (iI (gT d)), .int (iI (gTB d)), .int (iI (gTA d)), .int (iI (gCA d))]))]) C0 S (c_X0_wordAt l D cA hB aB 2048 d ((gTA d) + (2 * z)) hd (by constructor <;> omega) (by omega)) gX8_behind_X0_wordAt rfl ⟨rfl, rfl⟩ (by decide +kernel) ⟨Nat.le_of_ble_eq_true rfl, Nat.le_of_ble_eq_true rfl⟩ [1, 2] [0] rfl rfl rfl rfl (by decide) (ci := 0) (q0 := 0) rfl rfl (As := [.int (iI ((gTA d) + (2 * z)))]) rfl hl.1 rfl (Nat.le_of_ble_eq_true rfl) dX8_behind_14 ⟨Nat.zero_le _, Nat.zero_le _⟩ (fun r u H locs hp S => ?_)
  obtain ⟨rfl, rfl⟩ := hp
  have S := S.sub (ws' := [(hV, .inr (8, [.ref hB, .int (iI (chs d)), .int (iI (gRoot d)), .int (iI (gN d)), .int (iI (gSz d)), .int (iI (gT d)), .int (iI (gTB d)), .int (iI (gTA d)), .int (iI (gCA d))])), (hB, .inr (0, [.ref aB])), (aB, .inl (cA 1, 2048, .inl (fun y_ => bI (d y_))))]) [0, 1, 2] rfl rfl
  rw [wAt_in (n := 2048) (z := (gTA d) + (2 * z)) (by omega) (by omega)]
  have hb1 := By_wrd hd ((gTA d) + (2 * z))
  refine lv_sipush (v := iI (4095)) C0.1 C0.2.1 dX8_behind_17 (by decide) ?_
  refine lv_iand C0.1 C0.2.1 dX8_behind_20 ?_
  refine k_topeq (v := iI (wrd d (gTA d + (2 * z)) % 4096)) (iI_and4095 (By_wrd hd _).1) ?_
  refine lv_istore_n (lv' := [(3, .int (iI (wrd d (gTA d + (2 * z)) % 4096))), (2, .int (iI ((gTA d) + (2 * z)))), (0, .ref hV), (1, .int (iI (z)))]) C0.1 C0.2.1 dX8_behind_21 rfl hl (by decide) rfl (fun ls hl => ?_)
  refine lv_aload_n C0.1 C0.2.1 dX8_behind_22 rfl (lv_at hl 2 rfl) ?_
  refine lv_iload_n C0.1 C0.2.1 dX8_behind_23 rfl (lv_at hl 0 rfl) ?_
  refine k_calli (n := 1) (wr := []) C0 S (c_X8_isCluster l D cA hV hB aB (chs d) (gRoot d) (gN d) (gSz d) (gT d) (gTB d) (gTA d) (gCA d) d (wrd d (gTA d + (2 * z)) % 4096) (by constructor <;> omega) (by omega) (by omega)) gX8_behind_X8_isCluster rfl ⟨rfl, rfl⟩ (by decide +kernel) ⟨Nat.le_of_ble_eq_true rfl, Nat.le_of_ble_eq_true rfl⟩ [0, 1, 2] [] rfl rfl rfl rfl (by decide) (ci := 8) (q0 := 0) rfl rfl (As := [.int (iI (wrd d (gTA d + (2 * z)) % 4096))]) rfl hl.1 rfl (Nat.le_of_ble_eq_true rfl) dX8_behind_24 ⟨Nat.zero_le _, Nat.zero_le _⟩ (fun r u H locs hp S => ?_)
  obtain ⟨rfl, rfl⟩ := hp
  have S := S.sub (ws' := [(hV, .inr (8, [.ref hB, .int (iI (chs d)), .int (iI (gRoot d)), .int (iI (gN d)), .int (iI (gSz d)), .int (iI (gT d)), .int (iI (gTB d)), .int (iI (gTA d)), .int (iI (gCA d))])), (hB, .inr (0, [.ref aB])), (aB, .inl (cA 1, 2048, .inl (fun y_ => bI (d y_))))]) [0, 1, 2] rfl rfl
  refine k_bz_ne (tgt := 46) C0 dX8_behind_27 (by decide) (fun c2 => ?_) (fun c2 => ?_)
  · refine lv_iload_n C0.1 C0.2.1 dX8_behind_46 rfl (lv_at hl 0 rfl) ?_
    subst hQ
    refine k_iret C0 S hAe hsz hr hlk dX8_behind_47 ?_
    exact ⟨congrArg iI (beh_1 (Or.inl c2)).symm, rfl⟩
  · refine lv_aload_n C0.1 C0.2.1 dX8_behind_30 rfl (lv_at hl 2 rfl) ?_
    refine lv_iload_n C0.1 C0.2.1 dX8_behind_31 rfl (lv_at hl 0 rfl) ?_
    refine k_calli (n := 1) (wr := []) C0 S (c_X8_isEnd l D cA hV hB aB (chs d) (gRoot d) (gN d) (gSz d) (gT d) (gTB d) (gTA d) (gCA d) d (wrd d (gTA d + (2 * z)) % 4096) (by constructor <;> omega)) gX8_behind_X8_isEnd rfl ⟨rfl, rfl⟩ (by decide +kernel) ⟨Nat.le_of_ble_eq_true rfl, Nat.le_of_ble_eq_true rfl⟩ [0, 1, 2] [] rfl rfl rfl rfl (by decide) (ci := 8) (q0 := 0) rfl rfl (As := [.int (iI (wrd d (gTA d + (2 * z)) % 4096))]) rfl hl.1 rfl (Nat.le_of_ble_eq_true rfl) dX8_behind_32 ⟨Nat.zero_le _, Nat.zero_le _⟩ (fun r u H locs hp S => ?_)
    obtain ⟨rfl, rfl⟩ := hp
    have S := S.sub (ws' := [(hV, .inr (8, [.ref hB, .int (iI (chs d)), .int (iI (gRoot d)), .int (iI (gN d)), .int (iI (gSz d)), .int (iI (gT d)), .int (iI (gTB d)), .int (iI (gTA d)), .int (iI (gCA d))])), (hB, .inr (0, [.ref aB])), (aB, .inl (cA 1, 2048, .inl (fun y_ => bI (d y_))))]) [0, 1, 2] rfl rfl
    refine k_bz_ne (tgt := 46) C0 dX8_behind_35 (by decide) (fun c3 => ?_) (fun c3 => ?_)
    · refine lv_iload_n C0.1 C0.2.1 dX8_behind_46 rfl (lv_at hl 0 rfl) ?_
      subst hQ
      refine k_iret C0 S hAe hsz hr hlk dX8_behind_47 ?_
      exact ⟨congrArg iI (beh_1 (Or.inr (Or.inl c3))).symm, rfl⟩
    · refine lv_aload_n C0.1 C0.2.1 dX8_behind_38 rfl (lv_at hl 2 rfl) ?_
      refine k_get C0 S (C := RX8) (T := TX8) (N := 9) (ci := 8) (by decide +kernel) 0 rfl rfl 5 (by decide) (by decide +kernel) (v := .int (iI (gT d))) rfl dX8_behind_39 ?_
      refine lv_iconst (v := iI (2)) C0.1 C0.2.1 dX8_behind_42 rfl ?_
      refine k_icmp_ge (tgt := 48) C0 (by constructor <;> omega) ⟨by decide, by decide⟩ dX8_behind_43 (by decide) (fun c4 => ?_) (fun c4 => ?_)
      · refine lv_aload_n C0.1 C0.2.1 dX8_behind_48 rfl (lv_at hl 2 rfl) ?_
        refine k_get C0 S (C := RX8) (T := TX8) (N := 9) (ci := 8) (by decide +kernel) 0 rfl rfl 0 (by decide) (by decide +kernel) (v := .ref hB) rfl dX8_behind_49 ?_
        refine lv_iload_n C0.1 C0.2.1 dX8_behind_52 rfl (lv_at hl 1 rfl) ?_
        refine lv_aload_n C0.1 C0.2.1 dX8_behind_53 rfl (lv_at hl 2 rfl) ?_
        refine k_get C0 S (C := RX8) (T := TX8) (N := 9) (ci := 8) (by decide +kernel) 0 rfl rfl 6 (by decide) (by decide +kernel) (v := .int (iI (gTB d))) rfl dX8_behind_54 ?_
        refine k_iadd C0 dX8_behind_57 ?_
        refine k_calli (n := 1) (wr := [(hV, .inr (8, [.ref hB, .int (iI (chs d)), .int (iI (gRoot d)), .int (iI (gN d)), .int (iI (gSz d)), .int (iI (gT d)), .int (iI (gTB d)), .int (iI (gTA d)), .int (iI (gCA d))]))]) C0 S (c_X0_wordAt l D cA hB aB 2048 d (((gTA d) + (2 * z)) + (gTB d)) hd (by constructor <;> omega) (by omega)) gX8_behind_X0_wordAt rfl ⟨rfl, rfl⟩ (by decide +kernel) ⟨Nat.le_of_ble_eq_true rfl, Nat.le_of_ble_eq_true rfl⟩ [1, 2] [0] rfl rfl rfl rfl (by decide) (ci := 0) (q0 := 0) rfl rfl (As := [.int (iI (((gTA d) + (2 * z)) + (gTB d)))]) rfl hl.1 rfl (Nat.le_of_ble_eq_true rfl) dX8_behind_58 ⟨Nat.zero_le _, Nat.zero_le _⟩ (fun r u H locs hp S => ?_)
        obtain ⟨rfl, rfl⟩ := hp
        have S := S.sub (ws' := [(hV, .inr (8, [.ref hB, .int (iI (chs d)), .int (iI (gRoot d)), .int (iI (gN d)), .int (iI (gSz d)), .int (iI (gT d)), .int (iI (gTB d)), .int (iI (gTA d)), .int (iI (gCA d))])), (hB, .inr (0, [.ref aB])), (aB, .inl (cA 1, 2048, .inl (fun y_ => bI (d y_))))]) [0, 1, 2] rfl rfl
        rw [wAt_in (n := 2048) (z := ((gTA d) + (2 * z)) + (gTB d)) (by omega) (by omega)]
        have hb5 := By_wrd hd (((gTA d) + (2 * z)) + (gTB d))
        refine lv_sipush (v := iI (4095)) C0.1 C0.2.1 dX8_behind_61 (by decide) ?_
        refine lv_iand C0.1 C0.2.1 dX8_behind_64 ?_
        refine k_topeq (v := iI (wrd d (gTA d + (2 * z) + gTB d) % 4096)) (iI_and4095 (By_wrd hd _).1) ?_
        subst hQ
        refine k_iret C0 S hAe hsz hr hlk dX8_behind_65 ?_
        exact ⟨congrArg iI (beh_2 c2 c3 (by omega)).symm, rfl⟩
      · refine lv_iload_n C0.1 C0.2.1 dX8_behind_46 rfl (lv_at hl 0 rfl) ?_
        subst hQ
        refine k_iret C0 S hAe hsz hr hlk dX8_behind_47 ?_
        exact ⟨congrArg iI (beh_1 (Or.inr (Or.inr (by omega)))).symm, rfl⟩
def rmX8_placeOfCluster : Room := { frames := 0, cells := 0, slots := 0, locals := 0 }
set_option maxHeartbeats 4000000 in
set_option maxRecDepth 100000 in
theorem c_X8_placeOfCluster (l : Launch) (D : va_G) (cA : Nat → ClassId) (hV hB aB : Nat) (d : Nat → Int) (z : Int) (hd : By d) (hB2 : gB d) : kCi l D vwCl (kTys cA) yX8_placeOfCluster wsX8_placeOfCluster rmX8_placeOfCluster [.ref hV, .int (iI (z))] [(hV, .inr (8, [.ref hB, .int (iI (chs d)), .int (iI (gRoot d)), .int (iI (gN d)), .int (iI (gSz d)), .int (iI (gT d)), .int (iI (gTB d)), .int (iI (gTA d)), .int (iI (gCA d))])), (hB, .inr (0, [.ref aB])), (aB, .inl (cA 1, 2048, .inl (fun y_ => bI (d y_))))] (fun r u => r = iI (gCA d + (z - 2) * gSz d) ∧ u = [(hV, .inr (8, [.ref hB, .int (iI (chs d)), .int (iI (gRoot d)), .int (iI (gN d)), .int (iI (gSz d)), .int (iI (gT d)), .int (iI (gTB d)), .int (iI (gTA d)), .int (iI (gCA d))])), (hB, .inr (0, [.ref aB])), (aB, .inl (cA 1, 2048, .inl (fun y_ => bI (d y_))))]) := by
  intro sz
  refine kEntry (cc := cX8_placeOfCluster) (maxL := 2) (ret := (some .int)) (by decide) rfl (Nat.le_of_ble_eq_true rfl) ?_
  intro p e s m args below meth c A Q hAe hQ C0 hr hlk S hsz ls hl
  have hl : lv_has ls 2 [(0, .ref hV), (1, .int (iI (z)))] := hl
  refine lv_aload_n C0.1 C0.2.1 dX8_placeOfCluster_0 rfl (lv_at hl 0 rfl) ?_
  refine k_get C0 S (C := RX8) (T := TX8) (N := 9) (ci := 8) (by decide +kernel) 0 rfl rfl 8 (by decide) (by decide +kernel) (v := .int (iI (gCA d))) rfl dX8_placeOfCluster_1 ?_
  refine lv_iload_n C0.1 C0.2.1 dX8_placeOfCluster_4 rfl (lv_at hl 1 rfl) ?_
  refine lv_iconst (v := iI (2)) C0.1 C0.2.1 dX8_placeOfCluster_5 rfl ?_
  refine k_isub C0 dX8_placeOfCluster_6 ?_
  refine lv_aload_n C0.1 C0.2.1 dX8_placeOfCluster_7 rfl (lv_at hl 0 rfl) ?_
  refine k_get C0 S (C := RX8) (T := TX8) (N := 9) (ci := 8) (by decide +kernel) 0 rfl rfl 4 (by decide) (by decide +kernel) (v := .int (iI (gSz d))) rfl dX8_placeOfCluster_8 ?_
  refine k_imul C0 dX8_placeOfCluster_11 ?_
  refine k_iadd C0 dX8_placeOfCluster_12 ?_
  subst hQ
  refine k_iret C0 S hAe hsz hr hlk dX8_placeOfCluster_13 ?_
  exact ⟨rfl, rfl⟩
def rmX8_isDirectory : Room := { frames := 1, cells := 0, slots := 0, locals := 21 }
set_option maxHeartbeats 4000000 in
set_option maxRecDepth 100000 in
theorem c_X8_isDirectory (l : Launch) (D : va_G) (cA : Nat → ClassId) (hV hB aB : Nat) (d : Nat → Int) (z : Int) (hd : By d) (hB2 : gB d) (hz1 : 0 ≤ z) (hz2 : z + 8 ≤ 2048) : kCi l D vwCl (kTys cA) yX8_isDirectory wsX8_isDirectory rmX8_isDirectory [.ref hV, .int (iI (z))] [(hV, .inr (8, [.ref hB, .int (iI (chs d)), .int (iI (gRoot d)), .int (iI (gN d)), .int (iI (gSz d)), .int (iI (gT d)), .int (iI (gTB d)), .int (iI (gTA d)), .int (iI (gCA d))])), (hB, .inr (0, [.ref aB])), (aB, .inl (cA 1, 2048, .inl (fun y_ => bI (d y_))))] (fun r u => r = iI (bz (isD d z)) ∧ u = [(hV, .inr (8, [.ref hB, .int (iI (chs d)), .int (iI (gRoot d)), .int (iI (gN d)), .int (iI (gSz d)), .int (iI (gT d)), .int (iI (gTB d)), .int (iI (gTA d)), .int (iI (gCA d))])), (hB, .inr (0, [.ref aB])), (aB, .inl (cA 1, 2048, .inl (fun y_ => bI (d y_))))]) := by
  intro sz
  refine kEntry (cc := cX8_isDirectory) (maxL := 2) (ret := (some .boolean)) (by decide) rfl (Nat.le_of_ble_eq_true rfl) ?_
  intro p e s m args below meth c A Q hAe hQ C0 hr hlk S hsz ls hl
  have hl : lv_has ls 2 [(0, .ref hV), (1, .int (iI (z)))] := hl
  refine lv_aload_n C0.1 C0.2.1 dX8_isDirectory_0 rfl (lv_at hl 0 rfl) ?_
  refine k_get C0 S (C := RX8) (T := TX8) (N := 9) (ci := 8) (by decide +kernel) 0 rfl rfl 0 (by decide) (by decide +kernel) (v := .ref hB) rfl dX8_isDirectory_1 ?_
  refine lv_iload_n C0.1 C0.2.1 dX8_isDirectory_4 rfl (lv_at hl 1 rfl) ?_
  refine lv_iconst (v := iI (4)) C0.1 C0.2.1 dX8_isDirectory_5 rfl ?_
  refine k_iadd C0 dX8_isDirectory_6 ?_
  refine k_calli (n := 1) (wr := [(hV, .inr (8, [.ref hB, .int (iI (chs d)), .int (iI (gRoot d)), .int (iI (gN d)), .int (iI (gSz d)), .int (iI (gT d)), .int (iI (gTB d)), .int (iI (gTA d)), .int (iI (gCA d))]))]) C0 S (c_X0_byteAt l D cA hB aB 2048 d (z + 4) hd (by constructor <;> omega) (by omega)) gX8_isDirectory_X0_byteAt rfl ⟨rfl, rfl⟩ (by decide +kernel) ⟨Nat.le_of_ble_eq_true rfl, Nat.le_of_ble_eq_true rfl⟩ [1, 2] [0] rfl rfl rfl rfl (by decide) (ci := 0) (q0 := 0) rfl rfl (As := [.int (iI (z + 4))]) rfl hl.1 rfl (Nat.le_of_ble_eq_true rfl) dX8_isDirectory_7 ⟨Nat.zero_le _, Nat.zero_le _⟩ (fun r u H locs hp S => ?_)
  obtain ⟨rfl, rfl⟩ := hp
  have S := S.sub (ws' := [(hV, .inr (8, [.ref hB, .int (iI (chs d)), .int (iI (gRoot d)), .int (iI (gN d)), .int (iI (gSz d)), .int (iI (gT d)), .int (iI (gTB d)), .int (iI (gTA d)), .int (iI (gCA d))])), (hB, .inr (0, [.ref aB])), (aB, .inl (cA 1, 2048, .inl (fun y_ => bI (d y_))))]) [0, 1, 2] rfl rfl
  rw [bAt_in (n := 2048) (z := z + 4) (by omega) (by omega)]
  have hb1 := By.rd hd (z + 4)
  refine lv_bipush (v := iI (16)) C0.1 C0.2.1 dX8_isDirectory_10 (by decide) ?_
  refine lv_iand C0.1 C0.2.1 dX8_isDirectory_12 ?_
  refine k_topeq (v := iI (16 * (rd d (z + 4) / 16 % 2))) (iI_bit16 (By.rd hd _).1 (By.rd hd _).2) ?_
  refine k_if_eq (tgt := 20) C0 (by constructor <;> omega) dX8_isDirectory_13 (by decide) (fun c2 => ?_) (fun c2 => ?_)
  · refine lv_iconst (v := iI (0)) C0.1 C0.2.1 dX8_isDirectory_20 rfl ?_
    subst hQ
    refine k_zret C0 S hAe hsz hr hlk (by rfl) dX8_isDirectory_21 ?_
    exact ⟨congrArg iI (bz_f (by unfold isD; omega)).symm, rfl⟩
  · refine lv_iconst (v := iI (1)) C0.1 C0.2.1 dX8_isDirectory_16 rfl ?_
    refine lv_goto (tgt := 21) C0.1 C0.2.1 dX8_isDirectory_17 (by decide) ?_
    subst hQ
    refine k_zret C0 S hAe hsz hr hlk (by rfl) dX8_isDirectory_21 ?_
    exact ⟨congrArg iI (bz_t (by unfold isD; omega)).symm, rfl⟩
def rmX8_firstClusterOf : Room := { frames := 1, cells := 0, slots := 0, locals := 21 }
set_option maxHeartbeats 4000000 in
set_option maxRecDepth 100000 in
theorem c_X8_firstClusterOf (l : Launch) (D : va_G) (cA : Nat → ClassId) (hV hB aB : Nat) (d : Nat → Int) (z : Int) (hd : By d) (hB2 : gB d) (hz1 : 0 ≤ z) (hz2 : z + 8 ≤ 2048) : kCi l D vwCl (kTys cA) yX8_firstClusterOf wsX8_firstClusterOf rmX8_firstClusterOf [.ref hV, .int (iI (z))] [(hV, .inr (8, [.ref hB, .int (iI (chs d)), .int (iI (gRoot d)), .int (iI (gN d)), .int (iI (gSz d)), .int (iI (gT d)), .int (iI (gTB d)), .int (iI (gTA d)), .int (iI (gCA d))])), (hB, .inr (0, [.ref aB])), (aB, .inl (cA 1, 2048, .inl (fun y_ => bI (d y_))))] (fun r u => r = iI (rd d (z + 5)) ∧ u = [(hV, .inr (8, [.ref hB, .int (iI (chs d)), .int (iI (gRoot d)), .int (iI (gN d)), .int (iI (gSz d)), .int (iI (gT d)), .int (iI (gTB d)), .int (iI (gTA d)), .int (iI (gCA d))])), (hB, .inr (0, [.ref aB])), (aB, .inl (cA 1, 2048, .inl (fun y_ => bI (d y_))))]) := by
  intro sz
  refine kEntry (cc := cX8_firstClusterOf) (maxL := 2) (ret := (some .int)) (by decide) rfl (Nat.le_of_ble_eq_true rfl) ?_
  intro p e s m args below meth c A Q hAe hQ C0 hr hlk S hsz ls hl
  have hl : lv_has ls 2 [(0, .ref hV), (1, .int (iI (z)))] := hl
  refine lv_aload_n C0.1 C0.2.1 dX8_firstClusterOf_0 rfl (lv_at hl 0 rfl) ?_
  refine k_get C0 S (C := RX8) (T := TX8) (N := 9) (ci := 8) (by decide +kernel) 0 rfl rfl 0 (by decide) (by decide +kernel) (v := .ref hB) rfl dX8_firstClusterOf_1 ?_
  refine lv_iload_n C0.1 C0.2.1 dX8_firstClusterOf_4 rfl (lv_at hl 1 rfl) ?_
  refine lv_iconst (v := iI (5)) C0.1 C0.2.1 dX8_firstClusterOf_5 rfl ?_
  refine k_iadd C0 dX8_firstClusterOf_6 ?_
  refine k_calli (n := 1) (wr := [(hV, .inr (8, [.ref hB, .int (iI (chs d)), .int (iI (gRoot d)), .int (iI (gN d)), .int (iI (gSz d)), .int (iI (gT d)), .int (iI (gTB d)), .int (iI (gTA d)), .int (iI (gCA d))]))]) C0 S (c_X0_byteAt l D cA hB aB 2048 d (z + 5) hd (by constructor <;> omega) (by omega)) gX8_firstClusterOf_X0_byteAt rfl ⟨rfl, rfl⟩ (by decide +kernel) ⟨Nat.le_of_ble_eq_true rfl, Nat.le_of_ble_eq_true rfl⟩ [1, 2] [0] rfl rfl rfl rfl (by decide) (ci := 0) (q0 := 0) rfl rfl (As := [.int (iI (z + 5))]) rfl hl.1 rfl (Nat.le_of_ble_eq_true rfl) dX8_firstClusterOf_7 ⟨Nat.zero_le _, Nat.zero_le _⟩ (fun r u H locs hp S => ?_)
  obtain ⟨rfl, rfl⟩ := hp
  have S := S.sub (ws' := [(hV, .inr (8, [.ref hB, .int (iI (chs d)), .int (iI (gRoot d)), .int (iI (gN d)), .int (iI (gSz d)), .int (iI (gT d)), .int (iI (gTB d)), .int (iI (gTA d)), .int (iI (gCA d))])), (hB, .inr (0, [.ref aB])), (aB, .inl (cA 1, 2048, .inl (fun y_ => bI (d y_))))]) [0, 1, 2] rfl rfl
  rw [bAt_in (n := 2048) (z := z + 5) (by omega) (by omega)]
  have hb1 := By.rd hd (z + 5)
  subst hQ
  refine k_iret C0 S hAe hsz hr hlk dX8_firstClusterOf_10 ?_
  exact ⟨rfl, rfl⟩
def rmX8_sizeOf : Room := { frames := 1, cells := 0, slots := 0, locals := 21 }
set_option maxHeartbeats 4000000 in
set_option maxRecDepth 100000 in
theorem c_X8_sizeOf (l : Launch) (D : va_G) (cA : Nat → ClassId) (hV hB aB : Nat) (d : Nat → Int) (z : Int) (hd : By d) (hB2 : gB d) (hz1 : 0 ≤ z) (hz2 : z + 8 ≤ 2048) : kCi l D vwCl (kTys cA) yX8_sizeOf wsX8_sizeOf rmX8_sizeOf [.ref hV, .int (iI (z))] [(hV, .inr (8, [.ref hB, .int (iI (chs d)), .int (iI (gRoot d)), .int (iI (gN d)), .int (iI (gSz d)), .int (iI (gT d)), .int (iI (gTB d)), .int (iI (gTA d)), .int (iI (gCA d))])), (hB, .inr (0, [.ref aB])), (aB, .inl (cA 1, 2048, .inl (fun y_ => bI (d y_))))] (fun r u => r = iI (wrd d (z + 6)) ∧ u = [(hV, .inr (8, [.ref hB, .int (iI (chs d)), .int (iI (gRoot d)), .int (iI (gN d)), .int (iI (gSz d)), .int (iI (gT d)), .int (iI (gTB d)), .int (iI (gTA d)), .int (iI (gCA d))])), (hB, .inr (0, [.ref aB])), (aB, .inl (cA 1, 2048, .inl (fun y_ => bI (d y_))))]) := by
  intro sz
  refine kEntry (cc := cX8_sizeOf) (maxL := 2) (ret := (some .int)) (by decide) rfl (Nat.le_of_ble_eq_true rfl) ?_
  intro p e s m args below meth c A Q hAe hQ C0 hr hlk S hsz ls hl
  have hl : lv_has ls 2 [(0, .ref hV), (1, .int (iI (z)))] := hl
  refine lv_aload_n C0.1 C0.2.1 dX8_sizeOf_0 rfl (lv_at hl 0 rfl) ?_
  refine k_get C0 S (C := RX8) (T := TX8) (N := 9) (ci := 8) (by decide +kernel) 0 rfl rfl 0 (by decide) (by decide +kernel) (v := .ref hB) rfl dX8_sizeOf_1 ?_
  refine lv_iload_n C0.1 C0.2.1 dX8_sizeOf_4 rfl (lv_at hl 1 rfl) ?_
  refine lv_bipush (v := iI (6)) C0.1 C0.2.1 dX8_sizeOf_5 (by decide) ?_
  refine k_iadd C0 dX8_sizeOf_7 ?_
  refine k_calli (n := 1) (wr := [(hV, .inr (8, [.ref hB, .int (iI (chs d)), .int (iI (gRoot d)), .int (iI (gN d)), .int (iI (gSz d)), .int (iI (gT d)), .int (iI (gTB d)), .int (iI (gTA d)), .int (iI (gCA d))]))]) C0 S (c_X0_wordAt l D cA hB aB 2048 d (z + 6) hd (by constructor <;> omega) (by omega)) gX8_sizeOf_X0_wordAt rfl ⟨rfl, rfl⟩ (by decide +kernel) ⟨Nat.le_of_ble_eq_true rfl, Nat.le_of_ble_eq_true rfl⟩ [1, 2] [0] rfl rfl rfl rfl (by decide) (ci := 0) (q0 := 0) rfl rfl (As := [.int (iI (z + 6))]) rfl hl.1 rfl (Nat.le_of_ble_eq_true rfl) dX8_sizeOf_8 ⟨Nat.zero_le _, Nat.zero_le _⟩ (fun r u H locs hp S => ?_)
  obtain ⟨rfl, rfl⟩ := hp
  have S := S.sub (ws' := [(hV, .inr (8, [.ref hB, .int (iI (chs d)), .int (iI (gRoot d)), .int (iI (gN d)), .int (iI (gSz d)), .int (iI (gT d)), .int (iI (gTB d)), .int (iI (gTA d)), .int (iI (gCA d))])), (hB, .inr (0, [.ref aB])), (aB, .inl (cA 1, 2048, .inl (fun y_ => bI (d y_))))]) [0, 1, 2] rfl rfl
  rw [wAt_in (n := 2048) (z := z + 6) (by omega) (by omega)]
  have hb1 := By_wrd hd (z + 6)
  subst hQ
  refine k_iret C0 S hAe hsz hr hlk dX8_sizeOf_11 ?_
  exact ⟨rfl, rfl⟩
def rmX2_trace : Room := { frames := 2, cells := 0, slots := 0, locals := 44 }
set_option maxHeartbeats 4000000 in
set_option maxRecDepth 100000 in
theorem c_X2_trace (l : Launch) (D : va_G) (cA : Nat → ClassId) (hC aC hV hB aB : Nat) (d : Nat → Int) (v1 v2 : Int) (pl : Nat → Int) (first : Int) (hd : By d) (hB2 : gB d) (hf1 : 0 ≤ first) (hf2 : first < 256) : kCi l D vwCl (kTys cA) yX2_trace wsX2_trace rmX2_trace [.ref hC, .int (iI (first))] [(hC, .inr (2, [.ref hB, .ref hV, .ref aC, .int (iI (v1)), .int (iI (v2))])), (aC, .inl (cA 0, 64, .inl (fun y_ => iI (pl y_)))), (hV, .inr (8, [.ref hB, .int (iI (chs d)), .int (iI (gRoot d)), .int (iI (gN d)), .int (iI (gSz d)), .int (iI (gT d)), .int (iI (gTB d)), .int (iI (gTA d)), .int (iI (gCA d))])), (hB, .inr (0, [.ref aB])), (aB, .inl (cA 1, 2048, .inl (fun y_ => bI (d y_))))] (fun r u => ∃ (cnt : Int) (pl2 : Nat → Int), r = iI (bz (0 ≤ chn d first)) ∧ u = [(hC, .inr (2, [.ref hB, .ref hV, .ref aC, .int (iI (cnt)), .int (iI (0))])), (aC, .inl (cA 0, 64, .inl (fun y_ => iI (pl2 y_)))), (hV, .inr (8, [.ref hB, .int (iI (chs d)), .int (iI (gRoot d)), .int (iI (gN d)), .int (iI (gSz d)), .int (iI (gT d)), .int (iI (gTB d)), .int (iI (gTA d)), .int (iI (gCA d))])), (hB, .inr (0, [.ref aB])), (aB, .inl (cA 1, 2048, .inl (fun y_ => bI (d y_))))] ∧ (0 ≤ chn d first → Tr d first cnt pl2)) := by
  intro sz
  refine kEntry (cc := cX2_trace) (maxL := 3) (ret := (some .boolean)) (by decide) rfl (Nat.le_of_ble_eq_true rfl) ?_
  intro p e s m args below meth c A Q hAe hQ C0 hr hlk S hsz ls hl
  have hl : lv_has ls 3 [(0, .ref hC), (1, .int (iI (first)))] := hl
  obtain ⟨⟨g1, g2⟩, g3, ⟨g4, g5⟩, g6, ⟨g7, g8⟩, ⟨g9, g10⟩, g11, ⟨g12, g13⟩, g14⟩ := hB2.lin
  refine lv_aload_n C0.1 C0.2.1 dX2_trace_0 rfl (lv_at hl 0 rfl) ?_
  refine lv_iconst (v := iI (0)) C0.1 C0.2.1 dX2_trace_1 rfl ?_
  refine k_put (ws' := [(hC, .inr (2, [.ref hB, .ref hV, .ref aC, .int (iI (0)), .int (iI (v2))])), (aC, .inl (cA 0, 64, .inl (fun y_ => iI (pl y_)))), (hV, .inr (8, [.ref hB, .int (iI (chs d)), .int (iI (gRoot d)), .int (iI (gN d)), .int (iI (gSz d)), .int (iI (gT d)), .int (iI (gTB d)), .int (iI (gTA d)), .int (iI (gCA d))])), (hB, .inr (0, [.ref aB])), (aB, .inl (cA 1, 2048, .inl (fun y_ => bI (d y_))))]) C0 S (C := RX2) (T := TX2) (N := 5) (ci := 2) (by decide +kernel) tyX2 tyX2_ok nmX2 0 rfl rfl 3 (by decide) (by decide +kernel) rfl (v := .int (iI (0))) rfl rfl (Nat.le_of_ble_eq_true rfl) dX2_trace_2 rfl (fun H locs S => ?_)
  refine lv_aload_n C0.1 C0.2.1 dX2_trace_5 rfl (lv_at hl 0 rfl) ?_
  refine lv_iconst (v := iI (0)) C0.1 C0.2.1 dX2_trace_6 rfl ?_
  refine k_put (ws' := [(hC, .inr (2, [.ref hB, .ref hV, .ref aC, .int (iI (0)), .int (iI (0))])), (aC, .inl (cA 0, 64, .inl (fun y_ => iI (pl y_)))), (hV, .inr (8, [.ref hB, .int (iI (chs d)), .int (iI (gRoot d)), .int (iI (gN d)), .int (iI (gSz d)), .int (iI (gT d)), .int (iI (gTB d)), .int (iI (gTA d)), .int (iI (gCA d))])), (hB, .inr (0, [.ref aB])), (aB, .inl (cA 1, 2048, .inl (fun y_ => bI (d y_))))]) C0 S (C := RX2) (T := TX2) (N := 5) (ci := 2) (by decide +kernel) tyX2 tyX2_ok nmX2 0 rfl rfl 4 (by decide) (by decide +kernel) rfl (v := .int (iI (0))) rfl rfl (Nat.le_of_ble_eq_true rfl) dX2_trace_7 rfl (fun H locs S => ?_)
  refine lv_iload_n C0.1 C0.2.1 dX2_trace_10 rfl (lv_at hl 1 rfl) ?_
  refine lv_istore_n (lv' := [(2, .int (iI (first))), (0, .ref hC), (1, .int (iI (first)))]) C0.1 C0.2.1 dX2_trace_11 rfl hl (by decide) rfl (fun ls hl => ?_)
  have L12 : ∀ (n_ : Nat) (m2 : Nat) (k : Int) (pl2 : Nat → Int), ((m2 : Int) ≤ gN d) → (chn d first = chnF d ((gN d).toNat + 1 - m2) m2 k) → (k = kth d first m2) → (∀ j, j < m2 → pl2 j = gCA d + (kth d first j - 2) * gSz d) → (0 ≤ k ∧ k < 4096) → (0 < m2 → k < 4088) → ((gN d).toNat - m2 < n_) → ∀ (H : Heap) (locs : List Loc), kS D vwCl (kTys cA) A s [(hC, .inr (2, [.ref hB, .ref hV, .ref aC, .int (iI ((m2 : Int))), .int (iI (0))])), (aC, .inl (cA 0, 64, .inl (fun y_ => iI (pl2 y_)))), (hV, .inr (8, [.ref hB, .int (iI (chs d)), .int (iI (gRoot d)), .int (iI (gN d)), .int (iI (gSz d)), .int (iI (gT d)), .int (iI (gTB d)), .int (iI (gTA d)), .int (iI (gCA d))])), (hB, .inr (0, [.ref aB])), (aB, .inl (cA 1, 2048, .inl (fun y_ => bI (d y_))))] H locs → ∀ ls : Array Slot, lv_has ls 3 [(2, .int (iI (k))), (0, .ref hC), (1, .int (iI (first)))] → W p l e rmX2_trace s m args below meth c H locs 0 0 Q (F0 m 12 ls []) := by
    intro n_
    induction n_ with
    | zero => intro m2 k pl2 hi12_0 hi12_1 hi12_2 hi12_3 hi12_4 hi12_5 hm; exact absurd hm (Nat.not_lt_zero _)
    | succ n_ ih12 =>
      intro m2 k pl2 hi12_0 hi12_1 hi12_2 hi12_3 hi12_4 hi12_5 hm H locs S ls hl
      refine lv_aload_n C0.1 C0.2.1 dX2_trace_12 rfl (lv_at hl 1 rfl) ?_
      refine k_get C0 S (C := RX2) (T := TX2) (N := 5) (ci := 2) (by decide +kernel) 0 rfl rfl 3 (by decide) (by decide +kernel) (v := .int (iI ((m2 : Int)))) rfl dX2_trace_13 ?_
      refine lv_aload_n C0.1 C0.2.1 dX2_trace_16 rfl (lv_at hl 1 rfl) ?_
      refine k_get C0 S (C := RX2) (T := TX2) (N := 5) (ci := 2) (by decide +kernel) 0 rfl rfl 1 (by decide) (by decide +kernel) (v := .ref hV) rfl dX2_trace_17 ?_
      refine k_get C0 S (C := RX8) (T := TX8) (N := 9) (ci := 8) (by decide +kernel) 2 rfl rfl 3 (by decide) (by decide +kernel) (v := .int (iI (gN d))) rfl dX2_trace_20 ?_
      refine k_icmp_ge (tgt := 97) C0 (by constructor <;> omega) (by constructor <;> omega) dX2_trace_23 (by decide) (fun c1 => ?_) (fun c1 => ?_)
      · refine lv_iconst (v := iI (0)) C0.1 C0.2.1 dX2_trace_97 rfl ?_
        subst hQ
        refine k_zret C0 S hAe hsz hr hlk (by rfl) dX2_trace_98 ?_
        have hq2 : chn d first = -1 := by rw [hi12_1, show (gN d).toNat + 1 - m2 = 1 by omega]; exact chnF_one (hi12_5 (by omega))
        exact ⟨_, _, congrArg iI (bz_f (by omega)).symm, rfl, fun h => absurd h (by omega)⟩
      · refine lv_aload_n C0.1 C0.2.1 dX2_trace_26 rfl (lv_at hl 1 rfl) ?_
        refine k_get C0 S (C := RX2) (T := TX2) (N := 5) (ci := 2) (by decide +kernel) 0 rfl rfl 3 (by decide) (by decide +kernel) (v := .int (iI ((m2 : Int)))) rfl dX2_trace_27 ?_
        refine lv_bipush (v := iI (64)) C0.1 C0.2.1 dX2_trace_30 (by decide) ?_
        refine k_icmp_ge (tgt := 97) C0 (by constructor <;> omega) ⟨by decide, by decide⟩ dX2_trace_32 (by decide) (fun c32 => ?_) (fun c32 => ?_)
        · exact absurd c32 (by omega)
        · refine lv_aload_n C0.1 C0.2.1 dX2_trace_35 rfl (lv_at hl 1 rfl) ?_
          refine k_get C0 S (C := RX2) (T := TX2) (N := 5) (ci := 2) (by decide +kernel) 0 rfl rfl 1 (by decide) (by decide +kernel) (v := .ref hV) rfl dX2_trace_36 ?_
          refine lv_iload_n C0.1 C0.2.1 dX2_trace_39 rfl (lv_at hl 0 rfl) ?_
          refine k_calli (n := 1) (wr := [(hC, .inr (2, [.ref hB, .ref hV, .ref aC, .int (iI ((m2 : Int))), .int (iI (0))])), (aC, .inl (cA 0, 64, .inl (fun y_ => iI (pl2 y_))))]) C0 S (c_X8_isCluster l D cA hV hB aB (chs d) (gRoot d) (gN d) (gSz d) (gT d) (gTB d) (gTA d) (gCA d) d (k) (by constructor <;> omega) (by omega) (by omega)) gX2_trace_X8_isCluster rfl ⟨rfl, rfl⟩ (by decide +kernel) ⟨Nat.le_of_ble_eq_true rfl, Nat.le_of_ble_eq_true rfl⟩ [2, 3, 4] [0, 1] rfl rfl rfl rfl (by decide) (ci := 8) (q0 := 0) rfl rfl (As := [.int (iI (k))]) rfl hl.1 rfl (Nat.le_of_ble_eq_true rfl) dX2_trace_40 ⟨Nat.zero_le _, Nat.zero_le _⟩ (fun r u H locs hp S => ?_)
          obtain ⟨rfl, rfl⟩ := hp
          have S := S.sub (ws' := [(hC, .inr (2, [.ref hB, .ref hV, .ref aC, .int (iI ((m2 : Int))), .int (iI (0))])), (aC, .inl (cA 0, 64, .inl (fun y_ => iI (pl2 y_)))), (hV, .inr (8, [.ref hB, .int (iI (chs d)), .int (iI (gRoot d)), .int (iI (gN d)), .int (iI (gSz d)), .int (iI (gT d)), .int (iI (gTB d)), .int (iI (gTA d)), .int (iI (gCA d))])), (hB, .inr (0, [.ref aB])), (aB, .inl (cA 1, 2048, .inl (fun y_ => bI (d y_))))]) [0, 1, 2, 3, 4] rfl rfl
          refine k_bz_ne (tgt := 48) C0 dX2_trace_43 (by decide) (fun c43 => ?_) (fun c43 => ?_)
          · refine lv_aload_n C0.1 C0.2.1 dX2_trace_48 rfl (lv_at hl 1 rfl) ?_
            refine k_get C0 S (C := RX2) (T := TX2) (N := 5) (ci := 2) (by decide +kernel) 0 rfl rfl 2 (by decide) (by decide +kernel) (v := .ref aC) rfl dX2_trace_49 ?_
            refine lv_aload_n C0.1 C0.2.1 dX2_trace_52 rfl (lv_at hl 1 rfl) ?_
            refine k_get C0 S (C := RX2) (T := TX2) (N := 5) (ci := 2) (by decide +kernel) 0 rfl rfl 3 (by decide) (by decide +kernel) (v := .int (iI ((m2 : Int)))) rfl dX2_trace_53 ?_
            refine lv_aload_n C0.1 C0.2.1 dX2_trace_56 rfl (lv_at hl 1 rfl) ?_
            refine k_get C0 S (C := RX2) (T := TX2) (N := 5) (ci := 2) (by decide +kernel) 0 rfl rfl 1 (by decide) (by decide +kernel) (v := .ref hV) rfl dX2_trace_57 ?_
            refine lv_iload_n C0.1 C0.2.1 dX2_trace_60 rfl (lv_at hl 0 rfl) ?_
            refine k_calli (n := 1) (wr := [(hC, .inr (2, [.ref hB, .ref hV, .ref aC, .int (iI ((m2 : Int))), .int (iI (0))])), (aC, .inl (cA 0, 64, .inl (fun y_ => iI (pl2 y_))))]) C0 S (c_X8_placeOfCluster l D cA hV hB aB d (k) hd hB2 ) gX2_trace_X8_placeOfCluster rfl ⟨rfl, rfl⟩ (by decide +kernel) ⟨Nat.le_of_ble_eq_true rfl, Nat.le_of_ble_eq_true rfl⟩ [2, 3, 4] [0, 1] rfl rfl rfl rfl (by decide) (ci := 8) (q0 := 0) rfl rfl (As := [.int (iI (k))]) rfl hl.1 rfl (Nat.le_of_ble_eq_true rfl) dX2_trace_61 ⟨Nat.zero_le _, Nat.zero_le _⟩ (fun r u H locs hp S => ?_)
            obtain ⟨rfl, rfl⟩ := hp
            have S := S.sub (ws' := [(hC, .inr (2, [.ref hB, .ref hV, .ref aC, .int (iI ((m2 : Int))), .int (iI (0))])), (aC, .inl (cA 0, 64, .inl (fun y_ => iI (pl2 y_)))), (hV, .inr (8, [.ref hB, .int (iI (chs d)), .int (iI (gRoot d)), .int (iI (gN d)), .int (iI (gSz d)), .int (iI (gT d)), .int (iI (gTB d)), .int (iI (gTA d)), .int (iI (gCA d))])), (hB, .inr (0, [.ref aB])), (aB, .inl (cA 1, 2048, .inl (fun y_ => bI (d y_))))]) [0, 1, 2, 3, 4] rfl rfl
            refine k_iast (ws' := [(hC, .inr (2, [.ref hB, .ref hV, .ref aC, .int (iI ((m2 : Int))), .int (iI (0))])), (aC, .inl (cA 0, 64, .inl (fun y_ => iI ((va_up pl2 ((m2 : Int)).toNat (gCA d + ((k) - 2) * gSz d)) y_)))), (hV, .inr (8, [.ref hB, .int (iI (chs d)), .int (iI (gRoot d)), .int (iI (gN d)), .int (iI (gSz d)), .int (iI (gT d)), .int (iI (gTB d)), .int (iI (gTA d)), .int (iI (gCA d))])), (hB, .inr (0, [.ref aB])), (aB, .inl (cA 1, 2048, .inl (fun y_ => bI (d y_))))]) C0 S 1 0 rfl rfl (z := (m2 : Int)) (by omega) (by omega) (by omega) dX2_trace_64 rfl (fun H locs S => ?_)
            refine lv_aload_n C0.1 C0.2.1 dX2_trace_65 rfl (lv_at hl 1 rfl) ?_
            refine lv_dup C0.1 C0.2.1 dX2_trace_66 rfl ?_
            refine k_get C0 S (C := RX2) (T := TX2) (N := 5) (ci := 2) (by decide +kernel) 0 rfl rfl 3 (by decide) (by decide +kernel) (v := .int (iI ((m2 : Int)))) rfl dX2_trace_67 ?_
            refine lv_iconst (v := iI (1)) C0.1 C0.2.1 dX2_trace_70 rfl ?_
            refine k_iadd C0 dX2_trace_71 ?_
            refine k_put (ws' := [(hC, .inr (2, [.ref hB, .ref hV, .ref aC, .int (iI (((m2 : Int)) + 1)), .int (iI (0))])), (aC, .inl (cA 0, 64, .inl (fun y_ => iI ((va_up pl2 ((m2 : Int)).toNat (gCA d + ((k) - 2) * gSz d)) y_)))), (hV, .inr (8, [.ref hB, .int (iI (chs d)), .int (iI (gRoot d)), .int (iI (gN d)), .int (iI (gSz d)), .int (iI (gT d)), .int (iI (gTB d)), .int (iI (gTA d)), .int (iI (gCA d))])), (hB, .inr (0, [.ref aB])), (aB, .inl (cA 1, 2048, .inl (fun y_ => bI (d y_))))]) C0 S (C := RX2) (T := TX2) (N := 5) (ci := 2) (by decide +kernel) tyX2 tyX2_ok nmX2 0 rfl rfl 3 (by decide) (by decide +kernel) rfl (v := .int (iI (((m2 : Int)) + 1))) rfl rfl (Nat.le_of_ble_eq_true rfl) dX2_trace_72 rfl (fun H locs S => ?_)
            refine lv_aload_n C0.1 C0.2.1 dX2_trace_75 rfl (lv_at hl 1 rfl) ?_
            refine k_get C0 S (C := RX2) (T := TX2) (N := 5) (ci := 2) (by decide +kernel) 0 rfl rfl 1 (by decide) (by decide +kernel) (v := .ref hV) rfl dX2_trace_76 ?_
            refine lv_iload_n C0.1 C0.2.1 dX2_trace_79 rfl (lv_at hl 0 rfl) ?_
            refine k_calli (n := 1) (wr := [(hC, .inr (2, [.ref hB, .ref hV, .ref aC, .int (iI (((m2 : Int)) + 1)), .int (iI (0))])), (aC, .inl (cA 0, 64, .inl (fun y_ => iI ((va_up pl2 ((m2 : Int)).toNat (gCA d + ((k) - 2) * gSz d)) y_))))]) C0 S (c_X8_behind l D cA hV hB aB d (k) hd hB2 (by omega) (by omega)) gX2_trace_X8_behind rfl ⟨rfl, rfl⟩ (by decide +kernel) ⟨Nat.le_of_ble_eq_true rfl, Nat.le_of_ble_eq_true rfl⟩ [2, 3, 4] [0, 1] rfl rfl rfl rfl (by decide) (ci := 8) (q0 := 0) rfl rfl (As := [.int (iI (k))]) rfl hl.1 rfl (Nat.le_of_ble_eq_true rfl) dX2_trace_80 ⟨Nat.zero_le _, Nat.zero_le _⟩ (fun r u H locs hp S => ?_)
            obtain ⟨rfl, rfl⟩ := hp
            have S := S.sub (ws' := [(hC, .inr (2, [.ref hB, .ref hV, .ref aC, .int (iI (((m2 : Int)) + 1)), .int (iI (0))])), (aC, .inl (cA 0, 64, .inl (fun y_ => iI ((va_up pl2 ((m2 : Int)).toNat (gCA d + ((k) - 2) * gSz d)) y_)))), (hV, .inr (8, [.ref hB, .int (iI (chs d)), .int (iI (gRoot d)), .int (iI (gN d)), .int (iI (gSz d)), .int (iI (gT d)), .int (iI (gTB d)), .int (iI (gTA d)), .int (iI (gCA d))])), (hB, .inr (0, [.ref aB])), (aB, .inl (cA 1, 2048, .inl (fun y_ => bI (d y_))))]) [0, 1, 2, 3, 4] rfl rfl
            have hb2 := beh_range (d := d) (k)
            refine lv_istore_n (lv' := [(2, .int (iI (beh d (k)))), (0, .ref hC), (1, .int (iI (first)))]) C0.1 C0.2.1 dX2_trace_83 rfl hl (by decide) rfl (fun ls hl => ?_)
            refine lv_aload_n C0.1 C0.2.1 dX2_trace_84 rfl (lv_at hl 1 rfl) ?_
            refine k_get C0 S (C := RX2) (T := TX2) (N := 5) (ci := 2) (by decide +kernel) 0 rfl rfl 1 (by decide) (by decide +kernel) (v := .ref hV) rfl dX2_trace_85 ?_
            refine lv_iload_n C0.1 C0.2.1 dX2_trace_88 rfl (lv_at hl 0 rfl) ?_
            refine k_calli (n := 1) (wr := [(hC, .inr (2, [.ref hB, .ref hV, .ref aC, .int (iI (((m2 : Int)) + 1)), .int (iI (0))])), (aC, .inl (cA 0, 64, .inl (fun y_ => iI ((va_up pl2 ((m2 : Int)).toNat (gCA d + ((k) - 2) * gSz d)) y_))))]) C0 S (c_X8_isEnd l D cA hV hB aB (chs d) (gRoot d) (gN d) (gSz d) (gT d) (gTB d) (gTA d) (gCA d) d (beh d (k)) (by constructor <;> omega)) gX2_trace_X8_isEnd rfl ⟨rfl, rfl⟩ (by decide +kernel) ⟨Nat.le_of_ble_eq_true rfl, Nat.le_of_ble_eq_true rfl⟩ [2, 3, 4] [0, 1] rfl rfl rfl rfl (by decide) (ci := 8) (q0 := 0) rfl rfl (As := [.int (iI (beh d (k)))]) rfl hl.1 rfl (Nat.le_of_ble_eq_true rfl) dX2_trace_89 ⟨Nat.zero_le _, Nat.zero_le _⟩ (fun r u H locs hp S => ?_)
            obtain ⟨rfl, rfl⟩ := hp
            have S := S.sub (ws' := [(hC, .inr (2, [.ref hB, .ref hV, .ref aC, .int (iI (((m2 : Int)) + 1)), .int (iI (0))])), (aC, .inl (cA 0, 64, .inl (fun y_ => iI ((va_up pl2 ((m2 : Int)).toNat (gCA d + ((k) - 2) * gSz d)) y_)))), (hV, .inr (8, [.ref hB, .int (iI (chs d)), .int (iI (gRoot d)), .int (iI (gN d)), .int (iI (gSz d)), .int (iI (gT d)), .int (iI (gTB d)), .int (iI (gTA d)), .int (iI (gCA d))])), (hB, .inr (0, [.ref aB])), (aB, .inl (cA 1, 2048, .inl (fun y_ => bI (d y_))))]) [0, 1, 2, 3, 4] rfl rfl
            refine k_bz_eq (tgt := 12) C0 dX2_trace_92 (by decide) (fun c92 => ?_) (fun c92 => ?_)
            · have hq1 : chn d first = chnF d ((gN d).toNat + 1 - (m2 + 1)) ((m2 + 1 : Nat) : Int) (beh d k) := by rw [hi12_1, show (gN d).toNat + 1 - m2 = ((gN d).toNat + 1 - (m2 + 1)) + 1 by omega, chnF_cl c43]; rfl
              exact ih12 (m2 + 1) (beh d k) (va_up pl2 (m2 : Int).toNat (gCA d + (k - 2) * gSz d)) (by omega) hq1 (by rw [hi12_2]; rfl) (fun j hj => by unfold va_up; split; (rename_i e; rw [show j = m2 by omega, ← hi12_2]); (rename_i e; exact hi12_3 j (by omega))) ⟨by omega, by omega⟩ (fun _ => by omega) (by omega) _ _ S _ (lv_sub hl [0, 1, 2] rfl)
            · refine lv_iconst (v := iI (1)) C0.1 C0.2.1 dX2_trace_95 rfl ?_
              subst hQ
              refine k_zret C0 S hAe hsz hr hlk (by rfl) dX2_trace_96 ?_
              have hq2 : chn d first = (m2 : Int) + 1 := by rw [hi12_1, show (gN d).toNat + 1 - m2 = ((gN d).toNat - m2 - 1 + 1) + 1 by omega, chnF_cl c43]; exact chnF_end (by rintro ⟨h1, h2⟩; omega) (by omega) c92
              refine ⟨_, _, congrArg iI (bz_t (by omega)).symm, rfl, fun _ => ⟨by omega, hq2.symm, fun j hj => ?_⟩⟩
              unfold va_up
              split
              · rename_i e; rw [show j = m2 by omega, ← hi12_2]
              · rename_i e; exact hi12_3 j (by omega)
          · refine lv_iconst (v := iI (0)) C0.1 C0.2.1 dX2_trace_46 rfl ?_
            subst hQ
            refine k_zret C0 S hAe hsz hr hlk (by rfl) dX2_trace_47 ?_
            have hq2 : chn d first = -1 := by rw [hi12_1, show (gN d).toNat + 1 - m2 = ((gN d).toNat - m2) + 1 by omega]; exact chnF_bad c43 (by intro h; have := hi12_5 (by omega); omega)
            exact ⟨_, _, congrArg iI (bz_f (by omega)).symm, rfl, fun h => absurd h (by omega)⟩
  exact L12 ((gN d).toNat + 1) (0) (first) (pl) (by omega) rfl rfl (fun j h => absurd h (Nat.not_lt_zero _)) ⟨by omega, by omega⟩ (fun h => absurd h (by decide)) (by omega) _ _ S _ (lv_sub hl [0, 1, 2] rfl)
def rmX2_bytes : Room := { frames := 0, cells := 0, slots := 0, locals := 0 }
set_option maxHeartbeats 4000000 in
set_option maxRecDepth 100000 in
theorem c_X2_bytes (l : Launch) (D : va_G) (cA : Nat → ClassId) (hC aC hV hB aB : Nat) (d : Nat → Int) (v1 v2 : Int) (pl : Nat → Int) (hd : By d) (hB2 : gB d) : kCi l D vwCl (kTys cA) yX2_bytes wsX2_bytes rmX2_bytes [.ref hC] [(hC, .inr (2, [.ref hB, .ref hV, .ref aC, .int (iI (v1)), .int (iI (v2))])), (aC, .inl (cA 0, 64, .inl (fun y_ => iI (pl y_)))), (hV, .inr (8, [.ref hB, .int (iI (chs d)), .int (iI (gRoot d)), .int (iI (gN d)), .int (iI (gSz d)), .int (iI (gT d)), .int (iI (gTB d)), .int (iI (gTA d)), .int (iI (gCA d))])), (hB, .inr (0, [.ref aB])), (aB, .inl (cA 1, 2048, .inl (fun y_ => bI (d y_))))] (fun r u => r = iI (v1 * gSz d) ∧ u = [(hC, .inr (2, [.ref hB, .ref hV, .ref aC, .int (iI (v1)), .int (iI (v2))])), (aC, .inl (cA 0, 64, .inl (fun y_ => iI (pl y_)))), (hV, .inr (8, [.ref hB, .int (iI (chs d)), .int (iI (gRoot d)), .int (iI (gN d)), .int (iI (gSz d)), .int (iI (gT d)), .int (iI (gTB d)), .int (iI (gTA d)), .int (iI (gCA d))])), (hB, .inr (0, [.ref aB])), (aB, .inl (cA 1, 2048, .inl (fun y_ => bI (d y_))))]) := by
  intro sz
  refine kEntry (cc := cX2_bytes) (maxL := 1) (ret := (some .int)) (by decide) rfl (Nat.le_of_ble_eq_true rfl) ?_
  intro p e s m args below meth c A Q hAe hQ C0 hr hlk S hsz ls hl
  have hl : lv_has ls 1 [(0, .ref hC)] := hl
  refine lv_aload_n C0.1 C0.2.1 dX2_bytes_0 rfl (lv_at hl 0 rfl) ?_
  refine k_get C0 S (C := RX2) (T := TX2) (N := 5) (ci := 2) (by decide +kernel) 0 rfl rfl 3 (by decide) (by decide +kernel) (v := .int (iI (v1))) rfl dX2_bytes_1 ?_
  refine lv_aload_n C0.1 C0.2.1 dX2_bytes_4 rfl (lv_at hl 0 rfl) ?_
  refine k_get C0 S (C := RX2) (T := TX2) (N := 5) (ci := 2) (by decide +kernel) 0 rfl rfl 1 (by decide) (by decide +kernel) (v := .ref hV) rfl dX2_bytes_5 ?_
  refine k_get C0 S (C := RX8) (T := TX8) (N := 9) (ci := 8) (by decide +kernel) 2 rfl rfl 4 (by decide) (by decide +kernel) (v := .int (iI (gSz d))) rfl dX2_bytes_8 ?_
  refine k_imul C0 dX2_bytes_11 ?_
  subst hQ
  refine k_iret C0 S hAe hsz hr hlk dX2_bytes_12 ?_
  exact ⟨rfl, rfl⟩
def rmX2_placeOf : Room := { frames := 0, cells := 0, slots := 0, locals := 0 }
set_option maxHeartbeats 4000000 in
set_option maxRecDepth 100000 in
theorem c_X2_placeOf (l : Launch) (D : va_G) (cA : Nat → ClassId) (hC aC hV hB aB : Nat) (d : Nat → Int) (v1 v2 : Int) (pl : Nat → Int) (first z : Int) (hd : By d) (hB2 : gB d) (hT : Tr d first v1 pl) (hz1 : 0 ≤ z) (hz2 : z < chn d first * gSz d) : kCi l D vwCl (kTys cA) yX2_placeOf wsX2_placeOf rmX2_placeOf [.ref hC, .int (iI (z))] [(hC, .inr (2, [.ref hB, .ref hV, .ref aC, .int (iI (v1)), .int (iI (v2))])), (aC, .inl (cA 0, 64, .inl (fun y_ => iI (pl y_)))), (hV, .inr (8, [.ref hB, .int (iI (chs d)), .int (iI (gRoot d)), .int (iI (gN d)), .int (iI (gSz d)), .int (iI (gT d)), .int (iI (gTB d)), .int (iI (gTA d)), .int (iI (gCA d))])), (hB, .inr (0, [.ref aB])), (aB, .inl (cA 1, 2048, .inl (fun y_ => bI (d y_))))] (fun r u => r = iI (plc d first z) ∧ u = [(hC, .inr (2, [.ref hB, .ref hV, .ref aC, .int (iI (v1)), .int (iI (v2))])), (aC, .inl (cA 0, 64, .inl (fun y_ => iI (pl y_)))), (hV, .inr (8, [.ref hB, .int (iI (chs d)), .int (iI (gRoot d)), .int (iI (gN d)), .int (iI (gSz d)), .int (iI (gT d)), .int (iI (gTB d)), .int (iI (gTA d)), .int (iI (gCA d))])), (hB, .inr (0, [.ref aB])), (aB, .inl (cA 1, 2048, .inl (fun y_ => bI (d y_))))]) := by
  intro sz
  refine kEntry (cc := cX2_placeOf) (maxL := 3) (ret := (some .int)) (by decide) rfl (Nat.le_of_ble_eq_true rfl) ?_
  intro p e s m args below meth c A Q hAe hQ C0 hr hlk S hsz ls hl
  have hl : lv_has ls 3 [(0, .ref hC), (1, .int (iI (z)))] := hl
  obtain ⟨⟨g1, g2⟩, g3, ⟨g4, g5⟩, g6, ⟨g7, g8⟩, ⟨g9, g10⟩, g11, ⟨g12, g13⟩, g14⟩ := hB2.lin
  obtain ⟨t1, t2, t3⟩ := hT
  obtain ⟨ha, -⟩ := chn_all hB2 t1
  obtain ⟨hp, ⟨hq1, hq2⟩, -⟩ := plc_range hB2 t1 hz1 hz2
  have hz3 : z < 16384 := by rcases g11 with e | e | e <;> rw [e] at hz2 <;> omega
  refine lv_aload_n C0.1 C0.2.1 dX2_placeOf_0 rfl (lv_at hl 0 rfl) ?_
  refine k_get C0 S (C := RX2) (T := TX2) (N := 5) (ci := 2) (by decide +kernel) 0 rfl rfl 1 (by decide) (by decide +kernel) (v := .ref hV) rfl dX2_placeOf_1 ?_
  refine k_get C0 S (C := RX8) (T := TX8) (N := 9) (ci := 8) (by decide +kernel) 2 rfl rfl 4 (by decide) (by decide +kernel) (v := .int (iI (gSz d))) rfl dX2_placeOf_4 ?_
  refine lv_istore_n (lv' := [(2, .int (iI (gSz d))), (0, .ref hC), (1, .int (iI (z)))]) C0.1 C0.2.1 dX2_placeOf_7 rfl hl (by decide) rfl (fun ls hl => ?_)
  refine lv_iload_n C0.1 C0.2.1 dX2_placeOf_8 rfl (lv_at hl 2 rfl) ?_
  refine k_if_lt (tgt := 27) C0 (by constructor <;> omega) dX2_placeOf_9 (by decide) (fun c9 => ?_) (fun c9 => ?_)
  · exact absurd c9 (by omega)
  · refine lv_iload_n C0.1 C0.2.1 dX2_placeOf_12 rfl (lv_at hl 0 rfl) ?_
    refine lv_iconst (v := iI (1)) C0.1 C0.2.1 dX2_placeOf_13 rfl ?_
    refine k_icmp_lt (tgt := 27) C0 (by constructor <;> omega) ⟨by decide, by decide⟩ dX2_placeOf_14 (by decide) (fun c14 => ?_) (fun c14 => ?_)
    · exact absurd c14 (by omega)
    · refine lv_iload_n C0.1 C0.2.1 dX2_placeOf_17 rfl (lv_at hl 2 rfl) ?_
      refine lv_iload_n C0.1 C0.2.1 dX2_placeOf_18 rfl (lv_at hl 0 rfl) ?_
      refine k_idiv C0 (by constructor <;> omega) (by omega) (by omega) dX2_placeOf_19 ?_
      refine k_topeq (v := iI (z / gSz d)) (congrArg iI (Int.tdiv_eq_ediv_of_nonneg hz1)) ?_
      refine lv_aload_n C0.1 C0.2.1 dX2_placeOf_20 rfl (lv_at hl 1 rfl) ?_
      refine k_get C0 S (C := RX2) (T := TX2) (N := 5) (ci := 2) (by decide +kernel) 0 rfl rfl 3 (by decide) (by decide +kernel) (v := .int (iI (v1))) rfl dX2_placeOf_21 ?_
      refine k_icmp_lt (tgt := 29) C0 (by constructor <;> omega) (by constructor <;> omega) dX2_placeOf_24 (by decide) (fun c24 => ?_) (fun c24 => ?_)
      · refine lv_aload_n C0.1 C0.2.1 dX2_placeOf_29 rfl (lv_at hl 1 rfl) ?_
        refine k_get C0 S (C := RX2) (T := TX2) (N := 5) (ci := 2) (by decide +kernel) 0 rfl rfl 2 (by decide) (by decide +kernel) (v := .ref aC) rfl dX2_placeOf_30 ?_
        refine lv_iload_n C0.1 C0.2.1 dX2_placeOf_33 rfl (lv_at hl 2 rfl) ?_
        refine lv_iload_n C0.1 C0.2.1 dX2_placeOf_34 rfl (lv_at hl 0 rfl) ?_
        refine k_idiv C0 (by constructor <;> omega) (by omega) (by omega) dX2_placeOf_35 ?_
        refine k_topeq (v := iI (z / gSz d)) (congrArg iI (Int.tdiv_eq_ediv_of_nonneg hz1)) ?_
        refine k_iald C0 S 1 0 rfl rfl (z := z / gSz d) (by omega) (by omega) (by omega) dX2_placeOf_36 ?_
        refine lv_iload_n C0.1 C0.2.1 dX2_placeOf_37 rfl (lv_at hl 2 rfl) ?_
        refine lv_iload_n C0.1 C0.2.1 dX2_placeOf_38 rfl (lv_at hl 0 rfl) ?_
        refine k_irem C0 (by constructor <;> omega) (by omega) (by omega) dX2_placeOf_39 ?_
        refine k_topeq (v := iI (z % gSz d)) (congrArg iI (by rw [Int.tdiv_eq_ediv_of_nonneg hz1, Int.emod_def, Int.mul_comm])) ?_
        refine k_iadd C0 dX2_placeOf_40 ?_
        subst hQ
        refine k_iret C0 S hAe hsz hr hlk dX2_placeOf_41 ?_
        exact ⟨congrArg iI (by rw [t3 _ (by omega)]; rfl), rfl⟩
      · exact absurd c24 (by omega)
def rmX2_byteAt : Room := { frames := 1, cells := 0, slots := 0, locals := 22 }
set_option maxHeartbeats 4000000 in
set_option maxRecDepth 100000 in
theorem c_X2_byteAt (l : Launch) (D : va_G) (cA : Nat → ClassId) (hC aC hV hB aB : Nat) (d : Nat → Int) (v1 v2 : Int) (pl : Nat → Int) (first z : Int) (hd : By d) (hB2 : gB d) (hT : Tr d first v1 pl) (hz1 : 0 ≤ z) (hz2 : z < chn d first * gSz d) : kCi l D vwCl (kTys cA) yX2_byteAt wsX2_byteAt rmX2_byteAt [.ref hC, .int (iI (z))] [(hC, .inr (2, [.ref hB, .ref hV, .ref aC, .int (iI (v1)), .int (iI (v2))])), (aC, .inl (cA 0, 64, .inl (fun y_ => iI (pl y_)))), (hV, .inr (8, [.ref hB, .int (iI (chs d)), .int (iI (gRoot d)), .int (iI (gN d)), .int (iI (gSz d)), .int (iI (gT d)), .int (iI (gTB d)), .int (iI (gTA d)), .int (iI (gCA d))])), (hB, .inr (0, [.ref aB])), (aB, .inl (cA 1, 2048, .inl (fun y_ => bI (d y_))))] (fun r u => r = iI (rd d (plc d first z)) ∧ u = [(hC, .inr (2, [.ref hB, .ref hV, .ref aC, .int (iI (v1)), .int (iI (v2))])), (aC, .inl (cA 0, 64, .inl (fun y_ => iI (pl y_)))), (hV, .inr (8, [.ref hB, .int (iI (chs d)), .int (iI (gRoot d)), .int (iI (gN d)), .int (iI (gSz d)), .int (iI (gT d)), .int (iI (gTB d)), .int (iI (gTA d)), .int (iI (gCA d))])), (hB, .inr (0, [.ref aB])), (aB, .inl (cA 1, 2048, .inl (fun y_ => bI (d y_))))]) := by
  intro sz
  refine kEntry (cc := cX2_byteAt) (maxL := 2) (ret := (some .int)) (by decide) rfl (Nat.le_of_ble_eq_true rfl) ?_
  intro p e s m args below meth c A Q hAe hQ C0 hr hlk S hsz ls hl
  have hl : lv_has ls 2 [(0, .ref hC), (1, .int (iI (z)))] := hl
  refine lv_aload_n C0.1 C0.2.1 dX2_byteAt_0 rfl (lv_at hl 0 rfl) ?_
  refine k_get C0 S (C := RX2) (T := TX2) (N := 5) (ci := 2) (by decide +kernel) 0 rfl rfl 0 (by decide) (by decide +kernel) (v := .ref hB) rfl dX2_byteAt_1 ?_
  refine lv_aload_n C0.1 C0.2.1 dX2_byteAt_4 rfl (lv_at hl 0 rfl) ?_
  refine lv_iload_n C0.1 C0.2.1 dX2_byteAt_5 rfl (lv_at hl 1 rfl) ?_
  refine k_calli (n := 1) (wr := []) C0 S (c_X2_placeOf l D cA hC aC hV hB aB d (v1) (v2) pl (first) (z) hd hB2 hT (by omega) (by omega)) gX2_byteAt_X2_placeOf rfl ⟨rfl, rfl⟩ (by decide +kernel) ⟨Nat.le_of_ble_eq_true rfl, Nat.le_of_ble_eq_true rfl⟩ [0, 1, 2, 3, 4] [] rfl rfl rfl rfl (by decide) (ci := 2) (q0 := 0) rfl rfl (As := [.int (iI (z))]) rfl hl.1 rfl (Nat.le_of_ble_eq_true rfl) dX2_byteAt_6 ⟨Nat.zero_le _, Nat.zero_le _⟩ (fun r u H locs hp S => ?_)
  obtain ⟨rfl, rfl⟩ := hp
  have S := S.sub (ws' := [(hC, .inr (2, [.ref hB, .ref hV, .ref aC, .int (iI (v1)), .int (iI (v2))])), (aC, .inl (cA 0, 64, .inl (fun y_ => iI (pl y_)))), (hV, .inr (8, [.ref hB, .int (iI (chs d)), .int (iI (gRoot d)), .int (iI (gN d)), .int (iI (gSz d)), .int (iI (gT d)), .int (iI (gTB d)), .int (iI (gTA d)), .int (iI (gCA d))])), (hB, .inr (0, [.ref aB])), (aB, .inl (cA 1, 2048, .inl (fun y_ => bI (d y_))))]) [0, 1, 2, 3, 4] rfl rfl
  have hp1 := plc_range hB2 (first := first) (i := z) hT.1 (by omega) (by omega)
  refine k_calli (n := 1) (wr := [(hC, .inr (2, [.ref hB, .ref hV, .ref aC, .int (iI (v1)), .int (iI (v2))])), (aC, .inl (cA 0, 64, .inl (fun y_ => iI (pl y_)))), (hV, .inr (8, [.ref hB, .int (iI (chs d)), .int (iI (gRoot d)), .int (iI (gN d)), .int (iI (gSz d)), .int (iI (gT d)), .int (iI (gTB d)), .int (iI (gTA d)), .int (iI (gCA d))]))]) C0 S (c_X0_byteAt l D cA hB aB 2048 d (plc d (first) (z)) hd (by constructor <;> omega) (by omega)) gX2_byteAt_X0_byteAt rfl ⟨rfl, rfl⟩ (by decide +kernel) ⟨Nat.le_of_ble_eq_true rfl, Nat.le_of_ble_eq_true rfl⟩ [3, 4] [0, 1, 2] rfl rfl rfl rfl (by decide) (ci := 0) (q0 := 0) rfl rfl (As := [.int (iI (plc d (first) (z)))]) rfl hl.1 rfl (Nat.le_of_ble_eq_true rfl) dX2_byteAt_9 ⟨Nat.zero_le _, Nat.zero_le _⟩ (fun r u H locs hp S => ?_)
  obtain ⟨rfl, rfl⟩ := hp
  have S := S.sub (ws' := [(hC, .inr (2, [.ref hB, .ref hV, .ref aC, .int (iI (v1)), .int (iI (v2))])), (aC, .inl (cA 0, 64, .inl (fun y_ => iI (pl y_)))), (hV, .inr (8, [.ref hB, .int (iI (chs d)), .int (iI (gRoot d)), .int (iI (gN d)), .int (iI (gSz d)), .int (iI (gT d)), .int (iI (gTB d)), .int (iI (gTA d)), .int (iI (gCA d))])), (hB, .inr (0, [.ref aB])), (aB, .inl (cA 1, 2048, .inl (fun y_ => bI (d y_))))]) [0, 1, 2, 3, 4] rfl rfl
  rw [bAt_in (n := 2048) (z := plc d (first) (z)) (by omega) (by omega)]
  have hb2 := By.rd hd (plc d (first) (z))
  subst hQ
  refine k_iret C0 S hAe hsz hr hlk dX2_byteAt_12 ?_
  exact ⟨rfl, rfl⟩
/-- the int at byte i of the chain, as a number that may be large -/
noncomputable def cInt (d : Nat → Int) (first i : Int) : Int := rd d (plc d first i) + rd d (plc d first (i + 1)) * 256 + rd d (plc d first (i + 2)) * 65536 + rd d (plc d first (i + 3)) * 16777216
def rmX2_intAt : Room := { frames := 2, cells := 0, slots := 0, locals := 43 }
set_option maxHeartbeats 4000000 in
set_option maxRecDepth 100000 in
theorem c_X2_intAt (l : Launch) (D : va_G) (cA : Nat → ClassId) (hC aC hV hB aB : Nat) (d : Nat → Int) (v1 v2 : Int) (pl : Nat → Int) (first z : Int) (hd : By d) (hB2 : gB d) (hT : Tr d first v1 pl) (hz1 : 0 ≤ z) (hz2 : z + 3 < chn d first * gSz d) : kCi l D vwCl (kTys cA) yX2_intAt wsX2_intAt rmX2_intAt [.ref hC, .int (iI (z))] [(hC, .inr (2, [.ref hB, .ref hV, .ref aC, .int (iI (v1)), .int (iI (v2))])), (aC, .inl (cA 0, 64, .inl (fun y_ => iI (pl y_)))), (hV, .inr (8, [.ref hB, .int (iI (chs d)), .int (iI (gRoot d)), .int (iI (gN d)), .int (iI (gSz d)), .int (iI (gT d)), .int (iI (gTB d)), .int (iI (gTA d)), .int (iI (gCA d))])), (hB, .inr (0, [.ref aB])), (aB, .inl (cA 1, 2048, .inl (fun y_ => bI (d y_))))] (fun r u => r = iI (cInt d first z) ∧ u = [(hC, .inr (2, [.ref hB, .ref hV, .ref aC, .int (iI (v1)), .int (iI (v2))])), (aC, .inl (cA 0, 64, .inl (fun y_ => iI (pl y_)))), (hV, .inr (8, [.ref hB, .int (iI (chs d)), .int (iI (gRoot d)), .int (iI (gN d)), .int (iI (gSz d)), .int (iI (gT d)), .int (iI (gTB d)), .int (iI (gTA d)), .int (iI (gCA d))])), (hB, .inr (0, [.ref aB])), (aB, .inl (cA 1, 2048, .inl (fun y_ => bI (d y_))))]) := by
  intro sz
  refine kEntry (cc := cX2_intAt) (maxL := 2) (ret := (some .int)) (by decide) rfl (Nat.le_of_ble_eq_true rfl) ?_
  intro p e s m args below meth c A Q hAe hQ C0 hr hlk S hsz ls hl
  have hl : lv_has ls 2 [(0, .ref hC), (1, .int (iI (z)))] := hl
  refine lv_aload_n C0.1 C0.2.1 dX2_intAt_0 rfl (lv_at hl 0 rfl) ?_
  refine lv_iload_n C0.1 C0.2.1 dX2_intAt_1 rfl (lv_at hl 1 rfl) ?_
  refine k_calli (n := 1) (wr := []) C0 S (c_X2_byteAt l D cA hC aC hV hB aB d (v1) (v2) pl (first) (z) hd hB2 hT (by omega) (by omega)) gX2_intAt_X2_byteAt rfl ⟨rfl, rfl⟩ (by decide +kernel) ⟨Nat.le_of_ble_eq_true rfl, Nat.le_of_ble_eq_true rfl⟩ [0, 1, 2, 3, 4] [] rfl rfl rfl rfl (by decide) (ci := 2) (q0 := 0) rfl rfl (As := [.int (iI (z))]) rfl hl.1 rfl (Nat.le_of_ble_eq_true rfl) dX2_intAt_2 ⟨Nat.zero_le _, Nat.zero_le _⟩ (fun r u H locs hp S => ?_)
  obtain ⟨rfl, rfl⟩ := hp
  have S := S.sub (ws' := [(hC, .inr (2, [.ref hB, .ref hV, .ref aC, .int (iI (v1)), .int (iI (v2))])), (aC, .inl (cA 0, 64, .inl (fun y_ => iI (pl y_)))), (hV, .inr (8, [.ref hB, .int (iI (chs d)), .int (iI (gRoot d)), .int (iI (gN d)), .int (iI (gSz d)), .int (iI (gT d)), .int (iI (gTB d)), .int (iI (gTA d)), .int (iI (gCA d))])), (hB, .inr (0, [.ref aB])), (aB, .inl (cA 1, 2048, .inl (fun y_ => bI (d y_))))]) [0, 1, 2, 3, 4] rfl rfl
  have hb1 := By.rd hd (plc d (first) (z))
  refine lv_aload_n C0.1 C0.2.1 dX2_intAt_5 rfl (lv_at hl 0 rfl) ?_
  refine lv_iload_n C0.1 C0.2.1 dX2_intAt_6 rfl (lv_at hl 1 rfl) ?_
  refine lv_iconst (v := iI (1)) C0.1 C0.2.1 dX2_intAt_7 rfl ?_
  refine k_iadd C0 dX2_intAt_8 ?_
  refine k_calli (n := 1) (wr := []) C0 S (c_X2_byteAt l D cA hC aC hV hB aB d (v1) (v2) pl (first) (z + 1) hd hB2 hT (by omega) (by omega)) gX2_intAt_X2_byteAt rfl ⟨rfl, rfl⟩ (by decide +kernel) ⟨Nat.le_of_ble_eq_true rfl, Nat.le_of_ble_eq_true rfl⟩ [0, 1, 2, 3, 4] [] rfl rfl rfl rfl (by decide) (ci := 2) (q0 := 0) rfl rfl (As := [.int (iI (z + 1))]) rfl hl.1 rfl (Nat.le_of_ble_eq_true rfl) dX2_intAt_9 ⟨Nat.zero_le _, Nat.zero_le _⟩ (fun r u H locs hp S => ?_)
  obtain ⟨rfl, rfl⟩ := hp
  have S := S.sub (ws' := [(hC, .inr (2, [.ref hB, .ref hV, .ref aC, .int (iI (v1)), .int (iI (v2))])), (aC, .inl (cA 0, 64, .inl (fun y_ => iI (pl y_)))), (hV, .inr (8, [.ref hB, .int (iI (chs d)), .int (iI (gRoot d)), .int (iI (gN d)), .int (iI (gSz d)), .int (iI (gT d)), .int (iI (gTB d)), .int (iI (gTA d)), .int (iI (gCA d))])), (hB, .inr (0, [.ref aB])), (aB, .inl (cA 1, 2048, .inl (fun y_ => bI (d y_))))]) [0, 1, 2, 3, 4] rfl rfl
  have hb2 := By.rd hd (plc d (first) (z + 1))
  refine lv_bipush (v := iI (8)) C0.1 C0.2.1 dX2_intAt_12 (by decide) ?_
  refine lv_ishl C0.1 C0.2.1 dX2_intAt_14 ?_
  refine k_topeq (v := iI (rd d (plc d (first) (z + 1)) * 256)) (iI_shl8 (by omega) (by omega)) ?_
  refine lv_ior C0.1 C0.2.1 dX2_intAt_15 ?_
  refine k_topeq (v := iI (rd d (plc d (first) (z)) + rd d (plc d (first) (z + 1)) * 256)) (iI_or8 (by omega) (by omega) (by omega)) ?_
  refine lv_aload_n C0.1 C0.2.1 dX2_intAt_16 rfl (lv_at hl 0 rfl) ?_
  refine lv_iload_n C0.1 C0.2.1 dX2_intAt_17 rfl (lv_at hl 1 rfl) ?_
  refine lv_iconst (v := iI (2)) C0.1 C0.2.1 dX2_intAt_18 rfl ?_
  refine k_iadd C0 dX2_intAt_19 ?_
  refine k_calli (n := 1) (wr := []) C0 S (c_X2_byteAt l D cA hC aC hV hB aB d (v1) (v2) pl (first) (z + 2) hd hB2 hT (by omega) (by omega)) gX2_intAt_X2_byteAt rfl ⟨rfl, rfl⟩ (by decide +kernel) ⟨Nat.le_of_ble_eq_true rfl, Nat.le_of_ble_eq_true rfl⟩ [0, 1, 2, 3, 4] [] rfl rfl rfl rfl (by decide) (ci := 2) (q0 := 0) rfl rfl (As := [.int (iI (z + 2))]) rfl hl.1 rfl (Nat.le_of_ble_eq_true rfl) dX2_intAt_20 ⟨Nat.zero_le _, Nat.zero_le _⟩ (fun r u H locs hp S => ?_)
  obtain ⟨rfl, rfl⟩ := hp
  have S := S.sub (ws' := [(hC, .inr (2, [.ref hB, .ref hV, .ref aC, .int (iI (v1)), .int (iI (v2))])), (aC, .inl (cA 0, 64, .inl (fun y_ => iI (pl y_)))), (hV, .inr (8, [.ref hB, .int (iI (chs d)), .int (iI (gRoot d)), .int (iI (gN d)), .int (iI (gSz d)), .int (iI (gT d)), .int (iI (gTB d)), .int (iI (gTA d)), .int (iI (gCA d))])), (hB, .inr (0, [.ref aB])), (aB, .inl (cA 1, 2048, .inl (fun y_ => bI (d y_))))]) [0, 1, 2, 3, 4] rfl rfl
  have hb3 := By.rd hd (plc d (first) (z + 2))
  refine lv_bipush (v := iI (16)) C0.1 C0.2.1 dX2_intAt_23 (by decide) ?_
  refine lv_ishl C0.1 C0.2.1 dX2_intAt_25 ?_
  refine k_topeq (v := iI (rd d (plc d (first) (z + 2)) * 65536)) (iI_shl16 (by omega) (by omega)) ?_
  refine lv_ior C0.1 C0.2.1 dX2_intAt_26 ?_
  refine k_topeq (v := iI (rd d (plc d (first) (z)) + rd d (plc d (first) (z + 1)) * 256 + rd d (plc d (first) (z + 2)) * 65536)) (iI_or16 (by omega) (by omega) (by omega)) ?_
  refine lv_aload_n C0.1 C0.2.1 dX2_intAt_27 rfl (lv_at hl 0 rfl) ?_
  refine lv_iload_n C0.1 C0.2.1 dX2_intAt_28 rfl (lv_at hl 1 rfl) ?_
  refine lv_iconst (v := iI (3)) C0.1 C0.2.1 dX2_intAt_29 rfl ?_
  refine k_iadd C0 dX2_intAt_30 ?_
  refine k_calli (n := 1) (wr := []) C0 S (c_X2_byteAt l D cA hC aC hV hB aB d (v1) (v2) pl (first) (z + 3) hd hB2 hT (by omega) (by omega)) gX2_intAt_X2_byteAt rfl ⟨rfl, rfl⟩ (by decide +kernel) ⟨Nat.le_of_ble_eq_true rfl, Nat.le_of_ble_eq_true rfl⟩ [0, 1, 2, 3, 4] [] rfl rfl rfl rfl (by decide) (ci := 2) (q0 := 0) rfl rfl (As := [.int (iI (z + 3))]) rfl hl.1 rfl (Nat.le_of_ble_eq_true rfl) dX2_intAt_31 ⟨Nat.zero_le _, Nat.zero_le _⟩ (fun r u H locs hp S => ?_)
  obtain ⟨rfl, rfl⟩ := hp
  have S := S.sub (ws' := [(hC, .inr (2, [.ref hB, .ref hV, .ref aC, .int (iI (v1)), .int (iI (v2))])), (aC, .inl (cA 0, 64, .inl (fun y_ => iI (pl y_)))), (hV, .inr (8, [.ref hB, .int (iI (chs d)), .int (iI (gRoot d)), .int (iI (gN d)), .int (iI (gSz d)), .int (iI (gT d)), .int (iI (gTB d)), .int (iI (gTA d)), .int (iI (gCA d))])), (hB, .inr (0, [.ref aB])), (aB, .inl (cA 1, 2048, .inl (fun y_ => bI (d y_))))]) [0, 1, 2, 3, 4] rfl rfl
  have hb4 := By.rd hd (plc d (first) (z + 3))
  refine lv_bipush (v := iI (24)) C0.1 C0.2.1 dX2_intAt_34 (by decide) ?_
  refine lv_ishl C0.1 C0.2.1 dX2_intAt_36 ?_
  refine k_topeq (v := iI (rd d (plc d (first) (z + 3)) * 16777216)) (iI_shl24 (by omega) (by omega)) ?_
  refine lv_ior C0.1 C0.2.1 dX2_intAt_37 ?_
  refine k_topeq (v := iI (cInt d first z)) (iI_or24 (by omega) (by omega) (by omega)) ?_
  subst hQ
  refine k_iret C0 S hAe hsz hr hlk dX2_intAt_38 ?_
  exact ⟨rfl, rfl⟩
def rmX2_nextEntry : Room := { frames := 1, cells := 0, slots := 0, locals := 22 }
set_option maxHeartbeats 4000000 in
set_option maxRecDepth 100000 in
theorem c_X2_nextEntry (l : Launch) (D : va_G) (cA : Nat → ClassId) (hC aC hV hB aB : Nat) (d : Nat → Int) (v1 s0 : Int) (pl : Nat → Int) (first : Int) (hd : By d) (hB2 : gB d) (hT : Tr d first v1 pl) (hs0 : 0 ≤ s0) (hs1 : s0 ≤ 256) : kCi l D vwCl (kTys cA) yX2_nextEntry wsX2_nextEntry rmX2_nextEntry [.ref hC] [(hC, .inr (2, [.ref hB, .ref hV, .ref aC, .int (iI (v1)), .int (iI (s0))])), (aC, .inl (cA 0, 64, .inl (fun y_ => iI (pl y_)))), (hV, .inr (8, [.ref hB, .int (iI (chs d)), .int (iI (gRoot d)), .int (iI (gN d)), .int (iI (gSz d)), .int (iI (gT d)), .int (iI (gTB d)), .int (iI (gTA d)), .int (iI (gCA d))])), (hB, .inr (0, [.ref aB])), (aB, .inl (cA 1, 2048, .inl (fun y_ => bI (d y_))))] (fun r u => ∃ (a t : Int), r = iI a ∧ u = [(hC, .inr (2, [.ref hB, .ref hV, .ref aC, .int (iI (v1)), .int (iI (t))])), (aC, .inl (cA 0, 64, .inl (fun y_ => iI (pl y_)))), (hV, .inr (8, [.ref hB, .int (iI (chs d)), .int (iI (gRoot d)), .int (iI (gN d)), .int (iI (gSz d)), .int (iI (gT d)), .int (iI (gTB d)), .int (iI (gTA d)), .int (iI (gCA d))])), (hB, .inr (0, [.ref aB])), (aB, .inl (cA 1, 2048, .inl (fun y_ => bI (d y_))))] ∧ NX d first (chn d first) s0 a t ∧ (0 ≤ t ∧ t ≤ 256) ∧ (a = -1 ∨ (0 ≤ a ∧ a + 8 ≤ 2048))) := by
  intro sz
  refine kEntry (cc := cX2_nextEntry) (maxL := 4) (ret := (some .int)) (by decide) rfl (Nat.le_of_ble_eq_true rfl) ?_
  intro p e s m args below meth c A Q hAe hQ C0 hr hlk S hsz ls hl
  have hl : lv_has ls 4 [(0, .ref hC)] := hl
  obtain ⟨⟨g1, g2⟩, g3, ⟨g4, g5⟩, g6, ⟨g7, g8⟩, ⟨g9, g10⟩, g11, ⟨g12, g13⟩, g14⟩ := hB2.lin
  obtain ⟨n1, n2⟩ := nsl_range hB2 hT.1
  have nb := nsl_bytes (d := d) (chn d first)
  have hT2 := hT.2.1
  refine lv_aload_n C0.1 C0.2.1 dX2_nextEntry_0 rfl (lv_at hl 0 rfl) ?_
  refine k_calli (n := 0) (wr := []) C0 S (c_X2_bytes l D cA hC aC hV hB aB d (v1) (s0) pl hd hB2) gX2_nextEntry_X2_bytes rfl ⟨rfl, rfl⟩ (by decide +kernel) ⟨Nat.le_of_ble_eq_true rfl, Nat.le_of_ble_eq_true rfl⟩ [0, 1, 2, 3, 4] [] rfl rfl rfl rfl (by decide) (ci := 2) (q0 := 0) rfl rfl (As := []) rfl hl.1 rfl (Nat.le_of_ble_eq_true rfl) dX2_nextEntry_1 ⟨Nat.zero_le _, Nat.zero_le _⟩ (fun r u H locs hp S => ?_)
  obtain ⟨rfl, rfl⟩ := hp
  have S := S.sub (ws' := [(hC, .inr (2, [.ref hB, .ref hV, .ref aC, .int (iI (v1)), .int (iI (s0))])), (aC, .inl (cA 0, 64, .inl (fun y_ => iI (pl y_)))), (hV, .inr (8, [.ref hB, .int (iI (chs d)), .int (iI (gRoot d)), .int (iI (gN d)), .int (iI (gSz d)), .int (iI (gT d)), .int (iI (gTB d)), .int (iI (gTA d)), .int (iI (gCA d))])), (hB, .inr (0, [.ref aB])), (aB, .inl (cA 1, 2048, .inl (fun y_ => bI (d y_))))]) [0, 1, 2, 3, 4] rfl rfl
  refine lv_bipush (v := iI (8)) C0.1 C0.2.1 dX2_nextEntry_4 (by decide) ?_
  have hv1 : v1 * gSz d = 8 * nsl d (chn d first) := by rw [hT2, nb]
  refine k_idiv C0 (by constructor <;> omega) (by omega) (by omega) dX2_nextEntry_6 ?_
  refine k_topeq (v := iI (nsl d (chn d first))) (congrArg iI (by rw [hv1, Int.tdiv_eq_ediv_of_nonneg (by omega)]; omega)) ?_
  refine lv_istore_n (lv' := [(1, .int (iI (nsl d (chn d first)))), (0, .ref hC)]) C0.1 C0.2.1 dX2_nextEntry_7 rfl hl (by decide) rfl (fun ls hl => ?_)
  have L8 : ∀ (n_ : Nat) (s1 : Int), (s0 ≤ s1 ∧ s1 ≤ 256) → (∀ j, s0 ≤ j → j < s1 → 0 ≤ ent d first (chn d first) j ∧ pas d (ent d first (chn d first) j)) → ((256 - s1).toNat < n_) → ∀ (H : Heap) (locs : List Loc), kS D vwCl (kTys cA) A s [(hC, .inr (2, [.ref hB, .ref hV, .ref aC, .int (iI (v1)), .int (iI (s1))])), (aC, .inl (cA 0, 64, .inl (fun y_ => iI (pl y_)))), (hV, .inr (8, [.ref hB, .int (iI (chs d)), .int (iI (gRoot d)), .int (iI (gN d)), .int (iI (gSz d)), .int (iI (gT d)), .int (iI (gTB d)), .int (iI (gTA d)), .int (iI (gCA d))])), (hB, .inr (0, [.ref aB])), (aB, .inl (cA 1, 2048, .inl (fun y_ => bI (d y_))))] H locs → ∀ ls : Array Slot, lv_has ls 4 [(1, .int (iI (nsl d (chn d first)))), (0, .ref hC)] → W p l e rmX2_nextEntry s m args below meth c H locs 0 0 Q (F0 m 8 ls []) := by
    intro n_
    induction n_ with
    | zero => intro s1 hi8_0 hi8_1 hm; exact absurd hm (Nat.not_lt_zero _)
    | succ n_ ih8 =>
      intro s1 hi8_0 hi8_1 hm H locs S ls hl
      refine lv_aload_n C0.1 C0.2.1 dX2_nextEntry_8 rfl (lv_at hl 1 rfl) ?_
      refine k_get C0 S (C := RX2) (T := TX2) (N := 5) (ci := 2) (by decide +kernel) 0 rfl rfl 4 (by decide) (by decide +kernel) (v := .int (iI (s1))) rfl dX2_nextEntry_9 ?_
      refine lv_iload_n C0.1 C0.2.1 dX2_nextEntry_12 rfl (lv_at hl 0 rfl) ?_
      refine k_icmp_ge (tgt := 81) C0 (by constructor <;> omega) (by constructor <;> omega) dX2_nextEntry_13 (by decide) (fun c13 => ?_) (fun c13 => ?_)
      · refine lv_iconst (v := iI (-1)) C0.1 C0.2.1 dX2_nextEntry_81 rfl ?_
        subst hQ
        refine k_iret C0 S hAe hsz hr hlk dX2_nextEntry_82 ?_
        exact ⟨-1, s1, rfl, rfl, Or.inl ⟨rfl, by omega, ent_neg c13, hi8_1⟩, ⟨by omega, by omega⟩, Or.inl rfl⟩
      · refine lv_aload_n C0.1 C0.2.1 dX2_nextEntry_16 rfl (lv_at hl 1 rfl) ?_
        refine lv_aload_n C0.1 C0.2.1 dX2_nextEntry_17 rfl (lv_at hl 1 rfl) ?_
        refine k_get C0 S (C := RX2) (T := TX2) (N := 5) (ci := 2) (by decide +kernel) 0 rfl rfl 4 (by decide) (by decide +kernel) (v := .int (iI (s1))) rfl dX2_nextEntry_18 ?_
        refine lv_bipush (v := iI (8)) C0.1 C0.2.1 dX2_nextEntry_21 (by decide) ?_
        refine k_imul C0 dX2_nextEntry_23 ?_
        refine k_calli (n := 1) (wr := []) C0 S (c_X2_placeOf l D cA hC aC hV hB aB d (v1) (s1) pl (first) (s1 * 8) hd hB2 hT (by omega) (by omega)) gX2_nextEntry_X2_placeOf rfl ⟨rfl, rfl⟩ (by decide +kernel) ⟨Nat.le_of_ble_eq_true rfl, Nat.le_of_ble_eq_true rfl⟩ [0, 1, 2, 3, 4] [] rfl rfl rfl rfl (by decide) (ci := 2) (q0 := 0) rfl rfl (As := [.int (iI (s1 * 8))]) rfl hl.1 rfl (Nat.le_of_ble_eq_true rfl) dX2_nextEntry_24 ⟨Nat.zero_le _, Nat.zero_le _⟩ (fun r u H locs hp S => ?_)
        obtain ⟨rfl, rfl⟩ := hp
        have S := S.sub (ws' := [(hC, .inr (2, [.ref hB, .ref hV, .ref aC, .int (iI (v1)), .int (iI (s1))])), (aC, .inl (cA 0, 64, .inl (fun y_ => iI (pl y_)))), (hV, .inr (8, [.ref hB, .int (iI (chs d)), .int (iI (gRoot d)), .int (iI (gN d)), .int (iI (gSz d)), .int (iI (gT d)), .int (iI (gTB d)), .int (iI (gTA d)), .int (iI (gCA d))])), (hB, .inr (0, [.ref aB])), (aB, .inl (cA 1, 2048, .inl (fun y_ => bI (d y_))))]) [0, 1, 2, 3, 4] rfl rfl
        have hp1 := plc_range hB2 (first := first) (i := s1 * 8) hT.1 (by omega) (by omega)
        refine lv_istore_n (lv' := [(2, .int (iI (plc d (first) (s1 * 8)))), (1, .int (iI (nsl d (chn d first)))), (0, .ref hC)]) C0.1 C0.2.1 dX2_nextEntry_27 rfl hl (by decide) rfl (fun ls hl => ?_)
        refine lv_aload_n C0.1 C0.2.1 dX2_nextEntry_28 rfl (lv_at hl 2 rfl) ?_
        refine k_get C0 S (C := RX2) (T := TX2) (N := 5) (ci := 2) (by decide +kernel) 0 rfl rfl 0 (by decide) (by decide +kernel) (v := .ref hB) rfl dX2_nextEntry_29 ?_
        refine lv_iload_n C0.1 C0.2.1 dX2_nextEntry_32 rfl (lv_at hl 0 rfl) ?_
        refine k_calli (n := 1) (wr := [(hC, .inr (2, [.ref hB, .ref hV, .ref aC, .int (iI (v1)), .int (iI (s1))])), (aC, .inl (cA 0, 64, .inl (fun y_ => iI (pl y_)))), (hV, .inr (8, [.ref hB, .int (iI (chs d)), .int (iI (gRoot d)), .int (iI (gN d)), .int (iI (gSz d)), .int (iI (gT d)), .int (iI (gTB d)), .int (iI (gTA d)), .int (iI (gCA d))]))]) C0 S (c_X0_byteAt l D cA hB aB 2048 d (plc d (first) (s1 * 8)) hd (by constructor <;> omega) (by omega)) gX2_nextEntry_X0_byteAt rfl ⟨rfl, rfl⟩ (by decide +kernel) ⟨Nat.le_of_ble_eq_true rfl, Nat.le_of_ble_eq_true rfl⟩ [3, 4] [0, 1, 2] rfl rfl rfl rfl (by decide) (ci := 0) (q0 := 0) rfl rfl (As := [.int (iI (plc d (first) (s1 * 8)))]) rfl hl.1 rfl (Nat.le_of_ble_eq_true rfl) dX2_nextEntry_33 ⟨Nat.zero_le _, Nat.zero_le _⟩ (fun r u H locs hp S => ?_)
        obtain ⟨rfl, rfl⟩ := hp
        have S := S.sub (ws' := [(hC, .inr (2, [.ref hB, .ref hV, .ref aC, .int (iI (v1)), .int (iI (s1))])), (aC, .inl (cA 0, 64, .inl (fun y_ => iI (pl y_)))), (hV, .inr (8, [.ref hB, .int (iI (chs d)), .int (iI (gRoot d)), .int (iI (gN d)), .int (iI (gSz d)), .int (iI (gT d)), .int (iI (gTB d)), .int (iI (gTA d)), .int (iI (gCA d))])), (hB, .inr (0, [.ref aB])), (aB, .inl (cA 1, 2048, .inl (fun y_ => bI (d y_))))]) [0, 1, 2, 3, 4] rfl rfl
        rw [bAt_in (n := 2048) (z := plc d (first) (s1 * 8)) (by omega) (by omega)]
        have hb2 := By.rd hd (plc d (first) (s1 * 8))
        refine lv_istore_n (lv' := [(3, .int (iI (rd d (plc d (first) (s1 * 8))))), (2, .int (iI (plc d (first) (s1 * 8)))), (1, .int (iI (nsl d (chn d first)))), (0, .ref hC)]) C0.1 C0.2.1 dX2_nextEntry_36 rfl hl (by decide) rfl (fun ls hl => ?_)
        refine lv_iload_n C0.1 C0.2.1 dX2_nextEntry_37 rfl (lv_at hl 0 rfl) ?_
        refine k_if_ne (tgt := 43) C0 (by constructor <;> omega) dX2_nextEntry_38 (by decide) (fun c38 => ?_) (fun c38 => ?_)
        · refine lv_aload_n C0.1 C0.2.1 dX2_nextEntry_43 rfl (lv_at hl 3 rfl) ?_
          refine lv_dup C0.1 C0.2.1 dX2_nextEntry_44 rfl ?_
          refine k_get C0 S (C := RX2) (T := TX2) (N := 5) (ci := 2) (by decide +kernel) 0 rfl rfl 4 (by decide) (by decide +kernel) (v := .int (iI (s1))) rfl dX2_nextEntry_45 ?_
          refine lv_iconst (v := iI (1)) C0.1 C0.2.1 dX2_nextEntry_48 rfl ?_
          refine k_iadd C0 dX2_nextEntry_49 ?_
          refine k_put (ws' := [(hC, .inr (2, [.ref hB, .ref hV, .ref aC, .int (iI (v1)), .int (iI (s1 + 1))])), (aC, .inl (cA 0, 64, .inl (fun y_ => iI (pl y_)))), (hV, .inr (8, [.ref hB, .int (iI (chs d)), .int (iI (gRoot d)), .int (iI (gN d)), .int (iI (gSz d)), .int (iI (gT d)), .int (iI (gTB d)), .int (iI (gTA d)), .int (iI (gCA d))])), (hB, .inr (0, [.ref aB])), (aB, .inl (cA 1, 2048, .inl (fun y_ => bI (d y_))))]) C0 S (C := RX2) (T := TX2) (N := 5) (ci := 2) (by decide +kernel) tyX2 tyX2_ok nmX2 0 rfl rfl 4 (by decide) (by decide +kernel) rfl (v := .int (iI (s1 + 1))) rfl rfl (Nat.le_of_ble_eq_true rfl) dX2_nextEntry_50 rfl (fun H locs S => ?_)
          refine lv_iload_n C0.1 C0.2.1 dX2_nextEntry_53 rfl (lv_at hl 0 rfl) ?_
          refine lv_sipush (v := iI (229)) C0.1 C0.2.1 dX2_nextEntry_54 (by decide) ?_
          refine k_icmp_eq (tgt := 78) C0 (by constructor <;> omega) ⟨by decide, by decide⟩ dX2_nextEntry_57 (by decide) (fun c57 => ?_) (fun c57 => ?_)
          · refine lv_goto (tgt := 8) C0.1 C0.2.1 dX2_nextEntry_78 (by decide) ?_
            have hpa : pas d (plc d first (s1 * 8)) := by unfold pas; omega
            rw [Int.mul_comm] at hpa c38
            have hea := ent_at (len := chn d first) (show ¬ nsl d (chn d first) ≤ s1 by omega) c38
            have hnx : ∀ j, s0 ≤ j → j < s1 + 1 → 0 ≤ ent d first (chn d first) j ∧ pas d (ent d first (chn d first) j) := by
              intro j h1 h2
              rcases Int.lt_or_le j s1 with h | h
              · exact hi8_1 j h1 h
              · rw [show j = s1 by omega, hea]
                exact ⟨(plc_range hB2 hT.1 (i := 8 * s1) (by omega) (by omega)).1.1, hpa⟩
            exact ih8 (s1 + 1) ⟨by omega, by omega⟩ hnx (by omega) _ _ S _ (lv_sub hl [2, 3] rfl)
          · refine lv_aload_n C0.1 C0.2.1 dX2_nextEntry_60 rfl (lv_at hl 3 rfl) ?_
            refine k_get C0 S (C := RX2) (T := TX2) (N := 5) (ci := 2) (by decide +kernel) 0 rfl rfl 0 (by decide) (by decide +kernel) (v := .ref hB) rfl dX2_nextEntry_61 ?_
            refine lv_iload_n C0.1 C0.2.1 dX2_nextEntry_64 rfl (lv_at hl 1 rfl) ?_
            refine lv_iconst (v := iI (4)) C0.1 C0.2.1 dX2_nextEntry_65 rfl ?_
            refine k_iadd C0 dX2_nextEntry_66 ?_
            refine k_calli (n := 1) (wr := [(hC, .inr (2, [.ref hB, .ref hV, .ref aC, .int (iI (v1)), .int (iI (s1 + 1))])), (aC, .inl (cA 0, 64, .inl (fun y_ => iI (pl y_)))), (hV, .inr (8, [.ref hB, .int (iI (chs d)), .int (iI (gRoot d)), .int (iI (gN d)), .int (iI (gSz d)), .int (iI (gT d)), .int (iI (gTB d)), .int (iI (gTA d)), .int (iI (gCA d))]))]) C0 S (c_X0_byteAt l D cA hB aB 2048 d ((plc d (first) (s1 * 8)) + 4) hd (by constructor <;> omega) (by omega)) gX2_nextEntry_X0_byteAt rfl ⟨rfl, rfl⟩ (by decide +kernel) ⟨Nat.le_of_ble_eq_true rfl, Nat.le_of_ble_eq_true rfl⟩ [3, 4] [0, 1, 2] rfl rfl rfl rfl (by decide) (ci := 0) (q0 := 0) rfl rfl (As := [.int (iI ((plc d (first) (s1 * 8)) + 4))]) rfl hl.1 rfl (Nat.le_of_ble_eq_true rfl) dX2_nextEntry_67 ⟨Nat.zero_le _, Nat.zero_le _⟩ (fun r u H locs hp S => ?_)
            obtain ⟨rfl, rfl⟩ := hp
            have S := S.sub (ws' := [(hC, .inr (2, [.ref hB, .ref hV, .ref aC, .int (iI (v1)), .int (iI (s1 + 1))])), (aC, .inl (cA 0, 64, .inl (fun y_ => iI (pl y_)))), (hV, .inr (8, [.ref hB, .int (iI (chs d)), .int (iI (gRoot d)), .int (iI (gN d)), .int (iI (gSz d)), .int (iI (gT d)), .int (iI (gTB d)), .int (iI (gTA d)), .int (iI (gCA d))])), (hB, .inr (0, [.ref aB])), (aB, .inl (cA 1, 2048, .inl (fun y_ => bI (d y_))))]) [0, 1, 2, 3, 4] rfl rfl
            rw [bAt_in (n := 2048) (z := (plc d (first) (s1 * 8)) + 4) (by omega) (by omega)]
            have hb3 := By.rd hd ((plc d (first) (s1 * 8)) + 4)
            have q4 := By.rd hd (plc d (first) (s1 * 8) + 4)
            refine lv_bipush (v := iI (8)) C0.1 C0.2.1 dX2_nextEntry_70 (by decide) ?_
            refine lv_iand C0.1 C0.2.1 dX2_nextEntry_72 ?_
            refine k_topeq (v := iI (8 * (rd d (plc d (first) (s1 * 8) + 4) / 8 % 2))) (iI_bit8 (By.rd hd _).1 (By.rd hd _).2) ?_
            refine k_if_ne (tgt := 78) C0 (by constructor <;> omega) dX2_nextEntry_73 (by decide) (fun c73 => ?_) (fun c73 => ?_)
            · refine lv_goto (tgt := 8) C0.1 C0.2.1 dX2_nextEntry_78 (by decide) ?_
              have hpa : pas d (plc d first (s1 * 8)) := by unfold pas; omega
              rw [Int.mul_comm] at hpa c38
              have hea := ent_at (len := chn d first) (show ¬ nsl d (chn d first) ≤ s1 by omega) c38
              have hnx : ∀ j, s0 ≤ j → j < s1 + 1 → 0 ≤ ent d first (chn d first) j ∧ pas d (ent d first (chn d first) j) := by
                intro j h1 h2
                rcases Int.lt_or_le j s1 with h | h
                · exact hi8_1 j h1 h
                · rw [show j = s1 by omega, hea]
                  exact ⟨(plc_range hB2 hT.1 (i := 8 * s1) (by omega) (by omega)).1.1, hpa⟩
              exact ih8 (s1 + 1) ⟨by omega, by omega⟩ hnx (by omega) _ _ S _ (lv_sub hl [2, 3] rfl)
            · refine lv_iload_n C0.1 C0.2.1 dX2_nextEntry_76 rfl (lv_at hl 1 rfl) ?_
              subst hQ
              refine k_iret C0 S hAe hsz hr hlk dX2_nextEntry_77 ?_
              have hpa : ¬ pas d (plc d first (s1 * 8)) := by unfold pas; omega
              have hpr := plc_range hB2 hT.1 (i := s1 * 8) (by omega) (by omega)
              have hpr3 := hpr.2.2 (by omega)
              refine ⟨_, _, rfl, rfl, Or.inr ⟨hpr.1.1, by omega, ?_, hpa, fun j h1 h2 => hi8_1 j h1 (by omega)⟩, ⟨by omega, by omega⟩, Or.inr ⟨hpr.1.1, hpr3⟩⟩
              rw [show s1 + 1 - 1 = s1 by omega, Int.mul_comm s1 8]
              rw [Int.mul_comm] at c38
              exact ent_at (by omega) c38
        · refine lv_iconst (v := iI (-1)) C0.1 C0.2.1 dX2_nextEntry_41 rfl ?_
          subst hQ
          refine k_iret C0 S hAe hsz hr hlk dX2_nextEntry_42 ?_
          rw [Int.mul_comm] at c38
          exact ⟨-1, s1, rfl, rfl, Or.inl ⟨rfl, by omega, ent_zero c38, hi8_1⟩, ⟨by omega, by omega⟩, Or.inl rfl⟩
  exact L8 (257) (s0) ⟨by omega, by omega⟩ (fun j h1 h2 => absurd h2 (by omega)) (by omega) _ _ S _ (lv_sub hl [0, 1] rfl)
