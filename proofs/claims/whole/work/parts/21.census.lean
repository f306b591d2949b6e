def rm_cd5 : Room := { frames := 0, cells := 0, slots := 0, locals := 0 }
set_option maxHeartbeats 4000000 in
set_option maxRecDepth 100000 in
theorem c_cd5 (l : Launch) (D : va_G) (cA : Nat → ClassId) (hZ aG hV hB aB g0 g1 g2 g3 g4  : Nat) (m0 k0  : Int) (d  : Nat → Int) (z : Int) (hd : By d) (hB2 : gB d) (hz1 : 0 ≤ z) (hz2 : z < 256) (hk0 : 0 ≤ k0) (hk1 : k0 ≤ m0) (hm0 : m0 ≤ 250) : kCi l D vwCl (kTys cA) yX1_countDirectory wsX1_countDirectory rm_cd5 [.ref hZ, .int (iI (z)), .int (iI (5))] [(hZ, .inr (1, [.ref hV, .ref aG, .int (iI (m0)), .int (iI (k0))])), (aG, .inl (cA 2, 5, .inr (.inr (.inr (.inr ((lvf g0 g1 g2 g3 g4))))))), (hV, .inr (8, [.ref hB, .int (iI (chs d)), .int (iI (gRoot d)), .int (iI (gN d)), .int (iI (gSz d)), .int (iI (gT d)), .int (iI (gTB d)), .int (iI (gTA d)), .int (iI (gCA d))])), (hB, .inr (0, [.ref aB])), (aB, .inl (cA 1, 2048, .inl (fun y_ => bI (d y_))))] (fun r u => ∃ (c_ m_ k_  : Int), r = iI c_ ∧ u = [(hZ, .inr (1, [.ref hV, .ref aG, .int (iI (m_)), .int (iI (k_))])), (aG, .inl (cA 2, 5, .inr (.inr (.inr (.inr ((lvf g0 g1 g2 g3 g4))))))), (hV, .inr (8, [.ref hB, .int (iI (chs d)), .int (iI (gRoot d)), .int (iI (gN d)), .int (iI (gSz d)), .int (iI (gT d)), .int (iI (gTB d)), .int (iI (gTA d)), .int (iI (gCA d))])), (hB, .inr (0, [.ref aB])), (aB, .inl (cA 1, 2048, .inl (fun y_ => bI (d y_))))] ∧ cen d 0 z m0 k0 = (c_, m_, k_) ∧ CB c_ m_ k_) := by
  intro sz
  refine kEntry (cc := cX1_countDirectory) (maxL := 7) (ret := (some .int)) (by decide) rfl (Nat.le_of_ble_eq_true rfl) ?_
  intro p e s m args below meth c A Q hAe hQ C0 hr hlk S hsz ls hl
  have hl : lv_has ls 7 [(0, .ref hZ), (1, .int (iI (z))), (2, .int (iI (5)))] := hl
  refine lv_iload_n C0.1 C0.2.1 dX1_countDirectory_0 rfl (lv_at hl 2 rfl) ?_
  refine lv_iconst (v := iI (5)) C0.1 C0.2.1 dX1_countDirectory_1 rfl ?_
  refine k_icmp_lt (tgt := 8) C0 ⟨by decide, by decide⟩ ⟨by decide, by decide⟩ dX1_countDirectory_2 (by decide) (fun hc => absurd hc (by decide)) (fun _ => ?_)
  refine lv_bipush (v := iI (-13)) C0.1 C0.2.1 dX1_countDirectory_5 (by decide) ?_
  subst hQ
  refine k_iret C0 S hAe hsz hr hlk dX1_countDirectory_7 ?_
  exact ⟨_, _, _, rfl, rfl, rfl, ⟨by decide, by decide⟩, ⟨by omega, by omega, by omega⟩, fun h => absurd h (by decide)⟩
def rm_ce4 : Room := { frames := 2, cells := 0, slots := 0, locals := 42 }
set_option maxHeartbeats 4000000 in
set_option maxRecDepth 100000 in
theorem c_ce4 (l : Launch) (D : va_G) (cA : Nat → ClassId) (hZ aG hV hB aB g0 g1 g2 g3 g4  : Nat) (m0 k0  : Int) (d  : Nat → Int) (z : Int) (hd : By d) (hB2 : gB d) (hz1 : 0 ≤ z) (hz2 : z < 2041) (hk0 : 0 ≤ k0) (hk1 : k0 ≤ m0) (hm0 : m0 ≤ 250) : kCi l D vwCl (kTys cA) yX1_countEntry wsX1_countEntry rm_ce4 [.ref hZ, .int (iI (z)), .int (iI (4))] [(hZ, .inr (1, [.ref hV, .ref aG, .int (iI (m0)), .int (iI (k0))])), (aG, .inl (cA 2, 5, .inr (.inr (.inr (.inr ((lvf g0 g1 g2 g3 g4))))))), (hV, .inr (8, [.ref hB, .int (iI (chs d)), .int (iI (gRoot d)), .int (iI (gN d)), .int (iI (gSz d)), .int (iI (gT d)), .int (iI (gTB d)), .int (iI (gTA d)), .int (iI (gCA d))])), (hB, .inr (0, [.ref aB])), (aB, .inl (cA 1, 2048, .inl (fun y_ => bI (d y_))))] (fun r u => ∃ (c_ m_ k_  : Int), r = iI c_ ∧ u = [(hZ, .inr (1, [.ref hV, .ref aG, .int (iI (m_)), .int (iI (k_))])), (aG, .inl (cA 2, 5, .inr (.inr (.inr (.inr ((lvf g0 g1 g2 g3 g4))))))), (hV, .inr (8, [.ref hB, .int (iI (chs d)), .int (iI (gRoot d)), .int (iI (gN d)), .int (iI (gSz d)), .int (iI (gT d)), .int (iI (gTB d)), .int (iI (gTA d)), .int (iI (gCA d))])), (hB, .inr (0, [.ref aB])), (aB, .inl (cA 1, 2048, .inl (fun y_ => bI (d y_))))] ∧ cet d 0 z m0 k0 = (c_, m_, k_) ∧ CB c_ m_ k_) := by
  intro sz
  refine kEntry (cc := cX1_countEntry) (maxL := 3) (ret := (some .int)) (by decide) rfl (Nat.le_of_ble_eq_true rfl) ?_
  intro p e s m args below meth c A Q hAe hQ C0 hr hlk S hsz ls hl
  have hl : lv_has ls 3 [(0, .ref hZ), (1, .int (iI (z))), (2, .int (iI (4)))] := hl
  refine lv_aload_n C0.1 C0.2.1 dX1_countEntry_0 rfl (lv_at hl 0 rfl) ?_
  refine lv_dup C0.1 C0.2.1 dX1_countEntry_1 rfl ?_
  refine k_get C0 S (C := RX1) (T := TX1) (N := 4) (ci := 1) (by decide +kernel) 0 rfl rfl 2 (by decide) (by decide +kernel) (v := .int (iI (m0))) rfl dX1_countEntry_2 ?_
  refine lv_iconst (v := iI (1)) C0.1 C0.2.1 dX1_countEntry_5 rfl ?_
  refine k_iadd C0 dX1_countEntry_6 ?_
  refine k_put (ws' := [(hZ, .inr (1, [.ref hV, .ref aG, .int (iI (m0 + 1)), .int (iI (k0))])), (aG, .inl (cA 2, 5, .inr (.inr (.inr (.inr ((lvf g0 g1 g2 g3 g4))))))), (hV, .inr (8, [.ref hB, .int (iI (chs d)), .int (iI (gRoot d)), .int (iI (gN d)), .int (iI (gSz d)), .int (iI (gT d)), .int (iI (gTB d)), .int (iI (gTA d)), .int (iI (gCA d))])), (hB, .inr (0, [.ref aB])), (aB, .inl (cA 1, 2048, .inl (fun y_ => bI (d y_))))]) C0 S (C := RX1) (T := TX1) (N := 4) (ci := 1) (by decide +kernel) tyX1 tyX1_ok nmX1 0 rfl rfl 2 (by decide) (by decide +kernel) rfl (v := .int (iI (m0 + 1))) rfl rfl (Nat.le_of_ble_eq_true rfl) dX1_countEntry_7 rfl (fun H locs S => ?_)
  refine lv_aload_n C0.1 C0.2.1 dX1_countEntry_10 rfl (lv_at hl 0 rfl) ?_
  refine k_get C0 S (C := RX1) (T := TX1) (N := 4) (ci := 1) (by decide +kernel) 0 rfl rfl 2 (by decide) (by decide +kernel) (v := .int (iI (m0 + 1))) rfl dX1_countEntry_11 ?_
  refine lv_sipush (v := iI (250)) C0.1 C0.2.1 dX1_countEntry_14 (by decide) ?_
  refine k_icmp_le (tgt := 23) C0 (by constructor <;> omega) ⟨by decide, by decide⟩ dX1_countEntry_17 (by decide) (fun c17 => ?_) (fun c17 => ?_)
  · refine lv_aload_n C0.1 C0.2.1 dX1_countEntry_23 rfl (lv_at hl 0 rfl) ?_
    refine k_get C0 S (C := RX1) (T := TX1) (N := 4) (ci := 1) (by decide +kernel) 0 rfl rfl 0 (by decide) (by decide +kernel) (v := .ref hV) rfl dX1_countEntry_24 ?_
    refine lv_iload_n C0.1 C0.2.1 dX1_countEntry_27 rfl (lv_at hl 1 rfl) ?_
    refine k_calli (n := 1) (wr := [(hZ, .inr (1, [.ref hV, .ref aG, .int (iI (m0 + 1)), .int (iI (k0))])), (aG, .inl (cA 2, 5, .inr (.inr (.inr (.inr ((lvf g0 g1 g2 g3 g4)))))))]) C0 S (c_X8_isDirectory l D cA hV hB aB d (z) hd hB2 (by omega) (by omega)) gX1_countEntry_X8_isDirectory rfl ⟨rfl, rfl⟩ (by decide +kernel) ⟨Nat.le_of_ble_eq_true rfl, Nat.le_of_ble_eq_true rfl⟩ [2, 3, 4] [0, 1] rfl rfl rfl rfl (by decide) (ci := 8) (q0 := 0) rfl rfl (As := [.int (iI (z))]) rfl hl.1 rfl (Nat.le_of_ble_eq_true rfl) dX1_countEntry_28 ⟨Nat.zero_le _, Nat.zero_le _⟩ (fun r u H locs hp S => ?_)
    obtain ⟨rfl, rfl⟩ := hp
    have S := S.sub (ws' := [(hZ, .inr (1, [.ref hV, .ref aG, .int (iI (m0 + 1)), .int (iI (k0))])), (aG, .inl (cA 2, 5, .inr (.inr (.inr (.inr ((lvf g0 g1 g2 g3 g4))))))), (hV, .inr (8, [.ref hB, .int (iI (chs d)), .int (iI (gRoot d)), .int (iI (gN d)), .int (iI (gSz d)), .int (iI (gT d)), .int (iI (gTB d)), .int (iI (gTA d)), .int (iI (gCA d))])), (hB, .inr (0, [.ref aB])), (aB, .inl (cA 1, 2048, .inl (fun y_ => bI (d y_))))]) [0, 1, 2, 3, 4] rfl rfl
    refine k_bz_ne (tgt := 36) C0 dX1_countEntry_31 (by decide) (fun c31 => ?_) (fun c31 => ?_)
    · refine lv_aload_n C0.1 C0.2.1 dX1_countEntry_36 rfl (lv_at hl 0 rfl) ?_
      refine lv_dup C0.1 C0.2.1 dX1_countEntry_37 rfl ?_
      refine k_get C0 S (C := RX1) (T := TX1) (N := 4) (ci := 1) (by decide +kernel) 0 rfl rfl 3 (by decide) (by decide +kernel) (v := .int (iI (k0))) rfl dX1_countEntry_38 ?_
      refine lv_iconst (v := iI (1)) C0.1 C0.2.1 dX1_countEntry_41 rfl ?_
      refine k_iadd C0 dX1_countEntry_42 ?_
      refine k_put (ws' := [(hZ, .inr (1, [.ref hV, .ref aG, .int (iI (m0 + 1)), .int (iI (k0 + 1))])), (aG, .inl (cA 2, 5, .inr (.inr (.inr (.inr ((lvf g0 g1 g2 g3 g4))))))), (hV, .inr (8, [.ref hB, .int (iI (chs d)), .int (iI (gRoot d)), .int (iI (gN d)), .int (iI (gSz d)), .int (iI (gT d)), .int (iI (gTB d)), .int (iI (gTA d)), .int (iI (gCA d))])), (hB, .inr (0, [.ref aB])), (aB, .inl (cA 1, 2048, .inl (fun y_ => bI (d y_))))]) C0 S (C := RX1) (T := TX1) (N := 4) (ci := 1) (by decide +kernel) tyX1 tyX1_ok nmX1 0 rfl rfl 3 (by decide) (by decide +kernel) rfl (v := .int (iI (k0 + 1))) rfl rfl (Nat.le_of_ble_eq_true rfl) dX1_countEntry_43 rfl (fun H locs S => ?_)
      refine lv_aload_n C0.1 C0.2.1 dX1_countEntry_46 rfl (lv_at hl 0 rfl) ?_
      refine lv_aload_n C0.1 C0.2.1 dX1_countEntry_47 rfl (lv_at hl 0 rfl) ?_
      refine k_get C0 S (C := RX1) (T := TX1) (N := 4) (ci := 1) (by decide +kernel) 0 rfl rfl 0 (by decide) (by decide +kernel) (v := .ref hV) rfl dX1_countEntry_48 ?_
      refine lv_iload_n C0.1 C0.2.1 dX1_countEntry_51 rfl (lv_at hl 1 rfl) ?_
      refine k_calli (n := 1) (wr := [(hZ, .inr (1, [.ref hV, .ref aG, .int (iI (m0 + 1)), .int (iI (k0 + 1))])), (aG, .inl (cA 2, 5, .inr (.inr (.inr (.inr ((lvf g0 g1 g2 g3 g4)))))))]) C0 S (c_X8_firstClusterOf l D cA hV hB aB d (z) hd hB2 (by omega) (by omega)) gX1_countEntry_X8_firstClusterOf rfl ⟨rfl, rfl⟩ (by decide +kernel) ⟨Nat.le_of_ble_eq_true rfl, Nat.le_of_ble_eq_true rfl⟩ [2, 3, 4] [0, 1] rfl rfl rfl rfl (by decide) (ci := 8) (q0 := 0) rfl rfl (As := [.int (iI (z))]) rfl hl.1 rfl (Nat.le_of_ble_eq_true rfl) dX1_countEntry_52 ⟨Nat.zero_le _, Nat.zero_le _⟩ (fun r u H locs hp S => ?_)
      obtain ⟨rfl, rfl⟩ := hp
      have S := S.sub (ws' := [(hZ, .inr (1, [.ref hV, .ref aG, .int (iI (m0 + 1)), .int (iI (k0 + 1))])), (aG, .inl (cA 2, 5, .inr (.inr (.inr (.inr ((lvf g0 g1 g2 g3 g4))))))), (hV, .inr (8, [.ref hB, .int (iI (chs d)), .int (iI (gRoot d)), .int (iI (gN d)), .int (iI (gSz d)), .int (iI (gT d)), .int (iI (gTB d)), .int (iI (gTA d)), .int (iI (gCA d))])), (hB, .inr (0, [.ref aB])), (aB, .inl (cA 1, 2048, .inl (fun y_ => bI (d y_))))]) [0, 1, 2, 3, 4] rfl rfl
      have hb1 := By.rd hd ((z) + 5)
      refine lv_iload_n C0.1 C0.2.1 dX1_countEntry_55 rfl (lv_at hl 2 rfl) ?_
      refine lv_iconst (v := iI (1)) C0.1 C0.2.1 dX1_countEntry_56 rfl ?_
      refine k_iadd C0 dX1_countEntry_57 ?_
      refine k_topeq (v := iI (5)) (congrArg iI (by decide)) ?_
      refine k_calli (n := 2) (wr := []) C0 S (c_cd5 l D cA hZ aG hV hB aB g0 g1 g2 g3 g4  (m0 + 1) (k0 + 1)  d  (rd d ((z) + 5)) hd hB2 (by omega) (by omega) (by omega) (by omega) (by omega)) gX1_countEntry_X1_countDirectory rfl ⟨rfl, rfl⟩ (by decide +kernel) ⟨Nat.le_of_ble_eq_true rfl, Nat.le_of_ble_eq_true rfl⟩ [0, 1, 2, 3, 4] [] rfl rfl rfl rfl (by decide) (ci := 1) (q0 := 0) rfl rfl (As := [.int (iI (rd d ((z) + 5))), .int (iI (5))]) rfl hl.1 rfl (Nat.le_of_ble_eq_true rfl) dX1_countEntry_58 ⟨Nat.zero_le _, Nat.zero_le _⟩ (fun r u H locs hp S => ?_)
      obtain ⟨code2, met3, dirs4, rfl, rfl, hcen, ⟨⟨hcb1, hcb2⟩, ⟨hcb3, hcb4, hcb5⟩, hcb6⟩⟩ := hp
      have S := S.sub (ws' := [(hZ, .inr (1, [.ref hV, .ref aG, .int (iI (met3)), .int (iI (dirs4))])), (aG, .inl (cA 2, 5, .inr (.inr (.inr (.inr ((lvf g0 g1 g2 g3 g4))))))), (hV, .inr (8, [.ref hB, .int (iI (chs d)), .int (iI (gRoot d)), .int (iI (gN d)), .int (iI (gSz d)), .int (iI (gT d)), .int (iI (gTB d)), .int (iI (gTA d)), .int (iI (gCA d))])), (hB, .inr (0, [.ref aB])), (aB, .inl (cA 1, 2048, .inl (fun y_ => bI (d y_))))]) [0, 1, 2, 3, 4] rfl rfl
      subst hQ
      refine k_iret C0 S hAe hsz hr hlk dX1_countEntry_61 ?_
      exact ⟨_, _, _, rfl, rfl, (cet_dir (by omega) c31).trans hcen, ⟨by omega, by omega⟩, ⟨by omega, by omega, by omega⟩, hcb6⟩
    · refine lv_iconst (v := iI (0)) C0.1 C0.2.1 dX1_countEntry_34 rfl ?_
      subst hQ
      refine k_iret C0 S hAe hsz hr hlk dX1_countEntry_35 ?_
      exact ⟨_, _, _, rfl, rfl, cet_file (by omega) c31, ⟨by decide, by decide⟩, ⟨by omega, by omega, by omega⟩, fun _ => by omega⟩
  · refine lv_bipush (v := iI (-14)) C0.1 C0.2.1 dX1_countEntry_20 (by decide) ?_
    subst hQ
    refine k_iret C0 S hAe hsz hr hlk dX1_countEntry_22 ?_
    exact ⟨_, _, _, rfl, rfl, cet_many (by omega), ⟨by decide, by decide⟩, ⟨by omega, by omega, by omega⟩, fun h => absurd h (by decide)⟩
def rm_cd4 : Room := { frames := 3, cells := 0, slots := 0, locals := 66 }
set_option maxHeartbeats 4000000 in
set_option maxRecDepth 100000 in
theorem c_cd4 (l : Launch) (D : va_G) (cA : Nat → ClassId) (hZ aG hV hB aB g0 g1 g2 g3 g4 b4 : Nat) (m0 k0 c4 n4 : Int) (d p4 : Nat → Int) (z : Int) (hd : By d) (hB2 : gB d) (hz1 : 0 ≤ z) (hz2 : z < 256) (hk0 : 0 ≤ k0) (hk1 : k0 ≤ m0) (hm0 : m0 ≤ 250) : kCi l D vwCl (kTys cA) yX1_countDirectory wsX1_countDirectory rm_cd4 [.ref hZ, .int (iI (z)), .int (iI (4))] [(hZ, .inr (1, [.ref hV, .ref aG, .int (iI (m0)), .int (iI (k0))])), (aG, .inl (cA 2, 5, .inr (.inr (.inr (.inr ((lvf g0 g1 g2 g3 g4))))))), (g4, .inr (2, [.ref hB, .ref hV, .ref b4, .int (iI (c4)), .int (iI (n4))])), (b4, .inl (cA 0, 64, .inl (fun y_ => iI (p4 y_)))), (hV, .inr (8, [.ref hB, .int (iI (chs d)), .int (iI (gRoot d)), .int (iI (gN d)), .int (iI (gSz d)), .int (iI (gT d)), .int (iI (gTB d)), .int (iI (gTA d)), .int (iI (gCA d))])), (hB, .inr (0, [.ref aB])), (aB, .inl (cA 1, 2048, .inl (fun y_ => bI (d y_))))] (fun r u => ∃ (c_ m_ k_ c4_ n4_ : Int) (p4_ : Nat → Int), r = iI c_ ∧ u = [(hZ, .inr (1, [.ref hV, .ref aG, .int (iI (m_)), .int (iI (k_))])), (aG, .inl (cA 2, 5, .inr (.inr (.inr (.inr ((lvf g0 g1 g2 g3 g4))))))), (g4, .inr (2, [.ref hB, .ref hV, .ref b4, .int (iI (c4_)), .int (iI (n4_))])), (b4, .inl (cA 0, 64, .inl (fun y_ => iI (p4_ y_)))), (hV, .inr (8, [.ref hB, .int (iI (chs d)), .int (iI (gRoot d)), .int (iI (gN d)), .int (iI (gSz d)), .int (iI (gT d)), .int (iI (gTB d)), .int (iI (gTA d)), .int (iI (gCA d))])), (hB, .inr (0, [.ref aB])), (aB, .inl (cA 1, 2048, .inl (fun y_ => bI (d y_))))] ∧ cen d 1 z m0 k0 = (c_, m_, k_) ∧ CB c_ m_ k_) := by
  intro sz
  refine kEntry (cc := cX1_countDirectory) (maxL := 7) (ret := (some .int)) (by decide) rfl (Nat.le_of_ble_eq_true rfl) ?_
  intro p e s m args below meth c A Q hAe hQ C0 hr hlk S hsz ls hl
  have hl : lv_has ls 7 [(0, .ref hZ), (1, .int (iI (z))), (2, .int (iI (4)))] := hl
  refine lv_iload_n C0.1 C0.2.1 dX1_countDirectory_0 rfl (lv_at hl 2 rfl) ?_
  refine lv_iconst (v := iI (5)) C0.1 C0.2.1 dX1_countDirectory_1 rfl ?_
  refine k_icmp_lt (tgt := 8) C0 ⟨by decide, by decide⟩ ⟨by decide, by decide⟩ dX1_countDirectory_2 (by decide) (fun _ => ?_) (fun hc => absurd hc (by decide))
  refine lv_aload_n C0.1 C0.2.1 dX1_countDirectory_8 rfl (lv_at hl 0 rfl) ?_
  refine k_get C0 S (C := RX1) (T := TX1) (N := 4) (ci := 1) (by decide +kernel) 0 rfl rfl 1 (by decide) (by decide +kernel) (v := .ref aG) rfl dX1_countDirectory_9 ?_
  refine lv_iload_n C0.1 C0.2.1 dX1_countDirectory_12 rfl (lv_at hl 2 rfl) ?_
  refine k_aald C0 S 1 2 rfl rfl (z := 4) (by decide) (by decide) (by decide) (v := .ref g4) rfl dX1_countDirectory_13 ?_
  refine lv_astore_n (lv' := [(3, .ref g4), (0, .ref hZ), (1, .int (iI (z))), (2, .int (iI (4)))]) C0.1 C0.2.1 dX1_countDirectory_14 rfl hl (by decide) rfl (fun ls hl => ?_)
  refine lv_aload_n C0.1 C0.2.1 dX1_countDirectory_15 rfl (lv_at hl 0 rfl) ?_
  refine lv_iload_n C0.1 C0.2.1 dX1_countDirectory_16 rfl (lv_at hl 2 rfl) ?_
  refine k_calli (n := 1) (wr := [(hZ, .inr (1, [.ref hV, .ref aG, .int (iI (m0)), .int (iI (k0))])), (aG, .inl (cA 2, 5, .inr (.inr (.inr (.inr ((lvf g0 g1 g2 g3 g4)))))))]) C0 S (c_X2_trace l D cA g4 b4 hV hB aB d (c4) (n4) p4 (z) hd hB2 (by omega) (by omega)) gX1_countDirectory_X2_trace rfl ⟨rfl, rfl⟩ (by decide +kernel) ⟨Nat.le_of_ble_eq_true rfl, Nat.le_of_ble_eq_true rfl⟩ [2, 3, 4, 5, 6] [0, 1] rfl rfl rfl rfl (by decide) (ci := 2) (q0 := 0) rfl rfl (As := [.int (iI (z))]) rfl hl.1 rfl (Nat.le_of_ble_eq_true rfl) dX1_countDirectory_17 ⟨Nat.zero_le _, Nat.zero_le _⟩ (fun r u H locs hp S => ?_)
  obtain ⟨cnt1, pl2, rfl, rfl, htcnt1⟩ := hp
  have S := S.sub (ws' := [(hZ, .inr (1, [.ref hV, .ref aG, .int (iI (m0)), .int (iI (k0))])), (aG, .inl (cA 2, 5, .inr (.inr (.inr (.inr ((lvf g0 g1 g2 g3 g4))))))), (g4, .inr (2, [.ref hB, .ref hV, .ref b4, .int (iI (cnt1)), .int (iI (0))])), (b4, .inl (cA 0, 64, .inl (fun y_ => iI (pl2 y_)))), (hV, .inr (8, [.ref hB, .int (iI (chs d)), .int (iI (gRoot d)), .int (iI (gN d)), .int (iI (gSz d)), .int (iI (gT d)), .int (iI (gTB d)), .int (iI (gTA d)), .int (iI (gCA d))])), (hB, .inr (0, [.ref aB])), (aB, .inl (cA 1, 2048, .inl (fun y_ => bI (d y_))))]) [0, 1, 2, 3, 4, 5, 6] rfl rfl
  refine k_bz_ne (tgt := 26) C0 dX1_countDirectory_20 (by decide) (fun c20 => ?_) (fun c20 => ?_)
  · have hT := htcnt1 c20
    obtain ⟨n1_, n2_⟩ := nsl_range hB2 hT.1
    refine lv_iconst (v := iI (0)) C0.1 C0.2.1 dX1_countDirectory_26 rfl ?_
    refine lv_istore (lv' := [(4, .int (iI (0))), (3, .ref g4), (0, .ref hZ), (1, .int (iI (z))), (2, .int (iI (4)))]) C0.1 C0.2.1 dX1_countDirectory_27 hl (by decide) rfl (fun ls hl => ?_)
    have L29 : ∀ (n_ : Nat) (q : Nat) (s1 : Int) (mx : Int) (kx : Int), ((q : Int) ≤ 256) → ((q : Int) ≤ s1 ∧ s1 ≤ 256) → (cen d 1 z m0 k0 = cl_ d z (chn d z) (cen d 0) s1 mx kx) → (0 ≤ kx ∧ kx ≤ mx ∧ mx ≤ 250) → (256 - q < n_) → ∀ (H : Heap) (locs : List Loc), kS D vwCl (kTys cA) A s [(hZ, .inr (1, [.ref hV, .ref aG, .int (iI (mx)), .int (iI (kx))])), (aG, .inl (cA 2, 5, .inr (.inr (.inr (.inr ((lvf g0 g1 g2 g3 g4))))))), (g4, .inr (2, [.ref hB, .ref hV, .ref b4, .int (iI (cnt1)), .int (iI (s1))])), (b4, .inl (cA 0, 64, .inl (fun y_ => iI (pl2 y_)))), (hV, .inr (8, [.ref hB, .int (iI (chs d)), .int (iI (gRoot d)), .int (iI (gN d)), .int (iI (gSz d)), .int (iI (gT d)), .int (iI (gTB d)), .int (iI (gTA d)), .int (iI (gCA d))])), (hB, .inr (0, [.ref aB])), (aB, .inl (cA 1, 2048, .inl (fun y_ => bI (d y_))))] H locs → ∀ ls : Array Slot, lv_has ls 7 [(4, .int (iI ((q : Int)))), (3, .ref g4), (0, .ref hZ), (1, .int (iI (z))), (2, .int (iI (4)))] → W p l e rm_cd4 s m args below meth c H locs 0 0 Q (F0 m 29 ls []) := by
      intro n_
      induction n_ with
      | zero => intro q s1 mx kx hi29_0 hi29_1 hi29_2 hi29_3 hm; exact absurd hm (Nat.not_lt_zero _)
      | succ n_ ih29 =>
        intro q s1 mx kx hi29_0 hi29_1 hi29_2 hi29_3 hm H locs S ls hl
        refine lv_iload C0.1 C0.2.1 dX1_countDirectory_29 (lv_at hl 0 rfl) ?_
        refine lv_sipush (v := iI (256)) C0.1 C0.2.1 dX1_countDirectory_31 (by decide) ?_
        refine k_icmp_ge (tgt := 73) C0 (by constructor <;> omega) ⟨by decide, by decide⟩ dX1_countDirectory_34 (by decide) (fun c34 => ?_) (fun c34 => ?_)
        · refine lv_iconst (v := iI (0)) C0.1 C0.2.1 dX1_countDirectory_73 rfl ?_
          subst hQ
          refine k_iret C0 S hAe hsz hr hlk dX1_countDirectory_74 ?_
          exact ⟨_, _, _, _, _, _, rfl, rfl, by rw [hi29_2]; exact cl_none (by rw [ent_neg (by omega)]; decide), ⟨by decide, by decide⟩, ⟨by omega, by omega, by omega⟩, fun _ => by omega⟩
        · refine lv_aload_n C0.1 C0.2.1 dX1_countDirectory_37 rfl (lv_at hl 1 rfl) ?_
          refine k_calli (n := 0) (wr := [(hZ, .inr (1, [.ref hV, .ref aG, .int (iI (mx)), .int (iI (kx))])), (aG, .inl (cA 2, 5, .inr (.inr (.inr (.inr ((lvf g0 g1 g2 g3 g4)))))))]) C0 S (c_X2_nextEntry l D cA g4 b4 hV hB aB d (cnt1) (s1) pl2 (z) hd hB2 hT (by omega) (by omega)) gX1_countDirectory_X2_nextEntry rfl ⟨rfl, rfl⟩ (by decide +kernel) ⟨Nat.le_of_ble_eq_true rfl, Nat.le_of_ble_eq_true rfl⟩ [2, 3, 4, 5, 6] [0, 1] rfl rfl rfl rfl (by decide) (ci := 2) (q0 := 0) rfl rfl (As := []) rfl hl.1 rfl (Nat.le_of_ble_eq_true rfl) dX1_countDirectory_38 ⟨Nat.zero_le _, Nat.zero_le _⟩ (fun r u H locs hp S => ?_)
          obtain ⟨a3, t4, rfl, rfl, hnx, ⟨ht0, ht1⟩, hra⟩ := hp
          have S := S.sub (ws' := [(hZ, .inr (1, [.ref hV, .ref aG, .int (iI (mx)), .int (iI (kx))])), (aG, .inl (cA 2, 5, .inr (.inr (.inr (.inr ((lvf g0 g1 g2 g3 g4))))))), (g4, .inr (2, [.ref hB, .ref hV, .ref b4, .int (iI (cnt1)), .int (iI (t4))])), (b4, .inl (cA 0, 64, .inl (fun y_ => iI (pl2 y_)))), (hV, .inr (8, [.ref hB, .int (iI (chs d)), .int (iI (gRoot d)), .int (iI (gN d)), .int (iI (gSz d)), .int (iI (gT d)), .int (iI (gTB d)), .int (iI (gTA d)), .int (iI (gCA d))])), (hB, .inr (0, [.ref aB])), (aB, .inl (cA 1, 2048, .inl (fun y_ => bI (d y_))))]) [0, 1, 2, 3, 4, 5, 6] rfl rfl
          have hsk := NX.skip (F := fun j => cl_ d z (chn d z) (cen d 0) j mx kx) hnx (by omega) (fun j _ h1 h2 => cl_pas (by omega) h2)
          refine lv_istore (lv' := [(5, .int (iI (a3))), (4, .int (iI ((q : Int)))), (3, .ref g4), (0, .ref hZ), (1, .int (iI (z))), (2, .int (iI (4)))]) C0.1 C0.2.1 dX1_countDirectory_41 hl (by decide) rfl (fun ls hl => ?_)
          refine lv_iload C0.1 C0.2.1 dX1_countDirectory_43 (lv_at hl 0 rfl) ?_
          refine k_if_ge (tgt := 50) C0 (by constructor <;> omega) dX1_countDirectory_45 (by decide) (fun c45 => ?_) (fun c45 => ?_)
          · refine lv_aload_n C0.1 C0.2.1 dX1_countDirectory_50 rfl (lv_at hl 3 rfl) ?_
            refine lv_iload C0.1 C0.2.1 dX1_countDirectory_51 (lv_at hl 0 rfl) ?_
            refine lv_iload_n C0.1 C0.2.1 dX1_countDirectory_53 rfl (lv_at hl 5 rfl) ?_
            refine k_calli (n := 2) (wr := [(g4, .inr (2, [.ref hB, .ref hV, .ref b4, .int (iI (cnt1)), .int (iI (t4))])), (b4, .inl (cA 0, 64, .inl (fun y_ => iI (pl2 y_))))]) C0 S (c_ce4 l D cA hZ aG hV hB aB g0 g1 g2 g3 g4  (mx) (kx)  d  (a3) hd hB2 (by omega) (by omega) (by omega) (by omega) (by omega)) gX1_countDirectory_X1_countEntry rfl ⟨rfl, rfl⟩ (by decide +kernel) ⟨Nat.le_of_ble_eq_true rfl, Nat.le_of_ble_eq_true rfl⟩ [0, 1, 4, 5, 6] [2, 3] rfl rfl rfl rfl (by decide) (ci := 1) (q0 := 0) rfl rfl (As := [.int (iI (a3)), .int (iI (4))]) rfl hl.1 rfl (Nat.le_of_ble_eq_true rfl) dX1_countDirectory_54 ⟨Nat.zero_le _, Nat.zero_le _⟩ (fun r u H locs hp S => ?_)
            obtain ⟨code5, met6, dirs7, rfl, rfl, hcen, ⟨⟨hcb1, hcb2⟩, ⟨hcb3, hcb4, hcb5⟩, hcb6⟩⟩ := hp
            have S := S.sub (ws' := [(hZ, .inr (1, [.ref hV, .ref aG, .int (iI (met6)), .int (iI (dirs7))])), (aG, .inl (cA 2, 5, .inr (.inr (.inr (.inr ((lvf g0 g1 g2 g3 g4))))))), (g4, .inr (2, [.ref hB, .ref hV, .ref b4, .int (iI (cnt1)), .int (iI (t4))])), (b4, .inl (cA 0, 64, .inl (fun y_ => iI (pl2 y_)))), (hV, .inr (8, [.ref hB, .int (iI (chs d)), .int (iI (gRoot d)), .int (iI (gN d)), .int (iI (gSz d)), .int (iI (gT d)), .int (iI (gTB d)), .int (iI (gTA d)), .int (iI (gCA d))])), (hB, .inr (0, [.ref aB])), (aB, .inl (cA 1, 2048, .inl (fun y_ => bI (d y_))))]) [2, 3, 0, 1, 4, 5, 6] rfl rfl
            refine lv_istore (lv' := [(6, .int (iI (code5))), (5, .int (iI (a3))), (4, .int (iI ((q : Int)))), (3, .ref g4), (0, .ref hZ), (1, .int (iI (z))), (2, .int (iI (4)))]) C0.1 C0.2.1 dX1_countDirectory_57 hl (by decide) rfl (fun ls hl => ?_)
            refine lv_iload C0.1 C0.2.1 dX1_countDirectory_59 (lv_at hl 0 rfl) ?_
            refine k_if_ge (tgt := 67) C0 (by constructor <;> omega) dX1_countDirectory_61 (by decide) (fun c61 => ?_) (fun c61 => ?_)
            · refine lv_iinc (v := iI ((q : Int) + 1)) (lv' := [(4, .int (iI ((q : Int) + 1))), (6, .int (iI (code5))), (5, .int (iI (a3))), (3, .ref g4), (0, .ref hZ), (1, .int (iI (z))), (2, .int (iI (4)))]) C0.1 C0.2.1 dX1_countDirectory_67 hl (k := 2) rfl (iI_add _ _) (by decide) rfl (fun ls hl => ?_)
              refine lv_goto (tgt := 29) C0.1 C0.2.1 dX1_countDirectory_70 (by decide) ?_
              rcases hsk with ⟨s1_, s2_, s3_, s4_⟩ | ⟨s1_, s2_, s3_, s4_, s5_⟩
              · exact absurd s1_ (by omega)
              have hq : cen d 1 z m0 k0 = cl_ d z (chn d z) (cen d 0) t4 met6 dirs7 := by
                rw [hi29_2, s5_, cl_on (by omega) (by rw [s3_]; exact s4_) (by rw [s3_, hcen]; omega), s3_, hcen]
                congr 1; omega
              exact ih29 (q + 1) (t4) (met6) (dirs7) (by omega) ⟨by omega, by omega⟩ hq ⟨by omega, by omega, hcb6 (by omega)⟩ (by omega) _ _ S _ (lv_sub hl [0, 3, 4, 5, 6] rfl)
            · refine lv_iload C0.1 C0.2.1 dX1_countDirectory_64 (lv_at hl 0 rfl) ?_
              subst hQ
              refine k_iret C0 S hAe hsz hr hlk dX1_countDirectory_66 ?_
              rcases hsk with ⟨s1_, s2_, s3_, s4_⟩ | ⟨s1_, s2_, s3_, s4_, s5_⟩
              · exact absurd s1_ (by omega)
              · refine ⟨_, _, _, _, _, _, rfl, rfl, ?_, ⟨by omega, by omega⟩, ⟨by omega, by omega, by omega⟩, hcb6⟩
                rw [hi29_2, s5_, cl_bad (by omega) (by rw [s3_]; exact s4_) (by rw [s3_, hcen]; omega), s3_, hcen]
          · refine lv_iconst (v := iI (0)) C0.1 C0.2.1 dX1_countDirectory_48 rfl ?_
            subst hQ
            refine k_iret C0 S hAe hsz hr hlk dX1_countDirectory_49 ?_
            rcases hsk with ⟨s1_, s2_, s3_, s4_⟩ | ⟨s1_, s2_, s3_, s4_, s5_⟩
            · exact ⟨_, _, _, _, _, _, rfl, rfl, by rw [hi29_2, s4_]; exact cl_none (by omega), ⟨by decide, by decide⟩, ⟨by omega, by omega, by omega⟩, fun _ => by omega⟩
            · exact absurd s1_ (by omega)
    exact L29 (257) (0) (0) (m0) (k0) (by omega) ⟨by omega, by omega⟩ (cen_ok c20) ⟨by omega, by omega, by omega⟩ (by omega) _ _ S _ (lv_sub hl [0, 1, 2, 3, 4] rfl)
  · refine lv_bipush (v := iI (-9)) C0.1 C0.2.1 dX1_countDirectory_23 (by decide) ?_
    subst hQ
    refine k_iret C0 S hAe hsz hr hlk dX1_countDirectory_25 ?_
    exact ⟨_, _, _, _, _, _, rfl, rfl, cen_no c20, ⟨by decide, by decide⟩, ⟨by omega, by omega, by omega⟩, fun h => absurd h (by decide)⟩
def rm_ce3 : Room := { frames := 4, cells := 0, slots := 0, locals := 92 }
set_option maxHeartbeats 4000000 in
set_option maxRecDepth 100000 in
theorem c_ce3 (l : Launch) (D : va_G) (cA : Nat → ClassId) (hZ aG hV hB aB g0 g1 g2 g3 g4 b4 : Nat) (m0 k0 c4 n4 : Int) (d p4 : Nat → Int) (z : Int) (hd : By d) (hB2 : gB d) (hz1 : 0 ≤ z) (hz2 : z < 2041) (hk0 : 0 ≤ k0) (hk1 : k0 ≤ m0) (hm0 : m0 ≤ 250) : kCi l D vwCl (kTys cA) yX1_countEntry wsX1_countEntry rm_ce3 [.ref hZ, .int (iI (z)), .int (iI (3))] [(hZ, .inr (1, [.ref hV, .ref aG, .int (iI (m0)), .int (iI (k0))])), (aG, .inl (cA 2, 5, .inr (.inr (.inr (.inr ((lvf g0 g1 g2 g3 g4))))))), (g4, .inr (2, [.ref hB, .ref hV, .ref b4, .int (iI (c4)), .int (iI (n4))])), (b4, .inl (cA 0, 64, .inl (fun y_ => iI (p4 y_)))), (hV, .inr (8, [.ref hB, .int (iI (chs d)), .int (iI (gRoot d)), .int (iI (gN d)), .int (iI (gSz d)), .int (iI (gT d)), .int (iI (gTB d)), .int (iI (gTA d)), .int (iI (gCA d))])), (hB, .inr (0, [.ref aB])), (aB, .inl (cA 1, 2048, .inl (fun y_ => bI (d y_))))] (fun r u => ∃ (c_ m_ k_ c4_ n4_ : Int) (p4_ : Nat → Int), r = iI c_ ∧ u = [(hZ, .inr (1, [.ref hV, .ref aG, .int (iI (m_)), .int (iI (k_))])), (aG, .inl (cA 2, 5, .inr (.inr (.inr (.inr ((lvf g0 g1 g2 g3 g4))))))), (g4, .inr (2, [.ref hB, .ref hV, .ref b4, .int (iI (c4_)), .int (iI (n4_))])), (b4, .inl (cA 0, 64, .inl (fun y_ => iI (p4_ y_)))), (hV, .inr (8, [.ref hB, .int (iI (chs d)), .int (iI (gRoot d)), .int (iI (gN d)), .int (iI (gSz d)), .int (iI (gT d)), .int (iI (gTB d)), .int (iI (gTA d)), .int (iI (gCA d))])), (hB, .inr (0, [.ref aB])), (aB, .inl (cA 1, 2048, .inl (fun y_ => bI (d y_))))] ∧ cet d 1 z m0 k0 = (c_, m_, k_) ∧ CB c_ m_ k_) := by
  intro sz
  refine kEntry (cc := cX1_countEntry) (maxL := 3) (ret := (some .int)) (by decide) rfl (Nat.le_of_ble_eq_true rfl) ?_
  intro p e s m args below meth c A Q hAe hQ C0 hr hlk S hsz ls hl
  have hl : lv_has ls 3 [(0, .ref hZ), (1, .int (iI (z))), (2, .int (iI (3)))] := hl
  refine lv_aload_n C0.1 C0.2.1 dX1_countEntry_0 rfl (lv_at hl 0 rfl) ?_
  refine lv_dup C0.1 C0.2.1 dX1_countEntry_1 rfl ?_
  refine k_get C0 S (C := RX1) (T := TX1) (N := 4) (ci := 1) (by decide +kernel) 0 rfl rfl 2 (by decide) (by decide +kernel) (v := .int (iI (m0))) rfl dX1_countEntry_2 ?_
  refine lv_iconst (v := iI (1)) C0.1 C0.2.1 dX1_countEntry_5 rfl ?_
  refine k_iadd C0 dX1_countEntry_6 ?_
  refine k_put (ws' := [(hZ, .inr (1, [.ref hV, .ref aG, .int (iI (m0 + 1)), .int (iI (k0))])), (aG, .inl (cA 2, 5, .inr (.inr (.inr (.inr ((lvf g0 g1 g2 g3 g4))))))), (g4, .inr (2, [.ref hB, .ref hV, .ref b4, .int (iI (c4)), .int (iI (n4))])), (b4, .inl (cA 0, 64, .inl (fun y_ => iI (p4 y_)))), (hV, .inr (8, [.ref hB, .int (iI (chs d)), .int (iI (gRoot d)), .int (iI (gN d)), .int (iI (gSz d)), .int (iI (gT d)), .int (iI (gTB d)), .int (iI (gTA d)), .int (iI (gCA d))])), (hB, .inr (0, [.ref aB])), (aB, .inl (cA 1, 2048, .inl (fun y_ => bI (d y_))))]) C0 S (C := RX1) (T := TX1) (N := 4) (ci := 1) (by decide +kernel) tyX1 tyX1_ok nmX1 0 rfl rfl 2 (by decide) (by decide +kernel) rfl (v := .int (iI (m0 + 1))) rfl rfl (Nat.le_of_ble_eq_true rfl) dX1_countEntry_7 rfl (fun H locs S => ?_)
  refine lv_aload_n C0.1 C0.2.1 dX1_countEntry_10 rfl (lv_at hl 0 rfl) ?_
  refine k_get C0 S (C := RX1) (T := TX1) (N := 4) (ci := 1) (by decide +kernel) 0 rfl rfl 2 (by decide) (by decide +kernel) (v := .int (iI (m0 + 1))) rfl dX1_countEntry_11 ?_
  refine lv_sipush (v := iI (250)) C0.1 C0.2.1 dX1_countEntry_14 (by decide) ?_
  refine k_icmp_le (tgt := 23) C0 (by constructor <;> omega) ⟨by decide, by decide⟩ dX1_countEntry_17 (by decide) (fun c17 => ?_) (fun c17 => ?_)
  · refine lv_aload_n C0.1 C0.2.1 dX1_countEntry_23 rfl (lv_at hl 0 rfl) ?_
    refine k_get C0 S (C := RX1) (T := TX1) (N := 4) (ci := 1) (by decide +kernel) 0 rfl rfl 0 (by decide) (by decide +kernel) (v := .ref hV) rfl dX1_countEntry_24 ?_
    refine lv_iload_n C0.1 C0.2.1 dX1_countEntry_27 rfl (lv_at hl 1 rfl) ?_
    refine k_calli (n := 1) (wr := [(hZ, .inr (1, [.ref hV, .ref aG, .int (iI (m0 + 1)), .int (iI (k0))])), (aG, .inl (cA 2, 5, .inr (.inr (.inr (.inr ((lvf g0 g1 g2 g3 g4))))))), (g4, .inr (2, [.ref hB, .ref hV, .ref b4, .int (iI (c4)), .int (iI (n4))])), (b4, .inl (cA 0, 64, .inl (fun y_ => iI (p4 y_))))]) C0 S (c_X8_isDirectory l D cA hV hB aB d (z) hd hB2 (by omega) (by omega)) gX1_countEntry_X8_isDirectory rfl ⟨rfl, rfl⟩ (by decide +kernel) ⟨Nat.le_of_ble_eq_true rfl, Nat.le_of_ble_eq_true rfl⟩ [4, 5, 6] [0, 1, 2, 3] rfl rfl rfl rfl (by decide) (ci := 8) (q0 := 0) rfl rfl (As := [.int (iI (z))]) rfl hl.1 rfl (Nat.le_of_ble_eq_true rfl) dX1_countEntry_28 ⟨Nat.zero_le _, Nat.zero_le _⟩ (fun r u H locs hp S => ?_)
    obtain ⟨rfl, rfl⟩ := hp
    have S := S.sub (ws' := [(hZ, .inr (1, [.ref hV, .ref aG, .int (iI (m0 + 1)), .int (iI (k0))])), (aG, .inl (cA 2, 5, .inr (.inr (.inr (.inr ((lvf g0 g1 g2 g3 g4))))))), (g4, .inr (2, [.ref hB, .ref hV, .ref b4, .int (iI (c4)), .int (iI (n4))])), (b4, .inl (cA 0, 64, .inl (fun y_ => iI (p4 y_)))), (hV, .inr (8, [.ref hB, .int (iI (chs d)), .int (iI (gRoot d)), .int (iI (gN d)), .int (iI (gSz d)), .int (iI (gT d)), .int (iI (gTB d)), .int (iI (gTA d)), .int (iI (gCA d))])), (hB, .inr (0, [.ref aB])), (aB, .inl (cA 1, 2048, .inl (fun y_ => bI (d y_))))]) [0, 1, 2, 3, 4, 5, 6] rfl rfl
    refine k_bz_ne (tgt := 36) C0 dX1_countEntry_31 (by decide) (fun c31 => ?_) (fun c31 => ?_)
    · refine lv_aload_n C0.1 C0.2.1 dX1_countEntry_36 rfl (lv_at hl 0 rfl) ?_
      refine lv_dup C0.1 C0.2.1 dX1_countEntry_37 rfl ?_
      refine k_get C0 S (C := RX1) (T := TX1) (N := 4) (ci := 1) (by decide +kernel) 0 rfl rfl 3 (by decide) (by decide +kernel) (v := .int (iI (k0))) rfl dX1_countEntry_38 ?_
      refine lv_iconst (v := iI (1)) C0.1 C0.2.1 dX1_countEntry_41 rfl ?_
      refine k_iadd C0 dX1_countEntry_42 ?_
      refine k_put (ws' := [(hZ, .inr (1, [.ref hV, .ref aG, .int (iI (m0 + 1)), .int (iI (k0 + 1))])), (aG, .inl (cA 2, 5, .inr (.inr (.inr (.inr ((lvf g0 g1 g2 g3 g4))))))), (g4, .inr (2, [.ref hB, .ref hV, .ref b4, .int (iI (c4)), .int (iI (n4))])), (b4, .inl (cA 0, 64, .inl (fun y_ => iI (p4 y_)))), (hV, .inr (8, [.ref hB, .int (iI (chs d)), .int (iI (gRoot d)), .int (iI (gN d)), .int (iI (gSz d)), .int (iI (gT d)), .int (iI (gTB d)), .int (iI (gTA d)), .int (iI (gCA d))])), (hB, .inr (0, [.ref aB])), (aB, .inl (cA 1, 2048, .inl (fun y_ => bI (d y_))))]) C0 S (C := RX1) (T := TX1) (N := 4) (ci := 1) (by decide +kernel) tyX1 tyX1_ok nmX1 0 rfl rfl 3 (by decide) (by decide +kernel) rfl (v := .int (iI (k0 + 1))) rfl rfl (Nat.le_of_ble_eq_true rfl) dX1_countEntry_43 rfl (fun H locs S => ?_)
      refine lv_aload_n C0.1 C0.2.1 dX1_countEntry_46 rfl (lv_at hl 0 rfl) ?_
      refine lv_aload_n C0.1 C0.2.1 dX1_countEntry_47 rfl (lv_at hl 0 rfl) ?_
      refine k_get C0 S (C := RX1) (T := TX1) (N := 4) (ci := 1) (by decide +kernel) 0 rfl rfl 0 (by decide) (by decide +kernel) (v := .ref hV) rfl dX1_countEntry_48 ?_
      refine lv_iload_n C0.1 C0.2.1 dX1_countEntry_51 rfl (lv_at hl 1 rfl) ?_
      refine k_calli (n := 1) (wr := [(hZ, .inr (1, [.ref hV, .ref aG, .int (iI (m0 + 1)), .int (iI (k0 + 1))])), (aG, .inl (cA 2, 5, .inr (.inr (.inr (.inr ((lvf g0 g1 g2 g3 g4))))))), (g4, .inr (2, [.ref hB, .ref hV, .ref b4, .int (iI (c4)), .int (iI (n4))])), (b4, .inl (cA 0, 64, .inl (fun y_ => iI (p4 y_))))]) C0 S (c_X8_firstClusterOf l D cA hV hB aB d (z) hd hB2 (by omega) (by omega)) gX1_countEntry_X8_firstClusterOf rfl ⟨rfl, rfl⟩ (by decide +kernel) ⟨Nat.le_of_ble_eq_true rfl, Nat.le_of_ble_eq_true rfl⟩ [4, 5, 6] [0, 1, 2, 3] rfl rfl rfl rfl (by decide) (ci := 8) (q0 := 0) rfl rfl (As := [.int (iI (z))]) rfl hl.1 rfl (Nat.le_of_ble_eq_true rfl) dX1_countEntry_52 ⟨Nat.zero_le _, Nat.zero_le _⟩ (fun r u H locs hp S => ?_)
      obtain ⟨rfl, rfl⟩ := hp
      have S := S.sub (ws' := [(hZ, .inr (1, [.ref hV, .ref aG, .int (iI (m0 + 1)), .int (iI (k0 + 1))])), (aG, .inl (cA 2, 5, .inr (.inr (.inr (.inr ((lvf g0 g1 g2 g3 g4))))))), (g4, .inr (2, [.ref hB, .ref hV, .ref b4, .int (iI (c4)), .int (iI (n4))])), (b4, .inl (cA 0, 64, .inl (fun y_ => iI (p4 y_)))), (hV, .inr (8, [.ref hB, .int (iI (chs d)), .int (iI (gRoot d)), .int (iI (gN d)), .int (iI (gSz d)), .int (iI (gT d)), .int (iI (gTB d)), .int (iI (gTA d)), .int (iI (gCA d))])), (hB, .inr (0, [.ref aB])), (aB, .inl (cA 1, 2048, .inl (fun y_ => bI (d y_))))]) [0, 1, 2, 3, 4, 5, 6] rfl rfl
      have hb1 := By.rd hd ((z) + 5)
      refine lv_iload_n C0.1 C0.2.1 dX1_countEntry_55 rfl (lv_at hl 2 rfl) ?_
      refine lv_iconst (v := iI (1)) C0.1 C0.2.1 dX1_countEntry_56 rfl ?_
      refine k_iadd C0 dX1_countEntry_57 ?_
      refine k_topeq (v := iI (4)) (congrArg iI (by decide)) ?_
      refine k_calli (n := 2) (wr := []) C0 S (c_cd4 l D cA hZ aG hV hB aB g0 g1 g2 g3 g4 b4 (m0 + 1) (k0 + 1) (c4) (n4) d p4 (rd d ((z) + 5)) hd hB2 (by omega) (by omega) (by omega) (by omega) (by omega)) gX1_countEntry_X1_countDirectory rfl ⟨rfl, rfl⟩ (by decide +kernel) ⟨Nat.le_of_ble_eq_true rfl, Nat.le_of_ble_eq_true rfl⟩ [0, 1, 2, 3, 4, 5, 6] [] rfl rfl rfl rfl (by decide) (ci := 1) (q0 := 0) rfl rfl (As := [.int (iI (rd d ((z) + 5))), .int (iI (4))]) rfl hl.1 rfl (Nat.le_of_ble_eq_true rfl) dX1_countEntry_58 ⟨Nat.zero_le _, Nat.zero_le _⟩ (fun r u H locs hp S => ?_)
      obtain ⟨code5, met6, dirs7, y2, y3, pp4, rfl, rfl, hcen, ⟨⟨hcb1, hcb2⟩, ⟨hcb3, hcb4, hcb5⟩, hcb6⟩⟩ := hp
      have S := S.sub (ws' := [(hZ, .inr (1, [.ref hV, .ref aG, .int (iI (met6)), .int (iI (dirs7))])), (aG, .inl (cA 2, 5, .inr (.inr (.inr (.inr ((lvf g0 g1 g2 g3 g4))))))), (g4, .inr (2, [.ref hB, .ref hV, .ref b4, .int (iI (y2)), .int (iI (y3))])), (b4, .inl (cA 0, 64, .inl (fun y_ => iI (pp4 y_)))), (hV, .inr (8, [.ref hB, .int (iI (chs d)), .int (iI (gRoot d)), .int (iI (gN d)), .int (iI (gSz d)), .int (iI (gT d)), .int (iI (gTB d)), .int (iI (gTA d)), .int (iI (gCA d))])), (hB, .inr (0, [.ref aB])), (aB, .inl (cA 1, 2048, .inl (fun y_ => bI (d y_))))]) [0, 1, 2, 3, 4, 5, 6] rfl rfl
      subst hQ
      refine k_iret C0 S hAe hsz hr hlk dX1_countEntry_61 ?_
      exact ⟨_, _, _, _, _, _, rfl, rfl, (cet_dir (by omega) c31).trans hcen, ⟨by omega, by omega⟩, ⟨by omega, by omega, by omega⟩, hcb6⟩
    · refine lv_iconst (v := iI (0)) C0.1 C0.2.1 dX1_countEntry_34 rfl ?_
      subst hQ
      refine k_iret C0 S hAe hsz hr hlk dX1_countEntry_35 ?_
      exact ⟨_, _, _, _, _, _, rfl, rfl, cet_file (by omega) c31, ⟨by decide, by decide⟩, ⟨by omega, by omega, by omega⟩, fun _ => by omega⟩
  · refine lv_bipush (v := iI (-14)) C0.1 C0.2.1 dX1_countEntry_20 (by decide) ?_
    subst hQ
    refine k_iret C0 S hAe hsz hr hlk dX1_countEntry_22 ?_
    exact ⟨_, _, _, _, _, _, rfl, rfl, cet_many (by omega), ⟨by decide, by decide⟩, ⟨by omega, by omega, by omega⟩, fun h => absurd h (by decide)⟩
def rm_cd3 : Room := { frames := 5, cells := 0, slots := 0, locals := 114 }
set_option maxHeartbeats 4000000 in
set_option maxRecDepth 100000 in
theorem c_cd3 (l : Launch) (D : va_G) (cA : Nat → ClassId) (hZ aG hV hB aB g0 g1 g2 g3 g4 b3 b4 : Nat) (m0 k0 c3 c4 n3 n4 : Int) (d p3 p4 : Nat → Int) (z : Int) (hd : By d) (hB2 : gB d) (hz1 : 0 ≤ z) (hz2 : z < 256) (hk0 : 0 ≤ k0) (hk1 : k0 ≤ m0) (hm0 : m0 ≤ 250) : kCi l D vwCl (kTys cA) yX1_countDirectory wsX1_countDirectory rm_cd3 [.ref hZ, .int (iI (z)), .int (iI (3))] [(hZ, .inr (1, [.ref hV, .ref aG, .int (iI (m0)), .int (iI (k0))])), (aG, .inl (cA 2, 5, .inr (.inr (.inr (.inr ((lvf g0 g1 g2 g3 g4))))))), (g3, .inr (2, [.ref hB, .ref hV, .ref b3, .int (iI (c3)), .int (iI (n3))])), (b3, .inl (cA 0, 64, .inl (fun y_ => iI (p3 y_)))), (g4, .inr (2, [.ref hB, .ref hV, .ref b4, .int (iI (c4)), .int (iI (n4))])), (b4, .inl (cA 0, 64, .inl (fun y_ => iI (p4 y_)))), (hV, .inr (8, [.ref hB, .int (iI (chs d)), .int (iI (gRoot d)), .int (iI (gN d)), .int (iI (gSz d)), .int (iI (gT d)), .int (iI (gTB d)), .int (iI (gTA d)), .int (iI (gCA d))])), (hB, .inr (0, [.ref aB])), (aB, .inl (cA 1, 2048, .inl (fun y_ => bI (d y_))))] (fun r u => ∃ (c_ m_ k_ c3_ c4_ n3_ n4_ : Int) (p3_ p4_ : Nat → Int), r = iI c_ ∧ u = [(hZ, .inr (1, [.ref hV, .ref aG, .int (iI (m_)), .int (iI (k_))])), (aG, .inl (cA 2, 5, .inr (.inr (.inr (.inr ((lvf g0 g1 g2 g3 g4))))))), (g3, .inr (2, [.ref hB, .ref hV, .ref b3, .int (iI (c3_)), .int (iI (n3_))])), (b3, .inl (cA 0, 64, .inl (fun y_ => iI (p3_ y_)))), (g4, .inr (2, [.ref hB, .ref hV, .ref b4, .int (iI (c4_)), .int (iI (n4_))])), (b4, .inl (cA 0, 64, .inl (fun y_ => iI (p4_ y_)))), (hV, .inr (8, [.ref hB, .int (iI (chs d)), .int (iI (gRoot d)), .int (iI (gN d)), .int (iI (gSz d)), .int (iI (gT d)), .int (iI (gTB d)), .int (iI (gTA d)), .int (iI (gCA d))])), (hB, .inr (0, [.ref aB])), (aB, .inl (cA 1, 2048, .inl (fun y_ => bI (d y_))))] ∧ cen d 2 z m0 k0 = (c_, m_, k_) ∧ CB c_ m_ k_) := by
  intro sz
  refine kEntry (cc := cX1_countDirectory) (maxL := 7) (ret := (some .int)) (by decide) rfl (Nat.le_of_ble_eq_true rfl) ?_
  intro p e s m args below meth c A Q hAe hQ C0 hr hlk S hsz ls hl
  have hl : lv_has ls 7 [(0, .ref hZ), (1, .int (iI (z))), (2, .int (iI (3)))] := hl
  refine lv_iload_n C0.1 C0.2.1 dX1_countDirectory_0 rfl (lv_at hl 2 rfl) ?_
  refine lv_iconst (v := iI (5)) C0.1 C0.2.1 dX1_countDirectory_1 rfl ?_
  refine k_icmp_lt (tgt := 8) C0 ⟨by decide, by decide⟩ ⟨by decide, by decide⟩ dX1_countDirectory_2 (by decide) (fun _ => ?_) (fun hc => absurd hc (by decide))
  refine lv_aload_n C0.1 C0.2.1 dX1_countDirectory_8 rfl (lv_at hl 0 rfl) ?_
  refine k_get C0 S (C := RX1) (T := TX1) (N := 4) (ci := 1) (by decide +kernel) 0 rfl rfl 1 (by decide) (by decide +kernel) (v := .ref aG) rfl dX1_countDirectory_9 ?_
  refine lv_iload_n C0.1 C0.2.1 dX1_countDirectory_12 rfl (lv_at hl 2 rfl) ?_
  refine k_aald C0 S 1 2 rfl rfl (z := 3) (by decide) (by decide) (by decide) (v := .ref g3) rfl dX1_countDirectory_13 ?_
  refine lv_astore_n (lv' := [(3, .ref g3), (0, .ref hZ), (1, .int (iI (z))), (2, .int (iI (3)))]) C0.1 C0.2.1 dX1_countDirectory_14 rfl hl (by decide) rfl (fun ls hl => ?_)
  refine lv_aload_n C0.1 C0.2.1 dX1_countDirectory_15 rfl (lv_at hl 0 rfl) ?_
  refine lv_iload_n C0.1 C0.2.1 dX1_countDirectory_16 rfl (lv_at hl 2 rfl) ?_
  refine k_calli (n := 1) (wr := [(hZ, .inr (1, [.ref hV, .ref aG, .int (iI (m0)), .int (iI (k0))])), (aG, .inl (cA 2, 5, .inr (.inr (.inr (.inr ((lvf g0 g1 g2 g3 g4))))))), (g4, .inr (2, [.ref hB, .ref hV, .ref b4, .int (iI (c4)), .int (iI (n4))])), (b4, .inl (cA 0, 64, .inl (fun y_ => iI (p4 y_))))]) C0 S (c_X2_trace l D cA g3 b3 hV hB aB d (c3) (n3) p3 (z) hd hB2 (by omega) (by omega)) gX1_countDirectory_X2_trace rfl ⟨rfl, rfl⟩ (by decide +kernel) ⟨Nat.le_of_ble_eq_true rfl, Nat.le_of_ble_eq_true rfl⟩ [2, 3, 6, 7, 8] [0, 1, 4, 5] rfl rfl rfl rfl (by decide) (ci := 2) (q0 := 0) rfl rfl (As := [.int (iI (z))]) rfl hl.1 rfl (Nat.le_of_ble_eq_true rfl) dX1_countDirectory_17 ⟨Nat.zero_le _, Nat.zero_le _⟩ (fun r u H locs hp S => ?_)
  obtain ⟨cnt1, pl2, rfl, rfl, htcnt1⟩ := hp
  have S := S.sub (ws' := [(hZ, .inr (1, [.ref hV, .ref aG, .int (iI (m0)), .int (iI (k0))])), (aG, .inl (cA 2, 5, .inr (.inr (.inr (.inr ((lvf g0 g1 g2 g3 g4))))))), (g3, .inr (2, [.ref hB, .ref hV, .ref b3, .int (iI (cnt1)), .int (iI (0))])), (b3, .inl (cA 0, 64, .inl (fun y_ => iI (pl2 y_)))), (g4, .inr (2, [.ref hB, .ref hV, .ref b4, .int (iI (c4)), .int (iI (n4))])), (b4, .inl (cA 0, 64, .inl (fun y_ => iI (p4 y_)))), (hV, .inr (8, [.ref hB, .int (iI (chs d)), .int (iI (gRoot d)), .int (iI (gN d)), .int (iI (gSz d)), .int (iI (gT d)), .int (iI (gTB d)), .int (iI (gTA d)), .int (iI (gCA d))])), (hB, .inr (0, [.ref aB])), (aB, .inl (cA 1, 2048, .inl (fun y_ => bI (d y_))))]) [0, 1, 4, 5, 2, 3, 6, 7, 8] rfl rfl
  refine k_bz_ne (tgt := 26) C0 dX1_countDirectory_20 (by decide) (fun c20 => ?_) (fun c20 => ?_)
  · have hT := htcnt1 c20
    obtain ⟨n1_, n2_⟩ := nsl_range hB2 hT.1
    refine lv_iconst (v := iI (0)) C0.1 C0.2.1 dX1_countDirectory_26 rfl ?_
    refine lv_istore (lv' := [(4, .int (iI (0))), (3, .ref g3), (0, .ref hZ), (1, .int (iI (z))), (2, .int (iI (3)))]) C0.1 C0.2.1 dX1_countDirectory_27 hl (by decide) rfl (fun ls hl => ?_)
    have L29 : ∀ (n_ : Nat) (q : Nat) (s1 : Int) (mx : Int) (kx : Int) (c4x : Int) (n4x : Int) (p4x : Nat → Int), ((q : Int) ≤ 256) → ((q : Int) ≤ s1 ∧ s1 ≤ 256) → (cen d 2 z m0 k0 = cl_ d z (chn d z) (cen d 1) s1 mx kx) → (0 ≤ kx ∧ kx ≤ mx ∧ mx ≤ 250) → (256 - q < n_) → ∀ (H : Heap) (locs : List Loc), kS D vwCl (kTys cA) A s [(hZ, .inr (1, [.ref hV, .ref aG, .int (iI (mx)), .int (iI (kx))])), (aG, .inl (cA 2, 5, .inr (.inr (.inr (.inr ((lvf g0 g1 g2 g3 g4))))))), (g3, .inr (2, [.ref hB, .ref hV, .ref b3, .int (iI (cnt1)), .int (iI (s1))])), (b3, .inl (cA 0, 64, .inl (fun y_ => iI (pl2 y_)))), (g4, .inr (2, [.ref hB, .ref hV, .ref b4, .int (iI (c4x)), .int (iI (n4x))])), (b4, .inl (cA 0, 64, .inl (fun y_ => iI (p4x y_)))), (hV, .inr (8, [.ref hB, .int (iI (chs d)), .int (iI (gRoot d)), .int (iI (gN d)), .int (iI (gSz d)), .int (iI (gT d)), .int (iI (gTB d)), .int (iI (gTA d)), .int (iI (gCA d))])), (hB, .inr (0, [.ref aB])), (aB, .inl (cA 1, 2048, .inl (fun y_ => bI (d y_))))] H locs → ∀ ls : Array Slot, lv_has ls 7 [(4, .int (iI ((q : Int)))), (3, .ref g3), (0, .ref hZ), (1, .int (iI (z))), (2, .int (iI (3)))] → W p l e rm_cd3 s m args below meth c H locs 0 0 Q (F0 m 29 ls []) := by
      intro n_
      induction n_ with
      | zero => intro q s1 mx kx c4x n4x p4x hi29_0 hi29_1 hi29_2 hi29_3 hm; exact absurd hm (Nat.not_lt_zero _)
      | succ n_ ih29 =>
        intro q s1 mx kx c4x n4x p4x hi29_0 hi29_1 hi29_2 hi29_3 hm H locs S ls hl
        refine lv_iload C0.1 C0.2.1 dX1_countDirectory_29 (lv_at hl 0 rfl) ?_
        refine lv_sipush (v := iI (256)) C0.1 C0.2.1 dX1_countDirectory_31 (by decide) ?_
        refine k_icmp_ge (tgt := 73) C0 (by constructor <;> omega) ⟨by decide, by decide⟩ dX1_countDirectory_34 (by decide) (fun c34 => ?_) (fun c34 => ?_)
        · refine lv_iconst (v := iI (0)) C0.1 C0.2.1 dX1_countDirectory_73 rfl ?_
          subst hQ
          refine k_iret C0 S hAe hsz hr hlk dX1_countDirectory_74 ?_
          exact ⟨_, _, _, _, _, _, _, _, _, rfl, rfl, by rw [hi29_2]; exact cl_none (by rw [ent_neg (by omega)]; decide), ⟨by decide, by decide⟩, ⟨by omega, by omega, by omega⟩, fun _ => by omega⟩
        · refine lv_aload_n C0.1 C0.2.1 dX1_countDirectory_37 rfl (lv_at hl 1 rfl) ?_
          refine k_calli (n := 0) (wr := [(hZ, .inr (1, [.ref hV, .ref aG, .int (iI (mx)), .int (iI (kx))])), (aG, .inl (cA 2, 5, .inr (.inr (.inr (.inr ((lvf g0 g1 g2 g3 g4))))))), (g4, .inr (2, [.ref hB, .ref hV, .ref b4, .int (iI (c4x)), .int (iI (n4x))])), (b4, .inl (cA 0, 64, .inl (fun y_ => iI (p4x y_))))]) C0 S (c_X2_nextEntry l D cA g3 b3 hV hB aB d (cnt1) (s1) pl2 (z) hd hB2 hT (by omega) (by omega)) gX1_countDirectory_X2_nextEntry rfl ⟨rfl, rfl⟩ (by decide +kernel) ⟨Nat.le_of_ble_eq_true rfl, Nat.le_of_ble_eq_true rfl⟩ [2, 3, 6, 7, 8] [0, 1, 4, 5] rfl rfl rfl rfl (by decide) (ci := 2) (q0 := 0) rfl rfl (As := []) rfl hl.1 rfl (Nat.le_of_ble_eq_true rfl) dX1_countDirectory_38 ⟨Nat.zero_le _, Nat.zero_le _⟩ (fun r u H locs hp S => ?_)
          obtain ⟨a3, t4, rfl, rfl, hnx, ⟨ht0, ht1⟩, hra⟩ := hp
          have S := S.sub (ws' := [(hZ, .inr (1, [.ref hV, .ref aG, .int (iI (mx)), .int (iI (kx))])), (aG, .inl (cA 2, 5, .inr (.inr (.inr (.inr ((lvf g0 g1 g2 g3 g4))))))), (g3, .inr (2, [.ref hB, .ref hV, .ref b3, .int (iI (cnt1)), .int (iI (t4))])), (b3, .inl (cA 0, 64, .inl (fun y_ => iI (pl2 y_)))), (g4, .inr (2, [.ref hB, .ref hV, .ref b4, .int (iI (c4x)), .int (iI (n4x))])), (b4, .inl (cA 0, 64, .inl (fun y_ => iI (p4x y_)))), (hV, .inr (8, [.ref hB, .int (iI (chs d)), .int (iI (gRoot d)), .int (iI (gN d)), .int (iI (gSz d)), .int (iI (gT d)), .int (iI (gTB d)), .int (iI (gTA d)), .int (iI (gCA d))])), (hB, .inr (0, [.ref aB])), (aB, .inl (cA 1, 2048, .inl (fun y_ => bI (d y_))))]) [0, 1, 4, 5, 2, 3, 6, 7, 8] rfl rfl
          have hsk := NX.skip (F := fun j => cl_ d z (chn d z) (cen d 1) j mx kx) hnx (by omega) (fun j _ h1 h2 => cl_pas (by omega) h2)
          refine lv_istore (lv' := [(5, .int (iI (a3))), (4, .int (iI ((q : Int)))), (3, .ref g3), (0, .ref hZ), (1, .int (iI (z))), (2, .int (iI (3)))]) C0.1 C0.2.1 dX1_countDirectory_41 hl (by decide) rfl (fun ls hl => ?_)
          refine lv_iload C0.1 C0.2.1 dX1_countDirectory_43 (lv_at hl 0 rfl) ?_
          refine k_if_ge (tgt := 50) C0 (by constructor <;> omega) dX1_countDirectory_45 (by decide) (fun c45 => ?_) (fun c45 => ?_)
          · refine lv_aload_n C0.1 C0.2.1 dX1_countDirectory_50 rfl (lv_at hl 3 rfl) ?_
            refine lv_iload C0.1 C0.2.1 dX1_countDirectory_51 (lv_at hl 0 rfl) ?_
            refine lv_iload_n C0.1 C0.2.1 dX1_countDirectory_53 rfl (lv_at hl 5 rfl) ?_
            refine k_calli (n := 2) (wr := [(g3, .inr (2, [.ref hB, .ref hV, .ref b3, .int (iI (cnt1)), .int (iI (t4))])), (b3, .inl (cA 0, 64, .inl (fun y_ => iI (pl2 y_))))]) C0 S (c_ce3 l D cA hZ aG hV hB aB g0 g1 g2 g3 g4 b4 (mx) (kx) (c4x) (n4x) d p4x (a3) hd hB2 (by omega) (by omega) (by omega) (by omega) (by omega)) gX1_countDirectory_X1_countEntry rfl ⟨rfl, rfl⟩ (by decide +kernel) ⟨Nat.le_of_ble_eq_true rfl, Nat.le_of_ble_eq_true rfl⟩ [0, 1, 4, 5, 6, 7, 8] [2, 3] rfl rfl rfl rfl (by decide) (ci := 1) (q0 := 0) rfl rfl (As := [.int (iI (a3)), .int (iI (3))]) rfl hl.1 rfl (Nat.le_of_ble_eq_true rfl) dX1_countDirectory_54 ⟨Nat.zero_le _, Nat.zero_le _⟩ (fun r u H locs hp S => ?_)
            obtain ⟨code8, met9, dirs10, y5, y6, pp7, rfl, rfl, hcen, ⟨⟨hcb1, hcb2⟩, ⟨hcb3, hcb4, hcb5⟩, hcb6⟩⟩ := hp
            have S := S.sub (ws' := [(hZ, .inr (1, [.ref hV, .ref aG, .int (iI (met9)), .int (iI (dirs10))])), (aG, .inl (cA 2, 5, .inr (.inr (.inr (.inr ((lvf g0 g1 g2 g3 g4))))))), (g3, .inr (2, [.ref hB, .ref hV, .ref b3, .int (iI (cnt1)), .int (iI (t4))])), (b3, .inl (cA 0, 64, .inl (fun y_ => iI (pl2 y_)))), (g4, .inr (2, [.ref hB, .ref hV, .ref b4, .int (iI (y5)), .int (iI (y6))])), (b4, .inl (cA 0, 64, .inl (fun y_ => iI (pp7 y_)))), (hV, .inr (8, [.ref hB, .int (iI (chs d)), .int (iI (gRoot d)), .int (iI (gN d)), .int (iI (gSz d)), .int (iI (gT d)), .int (iI (gTB d)), .int (iI (gTA d)), .int (iI (gCA d))])), (hB, .inr (0, [.ref aB])), (aB, .inl (cA 1, 2048, .inl (fun y_ => bI (d y_))))]) [2, 3, 0, 1, 4, 5, 6, 7, 8] rfl rfl
            refine lv_istore (lv' := [(6, .int (iI (code8))), (5, .int (iI (a3))), (4, .int (iI ((q : Int)))), (3, .ref g3), (0, .ref hZ), (1, .int (iI (z))), (2, .int (iI (3)))]) C0.1 C0.2.1 dX1_countDirectory_57 hl (by decide) rfl (fun ls hl => ?_)
            refine lv_iload C0.1 C0.2.1 dX1_countDirectory_59 (lv_at hl 0 rfl) ?_
            refine k_if_ge (tgt := 67) C0 (by constructor <;> omega) dX1_countDirectory_61 (by decide) (fun c61 => ?_) (fun c61 => ?_)
            · refine lv_iinc (v := iI ((q : Int) + 1)) (lv' := [(4, .int (iI ((q : Int) + 1))), (6, .int (iI (code8))), (5, .int (iI (a3))), (3, .ref g3), (0, .ref hZ), (1, .int (iI (z))), (2, .int (iI (3)))]) C0.1 C0.2.1 dX1_countDirectory_67 hl (k := 2) rfl (iI_add _ _) (by decide) rfl (fun ls hl => ?_)
              refine lv_goto (tgt := 29) C0.1 C0.2.1 dX1_countDirectory_70 (by decide) ?_
              rcases hsk with ⟨s1_, s2_, s3_, s4_⟩ | ⟨s1_, s2_, s3_, s4_, s5_⟩
              · exact absurd s1_ (by omega)
              have hq : cen d 2 z m0 k0 = cl_ d z (chn d z) (cen d 1) t4 met9 dirs10 := by
                rw [hi29_2, s5_, cl_on (by omega) (by rw [s3_]; exact s4_) (by rw [s3_, hcen]; omega), s3_, hcen]
                congr 1; omega
              exact ih29 (q + 1) (t4) (met9) (dirs10) (y5) (y6) (pp7) (by omega) ⟨by omega, by omega⟩ hq ⟨by omega, by omega, hcb6 (by omega)⟩ (by omega) _ _ S _ (lv_sub hl [0, 3, 4, 5, 6] rfl)
            · refine lv_iload C0.1 C0.2.1 dX1_countDirectory_64 (lv_at hl 0 rfl) ?_
              subst hQ
              refine k_iret C0 S hAe hsz hr hlk dX1_countDirectory_66 ?_
              rcases hsk with ⟨s1_, s2_, s3_, s4_⟩ | ⟨s1_, s2_, s3_, s4_, s5_⟩
              · exact absurd s1_ (by omega)
              · refine ⟨_, _, _, _, _, _, _, _, _, rfl, rfl, ?_, ⟨by omega, by omega⟩, ⟨by omega, by omega, by omega⟩, hcb6⟩
                rw [hi29_2, s5_, cl_bad (by omega) (by rw [s3_]; exact s4_) (by rw [s3_, hcen]; omega), s3_, hcen]
          · refine lv_iconst (v := iI (0)) C0.1 C0.2.1 dX1_countDirectory_48 rfl ?_
            subst hQ
            refine k_iret C0 S hAe hsz hr hlk dX1_countDirectory_49 ?_
            rcases hsk with ⟨s1_, s2_, s3_, s4_⟩ | ⟨s1_, s2_, s3_, s4_, s5_⟩
            · exact ⟨_, _, _, _, _, _, _, _, _, rfl, rfl, by rw [hi29_2, s4_]; exact cl_none (by omega), ⟨by decide, by decide⟩, ⟨by omega, by omega, by omega⟩, fun _ => by omega⟩
            · exact absurd s1_ (by omega)
    exact L29 (257) (0) (0) (m0) (k0) (c4) (n4) (p4) (by omega) ⟨by omega, by omega⟩ (cen_ok c20) ⟨by omega, by omega, by omega⟩ (by omega) _ _ S _ (lv_sub hl [0, 1, 2, 3, 4] rfl)
  · refine lv_bipush (v := iI (-9)) C0.1 C0.2.1 dX1_countDirectory_23 (by decide) ?_
    subst hQ
    refine k_iret C0 S hAe hsz hr hlk dX1_countDirectory_25 ?_
    exact ⟨_, _, _, _, _, _, _, _, _, rfl, rfl, cen_no c20, ⟨by decide, by decide⟩, ⟨by omega, by omega, by omega⟩, fun h => absurd h (by decide)⟩
def rm_ce2 : Room := { frames := 6, cells := 0, slots := 0, locals := 140 }
set_option maxHeartbeats 4000000 in
set_option maxRecDepth 100000 in
theorem c_ce2 (l : Launch) (D : va_G) (cA : Nat → ClassId) (hZ aG hV hB aB g0 g1 g2 g3 g4 b3 b4 : Nat) (m0 k0 c3 c4 n3 n4 : Int) (d p3 p4 : Nat → Int) (z : Int) (hd : By d) (hB2 : gB d) (hz1 : 0 ≤ z) (hz2 : z < 2041) (hk0 : 0 ≤ k0) (hk1 : k0 ≤ m0) (hm0 : m0 ≤ 250) : kCi l D vwCl (kTys cA) yX1_countEntry wsX1_countEntry rm_ce2 [.ref hZ, .int (iI (z)), .int (iI (2))] [(hZ, .inr (1, [.ref hV, .ref aG, .int (iI (m0)), .int (iI (k0))])), (aG, .inl (cA 2, 5, .inr (.inr (.inr (.inr ((lvf g0 g1 g2 g3 g4))))))), (g3, .inr (2, [.ref hB, .ref hV, .ref b3, .int (iI (c3)), .int (iI (n3))])), (b3, .inl (cA 0, 64, .inl (fun y_ => iI (p3 y_)))), (g4, .inr (2, [.ref hB, .ref hV, .ref b4, .int (iI (c4)), .int (iI (n4))])), (b4, .inl (cA 0, 64, .inl (fun y_ => iI (p4 y_)))), (hV, .inr (8, [.ref hB, .int (iI (chs d)), .int (iI (gRoot d)), .int (iI (gN d)), .int (iI (gSz d)), .int (iI (gT d)), .int (iI (gTB d)), .int (iI (gTA d)), .int (iI (gCA d))])), (hB, .inr (0, [.ref aB])), (aB, .inl (cA 1, 2048, .inl (fun y_ => bI (d y_))))] (fun r u => ∃ (c_ m_ k_ c3_ c4_ n3_ n4_ : Int) (p3_ p4_ : Nat → Int), r = iI c_ ∧ u = [(hZ, .inr (1, [.ref hV, .ref aG, .int (iI (m_)), .int (iI (k_))])), (aG, .inl (cA 2, 5, .inr (.inr (.inr (.inr ((lvf g0 g1 g2 g3 g4))))))), (g3, .inr (2, [.ref hB, .ref hV, .ref b3, .int (iI (c3_)), .int (iI (n3_))])), (b3, .inl (cA 0, 64, .inl (fun y_ => iI (p3_ y_)))), (g4, .inr (2, [.ref hB, .ref hV, .ref b4, .int (iI (c4_)), .int (iI (n4_))])), (b4, .inl (cA 0, 64, .inl (fun y_ => iI (p4_ y_)))), (hV, .inr (8, [.ref hB, .int (iI (chs d)), .int (iI (gRoot d)), .int (iI (gN d)), .int (iI (gSz d)), .int (iI (gT d)), .int (iI (gTB d)), .int (iI (gTA d)), .int (iI (gCA d))])), (hB, .inr (0, [.ref aB])), (aB, .inl (cA 1, 2048, .inl (fun y_ => bI (d y_))))] ∧ cet d 2 z m0 k0 = (c_, m_, k_) ∧ CB c_ m_ k_) := by
  intro sz
  refine kEntry (cc := cX1_countEntry) (maxL := 3) (ret := (some .int)) (by decide) rfl (Nat.le_of_ble_eq_true rfl) ?_
  intro p e s m args below meth c A Q hAe hQ C0 hr hlk S hsz ls hl
  have hl : lv_has ls 3 [(0, .ref hZ), (1, .int (iI (z))), (2, .int (iI (2)))] := hl
  refine lv_aload_n C0.1 C0.2.1 dX1_countEntry_0 rfl (lv_at hl 0 rfl) ?_
  refine lv_dup C0.1 C0.2.1 dX1_countEntry_1 rfl ?_
  refine k_get C0 S (C := RX1) (T := TX1) (N := 4) (ci := 1) (by decide +kernel) 0 rfl rfl 2 (by decide) (by decide +kernel) (v := .int (iI (m0))) rfl dX1_countEntry_2 ?_
  refine lv_iconst (v := iI (1)) C0.1 C0.2.1 dX1_countEntry_5 rfl ?_
  refine k_iadd C0 dX1_countEntry_6 ?_
  refine k_put (ws' := [(hZ, .inr (1, [.ref hV, .ref aG, .int (iI (m0 + 1)), .int (iI (k0))])), (aG, .inl (cA 2, 5, .inr (.inr (.inr (.inr ((lvf g0 g1 g2 g3 g4))))))), (g3, .inr (2, [.ref hB, .ref hV, .ref b3, .int (iI (c3)), .int (iI (n3))])), (b3, .inl (cA 0, 64, .inl (fun y_ => iI (p3 y_)))), (g4, .inr (2, [.ref hB, .ref hV, .ref b4, .int (iI (c4)), .int (iI (n4))])), (b4, .inl (cA 0, 64, .inl (fun y_ => iI (p4 y_)))), (hV, .inr (8, [.ref hB, .int (iI (chs d)), .int (iI (gRoot d)), .int (iI (gN d)), .int (iI (gSz d)), .int (iI (gT d)), .int (iI (gTB d)), .int (iI (gTA d)), .int (iI (gCA d))])), (hB, .inr (0, [.ref aB])), (aB, .inl (cA 1, 2048, .inl (fun y_ => bI (d y_))))]) C0 S (C := RX1) (T := TX1) (N := 4) (ci := 1) (by decide +kernel) tyX1 tyX1_ok nmX1 0 rfl rfl 2 (by decide) (by decide +kernel) rfl (v := .int (iI (m0 + 1))) rfl rfl (Nat.le_of_ble_eq_true rfl) dX1_countEntry_7 rfl (fun H locs S => ?_)
  refine lv_aload_n C0.1 C0.2.1 dX1_countEntry_10 rfl (lv_at hl 0 rfl) ?_
  refine k_get C0 S (C := RX1) (T := TX1) (N := 4) (ci := 1) (by decide +kernel) 0 rfl rfl 2 (by decide) (by decide +kernel) (v := .int (iI (m0 + 1))) rfl dX1_countEntry_11 ?_
  refine lv_sipush (v := iI (250)) C0.1 C0.2.1 dX1_countEntry_14 (by decide) ?_
  refine k_icmp_le (tgt := 23) C0 (by constructor <;> omega) ⟨by decide, by decide⟩ dX1_countEntry_17 (by decide) (fun c17 => ?_) (fun c17 => ?_)
  · refine lv_aload_n C0.1 C0.2.1 dX1_countEntry_23 rfl (lv_at hl 0 rfl) ?_
    refine k_get C0 S (C := RX1) (T := TX1) (N := 4) (ci := 1) (by decide +kernel) 0 rfl rfl 0 (by decide) (by decide +kernel) (v := .ref hV) rfl dX1_countEntry_24 ?_
    refine lv_iload_n C0.1 C0.2.1 dX1_countEntry_27 rfl (lv_at hl 1 rfl) ?_
    refine k_calli (n := 1) (wr := [(hZ, .inr (1, [.ref hV, .ref aG, .int (iI (m0 + 1)), .int (iI (k0))])), (aG, .inl (cA 2, 5, .inr (.inr (.inr (.inr ((lvf g0 g1 g2 g3 g4))))))), (g3, .inr (2, [.ref hB, .ref hV, .ref b3, .int (iI (c3)), .int (iI (n3))])), (b3, .inl (cA 0, 64, .inl (fun y_ => iI (p3 y_)))), (g4, .inr (2, [.ref hB, .ref hV, .ref b4, .int (iI (c4)), .int (iI (n4))])), (b4, .inl (cA 0, 64, .inl (fun y_ => iI (p4 y_))))]) C0 S (c_X8_isDirectory l D cA hV hB aB d (z) hd hB2 (by omega) (by omega)) gX1_countEntry_X8_isDirectory rfl ⟨rfl, rfl⟩ (by decide +kernel) ⟨Nat.le_of_ble_eq_true rfl, Nat.le_of_ble_eq_true rfl⟩ [6, 7, 8] [0, 1, 2, 3, 4, 5] rfl rfl rfl rfl (by decide) (ci := 8) (q0 := 0) rfl rfl (As := [.int (iI (z))]) rfl hl.1 rfl (Nat.le_of_ble_eq_true rfl) dX1_countEntry_28 ⟨Nat.zero_le _, Nat.zero_le _⟩ (fun r u H locs hp S => ?_)
    obtain ⟨rfl, rfl⟩ := hp
    have S := S.sub (ws' := [(hZ, .inr (1, [.ref hV, .ref aG, .int (iI (m0 + 1)), .int (iI (k0))])), (aG, .inl (cA 2, 5, .inr (.inr (.inr (.inr ((lvf g0 g1 g2 g3 g4))))))), (g3, .inr (2, [.ref hB, .ref hV, .ref b3, .int (iI (c3)), .int (iI (n3))])), (b3, .inl (cA 0, 64, .inl (fun y_ => iI (p3 y_)))), (g4, .inr (2, [.ref hB, .ref hV, .ref b4, .int (iI (c4)), .int (iI (n4))])), (b4, .inl (cA 0, 64, .inl (fun y_ => iI (p4 y_)))), (hV, .inr (8, [.ref hB, .int (iI (chs d)), .int (iI (gRoot d)), .int (iI (gN d)), .int (iI (gSz d)), .int (iI (gT d)), .int (iI (gTB d)), .int (iI (gTA d)), .int (iI (gCA d))])), (hB, .inr (0, [.ref aB])), (aB, .inl (cA 1, 2048, .inl (fun y_ => bI (d y_))))]) [0, 1, 2, 3, 4, 5, 6, 7, 8] rfl rfl
    refine k_bz_ne (tgt := 36) C0 dX1_countEntry_31 (by decide) (fun c31 => ?_) (fun c31 => ?_)
    · refine lv_aload_n C0.1 C0.2.1 dX1_countEntry_36 rfl (lv_at hl 0 rfl) ?_
      refine lv_dup C0.1 C0.2.1 dX1_countEntry_37 rfl ?_
      refine k_get C0 S (C := RX1) (T := TX1) (N := 4) (ci := 1) (by decide +kernel) 0 rfl rfl 3 (by decide) (by decide +kernel) (v := .int (iI (k0))) rfl dX1_countEntry_38 ?_
      refine lv_iconst (v := iI (1)) C0.1 C0.2.1 dX1_countEntry_41 rfl ?_
      refine k_iadd C0 dX1_countEntry_42 ?_
      refine k_put (ws' := [(hZ, .inr (1, [.ref hV, .ref aG, .int (iI (m0 + 1)), .int (iI (k0 + 1))])), (aG, .inl (cA 2, 5, .inr (.inr (.inr (.inr ((lvf g0 g1 g2 g3 g4))))))), (g3, .inr (2, [.ref hB, .ref hV, .ref b3, .int (iI (c3)), .int (iI (n3))])), (b3, .inl (cA 0, 64, .inl (fun y_ => iI (p3 y_)))), (g4, .inr (2, [.ref hB, .ref hV, .ref b4, .int (iI (c4)), .int (iI (n4))])), (b4, .inl (cA 0, 64, .inl (fun y_ => iI (p4 y_)))), (hV, .inr (8, [.ref hB, .int (iI (chs d)), .int (iI (gRoot d)), .int (iI (gN d)), .int (iI (gSz d)), .int (iI (gT d)), .int (iI (gTB d)), .int (iI (gTA d)), .int (iI (gCA d))])), (hB, .inr (0, [.ref aB])), (aB, .inl (cA 1, 2048, .inl (fun y_ => bI (d y_))))]) C0 S (C := RX1) (T := TX1) (N := 4) (ci := 1) (by decide +kernel) tyX1 tyX1_ok nmX1 0 rfl rfl 3 (by decide) (by decide +kernel) rfl (v := .int (iI (k0 + 1))) rfl rfl (Nat.le_of_ble_eq_true rfl) dX1_countEntry_43 rfl (fun H locs S => ?_)
      refine lv_aload_n C0.1 C0.2.1 dX1_countEntry_46 rfl (lv_at hl 0 rfl) ?_
      refine lv_aload_n C0.1 C0.2.1 dX1_countEntry_47 rfl (lv_at hl 0 rfl) ?_
      refine k_get C0 S (C := RX1) (T := TX1) (N := 4) (ci := 1) (by decide +kernel) 0 rfl rfl 0 (by decide) (by decide +kernel) (v := .ref hV) rfl dX1_countEntry_48 ?_
      refine lv_iload_n C0.1 C0.2.1 dX1_countEntry_51 rfl (lv_at hl 1 rfl) ?_
      refine k_calli (n := 1) (wr := [(hZ, .inr (1, [.ref hV, .ref aG, .int (iI (m0 + 1)), .int (iI (k0 + 1))])), (aG, .inl (cA 2, 5, .inr (.inr (.inr (.inr ((lvf g0 g1 g2 g3 g4))))))), (g3, .inr (2, [.ref hB, .ref hV, .ref b3, .int (iI (c3)), .int (iI (n3))])), (b3, .inl (cA 0, 64, .inl (fun y_ => iI (p3 y_)))), (g4, .inr (2, [.ref hB, .ref hV, .ref b4, .int (iI (c4)), .int (iI (n4))])), (b4, .inl (cA 0, 64, .inl (fun y_ => iI (p4 y_))))]) C0 S (c_X8_firstClusterOf l D cA hV hB aB d (z) hd hB2 (by omega) (by omega)) gX1_countEntry_X8_firstClusterOf rfl ⟨rfl, rfl⟩ (by decide +kernel) ⟨Nat.le_of_ble_eq_true rfl, Nat.le_of_ble_eq_true rfl⟩ [6, 7, 8] [0, 1, 2, 3, 4, 5] rfl rfl rfl rfl (by decide) (ci := 8) (q0 := 0) rfl rfl (As := [.int (iI (z))]) rfl hl.1 rfl (Nat.le_of_ble_eq_true rfl) dX1_countEntry_52 ⟨Nat.zero_le _, Nat.zero_le _⟩ (fun r u H locs hp S => ?_)
      obtain ⟨rfl, rfl⟩ := hp
      have S := S.sub (ws' := [(hZ, .inr (1, [.ref hV, .ref aG, .int (iI (m0 + 1)), .int (iI (k0 + 1))])), (aG, .inl (cA 2, 5, .inr (.inr (.inr (.inr ((lvf g0 g1 g2 g3 g4))))))), (g3, .inr (2, [.ref hB, .ref hV, .ref b3, .int (iI (c3)), .int (iI (n3))])), (b3, .inl (cA 0, 64, .inl (fun y_ => iI (p3 y_)))), (g4, .inr (2, [.ref hB, .ref hV, .ref b4, .int (iI (c4)), .int (iI (n4))])), (b4, .inl (cA 0, 64, .inl (fun y_ => iI (p4 y_)))), (hV, .inr (8, [.ref hB, .int (iI (chs d)), .int (iI (gRoot d)), .int (iI (gN d)), .int (iI (gSz d)), .int (iI (gT d)), .int (iI (gTB d)), .int (iI (gTA d)), .int (iI (gCA d))])), (hB, .inr (0, [.ref aB])), (aB, .inl (cA 1, 2048, .inl (fun y_ => bI (d y_))))]) [0, 1, 2, 3, 4, 5, 6, 7, 8] rfl rfl
      have hb1 := By.rd hd ((z) + 5)
      refine lv_iload_n C0.1 C0.2.1 dX1_countEntry_55 rfl (lv_at hl 2 rfl) ?_
      refine lv_iconst (v := iI (1)) C0.1 C0.2.1 dX1_countEntry_56 rfl ?_
      refine k_iadd C0 dX1_countEntry_57 ?_
      refine k_topeq (v := iI (3)) (congrArg iI (by decide)) ?_
      refine k_calli (n := 2) (wr := []) C0 S (c_cd3 l D cA hZ aG hV hB aB g0 g1 g2 g3 g4 b3 b4 (m0 + 1) (k0 + 1) (c3) (c4) (n3) (n4) d p3 p4 (rd d ((z) + 5)) hd hB2 (by omega) (by omega) (by omega) (by omega) (by omega)) gX1_countEntry_X1_countDirectory rfl ⟨rfl, rfl⟩ (by decide +kernel) ⟨Nat.le_of_ble_eq_true rfl, Nat.le_of_ble_eq_true rfl⟩ [0, 1, 2, 3, 4, 5, 6, 7, 8] [] rfl rfl rfl rfl (by decide) (ci := 1) (q0 := 0) rfl rfl (As := [.int (iI (rd d ((z) + 5))), .int (iI (3))]) rfl hl.1 rfl (Nat.le_of_ble_eq_true rfl) dX1_countEntry_58 ⟨Nat.zero_le _, Nat.zero_le _⟩ (fun r u H locs hp S => ?_)
      obtain ⟨code8, met9, dirs10, y2, y3, y4, y5, pp6, pp7, rfl, rfl, hcen, ⟨⟨hcb1, hcb2⟩, ⟨hcb3, hcb4, hcb5⟩, hcb6⟩⟩ := hp
      have S := S.sub (ws' := [(hZ, .inr (1, [.ref hV, .ref aG, .int (iI (met9)), .int (iI (dirs10))])), (aG, .inl (cA 2, 5, .inr (.inr (.inr (.inr ((lvf g0 g1 g2 g3 g4))))))), (g3, .inr (2, [.ref hB, .ref hV, .ref b3, .int (iI (y2)), .int (iI (y4))])), (b3, .inl (cA 0, 64, .inl (fun y_ => iI (pp6 y_)))), (g4, .inr (2, [.ref hB, .ref hV, .ref b4, .int (iI (y3)), .int (iI (y5))])), (b4, .inl (cA 0, 64, .inl (fun y_ => iI (pp7 y_)))), (hV, .inr (8, [.ref hB, .int (iI (chs d)), .int (iI (gRoot d)), .int (iI (gN d)), .int (iI (gSz d)), .int (iI (gT d)), .int (iI (gTB d)), .int (iI (gTA d)), .int (iI (gCA d))])), (hB, .inr (0, [.ref aB])), (aB, .inl (cA 1, 2048, .inl (fun y_ => bI (d y_))))]) [0, 1, 2, 3, 4, 5, 6, 7, 8] rfl rfl
      subst hQ
      refine k_iret C0 S hAe hsz hr hlk dX1_countEntry_61 ?_
      exact ⟨_, _, _, _, _, _, _, _, _, rfl, rfl, (cet_dir (by omega) c31).trans hcen, ⟨by omega, by omega⟩, ⟨by omega, by omega, by omega⟩, hcb6⟩
    · refine lv_iconst (v := iI (0)) C0.1 C0.2.1 dX1_countEntry_34 rfl ?_
      subst hQ
      refine k_iret C0 S hAe hsz hr hlk dX1_countEntry_35 ?_
      exact ⟨_, _, _, _, _, _, _, _, _, rfl, rfl, cet_file (by omega) c31, ⟨by decide, by decide⟩, ⟨by omega, by omega, by omega⟩, fun _ => by omega⟩
  · refine lv_bipush (v := iI (-14)) C0.1 C0.2.1 dX1_countEntry_20 (by decide) ?_
    subst hQ
    refine k_iret C0 S hAe hsz hr hlk dX1_countEntry_22 ?_
    exact ⟨_, _, _, _, _, _, _, _, _, rfl, rfl, cet_many (by omega), ⟨by decide, by decide⟩, ⟨by omega, by omega, by omega⟩, fun h => absurd h (by decide)⟩
def rm_cd2 : Room := { frames := 7, cells := 0, slots := 0, locals := 162 }
set_option maxHeartbeats 4000000 in
set_option maxRecDepth 100000 in
theorem c_cd2 (l : Launch) (D : va_G) (cA : Nat → ClassId) (hZ aG hV hB aB g0 g1 g2 g3 g4 b2 b3 b4 : Nat) (m0 k0 c2 c3 c4 n2 n3 n4 : Int) (d p2 p3 p4 : Nat → Int) (z : Int) (hd : By d) (hB2 : gB d) (hz1 : 0 ≤ z) (hz2 : z < 256) (hk0 : 0 ≤ k0) (hk1 : k0 ≤ m0) (hm0 : m0 ≤ 250) : kCi l D vwCl (kTys cA) yX1_countDirectory wsX1_countDirectory rm_cd2 [.ref hZ, .int (iI (z)), .int (iI (2))] [(hZ, .inr (1, [.ref hV, .ref aG, .int (iI (m0)), .int (iI (k0))])), (aG, .inl (cA 2, 5, .inr (.inr (.inr (.inr ((lvf g0 g1 g2 g3 g4))))))), (g2, .inr (2, [.ref hB, .ref hV, .ref b2, .int (iI (c2)), .int (iI (n2))])), (b2, .inl (cA 0, 64, .inl (fun y_ => iI (p2 y_)))), (g3, .inr (2, [.ref hB, .ref hV, .ref b3, .int (iI (c3)), .int (iI (n3))])), (b3, .inl (cA 0, 64, .inl (fun y_ => iI (p3 y_)))), (g4, .inr (2, [.ref hB, .ref hV, .ref b4, .int (iI (c4)), .int (iI (n4))])), (b4, .inl (cA 0, 64, .inl (fun y_ => iI (p4 y_)))), (hV, .inr (8, [.ref hB, .int (iI (chs d)), .int (iI (gRoot d)), .int (iI (gN d)), .int (iI (gSz d)), .int (iI (gT d)), .int (iI (gTB d)), .int (iI (gTA d)), .int (iI (gCA d))])), (hB, .inr (0, [.ref aB])), (aB, .inl (cA 1, 2048, .inl (fun y_ => bI (d y_))))] (fun r u => ∃ (c_ m_ k_ c2_ c3_ c4_ n2_ n3_ n4_ : Int) (p2_ p3_ p4_ : Nat → Int), r = iI c_ ∧ u = [(hZ, .inr (1, [.ref hV, .ref aG, .int (iI (m_)), .int (iI (k_))])), (aG, .inl (cA 2, 5, .inr (.inr (.inr (.inr ((lvf g0 g1 g2 g3 g4))))))), (g2, .inr (2, [.ref hB, .ref hV, .ref b2, .int (iI (c2_)), .int (iI (n2_))])), (b2, .inl (cA 0, 64, .inl (fun y_ => iI (p2_ y_)))), (g3, .inr (2, [.ref hB, .ref hV, .ref b3, .int (iI (c3_)), .int (iI (n3_))])), (b3, .inl (cA 0, 64, .inl (fun y_ => iI (p3_ y_)))), (g4, .inr (2, [.ref hB, .ref hV, .ref b4, .int (iI (c4_)), .int (iI (n4_))])), (b4, .inl (cA 0, 64, .inl (fun y_ => iI (p4_ y_)))), (hV, .inr (8, [.ref hB, .int (iI (chs d)), .int (iI (gRoot d)), .int (iI (gN d)), .int (iI (gSz d)), .int (iI (gT d)), .int (iI (gTB d)), .int (iI (gTA d)), .int (iI (gCA d))])), (hB, .inr (0, [.ref aB])), (aB, .inl (cA 1, 2048, .inl (fun y_ => bI (d y_))))] ∧ cen d 3 z m0 k0 = (c_, m_, k_) ∧ CB c_ m_ k_) := by
  intro sz
  refine kEntry (cc := cX1_countDirectory) (maxL := 7) (ret := (some .int)) (by decide) rfl (Nat.le_of_ble_eq_true rfl) ?_
  intro p e s m args below meth c A Q hAe hQ C0 hr hlk S hsz ls hl
  have hl : lv_has ls 7 [(0, .ref hZ), (1, .int (iI (z))), (2, .int (iI (2)))] := hl
  refine lv_iload_n C0.1 C0.2.1 dX1_countDirectory_0 rfl (lv_at hl 2 rfl) ?_
  refine lv_iconst (v := iI (5)) C0.1 C0.2.1 dX1_countDirectory_1 rfl ?_
  refine k_icmp_lt (tgt := 8) C0 ⟨by decide, by decide⟩ ⟨by decide, by decide⟩ dX1_countDirectory_2 (by decide) (fun _ => ?_) (fun hc => absurd hc (by decide))
  refine lv_aload_n C0.1 C0.2.1 dX1_countDirectory_8 rfl (lv_at hl 0 rfl) ?_
  refine k_get C0 S (C := RX1) (T := TX1) (N := 4) (ci := 1) (by decide +kernel) 0 rfl rfl 1 (by decide) (by decide +kernel) (v := .ref aG) rfl dX1_countDirectory_9 ?_
  refine lv_iload_n C0.1 C0.2.1 dX1_countDirectory_12 rfl (lv_at hl 2 rfl) ?_
  refine k_aald C0 S 1 2 rfl rfl (z := 2) (by decide) (by decide) (by decide) (v := .ref g2) rfl dX1_countDirectory_13 ?_
  refine lv_astore_n (lv' := [(3, .ref g2), (0, .ref hZ), (1, .int (iI (z))), (2, .int (iI (2)))]) C0.1 C0.2.1 dX1_countDirectory_14 rfl hl (by decide) rfl (fun ls hl => ?_)
  refine lv_aload_n C0.1 C0.2.1 dX1_countDirectory_15 rfl (lv_at hl 0 rfl) ?_
  refine lv_iload_n C0.1 C0.2.1 dX1_countDirectory_16 rfl (lv_at hl 2 rfl) ?_
  refine k_calli (n := 1) (wr := [(hZ, .inr (1, [.ref hV, .ref aG, .int (iI (m0)), .int (iI (k0))])), (aG, .inl (cA 2, 5, .inr (.inr (.inr (.inr ((lvf g0 g1 g2 g3 g4))))))), (g3, .inr (2, [.ref hB, .ref hV, .ref b3, .int (iI (c3)), .int (iI (n3))])), (b3, .inl (cA 0, 64, .inl (fun y_ => iI (p3 y_)))), (g4, .inr (2, [.ref hB, .ref hV, .ref b4, .int (iI (c4)), .int (iI (n4))])), (b4, .inl (cA 0, 64, .inl (fun y_ => iI (p4 y_))))]) C0 S (c_X2_trace l D cA g2 b2 hV hB aB d (c2) (n2) p2 (z) hd hB2 (by omega) (by omega)) gX1_countDirectory_X2_trace rfl ⟨rfl, rfl⟩ (by decide +kernel) ⟨Nat.le_of_ble_eq_true rfl, Nat.le_of_ble_eq_true rfl⟩ [2, 3, 8, 9, 10] [0, 1, 4, 5, 6, 7] rfl rfl rfl rfl (by decide) (ci := 2) (q0 := 0) rfl rfl (As := [.int (iI (z))]) rfl hl.1 rfl (Nat.le_of_ble_eq_true rfl) dX1_countDirectory_17 ⟨Nat.zero_le _, Nat.zero_le _⟩ (fun r u H locs hp S => ?_)
  obtain ⟨cnt1, pl2, rfl, rfl, htcnt1⟩ := hp
  have S := S.sub (ws' := [(hZ, .inr (1, [.ref hV, .ref aG, .int (iI (m0)), .int (iI (k0))])), (aG, .inl (cA 2, 5, .inr (.inr (.inr (.inr ((lvf g0 g1 g2 g3 g4))))))), (g2, .inr (2, [.ref hB, .ref hV, .ref b2, .int (iI (cnt1)), .int (iI (0))])), (b2, .inl (cA 0, 64, .inl (fun y_ => iI (pl2 y_)))), (g3, .inr (2, [.ref hB, .ref hV, .ref b3, .int (iI (c3)), .int (iI (n3))])), (b3, .inl (cA 0, 64, .inl (fun y_ => iI (p3 y_)))), (g4, .inr (2, [.ref hB, .ref hV, .ref b4, .int (iI (c4)), .int (iI (n4))])), (b4, .inl (cA 0, 64, .inl (fun y_ => iI (p4 y_)))), (hV, .inr (8, [.ref hB, .int (iI (chs d)), .int (iI (gRoot d)), .int (iI (gN d)), .int (iI (gSz d)), .int (iI (gT d)), .int (iI (gTB d)), .int (iI (gTA d)), .int (iI (gCA d))])), (hB, .inr (0, [.ref aB])), (aB, .inl (cA 1, 2048, .inl (fun y_ => bI (d y_))))]) [0, 1, 6, 7, 2, 3, 4, 5, 8, 9, 10] rfl rfl
  refine k_bz_ne (tgt := 26) C0 dX1_countDirectory_20 (by decide) (fun c20 => ?_) (fun c20 => ?_)
  · have hT := htcnt1 c20
    obtain ⟨n1_, n2_⟩ := nsl_range hB2 hT.1
    refine lv_iconst (v := iI (0)) C0.1 C0.2.1 dX1_countDirectory_26 rfl ?_
    refine lv_istore (lv' := [(4, .int (iI (0))), (3, .ref g2), (0, .ref hZ), (1, .int (iI (z))), (2, .int (iI (2)))]) C0.1 C0.2.1 dX1_countDirectory_27 hl (by decide) rfl (fun ls hl => ?_)
    have L29 : ∀ (n_ : Nat) (q : Nat) (s1 : Int) (mx : Int) (kx : Int) (c3x : Int) (c4x : Int) (n3x : Int) (n4x : Int) (p3x : Nat → Int) (p4x : Nat → Int), ((q : Int) ≤ 256) → ((q : Int) ≤ s1 ∧ s1 ≤ 256) → (cen d 3 z m0 k0 = cl_ d z (chn d z) (cen d 2) s1 mx kx) → (0 ≤ kx ∧ kx ≤ mx ∧ mx ≤ 250) → (256 - q < n_) → ∀ (H : Heap) (locs : List Loc), kS D vwCl (kTys cA) A s [(hZ, .inr (1, [.ref hV, .ref aG, .int (iI (mx)), .int (iI (kx))])), (aG, .inl (cA 2, 5, .inr (.inr (.inr (.inr ((lvf g0 g1 g2 g3 g4))))))), (g2, .inr (2, [.ref hB, .ref hV, .ref b2, .int (iI (cnt1)), .int (iI (s1))])), (b2, .inl (cA 0, 64, .inl (fun y_ => iI (pl2 y_)))), (g3, .inr (2, [.ref hB, .ref hV, .ref b3, .int (iI (c3x)), .int (iI (n3x))])), (b3, .inl (cA 0, 64, .inl (fun y_ => iI (p3x y_)))), (g4, .inr (2, [.ref hB, .ref hV, .ref b4, .int (iI (c4x)), .int (iI (n4x))])), (b4, .inl (cA 0, 64, .inl (fun y_ => iI (p4x y_)))), (hV, .inr (8, [.ref hB, .int (iI (chs d)), .int (iI (gRoot d)), .int (iI (gN d)), .int (iI (gSz d)), .int (iI (gT d)), .int (iI (gTB d)), .int (iI (gTA d)), .int (iI (gCA d))])), (hB, .inr (0, [.ref aB])), (aB, .inl (cA 1, 2048, .inl (fun y_ => bI (d y_))))] H locs → ∀ ls : Array Slot, lv_has ls 7 [(4, .int (iI ((q : Int)))), (3, .ref g2), (0, .ref hZ), (1, .int (iI (z))), (2, .int (iI (2)))] → W p l e rm_cd2 s m args below meth c H locs 0 0 Q (F0 m 29 ls []) := by
      intro n_
      induction n_ with
      | zero => intro q s1 mx kx c3x c4x n3x n4x p3x p4x hi29_0 hi29_1 hi29_2 hi29_3 hm; exact absurd hm (Nat.not_lt_zero _)
      | succ n_ ih29 =>
        intro q s1 mx kx c3x c4x n3x n4x p3x p4x hi29_0 hi29_1 hi29_2 hi29_3 hm H locs S ls hl
        refine lv_iload C0.1 C0.2.1 dX1_countDirectory_29 (lv_at hl 0 rfl) ?_
        refine lv_sipush (v := iI (256)) C0.1 C0.2.1 dX1_countDirectory_31 (by decide) ?_
        refine k_icmp_ge (tgt := 73) C0 (by constructor <;> omega) ⟨by decide, by decide⟩ dX1_countDirectory_34 (by decide) (fun c34 => ?_) (fun c34 => ?_)
        · refine lv_iconst (v := iI (0)) C0.1 C0.2.1 dX1_countDirectory_73 rfl ?_
          subst hQ
          refine k_iret C0 S hAe hsz hr hlk dX1_countDirectory_74 ?_
          exact ⟨_, _, _, _, _, _, _, _, _, _, _, _, rfl, rfl, by rw [hi29_2]; exact cl_none (by rw [ent_neg (by omega)]; decide), ⟨by decide, by decide⟩, ⟨by omega, by omega, by omega⟩, fun _ => by omega⟩
        · refine lv_aload_n C0.1 C0.2.1 dX1_countDirectory_37 rfl (lv_at hl 1 rfl) ?_
          refine k_calli (n := 0) (wr := [(hZ, .inr (1, [.ref hV, .ref aG, .int (iI (mx)), .int (iI (kx))])), (aG, .inl (cA 2, 5, .inr (.inr (.inr (.inr ((lvf g0 g1 g2 g3 g4))))))), (g3, .inr (2, [.ref hB, .ref hV, .ref b3, .int (iI (c3x)), .int (iI (n3x))])), (b3, .inl (cA 0, 64, .inl (fun y_ => iI (p3x y_)))), (g4, .inr (2, [.ref hB, .ref hV, .ref b4, .int (iI (c4x)), .int (iI (n4x))])), (b4, .inl (cA 0, 64, .inl (fun y_ => iI (p4x y_))))]) C0 S (c_X2_nextEntry l D cA g2 b2 hV hB aB d (cnt1) (s1) pl2 (z) hd hB2 hT (by omega) (by omega)) gX1_countDirectory_X2_nextEntry rfl ⟨rfl, rfl⟩ (by decide +kernel) ⟨Nat.le_of_ble_eq_true rfl, Nat.le_of_ble_eq_true rfl⟩ [2, 3, 8, 9, 10] [0, 1, 4, 5, 6, 7] rfl rfl rfl rfl (by decide) (ci := 2) (q0 := 0) rfl rfl (As := []) rfl hl.1 rfl (Nat.le_of_ble_eq_true rfl) dX1_countDirectory_38 ⟨Nat.zero_le _, Nat.zero_le _⟩ (fun r u H locs hp S => ?_)
          obtain ⟨a3, t4, rfl, rfl, hnx, ⟨ht0, ht1⟩, hra⟩ := hp
          have S := S.sub (ws' := [(hZ, .inr (1, [.ref hV, .ref aG, .int (iI (mx)), .int (iI (kx))])), (aG, .inl (cA 2, 5, .inr (.inr (.inr (.inr ((lvf g0 g1 g2 g3 g4))))))), (g2, .inr (2, [.ref hB, .ref hV, .ref b2, .int (iI (cnt1)), .int (iI (t4))])), (b2, .inl (cA 0, 64, .inl (fun y_ => iI (pl2 y_)))), (g3, .inr (2, [.ref hB, .ref hV, .ref b3, .int (iI (c3x)), .int (iI (n3x))])), (b3, .inl (cA 0, 64, .inl (fun y_ => iI (p3x y_)))), (g4, .inr (2, [.ref hB, .ref hV, .ref b4, .int (iI (c4x)), .int (iI (n4x))])), (b4, .inl (cA 0, 64, .inl (fun y_ => iI (p4x y_)))), (hV, .inr (8, [.ref hB, .int (iI (chs d)), .int (iI (gRoot d)), .int (iI (gN d)), .int (iI (gSz d)), .int (iI (gT d)), .int (iI (gTB d)), .int (iI (gTA d)), .int (iI (gCA d))])), (hB, .inr (0, [.ref aB])), (aB, .inl (cA 1, 2048, .inl (fun y_ => bI (d y_))))]) [0, 1, 6, 7, 2, 3, 4, 5, 8, 9, 10] rfl rfl
          have hsk := NX.skip (F := fun j => cl_ d z (chn d z) (cen d 2) j mx kx) hnx (by omega) (fun j _ h1 h2 => cl_pas (by omega) h2)
          refine lv_istore (lv' := [(5, .int (iI (a3))), (4, .int (iI ((q : Int)))), (3, .ref g2), (0, .ref hZ), (1, .int (iI (z))), (2, .int (iI (2)))]) C0.1 C0.2.1 dX1_countDirectory_41 hl (by decide) rfl (fun ls hl => ?_)
          refine lv_iload C0.1 C0.2.1 dX1_countDirectory_43 (lv_at hl 0 rfl) ?_
          refine k_if_ge (tgt := 50) C0 (by constructor <;> omega) dX1_countDirectory_45 (by decide) (fun c45 => ?_) (fun c45 => ?_)
          · refine lv_aload_n C0.1 C0.2.1 dX1_countDirectory_50 rfl (lv_at hl 3 rfl) ?_
            refine lv_iload C0.1 C0.2.1 dX1_countDirectory_51 (lv_at hl 0 rfl) ?_
            refine lv_iload_n C0.1 C0.2.1 dX1_countDirectory_53 rfl (lv_at hl 5 rfl) ?_
            refine k_calli (n := 2) (wr := [(g2, .inr (2, [.ref hB, .ref hV, .ref b2, .int (iI (cnt1)), .int (iI (t4))])), (b2, .inl (cA 0, 64, .inl (fun y_ => iI (pl2 y_))))]) C0 S (c_ce2 l D cA hZ aG hV hB aB g0 g1 g2 g3 g4 b3 b4 (mx) (kx) (c3x) (c4x) (n3x) (n4x) d p3x p4x (a3) hd hB2 (by omega) (by omega) (by omega) (by omega) (by omega)) gX1_countDirectory_X1_countEntry rfl ⟨rfl, rfl⟩ (by decide +kernel) ⟨Nat.le_of_ble_eq_true rfl, Nat.le_of_ble_eq_true rfl⟩ [0, 1, 4, 5, 6, 7, 8, 9, 10] [2, 3] rfl rfl rfl rfl (by decide) (ci := 1) (q0 := 0) rfl rfl (As := [.int (iI (a3)), .int (iI (2))]) rfl hl.1 rfl (Nat.le_of_ble_eq_true rfl) dX1_countDirectory_54 ⟨Nat.zero_le _, Nat.zero_le _⟩ (fun r u H locs hp S => ?_)
            obtain ⟨code11, met12, dirs13, y5, y6, y7, y8, pp9, pp10, rfl, rfl, hcen, ⟨⟨hcb1, hcb2⟩, ⟨hcb3, hcb4, hcb5⟩, hcb6⟩⟩ := hp
            have S := S.sub (ws' := [(hZ, .inr (1, [.ref hV, .ref aG, .int (iI (met12)), .int (iI (dirs13))])), (aG, .inl (cA 2, 5, .inr (.inr (.inr (.inr ((lvf g0 g1 g2 g3 g4))))))), (g2, .inr (2, [.ref hB, .ref hV, .ref b2, .int (iI (cnt1)), .int (iI (t4))])), (b2, .inl (cA 0, 64, .inl (fun y_ => iI (pl2 y_)))), (g3, .inr (2, [.ref hB, .ref hV, .ref b3, .int (iI (y5)), .int (iI (y7))])), (b3, .inl (cA 0, 64, .inl (fun y_ => iI (pp9 y_)))), (g4, .inr (2, [.ref hB, .ref hV, .ref b4, .int (iI (y6)), .int (iI (y8))])), (b4, .inl (cA 0, 64, .inl (fun y_ => iI (pp10 y_)))), (hV, .inr (8, [.ref hB, .int (iI (chs d)), .int (iI (gRoot d)), .int (iI (gN d)), .int (iI (gSz d)), .int (iI (gT d)), .int (iI (gTB d)), .int (iI (gTA d)), .int (iI (gCA d))])), (hB, .inr (0, [.ref aB])), (aB, .inl (cA 1, 2048, .inl (fun y_ => bI (d y_))))]) [2, 3, 0, 1, 4, 5, 6, 7, 8, 9, 10] rfl rfl
            refine lv_istore (lv' := [(6, .int (iI (code11))), (5, .int (iI (a3))), (4, .int (iI ((q : Int)))), (3, .ref g2), (0, .ref hZ), (1, .int (iI (z))), (2, .int (iI (2)))]) C0.1 C0.2.1 dX1_countDirectory_57 hl (by decide) rfl (fun ls hl => ?_)
            refine lv_iload C0.1 C0.2.1 dX1_countDirectory_59 (lv_at hl 0 rfl) ?_
            refine k_if_ge (tgt := 67) C0 (by constructor <;> omega) dX1_countDirectory_61 (by decide) (fun c61 => ?_) (fun c61 => ?_)
            · refine lv_iinc (v := iI ((q : Int) + 1)) (lv' := [(4, .int (iI ((q : Int) + 1))), (6, .int (iI (code11))), (5, .int (iI (a3))), (3, .ref g2), (0, .ref hZ), (1, .int (iI (z))), (2, .int (iI (2)))]) C0.1 C0.2.1 dX1_countDirectory_67 hl (k := 2) rfl (iI_add _ _) (by decide) rfl (fun ls hl => ?_)
              refine lv_goto (tgt := 29) C0.1 C0.2.1 dX1_countDirectory_70 (by decide) ?_
              rcases hsk with ⟨s1_, s2_, s3_, s4_⟩ | ⟨s1_, s2_, s3_, s4_, s5_⟩
              · exact absurd s1_ (by omega)
              have hq : cen d 3 z m0 k0 = cl_ d z (chn d z) (cen d 2) t4 met12 dirs13 := by
                rw [hi29_2, s5_, cl_on (by omega) (by rw [s3_]; exact s4_) (by rw [s3_, hcen]; omega), s3_, hcen]
                congr 1; omega
              exact ih29 (q + 1) (t4) (met12) (dirs13) (y5) (y6) (y7) (y8) (pp9) (pp10) (by omega) ⟨by omega, by omega⟩ hq ⟨by omega, by omega, hcb6 (by omega)⟩ (by omega) _ _ S _ (lv_sub hl [0, 3, 4, 5, 6] rfl)
            · refine lv_iload C0.1 C0.2.1 dX1_countDirectory_64 (lv_at hl 0 rfl) ?_
              subst hQ
              refine k_iret C0 S hAe hsz hr hlk dX1_countDirectory_66 ?_
              rcases hsk with ⟨s1_, s2_, s3_, s4_⟩ | ⟨s1_, s2_, s3_, s4_, s5_⟩
              · exact absurd s1_ (by omega)
              · refine ⟨_, _, _, _, _, _, _, _, _, _, _, _, rfl, rfl, ?_, ⟨by omega, by omega⟩, ⟨by omega, by omega, by omega⟩, hcb6⟩
                rw [hi29_2, s5_, cl_bad (by omega) (by rw [s3_]; exact s4_) (by rw [s3_, hcen]; omega), s3_, hcen]
          · refine lv_iconst (v := iI (0)) C0.1 C0.2.1 dX1_countDirectory_48 rfl ?_
            subst hQ
            refine k_iret C0 S hAe hsz hr hlk dX1_countDirectory_49 ?_
            rcases hsk with ⟨s1_, s2_, s3_, s4_⟩ | ⟨s1_, s2_, s3_, s4_, s5_⟩
            · exact ⟨_, _, _, _, _, _, _, _, _, _, _, _, rfl, rfl, by rw [hi29_2, s4_]; exact cl_none (by omega), ⟨by decide, by decide⟩, ⟨by omega, by omega, by omega⟩, fun _ => by omega⟩
            · exact absurd s1_ (by omega)
    exact L29 (257) (0) (0) (m0) (k0) (c3) (c4) (n3) (n4) (p3) (p4) (by omega) ⟨by omega, by omega⟩ (cen_ok c20) ⟨by omega, by omega, by omega⟩ (by omega) _ _ S _ (lv_sub hl [0, 1, 2, 3, 4] rfl)
  · refine lv_bipush (v := iI (-9)) C0.1 C0.2.1 dX1_countDirectory_23 (by decide) ?_
    subst hQ
    refine k_iret C0 S hAe hsz hr hlk dX1_countDirectory_25 ?_
    exact ⟨_, _, _, _, _, _, _, _, _, _, _, _, rfl, rfl, cen_no c20, ⟨by decide, by decide⟩, ⟨by omega, by omega, by omega⟩, fun h => absurd h (by decide)⟩
def rm_ce1 : Room := { frames := 8, cells := 0, slots := 0, locals := 188 }
set_option maxHeartbeats 4000000 in
set_option maxRecDepth 100000 in
theorem c_ce1 (l : Launch) (D : va_G) (cA : Nat → ClassId) (hZ aG hV hB aB g0 g1 g2 g3 g4 b2 b3 b4 : Nat) (m0 k0 c2 c3 c4 n2 n3 n4 : Int) (d p2 p3 p4 : Nat → Int) (z : Int) (hd : By d) (hB2 : gB d) (hz1 : 0 ≤ z) (hz2 : z < 2041) (hk0 : 0 ≤ k0) (hk1 : k0 ≤ m0) (hm0 : m0 ≤ 250) : kCi l D vwCl (kTys cA) yX1_countEntry wsX1_countEntry rm_ce1 [.ref hZ, .int (iI (z)), .int (iI (1))] [(hZ, .inr (1, [.ref hV, .ref aG, .int (iI (m0)), .int (iI (k0))])), (aG, .inl (cA 2, 5, .inr (.inr (.inr (.inr ((lvf g0 g1 g2 g3 g4))))))), (g2, .inr (2, [.ref hB, .ref hV, .ref b2, .int (iI (c2)), .int (iI (n2))])), (b2, .inl (cA 0, 64, .inl (fun y_ => iI (p2 y_)))), (g3, .inr (2, [.ref hB, .ref hV, .ref b3, .int (iI (c3)), .int (iI (n3))])), (b3, .inl (cA 0, 64, .inl (fun y_ => iI (p3 y_)))), (g4, .inr (2, [.ref hB, .ref hV, .ref b4, .int (iI (c4)), .int (iI (n4))])), (b4, .inl (cA 0, 64, .inl (fun y_ => iI (p4 y_)))), (hV, .inr (8, [.ref hB, .int (iI (chs d)), .int (iI (gRoot d)), .int (iI (gN d)), .int (iI (gSz d)), .int (iI (gT d)), .int (iI (gTB d)), .int (iI (gTA d)), .int (iI (gCA d))])), (hB, .inr (0, [.ref aB])), (aB, .inl (cA 1, 2048, .inl (fun y_ => bI (d y_))))] (fun r u => ∃ (c_ m_ k_ c2_ c3_ c4_ n2_ n3_ n4_ : Int) (p2_ p3_ p4_ : Nat → Int), r = iI c_ ∧ u = [(hZ, .inr (1, [.ref hV, .ref aG, .int (iI (m_)), .int (iI (k_))])), (aG, .inl (cA 2, 5, .inr (.inr (.inr (.inr ((lvf g0 g1 g2 g3 g4))))))), (g2, .inr (2, [.ref hB, .ref hV, .ref b2, .int (iI (c2_)), .int (iI (n2_))])), (b2, .inl (cA 0, 64, .inl (fun y_ => iI (p2_ y_)))), (g3, .inr (2, [.ref hB, .ref hV, .ref b3, .int (iI (c3_)), .int (iI (n3_))])), (b3, .inl (cA 0, 64, .inl (fun y_ => iI (p3_ y_)))), (g4, .inr (2, [.ref hB, .ref hV, .ref b4, .int (iI (c4_)), .int (iI (n4_))])), (b4, .inl (cA 0, 64, .inl (fun y_ => iI (p4_ y_)))), (hV, .inr (8, [.ref hB, .int (iI (chs d)), .int (iI (gRoot d)), .int (iI (gN d)), .int (iI (gSz d)), .int (iI (gT d)), .int (iI (gTB d)), .int (iI (gTA d)), .int (iI (gCA d))])), (hB, .inr (0, [.ref aB])), (aB, .inl (cA 1, 2048, .inl (fun y_ => bI (d y_))))] ∧ cet d 3 z m0 k0 = (c_, m_, k_) ∧ CB c_ m_ k_) := by
  intro sz
  refine kEntry (cc := cX1_countEntry) (maxL := 3) (ret := (some .int)) (by decide) rfl (Nat.le_of_ble_eq_true rfl) ?_
  intro p e s m args below meth c A Q hAe hQ C0 hr hlk S hsz ls hl
  have hl : lv_has ls 3 [(0, .ref hZ), (1, .int (iI (z))), (2, .int (iI (1)))] := hl
  refine lv_aload_n C0.1 C0.2.1 dX1_countEntry_0 rfl (lv_at hl 0 rfl) ?_
  refine lv_dup C0.1 C0.2.1 dX1_countEntry_1 rfl ?_
  refine k_get C0 S (C := RX1) (T := TX1) (N := 4) (ci := 1) (by decide +kernel) 0 rfl rfl 2 (by decide) (by decide +kernel) (v := .int (iI (m0))) rfl dX1_countEntry_2 ?_
  refine lv_iconst (v := iI (1)) C0.1 C0.2.1 dX1_countEntry_5 rfl ?_
  refine k_iadd C0 dX1_countEntry_6 ?_
  refine k_put (ws' := [(hZ, .inr (1, [.ref hV, .ref aG, .int (iI (m0 + 1)), .int (iI (k0))])), (aG, .inl (cA 2, 5, .inr (.inr (.inr (.inr ((lvf g0 g1 g2 g3 g4))))))), (g2, .inr (2, [.ref hB, .ref hV, .ref b2, .int (iI (c2)), .int (iI (n2))])), (b2, .inl (cA 0, 64, .inl (fun y_ => iI (p2 y_)))), (g3, .inr (2, [.ref hB, .ref hV, .ref b3, .int (iI (c3)), .int (iI (n3))])), (b3, .inl (cA 0, 64, .inl (fun y_ => iI (p3 y_)))), (g4, .inr (2, [.ref hB, .ref hV, .ref b4, .int (iI (c4)), .int (iI (n4))])), (b4, .inl (cA 0, 64, .inl (fun y_ => iI (p4 y_)))), (hV, .inr (8, [.ref hB, .int (iI (chs d)), .int (iI (gRoot d)), .int (iI (gN d)), .int (iI (gSz d)), .int (iI (gT d)), .int (iI (gTB d)), .int (iI (gTA d)), .int (iI (gCA d))])), (hB, .inr (0, [.ref aB])), (aB, .inl (cA 1, 2048, .inl (fun y_ => bI (d y_))))]) C0 S (C := RX1) (T := TX1) (N := 4) (ci := 1) (by decide +kernel) tyX1 tyX1_ok nmX1 0 rfl rfl 2 (by decide) (by decide +kernel) rfl (v := .int (iI (m0 + 1))) rfl rfl (Nat.le_of_ble_eq_true rfl) dX1_countEntry_7 rfl (fun H locs S => ?_)
  refine lv_aload_n C0.1 C0.2.1 dX1_countEntry_10 rfl (lv_at hl 0 rfl) ?_
  refine k_get C0 S (C := RX1) (T := TX1) (N := 4) (ci := 1) (by decide +kernel) 0 rfl rfl 2 (by decide) (by decide +kernel) (v := .int (iI (m0 + 1))) rfl dX1_countEntry_11 ?_
  refine lv_sipush (v := iI (250)) C0.1 C0.2.1 dX1_countEntry_14 (by decide) ?_
  refine k_icmp_le (tgt := 23) C0 (by constructor <;> omega) ⟨by decide, by decide⟩ dX1_countEntry_17 (by decide) (fun c17 => ?_) (fun c17 => ?_)
  · refine lv_aload_n C0.1 C0.2.1 dX1_countEntry_23 rfl (lv_at hl 0 rfl) ?_
    refine k_get C0 S (C := RX1) (T := TX1) (N := 4) (ci := 1) (by decide +kernel) 0 rfl rfl 0 (by decide) (by decide +kernel) (v := .ref hV) rfl dX1_countEntry_24 ?_
    refine lv_iload_n C0.1 C0.2.1 dX1_countEntry_27 rfl (lv_at hl 1 rfl) ?_
    refine k_calli (n := 1) (wr := [(hZ, .inr (1, [.ref hV, .ref aG, .int (iI (m0 + 1)), .int (iI (k0))])), (aG, .inl (cA 2, 5, .inr (.inr (.inr (.inr ((lvf g0 g1 g2 g3 g4))))))), (g2, .inr (2, [.ref hB, .ref hV, .ref b2, .int (iI (c2)), .int (iI (n2))])), (b2, .inl (cA 0, 64, .inl (fun y_ => iI (p2 y_)))), (g3, .inr (2, [.ref hB, .ref hV, .ref b3, .int (iI (c3)), .int (iI (n3))])), (b3, .inl (cA 0, 64, .inl (fun y_ => iI (p3 y_)))), (g4, .inr (2, [.ref hB, .ref hV, .ref b4, .int (iI (c4)), .int (iI (n4))])), (b4, .inl (cA 0, 64, .inl (fun y_ => iI (p4 y_))))]) C0 S (c_X8_isDirectory l D cA hV hB aB d (z) hd hB2 (by omega) (by omega)) gX1_countEntry_X8_isDirectory rfl ⟨rfl, rfl⟩ (by decide +kernel) ⟨Nat.le_of_ble_eq_true rfl, Nat.le_of_ble_eq_true rfl⟩ [8, 9, 10] [0, 1, 2, 3, 4, 5, 6, 7] rfl rfl rfl rfl (by decide) (ci := 8) (q0 := 0) rfl rfl (As := [.int (iI (z))]) rfl hl.1 rfl (Nat.le_of_ble_eq_true rfl) dX1_countEntry_28 ⟨Nat.zero_le _, Nat.zero_le _⟩ (fun r u H locs hp S => ?_)
    obtain ⟨rfl, rfl⟩ := hp
    have S := S.sub (ws' := [(hZ, .inr (1, [.ref hV, .ref aG, .int (iI (m0 + 1)), .int (iI (k0))])), (aG, .inl (cA 2, 5, .inr (.inr (.inr (.inr ((lvf g0 g1 g2 g3 g4))))))), (g2, .inr (2, [.ref hB, .ref hV, .ref b2, .int (iI (c2)), .int (iI (n2))])), (b2, .inl (cA 0, 64, .inl (fun y_ => iI (p2 y_)))), (g3, .inr (2, [.ref hB, .ref hV, .ref b3, .int (iI (c3)), .int (iI (n3))])), (b3, .inl (cA 0, 64, .inl (fun y_ => iI (p3 y_)))), (g4, .inr (2, [.ref hB, .ref hV, .ref b4, .int (iI (c4)), .int (iI (n4))])), (b4, .inl (cA 0, 64, .inl (fun y_ => iI (p4 y_)))), (hV, .inr (8, [.ref hB, .int (iI (chs d)), .int (iI (gRoot d)), .int (iI (gN d)), .int (iI (gSz d)), .int (iI (gT d)), .int (iI (gTB d)), .int (iI (gTA d)), .int (iI (gCA d))])), (hB, .inr (0, [.ref aB])), (aB, .inl (cA 1, 2048, .inl (fun y_ => bI (d y_))))]) [0, 1, 2, 3, 4, 5, 6, 7, 8, 9, 10] rfl rfl
    refine k_bz_ne (tgt := 36) C0 dX1_countEntry_31 (by decide) (fun c31 => ?_) (fun c31 => ?_)
    · refine lv_aload_n C0.1 C0.2.1 dX1_countEntry_36 rfl (lv_at hl 0 rfl) ?_
      refine lv_dup C0.1 C0.2.1 dX1_countEntry_37 rfl ?_
      refine k_get C0 S (C := RX1) (T := TX1) (N := 4) (ci := 1) (by decide +kernel) 0 rfl rfl 3 (by decide) (by decide +kernel) (v := .int (iI (k0))) rfl dX1_countEntry_38 ?_
      refine lv_iconst (v := iI (1)) C0.1 C0.2.1 dX1_countEntry_41 rfl ?_
      refine k_iadd C0 dX1_countEntry_42 ?_
      refine k_put (ws' := [(hZ, .inr (1, [.ref hV, .ref aG, .int (iI (m0 + 1)), .int (iI (k0 + 1))])), (aG, .inl (cA 2, 5, .inr (.inr (.inr (.inr ((lvf g0 g1 g2 g3 g4))))))), (g2, .inr (2, [.ref hB, .ref hV, .ref b2, .int (iI (c2)), .int (iI (n2))])), (b2, .inl (cA 0, 64, .inl (fun y_ => iI (p2 y_)))), (g3, .inr (2, [.ref hB, .ref hV, .ref b3, .int (iI (c3)), .int (iI (n3))])), (b3, .inl (cA 0, 64, .inl (fun y_ => iI (p3 y_)))), (g4, .inr (2, [.ref hB, .ref hV, .ref b4, .int (iI (c4)), .int (iI (n4))])), (b4, .inl (cA 0, 64, .inl (fun y_ => iI (p4 y_)))), (hV, .inr (8, [.ref hB, .int (iI (chs d)), .int (iI (gRoot d)), .int (iI (gN d)), .int (iI (gSz d)), .int (iI (gT d)), .int (iI (gTB d)), .int (iI (gTA d)), .int (iI (gCA d))])), (hB, .inr (0, [.ref aB])), (aB, .inl (cA 1, 2048, .inl (fun y_ => bI (d y_))))]) C0 S (C := RX1) (T := TX1) (N := 4) (ci := 1) (by decide +kernel) tyX1 tyX1_ok nmX1 0 rfl rfl 3 (by decide) (by decide +kernel) rfl (v := .int (iI (k0 + 1))) rfl rfl (Nat.le_of_ble_eq_true rfl) dX1_countEntry_43 rfl (fun H locs S => ?_)
      refine lv_aload_n C0.1 C0.2.1 dX1_countEntry_46 rfl (lv_at hl 0 rfl) ?_
      refine lv_aload_n C0.1 C0.2.1 dX1_countEntry_47 rfl (lv_at hl 0 rfl) ?_
      refine k_get C0 S (C := RX1) (T := TX1) (N := 4) (ci := 1) (by decide +kernel) 0 rfl rfl 0 (by decide) (by decide +kernel) (v := .ref hV) rfl dX1_countEntry_48 ?_
      refine lv_iload_n C0.1 C0.2.1 dX1_countEntry_51 rfl (lv_at hl 1 rfl) ?_
      refine k_calli (n := 1) (wr := [(hZ, .inr (1, [.ref hV, .ref aG, .int (iI (m0 + 1)), .int (iI (k0 + 1))])), (aG, .inl (cA 2, 5, .inr (.inr (.inr (.inr ((lvf g0 g1 g2 g3 g4))))))), (g2, .inr (2, [.ref hB, .ref hV, .ref b2, .int (iI (c2)), .int (iI (n2))])), (b2, .inl (cA 0, 64, .inl (fun y_ => iI (p2 y_)))), (g3, .inr (2, [.ref hB, .ref hV, .ref b3, .int (iI (c3)), .int (iI (n3))])), (b3, .inl (cA 0, 64, .inl (fun y_ => iI (p3 y_)))), (g4, .inr (2, [.ref hB, .ref hV, .ref b4, .int (iI (c4)), .int (iI (n4))])), (b4, .inl (cA 0, 64, .inl (fun y_ => iI (p4 y_))))]) C0 S (c_X8_firstClusterOf l D cA hV hB aB d (z) hd hB2 (by omega) (by omega)) gX1_countEntry_X8_firstClusterOf rfl ⟨rfl, rfl⟩ (by decide +kernel) ⟨Nat.le_of_ble_eq_true rfl, Nat.le_of_ble_eq_true rfl⟩ [8, 9, 10] [0, 1, 2, 3, 4, 5, 6, 7] rfl rfl rfl rfl (by decide) (ci := 8) (q0 := 0) rfl rfl (As := [.int (iI (z))]) rfl hl.1 rfl (Nat.le_of_ble_eq_true rfl) dX1_countEntry_52 ⟨Nat.zero_le _, Nat.zero_le _⟩ (fun r u H locs hp S => ?_)
      obtain ⟨rfl, rfl⟩ := hp
      have S := S.sub (ws' := [(hZ, .inr (1, [.ref hV, .ref aG, .int (iI (m0 + 1)), .int (iI (k0 + 1))])), (aG, .inl (cA 2, 5, .inr (.inr (.inr (.inr ((lvf g0 g1 g2 g3 g4))))))), (g2, .inr (2, [.ref hB, .ref hV, .ref b2, .int (iI (c2)), .int (iI (n2))])), (b2, .inl (cA 0, 64, .inl (fun y_ => iI (p2 y_)))), (g3, .inr (2, [.ref hB, .ref hV, .ref b3, .int (iI (c3)), .int (iI (n3))])), (b3, .inl (cA 0, 64, .inl (fun y_ => iI (p3 y_)))), (g4, .inr (2, [.ref hB, .ref hV, .ref b4, .int (iI (c4)), .int (iI (n4))])), (b4, .inl (cA 0, 64, .inl (fun y_ => iI (p4 y_)))), (hV, .inr (8, [.ref hB, .int (iI (chs d)), .int (iI (gRoot d)), .int (iI (gN d)), .int (iI (gSz d)), .int (iI (gT d)), .int (iI (gTB d)), .int (iI (gTA d)), .int (iI (gCA d))])), (hB, .inr (0, [.ref aB])), (aB, .inl (cA 1, 2048, .inl (fun y_ => bI (d y_))))]) [0, 1, 2, 3, 4, 5, 6, 7, 8, 9, 10] rfl rfl
      have hb1 := By.rd hd ((z) + 5)
      refine lv_iload_n C0.1 C0.2.1 dX1_countEntry_55 rfl (lv_at hl 2 rfl) ?_
      refine lv_iconst (v := iI (1)) C0.1 C0.2.1 dX1_countEntry_56 rfl ?_
      refine k_iadd C0 dX1_countEntry_57 ?_
      refine k_topeq (v := iI (2)) (congrArg iI (by decide)) ?_
      refine k_calli (n := 2) (wr := []) C0 S (c_cd2 l D cA hZ aG hV hB aB g0 g1 g2 g3 g4 b2 b3 b4 (m0 + 1) (k0 + 1) (c2) (c3) (c4) (n2) (n3) (n4) d p2 p3 p4 (rd d ((z) + 5)) hd hB2 (by omega) (by omega) (by omega) (by omega) (by omega)) gX1_countEntry_X1_countDirectory rfl ⟨rfl, rfl⟩ (by decide +kernel) ⟨Nat.le_of_ble_eq_true rfl, Nat.le_of_ble_eq_true rfl⟩ [0, 1, 2, 3, 4, 5, 6, 7, 8, 9, 10] [] rfl rfl rfl rfl (by decide) (ci := 1) (q0 := 0) rfl rfl (As := [.int (iI (rd d ((z) + 5))), .int (iI (2))]) rfl hl.1 rfl (Nat.le_of_ble_eq_true rfl) dX1_countEntry_58 ⟨Nat.zero_le _, Nat.zero_le _⟩ (fun r u H locs hp S => ?_)
      obtain ⟨code11, met12, dirs13, y2, y3, y4, y5, y6, y7, pp8, pp9, pp10, rfl, rfl, hcen, ⟨⟨hcb1, hcb2⟩, ⟨hcb3, hcb4, hcb5⟩, hcb6⟩⟩ := hp
      have S := S.sub (ws' := [(hZ, .inr (1, [.ref hV, .ref aG, .int (iI (met12)), .int (iI (dirs13))])), (aG, .inl (cA 2, 5, .inr (.inr (.inr (.inr ((lvf g0 g1 g2 g3 g4))))))), (g2, .inr (2, [.ref hB, .ref hV, .ref b2, .int (iI (y2)), .int (iI (y5))])), (b2, .inl (cA 0, 64, .inl (fun y_ => iI (pp8 y_)))), (g3, .inr (2, [.ref hB, .ref hV, .ref b3, .int (iI (y3)), .int (iI (y6))])), (b3, .inl (cA 0, 64, .inl (fun y_ => iI (pp9 y_)))), (g4, .inr (2, [.ref hB, .ref hV, .ref b4, .int (iI (y4)), .int (iI (y7))])), (b4, .inl (cA 0, 64, .inl (fun y_ => iI (pp10 y_)))), (hV, .inr (8, [.ref hB, .int (iI (chs d)), .int (iI (gRoot d)), .int (iI (gN d)), .int (iI (gSz d)), .int (iI (gT d)), .int (iI (gTB d)), .int (iI (gTA d)), .int (iI (gCA d))])), (hB, .inr (0, [.ref aB])), (aB, .inl (cA 1, 2048, .inl (fun y_ => bI (d y_))))]) [0, 1, 2, 3, 4, 5, 6, 7, 8, 9, 10] rfl rfl
      subst hQ
      refine k_iret C0 S hAe hsz hr hlk dX1_countEntry_61 ?_
      exact ⟨_, _, _, _, _, _, _, _, _, _, _, _, rfl, rfl, (cet_dir (by omega) c31).trans hcen, ⟨by omega, by omega⟩, ⟨by omega, by omega, by omega⟩, hcb6⟩
    · refine lv_iconst (v := iI (0)) C0.1 C0.2.1 dX1_countEntry_34 rfl ?_
      subst hQ
      refine k_iret C0 S hAe hsz hr hlk dX1_countEntry_35 ?_
      exact ⟨_, _, _, _, _, _, _, _, _, _, _, _, rfl, rfl, cet_file (by omega) c31, ⟨by decide, by decide⟩, ⟨by omega, by omega, by omega⟩, fun _ => by omega⟩
  · refine lv_bipush (v := iI (-14)) C0.1 C0.2.1 dX1_countEntry_20 (by decide) ?_
    subst hQ
    refine k_iret C0 S hAe hsz hr hlk dX1_countEntry_22 ?_
    exact ⟨_, _, _, _, _, _, _, _, _, _, _, _, rfl, rfl, cet_many (by omega), ⟨by decide, by decide⟩, ⟨by omega, by omega, by omega⟩, fun h => absurd h (by decide)⟩
def rm_cd1 : Room := { frames := 9, cells := 0, slots := 0, locals := 210 }
set_option maxHeartbeats 4000000 in
set_option maxRecDepth 100000 in
theorem c_cd1 (l : Launch) (D : va_G) (cA : Nat → ClassId) (hZ aG hV hB aB g0 g1 g2 g3 g4 b1 b2 b3 b4 : Nat) (m0 k0 c1 c2 c3 c4 n1 n2 n3 n4 : Int) (d p1 p2 p3 p4 : Nat → Int) (z : Int) (hd : By d) (hB2 : gB d) (hz1 : 0 ≤ z) (hz2 : z < 256) (hk0 : 0 ≤ k0) (hk1 : k0 ≤ m0) (hm0 : m0 ≤ 250) : kCi l D vwCl (kTys cA) yX1_countDirectory wsX1_countDirectory rm_cd1 [.ref hZ, .int (iI (z)), .int (iI (1))] [(hZ, .inr (1, [.ref hV, .ref aG, .int (iI (m0)), .int (iI (k0))])), (aG, .inl (cA 2, 5, .inr (.inr (.inr (.inr ((lvf g0 g1 g2 g3 g4))))))), (g1, .inr (2, [.ref hB, .ref hV, .ref b1, .int (iI (c1)), .int (iI (n1))])), (b1, .inl (cA 0, 64, .inl (fun y_ => iI (p1 y_)))), (g2, .inr (2, [.ref hB, .ref hV, .ref b2, .int (iI (c2)), .int (iI (n2))])), (b2, .inl (cA 0, 64, .inl (fun y_ => iI (p2 y_)))), (g3, .inr (2, [.ref hB, .ref hV, .ref b3, .int (iI (c3)), .int (iI (n3))])), (b3, .inl (cA 0, 64, .inl (fun y_ => iI (p3 y_)))), (g4, .inr (2, [.ref hB, .ref hV, .ref b4, .int (iI (c4)), .int (iI (n4))])), (b4, .inl (cA 0, 64, .inl (fun y_ => iI (p4 y_)))), (hV, .inr (8, [.ref hB, .int (iI (chs d)), .int (iI (gRoot d)), .int (iI (gN d)), .int (iI (gSz d)), .int (iI (gT d)), .int (iI (gTB d)), .int (iI (gTA d)), .int (iI (gCA d))])), (hB, .inr (0, [.ref aB])), (aB, .inl (cA 1, 2048, .inl (fun y_ => bI (d y_))))] (fun r u => ∃ (c_ m_ k_ c1_ c2_ c3_ c4_ n1_ n2_ n3_ n4_ : Int) (p1_ p2_ p3_ p4_ : Nat → Int), r = iI c_ ∧ u = [(hZ, .inr (1, [.ref hV, .ref aG, .int (iI (m_)), .int (iI (k_))])), (aG, .inl (cA 2, 5, .inr (.inr (.inr (.inr ((lvf g0 g1 g2 g3 g4))))))), (g1, .inr (2, [.ref hB, .ref hV, .ref b1, .int (iI (c1_)), .int (iI (n1_))])), (b1, .inl (cA 0, 64, .inl (fun y_ => iI (p1_ y_)))), (g2, .inr (2, [.ref hB, .ref hV, .ref b2, .int (iI (c2_)), .int (iI (n2_))])), (b2, .inl (cA 0, 64, .inl (fun y_ => iI (p2_ y_)))), (g3, .inr (2, [.ref hB, .ref hV, .ref b3, .int (iI (c3_)), .int (iI (n3_))])), (b3, .inl (cA 0, 64, .inl (fun y_ => iI (p3_ y_)))), (g4, .inr (2, [.ref hB, .ref hV, .ref b4, .int (iI (c4_)), .int (iI (n4_))])), (b4, .inl (cA 0, 64, .inl (fun y_ => iI (p4_ y_)))), (hV, .inr (8, [.ref hB, .int (iI (chs d)), .int (iI (gRoot d)), .int (iI (gN d)), .int (iI (gSz d)), .int (iI (gT d)), .int (iI (gTB d)), .int (iI (gTA d)), .int (iI (gCA d))])), (hB, .inr (0, [.ref aB])), (aB, .inl (cA 1, 2048, .inl (fun y_ => bI (d y_))))] ∧ cen d 4 z m0 k0 = (c_, m_, k_) ∧ CB c_ m_ k_) := by
  intro sz
  refine kEntry (cc := cX1_countDirectory) (maxL := 7) (ret := (some .int)) (by decide) rfl (Nat.le_of_ble_eq_true rfl) ?_
  intro p e s m args below meth c A Q hAe hQ C0 hr hlk S hsz ls hl
  have hl : lv_has ls 7 [(0, .ref hZ), (1, .int (iI (z))), (2, .int (iI (1)))] := hl
  refine lv_iload_n C0.1 C0.2.1 dX1_countDirectory_0 rfl (lv_at hl 2 rfl) ?_
  refine lv_iconst (v := iI (5)) C0.1 C0.2.1 dX1_countDirectory_1 rfl ?_
  refine k_icmp_lt (tgt := 8) C0 ⟨by decide, by decide⟩ ⟨by decide, by decide⟩ dX1_countDirectory_2 (by decide) (fun _ => ?_) (fun hc => absurd hc (by decide))
  refine lv_aload_n C0.1 C0.2.1 dX1_countDirectory_8 rfl (lv_at hl 0 rfl) ?_
  refine k_get C0 S (C := RX1) (T := TX1) (N := 4) (ci := 1) (by decide +kernel) 0 rfl rfl 1 (by decide) (by decide +kernel) (v := .ref aG) rfl dX1_countDirectory_9 ?_
  refine lv_iload_n C0.1 C0.2.1 dX1_countDirectory_12 rfl (lv_at hl 2 rfl) ?_
  refine k_aald C0 S 1 2 rfl rfl (z := 1) (by decide) (by decide) (by decide) (v := .ref g1) rfl dX1_countDirectory_13 ?_
  refine lv_astore_n (lv' := [(3, .ref g1), (0, .ref hZ), (1, .int (iI (z))), (2, .int (iI (1)))]) C0.1 C0.2.1 dX1_countDirectory_14 rfl hl (by decide) rfl (fun ls hl => ?_)
  refine lv_aload_n C0.1 C0.2.1 dX1_countDirectory_15 rfl (lv_at hl 0 rfl) ?_
  refine lv_iload_n C0.1 C0.2.1 dX1_countDirectory_16 rfl (lv_at hl 2 rfl) ?_
  refine k_calli (n := 1) (wr := [(hZ, .inr (1, [.ref hV, .ref aG, .int (iI (m0)), .int (iI (k0))])), (aG, .inl (cA 2, 5, .inr (.inr (.inr (.inr ((lvf g0 g1 g2 g3 g4))))))), (g2, .inr (2, [.ref hB, .ref hV, .ref b2, .int (iI (c2)), .int (iI (n2))])), (b2, .inl (cA 0, 64, .inl (fun y_ => iI (p2 y_)))), (g3, .inr (2, [.ref hB, .ref hV, .ref b3, .int (iI (c3)), .int (iI (n3))])), (b3, .inl (cA 0, 64, .inl (fun y_ => iI (p3 y_)))), (g4, .inr (2, [.ref hB, .ref hV, .ref b4, .int (iI (c4)), .int (iI (n4))])), (b4, .inl (cA 0, 64, .inl (fun y_ => iI (p4 y_))))]) C0 S (c_X2_trace l D cA g1 b1 hV hB aB d (c1) (n1) p1 (z) hd hB2 (by omega) (by omega)) gX1_countDirectory_X2_trace rfl ⟨rfl, rfl⟩ (by decide +kernel) ⟨Nat.le_of_ble_eq_true rfl, Nat.le_of_ble_eq_true rfl⟩ [2, 3, 10, 11, 12] [0, 1, 4, 5, 6, 7, 8, 9] rfl rfl rfl rfl (by decide) (ci := 2) (q0 := 0) rfl rfl (As := [.int (iI (z))]) rfl hl.1 rfl (Nat.le_of_ble_eq_true rfl) dX1_countDirectory_17 ⟨Nat.zero_le _, Nat.zero_le _⟩ (fun r u H locs hp S => ?_)
  obtain ⟨cnt1, pl2, rfl, rfl, htcnt1⟩ := hp
  have S := S.sub (ws' := [(hZ, .inr (1, [.ref hV, .ref aG, .int (iI (m0)), .int (iI (k0))])), (aG, .inl (cA 2, 5, .inr (.inr (.inr (.inr ((lvf g0 g1 g2 g3 g4))))))), (g1, .inr (2, [.ref hB, .ref hV, .ref b1, .int (iI (cnt1)), .int (iI (0))])), (b1, .inl (cA 0, 64, .inl (fun y_ => iI (pl2 y_)))), (g2, .inr (2, [.ref hB, .ref hV, .ref b2, .int (iI (c2)), .int (iI (n2))])), (b2, .inl (cA 0, 64, .inl (fun y_ => iI (p2 y_)))), (g3, .inr (2, [.ref hB, .ref hV, .ref b3, .int (iI (c3)), .int (iI (n3))])), (b3, .inl (cA 0, 64, .inl (fun y_ => iI (p3 y_)))), (g4, .inr (2, [.ref hB, .ref hV, .ref b4, .int (iI (c4)), .int (iI (n4))])), (b4, .inl (cA 0, 64, .inl (fun y_ => iI (p4 y_)))), (hV, .inr (8, [.ref hB, .int (iI (chs d)), .int (iI (gRoot d)), .int (iI (gN d)), .int (iI (gSz d)), .int (iI (gT d)), .int (iI (gTB d)), .int (iI (gTA d)), .int (iI (gCA d))])), (hB, .inr (0, [.ref aB])), (aB, .inl (cA 1, 2048, .inl (fun y_ => bI (d y_))))]) [0, 1, 8, 9, 2, 3, 4, 5, 6, 7, 10, 11, 12] rfl rfl
  refine k_bz_ne (tgt := 26) C0 dX1_countDirectory_20 (by decide) (fun c20 => ?_) (fun c20 => ?_)
  · have hT := htcnt1 c20
    obtain ⟨n1_, n2_⟩ := nsl_range hB2 hT.1
    refine lv_iconst (v := iI (0)) C0.1 C0.2.1 dX1_countDirectory_26 rfl ?_
    refine lv_istore (lv' := [(4, .int (iI (0))), (3, .ref g1), (0, .ref hZ), (1, .int (iI (z))), (2, .int (iI (1)))]) C0.1 C0.2.1 dX1_countDirectory_27 hl (by decide) rfl (fun ls hl => ?_)
    have L29 : ∀ (n_ : Nat) (q : Nat) (s1 : Int) (mx : Int) (kx : Int) (c2x : Int) (c3x : Int) (c4x : Int) (n2x : Int) (n3x : Int) (n4x : Int) (p2x : Nat → Int) (p3x : Nat → Int) (p4x : Nat → Int), ((q : Int) ≤ 256) → ((q : Int) ≤ s1 ∧ s1 ≤ 256) → (cen d 4 z m0 k0 = cl_ d z (chn d z) (cen d 3) s1 mx kx) → (0 ≤ kx ∧ kx ≤ mx ∧ mx ≤ 250) → (256 - q < n_) → ∀ (H : Heap) (locs : List Loc), kS D vwCl (kTys cA) A s [(hZ, .inr (1, [.ref hV, .ref aG, .int (iI (mx)), .int (iI (kx))])), (aG, .inl (cA 2, 5, .inr (.inr (.inr (.inr ((lvf g0 g1 g2 g3 g4))))))), (g1, .inr (2, [.ref hB, .ref hV, .ref b1, .int (iI (cnt1)), .int (iI (s1))])), (b1, .inl (cA 0, 64, .inl (fun y_ => iI (pl2 y_)))), (g2, .inr (2, [.ref hB, .ref hV, .ref b2, .int (iI (c2x)), .int (iI (n2x))])), (b2, .inl (cA 0, 64, .inl (fun y_ => iI (p2x y_)))), (g3, .inr (2, [.ref hB, .ref hV, .ref b3, .int (iI (c3x)), .int (iI (n3x))])), (b3, .inl (cA 0, 64, .inl (fun y_ => iI (p3x y_)))), (g4, .inr (2, [.ref hB, .ref hV, .ref b4, .int (iI (c4x)), .int (iI (n4x))])), (b4, .inl (cA 0, 64, .inl (fun y_ => iI (p4x y_)))), (hV, .inr (8, [.ref hB, .int (iI (chs d)), .int (iI (gRoot d)), .int (iI (gN d)), .int (iI (gSz d)), .int (iI (gT d)), .int (iI (gTB d)), .int (iI (gTA d)), .int (iI (gCA d))])), (hB, .inr (0, [.ref aB])), (aB, .inl (cA 1, 2048, .inl (fun y_ => bI (d y_))))] H locs → ∀ ls : Array Slot, lv_has ls 7 [(4, .int (iI ((q : Int)))), (3, .ref g1), (0, .ref hZ), (1, .int (iI (z))), (2, .int (iI (1)))] → W p l e rm_cd1 s m args below meth c H locs 0 0 Q (F0 m 29 ls []) := by
      intro n_
      induction n_ with
      | zero => intro q s1 mx kx c2x c3x c4x n2x n3x n4x p2x p3x p4x hi29_0 hi29_1 hi29_2 hi29_3 hm; exact absurd hm (Nat.not_lt_zero _)
      | succ n_ ih29 =>
        intro q s1 mx kx c2x c3x c4x n2x n3x n4x p2x p3x p4x hi29_0 hi29_1 hi29_2 hi29_3 hm H locs S ls hl
        refine lv_iload C0.1 C0.2.1 dX1_countDirectory_29 (lv_at hl 0 rfl) ?_
        refine lv_sipush (v := iI (256)) C0.1 C0.2.1 dX1_countDirectory_31 (by decide) ?_
        refine k_icmp_ge (tgt := 73) C0 (by constructor <;> omega) ⟨by decide, by decide⟩ dX1_countDirectory_34 (by decide) (fun c34 => ?_) (fun c34 => ?_)
        · refine lv_iconst (v := iI (0)) C0.1 C0.2.1 dX1_countDirectory_73 rfl ?_
          subst hQ
          refine k_iret C0 S hAe hsz hr hlk dX1_countDirectory_74 ?_
          exact ⟨_, _, _, _, _, _, _, _, _, _, _, _, _, _, _, rfl, rfl, by rw [hi29_2]; exact cl_none (by rw [ent_neg (by omega)]; decide), ⟨by decide, by decide⟩, ⟨by omega, by omega, by omega⟩, fun _ => by omega⟩
        · refine lv_aload_n C0.1 C0.2.1 dX1_countDirectory_37 rfl (lv_at hl 1 rfl) ?_
          refine k_calli (n := 0) (wr := [(hZ, .inr (1, [.ref hV, .ref aG, .int (iI (mx)), .int (iI (kx))])), (aG, .inl (cA 2, 5, .inr (.inr (.inr (.inr ((lvf g0 g1 g2 g3 g4))))))), (g2, .inr (2, [.ref hB, .ref hV, .ref b2, .int (iI (c2x)), .int (iI (n2x))])), (b2, .inl (cA 0, 64, .inl (fun y_ => iI (p2x y_)))), (g3, .inr (2, [.ref hB, .ref hV, .ref b3, .int (iI (c3x)), .int (iI (n3x))])), (b3, .inl (cA 0, 64, .inl (fun y_ => iI (p3x y_)))), (g4, .inr (2, [.ref hB, .ref hV, .ref b4, .int (iI (c4x)), .int (iI (n4x))])), (b4, .inl (cA 0, 64, .inl (fun y_ => iI (p4x y_))))]) C0 S (c_X2_nextEntry l D cA g1 b1 hV hB aB d (cnt1) (s1) pl2 (z) hd hB2 hT (by omega) (by omega)) gX1_countDirectory_X2_nextEntry rfl ⟨rfl, rfl⟩ (by decide +kernel) ⟨Nat.le_of_ble_eq_true rfl, Nat.le_of_ble_eq_true rfl⟩ [2, 3, 10, 11, 12] [0, 1, 4, 5, 6, 7, 8, 9] rfl rfl rfl rfl (by decide) (ci := 2) (q0 := 0) rfl rfl (As := []) rfl hl.1 rfl (Nat.le_of_ble_eq_true rfl) dX1_countDirectory_38 ⟨Nat.zero_le _, Nat.zero_le _⟩ (fun r u H locs hp S => ?_)
          obtain ⟨a3, t4, rfl, rfl, hnx, ⟨ht0, ht1⟩, hra⟩ := hp
          have S := S.sub (ws' := [(hZ, .inr (1, [.ref hV, .ref aG, .int (iI (mx)), .int (iI (kx))])), (aG, .inl (cA 2, 5, .inr (.inr (.inr (.inr ((lvf g0 g1 g2 g3 g4))))))), (g1, .inr (2, [.ref hB, .ref hV, .ref b1, .int (iI (cnt1)), .int (iI (t4))])), (b1, .inl (cA 0, 64, .inl (fun y_ => iI (pl2 y_)))), (g2, .inr (2, [.ref hB, .ref hV, .ref b2, .int (iI (c2x)), .int (iI (n2x))])), (b2, .inl (cA 0, 64, .inl (fun y_ => iI (p2x y_)))), (g3, .inr (2, [.ref hB, .ref hV, .ref b3, .int (iI (c3x)), .int (iI (n3x))])), (b3, .inl (cA 0, 64, .inl (fun y_ => iI (p3x y_)))), (g4, .inr (2, [.ref hB, .ref hV, .ref b4, .int (iI (c4x)), .int (iI (n4x))])), (b4, .inl (cA 0, 64, .inl (fun y_ => iI (p4x y_)))), (hV, .inr (8, [.ref hB, .int (iI (chs d)), .int (iI (gRoot d)), .int (iI (gN d)), .int (iI (gSz d)), .int (iI (gT d)), .int (iI (gTB d)), .int (iI (gTA d)), .int (iI (gCA d))])), (hB, .inr (0, [.ref aB])), (aB, .inl (cA 1, 2048, .inl (fun y_ => bI (d y_))))]) [0, 1, 8, 9, 2, 3, 4, 5, 6, 7, 10, 11, 12] rfl rfl
          have hsk := NX.skip (F := fun j => cl_ d z (chn d z) (cen d 3) j mx kx) hnx (by omega) (fun j _ h1 h2 => cl_pas (by omega) h2)
          refine lv_istore (lv' := [(5, .int (iI (a3))), (4, .int (iI ((q : Int)))), (3, .ref g1), (0, .ref hZ), (1, .int (iI (z))), (2, .int (iI (1)))]) C0.1 C0.2.1 dX1_countDirectory_41 hl (by decide) rfl (fun ls hl => ?_)
          refine lv_iload C0.1 C0.2.1 dX1_countDirectory_43 (lv_at hl 0 rfl) ?_
          refine k_if_ge (tgt := 50) C0 (by constructor <;> omega) dX1_countDirectory_45 (by decide) (fun c45 => ?_) (fun c45 => ?_)
          · refine lv_aload_n C0.1 C0.2.1 dX1_countDirectory_50 rfl (lv_at hl 3 rfl) ?_
            refine lv_iload C0.1 C0.2.1 dX1_countDirectory_51 (lv_at hl 0 rfl) ?_
            refine lv_iload_n C0.1 C0.2.1 dX1_countDirectory_53 rfl (lv_at hl 5 rfl) ?_
            refine k_calli (n := 2) (wr := [(g1, .inr (2, [.ref hB, .ref hV, .ref b1, .int (iI (cnt1)), .int (iI (t4))])), (b1, .inl (cA 0, 64, .inl (fun y_ => iI (pl2 y_))))]) C0 S (c_ce1 l D cA hZ aG hV hB aB g0 g1 g2 g3 g4 b2 b3 b4 (mx) (kx) (c2x) (c3x) (c4x) (n2x) (n3x) (n4x) d p2x p3x p4x (a3) hd hB2 (by omega) (by omega) (by omega) (by omega) (by omega)) gX1_countDirectory_X1_countEntry rfl ⟨rfl, rfl⟩ (by decide +kernel) ⟨Nat.le_of_ble_eq_true rfl, Nat.le_of_ble_eq_true rfl⟩ [0, 1, 4, 5, 6, 7, 8, 9, 10, 11, 12] [2, 3] rfl rfl rfl rfl (by decide) (ci := 1) (q0 := 0) rfl rfl (As := [.int (iI (a3)), .int (iI (1))]) rfl hl.1 rfl (Nat.le_of_ble_eq_true rfl) dX1_countDirectory_54 ⟨Nat.zero_le _, Nat.zero_le _⟩ (fun r u H locs hp S => ?_)
            obtain ⟨code14, met15, dirs16, y5, y6, y7, y8, y9, y10, pp11, pp12, pp13, rfl, rfl, hcen, ⟨⟨hcb1, hcb2⟩, ⟨hcb3, hcb4, hcb5⟩, hcb6⟩⟩ := hp
            have S := S.sub (ws' := [(hZ, .inr (1, [.ref hV, .ref aG, .int (iI (met15)), .int (iI (dirs16))])), (aG, .inl (cA 2, 5, .inr (.inr (.inr (.inr ((lvf g0 g1 g2 g3 g4))))))), (g1, .inr (2, [.ref hB, .ref hV, .ref b1, .int (iI (cnt1)), .int (iI (t4))])), (b1, .inl (cA 0, 64, .inl (fun y_ => iI (pl2 y_)))), (g2, .inr (2, [.ref hB, .ref hV, .ref b2, .int (iI (y5)), .int (iI (y8))])), (b2, .inl (cA 0, 64, .inl (fun y_ => iI (pp11 y_)))), (g3, .inr (2, [.ref hB, .ref hV, .ref b3, .int (iI (y6)), .int (iI (y9))])), (b3, .inl (cA 0, 64, .inl (fun y_ => iI (pp12 y_)))), (g4, .inr (2, [.ref hB, .ref hV, .ref b4, .int (iI (y7)), .int (iI (y10))])), (b4, .inl (cA 0, 64, .inl (fun y_ => iI (pp13 y_)))), (hV, .inr (8, [.ref hB, .int (iI (chs d)), .int (iI (gRoot d)), .int (iI (gN d)), .int (iI (gSz d)), .int (iI (gT d)), .int (iI (gTB d)), .int (iI (gTA d)), .int (iI (gCA d))])), (hB, .inr (0, [.ref aB])), (aB, .inl (cA 1, 2048, .inl (fun y_ => bI (d y_))))]) [2, 3, 0, 1, 4, 5, 6, 7, 8, 9, 10, 11, 12] rfl rfl
            refine lv_istore (lv' := [(6, .int (iI (code14))), (5, .int (iI (a3))), (4, .int (iI ((q : Int)))), (3, .ref g1), (0, .ref hZ), (1, .int (iI (z))), (2, .int (iI (1)))]) C0.1 C0.2.1 dX1_countDirectory_57 hl (by decide) rfl (fun ls hl => ?_)
            refine lv_iload C0.1 C0.2.1 dX1_countDirectory_59 (lv_at hl 0 rfl) ?_
            refine k_if_ge (tgt := 67) C0 (by constructor <;> omega) dX1_countDirectory_61 (by decide) (fun c61 => ?_) (fun c61 => ?_)
            · refine lv_iinc (v := iI ((q : Int) + 1)) (lv' := [(4, .int (iI ((q : Int) + 1))), (6, .int (iI (code14))), (5, .int (iI (a3))), (3, .ref g1), (0, .ref hZ), (1, .int (iI (z))), (2, .int (iI (1)))]) C0.1 C0.2.1 dX1_countDirectory_67 hl (k := 2) rfl (iI_add _ _) (by decide) rfl (fun ls hl => ?_)
              refine lv_goto (tgt := 29) C0.1 C0.2.1 dX1_countDirectory_70 (by decide) ?_
              rcases hsk with ⟨s1_, s2_, s3_, s4_⟩ | ⟨s1_, s2_, s3_, s4_, s5_⟩
              · exact absurd s1_ (by omega)
              have hq : cen d 4 z m0 k0 = cl_ d z (chn d z) (cen d 3) t4 met15 dirs16 := by
                rw [hi29_2, s5_, cl_on (by omega) (by rw [s3_]; exact s4_) (by rw [s3_, hcen]; omega), s3_, hcen]
                congr 1; omega
              exact ih29 (q + 1) (t4) (met15) (dirs16) (y5) (y6) (y7) (y8) (y9) (y10) (pp11) (pp12) (pp13) (by omega) ⟨by omega, by omega⟩ hq ⟨by omega, by omega, hcb6 (by omega)⟩ (by omega) _ _ S _ (lv_sub hl [0, 3, 4, 5, 6] rfl)
            · refine lv_iload C0.1 C0.2.1 dX1_countDirectory_64 (lv_at hl 0 rfl) ?_
              subst hQ
              refine k_iret C0 S hAe hsz hr hlk dX1_countDirectory_66 ?_
              rcases hsk with ⟨s1_, s2_, s3_, s4_⟩ | ⟨s1_, s2_, s3_, s4_, s5_⟩
              · exact absurd s1_ (by omega)
              · refine ⟨_, _, _, _, _, _, _, _, _, _, _, _, _, _, _, rfl, rfl, ?_, ⟨by omega, by omega⟩, ⟨by omega, by omega, by omega⟩, hcb6⟩
                rw [hi29_2, s5_, cl_bad (by omega) (by rw [s3_]; exact s4_) (by rw [s3_, hcen]; omega), s3_, hcen]
          · refine lv_iconst (v := iI (0)) C0.1 C0.2.1 dX1_countDirectory_48 rfl ?_
            subst hQ
            refine k_iret C0 S hAe hsz hr hlk dX1_countDirectory_49 ?_
            rcases hsk with ⟨s1_, s2_, s3_, s4_⟩ | ⟨s1_, s2_, s3_, s4_, s5_⟩
            · exact ⟨_, _, _, _, _, _, _, _, _, _, _, _, _, _, _, rfl, rfl, by rw [hi29_2, s4_]; exact cl_none (by omega), ⟨by decide, by decide⟩, ⟨by omega, by omega, by omega⟩, fun _ => by omega⟩
            · exact absurd s1_ (by omega)
    exact L29 (257) (0) (0) (m0) (k0) (c2) (c3) (c4) (n2) (n3) (n4) (p2) (p3) (p4) (by omega) ⟨by omega, by omega⟩ (cen_ok c20) ⟨by omega, by omega, by omega⟩ (by omega) _ _ S _ (lv_sub hl [0, 1, 2, 3, 4] rfl)
  · refine lv_bipush (v := iI (-9)) C0.1 C0.2.1 dX1_countDirectory_23 (by decide) ?_
    subst hQ
    refine k_iret C0 S hAe hsz hr hlk dX1_countDirectory_25 ?_
    exact ⟨_, _, _, _, _, _, _, _, _, _, _, _, _, _, _, rfl, rfl, cen_no c20, ⟨by decide, by decide⟩, ⟨by omega, by omega, by omega⟩, fun h => absurd h (by decide)⟩
def rm_ce0 : Room := { frames := 10, cells := 0, slots := 0, locals := 236 }
set_option maxHeartbeats 4000000 in
set_option maxRecDepth 100000 in
theorem c_ce0 (l : Launch) (D : va_G) (cA : Nat → ClassId) (hZ aG hV hB aB g0 g1 g2 g3 g4 b1 b2 b3 b4 : Nat) (m0 k0 c1 c2 c3 c4 n1 n2 n3 n4 : Int) (d p1 p2 p3 p4 : Nat → Int) (z : Int) (hd : By d) (hB2 : gB d) (hz1 : 0 ≤ z) (hz2 : z < 2041) (hk0 : 0 ≤ k0) (hk1 : k0 ≤ m0) (hm0 : m0 ≤ 250) : kCi l D vwCl (kTys cA) yX1_countEntry wsX1_countEntry rm_ce0 [.ref hZ, .int (iI (z)), .int (iI (0))] [(hZ, .inr (1, [.ref hV, .ref aG, .int (iI (m0)), .int (iI (k0))])), (aG, .inl (cA 2, 5, .inr (.inr (.inr (.inr ((lvf g0 g1 g2 g3 g4))))))), (g1, .inr (2, [.ref hB, .ref hV, .ref b1, .int (iI (c1)), .int (iI (n1))])), (b1, .inl (cA 0, 64, .inl (fun y_ => iI (p1 y_)))), (g2, .inr (2, [.ref hB, .ref hV, .ref b2, .int (iI (c2)), .int (iI (n2))])), (b2, .inl (cA 0, 64, .inl (fun y_ => iI (p2 y_)))), (g3, .inr (2, [.ref hB, .ref hV, .ref b3, .int (iI (c3)), .int (iI (n3))])), (b3, .inl (cA 0, 64, .inl (fun y_ => iI (p3 y_)))), (g4, .inr (2, [.ref hB, .ref hV, .ref b4, .int (iI (c4)), .int (iI (n4))])), (b4, .inl (cA 0, 64, .inl (fun y_ => iI (p4 y_)))), (hV, .inr (8, [.ref hB, .int (iI (chs d)), .int (iI (gRoot d)), .int (iI (gN d)), .int (iI (gSz d)), .int (iI (gT d)), .int (iI (gTB d)), .int (iI (gTA d)), .int (iI (gCA d))])), (hB, .inr (0, [.ref aB])), (aB, .inl (cA 1, 2048, .inl (fun y_ => bI (d y_))))] (fun r u => ∃ (c_ m_ k_ c1_ c2_ c3_ c4_ n1_ n2_ n3_ n4_ : Int) (p1_ p2_ p3_ p4_ : Nat → Int), r = iI c_ ∧ u = [(hZ, .inr (1, [.ref hV, .ref aG, .int (iI (m_)), .int (iI (k_))])), (aG, .inl (cA 2, 5, .inr (.inr (.inr (.inr ((lvf g0 g1 g2 g3 g4))))))), (g1, .inr (2, [.ref hB, .ref hV, .ref b1, .int (iI (c1_)), .int (iI (n1_))])), (b1, .inl (cA 0, 64, .inl (fun y_ => iI (p1_ y_)))), (g2, .inr (2, [.ref hB, .ref hV, .ref b2, .int (iI (c2_)), .int (iI (n2_))])), (b2, .inl (cA 0, 64, .inl (fun y_ => iI (p2_ y_)))), (g3, .inr (2, [.ref hB, .ref hV, .ref b3, .int (iI (c3_)), .int (iI (n3_))])), (b3, .inl (cA 0, 64, .inl (fun y_ => iI (p3_ y_)))), (g4, .inr (2, [.ref hB, .ref hV, .ref b4, .int (iI (c4_)), .int (iI (n4_))])), (b4, .inl (cA 0, 64, .inl (fun y_ => iI (p4_ y_)))), (hV, .inr (8, [.ref hB, .int (iI (chs d)), .int (iI (gRoot d)), .int (iI (gN d)), .int (iI (gSz d)), .int (iI (gT d)), .int (iI (gTB d)), .int (iI (gTA d)), .int (iI (gCA d))])), (hB, .inr (0, [.ref aB])), (aB, .inl (cA 1, 2048, .inl (fun y_ => bI (d y_))))] ∧ cet d 4 z m0 k0 = (c_, m_, k_) ∧ CB c_ m_ k_) := by
  intro sz
  refine kEntry (cc := cX1_countEntry) (maxL := 3) (ret := (some .int)) (by decide) rfl (Nat.le_of_ble_eq_true rfl) ?_
  intro p e s m args below meth c A Q hAe hQ C0 hr hlk S hsz ls hl
  have hl : lv_has ls 3 [(0, .ref hZ), (1, .int (iI (z))), (2, .int (iI (0)))] := hl
  refine lv_aload_n C0.1 C0.2.1 dX1_countEntry_0 rfl (lv_at hl 0 rfl) ?_
  refine lv_dup C0.1 C0.2.1 dX1_countEntry_1 rfl ?_
  refine k_get C0 S (C := RX1) (T := TX1) (N := 4) (ci := 1) (by decide +kernel) 0 rfl rfl 2 (by decide) (by decide +kernel) (v := .int (iI (m0))) rfl dX1_countEntry_2 ?_
  refine lv_iconst (v := iI (1)) C0.1 C0.2.1 dX1_countEntry_5 rfl ?_
  refine k_iadd C0 dX1_countEntry_6 ?_
  refine k_put (ws' := [(hZ, .inr (1, [.ref hV, .ref aG, .int (iI (m0 + 1)), .int (iI (k0))])), (aG, .inl (cA 2, 5, .inr (.inr (.inr (.inr ((lvf g0 g1 g2 g3 g4))))))), (g1, .inr (2, [.ref hB, .ref hV, .ref b1, .int (iI (c1)), .int (iI (n1))])), (b1, .inl (cA 0, 64, .inl (fun y_ => iI (p1 y_)))), (g2, .inr (2, [.ref hB, .ref hV, .ref b2, .int (iI (c2)), .int (iI (n2))])), (b2, .inl (cA 0, 64, .inl (fun y_ => iI (p2 y_)))), (g3, .inr (2, [.ref hB, .ref hV, .ref b3, .int (iI (c3)), .int (iI (n3))])), (b3, .inl (cA 0, 64, .inl (fun y_ => iI (p3 y_)))), (g4, .inr (2, [.ref hB, .ref hV, .ref b4, .int (iI (c4)), .int (iI (n4))])), (b4, .inl (cA 0, 64, .inl (fun y_ => iI (p4 y_)))), (hV, .inr (8, [.ref hB, .int (iI (chs d)), .int (iI (gRoot d)), .int (iI (gN d)), .int (iI (gSz d)), .int (iI (gT d)), .int (iI (gTB d)), .int (iI (gTA d)), .int (iI (gCA d))])), (hB, .inr (0, [.ref aB])), (aB, .inl (cA 1, 2048, .inl (fun y_ => bI (d y_))))]) C0 S (C := RX1) (T := TX1) (N := 4) (ci := 1) (by decide +kernel) tyX1 tyX1_ok nmX1 0 rfl rfl 2 (by decide) (by decide +kernel) rfl (v := .int (iI (m0 + 1))) rfl rfl (Nat.le_of_ble_eq_true rfl) dX1_countEntry_7 rfl (fun H locs S => ?_)
  refine lv_aload_n C0.1 C0.2.1 dX1_countEntry_10 rfl (lv_at hl 0 rfl) ?_
  refine k_get C0 S (C := RX1) (T := TX1) (N := 4) (ci := 1) (by decide +kernel) 0 rfl rfl 2 (by decide) (by decide +kernel) (v := .int (iI (m0 + 1))) rfl dX1_countEntry_11 ?_
  refine lv_sipush (v := iI (250)) C0.1 C0.2.1 dX1_countEntry_14 (by decide) ?_
  refine k_icmp_le (tgt := 23) C0 (by constructor <;> omega) ⟨by decide, by decide⟩ dX1_countEntry_17 (by decide) (fun c17 => ?_) (fun c17 => ?_)
  · refine lv_aload_n C0.1 C0.2.1 dX1_countEntry_23 rfl (lv_at hl 0 rfl) ?_
    refine k_get C0 S (C := RX1) (T := TX1) (N := 4) (ci := 1) (by decide +kernel) 0 rfl rfl 0 (by decide) (by decide +kernel) (v := .ref hV) rfl dX1_countEntry_24 ?_
    refine lv_iload_n C0.1 C0.2.1 dX1_countEntry_27 rfl (lv_at hl 1 rfl) ?_
    refine k_calli (n := 1) (wr := [(hZ, .inr (1, [.ref hV, .ref aG, .int (iI (m0 + 1)), .int (iI (k0))])), (aG, .inl (cA 2, 5, .inr (.inr (.inr (.inr ((lvf g0 g1 g2 g3 g4))))))), (g1, .inr (2, [.ref hB, .ref hV, .ref b1, .int (iI (c1)), .int (iI (n1))])), (b1, .inl (cA 0, 64, .inl (fun y_ => iI (p1 y_)))), (g2, .inr (2, [.ref hB, .ref hV, .ref b2, .int (iI (c2)), .int (iI (n2))])), (b2, .inl (cA 0, 64, .inl (fun y_ => iI (p2 y_)))), (g3, .inr (2, [.ref hB, .ref hV, .ref b3, .int (iI (c3)), .int (iI (n3))])), (b3, .inl (cA 0, 64, .inl (fun y_ => iI (p3 y_)))), (g4, .inr (2, [.ref hB, .ref hV, .ref b4, .int (iI (c4)), .int (iI (n4))])), (b4, .inl (cA 0, 64, .inl (fun y_ => iI (p4 y_))))]) C0 S (c_X8_isDirectory l D cA hV hB aB d (z) hd hB2 (by omega) (by omega)) gX1_countEntry_X8_isDirectory rfl ⟨rfl, rfl⟩ (by decide +kernel) ⟨Nat.le_of_ble_eq_true rfl, Nat.le_of_ble_eq_true rfl⟩ [10, 11, 12] [0, 1, 2, 3, 4, 5, 6, 7, 8, 9] rfl rfl rfl rfl (by decide) (ci := 8) (q0 := 0) rfl rfl (As := [.int (iI (z))]) rfl hl.1 rfl (Nat.le_of_ble_eq_true rfl) dX1_countEntry_28 ⟨Nat.zero_le _, Nat.zero_le _⟩ (fun r u H locs hp S => ?_)
    obtain ⟨rfl, rfl⟩ := hp
    have S := S.sub (ws' := [(hZ, .inr (1, [.ref hV, .ref aG, .int (iI (m0 + 1)), .int (iI (k0))])), (aG, .inl (cA 2, 5, .inr (.inr (.inr (.inr ((lvf g0 g1 g2 g3 g4))))))), (g1, .inr (2, [.ref hB, .ref hV, .ref b1, .int (iI (c1)), .int (iI (n1))])), (b1, .inl (cA 0, 64, .inl (fun y_ => iI (p1 y_)))), (g2, .inr (2, [.ref hB, .ref hV, .ref b2, .int (iI (c2)), .int (iI (n2))])), (b2, .inl (cA 0, 64, .inl (fun y_ => iI (p2 y_)))), (g3, .inr (2, [.ref hB, .ref hV, .ref b3, .int (iI (c3)), .int (iI (n3))])), (b3, .inl (cA 0, 64, .inl (fun y_ => iI (p3 y_)))), (g4, .inr (2, [.ref hB, .ref hV, .ref b4, .int (iI (c4)), .int (iI (n4))])), (b4, .inl (cA 0, 64, .inl (fun y_ => iI (p4 y_)))), (hV, .inr (8, [.ref hB, .int (iI (chs d)), .int (iI (gRoot d)), .int (iI (gN d)), .int (iI (gSz d)), .int (iI (gT d)), .int (iI (gTB d)), .int (iI (gTA d)), .int (iI (gCA d))])), (hB, .inr (0, [.ref aB])), (aB, .inl (cA 1, 2048, .inl (fun y_ => bI (d y_))))]) [0, 1, 2, 3, 4, 5, 6, 7, 8, 9, 10, 11, 12] rfl rfl
    refine k_bz_ne (tgt := 36) C0 dX1_countEntry_31 (by decide) (fun c31 => ?_) (fun c31 => ?_)
    · refine lv_aload_n C0.1 C0.2.1 dX1_countEntry_36 rfl (lv_at hl 0 rfl) ?_
      refine lv_dup C0.1 C0.2.1 dX1_countEntry_37 rfl ?_
      refine k_get C0 S (C := RX1) (T := TX1) (N := 4) (ci := 1) (by decide +kernel) 0 rfl rfl 3 (by decide) (by decide +kernel) (v := .int (iI (k0))) rfl dX1_countEntry_38 ?_
      refine lv_iconst (v := iI (1)) C0.1 C0.2.1 dX1_countEntry_41 rfl ?_
      refine k_iadd C0 dX1_countEntry_42 ?_
      refine k_put (ws' := [(hZ, .inr (1, [.ref hV, .ref aG, .int (iI (m0 + 1)), .int (iI (k0 + 1))])), (aG, .inl (cA 2, 5, .inr (.inr (.inr (.inr ((lvf g0 g1 g2 g3 g4))))))), (g1, .inr (2, [.ref hB, .ref hV, .ref b1, .int (iI (c1)), .int (iI (n1))])), (b1, .inl (cA 0, 64, .inl (fun y_ => iI (p1 y_)))), (g2, .inr (2, [.ref hB, .ref hV, .ref b2, .int (iI (c2)), .int (iI (n2))])), (b2, .inl (cA 0, 64, .inl (fun y_ => iI (p2 y_)))), (g3, .inr (2, [.ref hB, .ref hV, .ref b3, .int (iI (c3)), .int (iI (n3))])), (b3, .inl (cA 0, 64, .inl (fun y_ => iI (p3 y_)))), (g4, .inr (2, [.ref hB, .ref hV, .ref b4, .int (iI (c4)), .int (iI (n4))])), (b4, .inl (cA 0, 64, .inl (fun y_ => iI (p4 y_)))), (hV, .inr (8, [.ref hB, .int (iI (chs d)), .int (iI (gRoot d)), .int (iI (gN d)), .int (iI (gSz d)), .int (iI (gT d)), .int (iI (gTB d)), .int (iI (gTA d)), .int (iI (gCA d))])), (hB, .inr (0, [.ref aB])), (aB, .inl (cA 1, 2048, .inl (fun y_ => bI (d y_))))]) C0 S (C := RX1) (T := TX1) (N := 4) (ci := 1) (by decide +kernel) tyX1 tyX1_ok nmX1 0 rfl rfl 3 (by decide) (by decide +kernel) rfl (v := .int (iI (k0 + 1))) rfl rfl (Nat.le_of_ble_eq_true rfl) dX1_countEntry_43 rfl (fun H locs S => ?_)
      refine lv_aload_n C0.1 C0.2.1 dX1_countEntry_46 rfl (lv_at hl 0 rfl) ?_
      refine lv_aload_n C0.1 C0.2.1 dX1_countEntry_47 rfl (lv_at hl 0 rfl) ?_
      refine k_get C0 S (C := RX1) (T := TX1) (N := 4) (ci := 1) (by decide +kernel) 0 rfl rfl 0 (by decide) (by decide +kernel) (v := .ref hV) rfl dX1_countEntry_48 ?_
      refine lv_iload_n C0.1 C0.2.1 dX1_countEntry_51 rfl (lv_at hl 1 rfl) ?_
      refine k_calli (n := 1) (wr := [(hZ, .inr (1, [.ref hV, .ref aG, .int (iI (m0 + 1)), .int (iI (k0 + 1))])), (aG, .inl (cA 2, 5, .inr (.inr (.inr (.inr ((lvf g0 g1 g2 g3 g4))))))), (g1, .inr (2, [.ref hB, .ref hV, .ref b1, .int (iI (c1)), .int (iI (n1))])), (b1, .inl (cA 0, 64, .inl (fun y_ => iI (p1 y_)))), (g2, .inr (2, [.ref hB, .ref hV, .ref b2, .int (iI (c2)), .int (iI (n2))])), (b2, .inl (cA 0, 64, .inl (fun y_ => iI (p2 y_)))), (g3, .inr (2, [.ref hB, .ref hV, .ref b3, .int (iI (c3)), .int (iI (n3))])), (b3, .inl (cA 0, 64, .inl (fun y_ => iI (p3 y_)))), (g4, .inr (2, [.ref hB, .ref hV, .ref b4, .int (iI (c4)), .int (iI (n4))])), (b4, .inl (cA 0, 64, .inl (fun y_ => iI (p4 y_))))]) C0 S (c_X8_firstClusterOf l D cA hV hB aB d (z) hd hB2 (by omega) (by omega)) gX1_countEntry_X8_firstClusterOf rfl ⟨rfl, rfl⟩ (by decide +kernel) ⟨Nat.le_of_ble_eq_true rfl, Nat.le_of_ble_eq_true rfl⟩ [10, 11, 12] [0, 1, 2, 3, 4, 5, 6, 7, 8, 9] rfl rfl rfl rfl (by decide) (ci := 8) (q0 := 0) rfl rfl (As := [.int (iI (z))]) rfl hl.1 rfl (Nat.le_of_ble_eq_true rfl) dX1_countEntry_52 ⟨Nat.zero_le _, Nat.zero_le _⟩ (fun r u H locs hp S => ?_)
      obtain ⟨rfl, rfl⟩ := hp
      have S := S.sub (ws' := [(hZ, .inr (1, [.ref hV, .ref aG, .int (iI (m0 + 1)), .int (iI (k0 + 1))])), (aG, .inl (cA 2, 5, .inr (.inr (.inr (.inr ((lvf g0 g1 g2 g3 g4))))))), (g1, .inr (2, [.ref hB, .ref hV, .ref b1, .int (iI (c1)), .int (iI (n1))])), (b1, .inl (cA 0, 64, .inl (fun y_ => iI (p1 y_)))), (g2, .inr (2, [.ref hB, .ref hV, .ref b2, .int (iI (c2)), .int (iI (n2))])), (b2, .inl (cA 0, 64, .inl (fun y_ => iI (p2 y_)))), (g3, .inr (2, [.ref hB, .ref hV, .ref b3, .int (iI (c3)), .int (iI (n3))])), (b3, .inl (cA 0, 64, .inl (fun y_ => iI (p3 y_)))), (g4, .inr (2, [.ref hB, .ref hV, .ref b4, .int (iI (c4)), .int (iI (n4))])), (b4, .inl (cA 0, 64, .inl (fun y_ => iI (p4 y_)))), (hV, .inr (8, [.ref hB, .int (iI (chs d)), .int (iI (gRoot d)), .int (iI (gN d)), .int (iI (gSz d)), .int (iI (gT d)), .int (iI (gTB d)), .int (iI (gTA d)), .int (iI (gCA d))])), (hB, .inr (0, [.ref aB])), (aB, .inl (cA 1, 2048, .inl (fun y_ => bI (d y_))))]) [0, 1, 2, 3, 4, 5, 6, 7, 8, 9, 10, 11, 12] rfl rfl
      have hb1 := By.rd hd ((z) + 5)
      refine lv_iload_n C0.1 C0.2.1 dX1_countEntry_55 rfl (lv_at hl 2 rfl) ?_
      refine lv_iconst (v := iI (1)) C0.1 C0.2.1 dX1_countEntry_56 rfl ?_
      refine k_iadd C0 dX1_countEntry_57 ?_
      refine k_topeq (v := iI (1)) (congrArg iI (by decide)) ?_
      refine k_calli (n := 2) (wr := []) C0 S (c_cd1 l D cA hZ aG hV hB aB g0 g1 g2 g3 g4 b1 b2 b3 b4 (m0 + 1) (k0 + 1) (c1) (c2) (c3) (c4) (n1) (n2) (n3) (n4) d p1 p2 p3 p4 (rd d ((z) + 5)) hd hB2 (by omega) (by omega) (by omega) (by omega) (by omega)) gX1_countEntry_X1_countDirectory rfl ⟨rfl, rfl⟩ (by decide +kernel) ⟨Nat.le_of_ble_eq_true rfl, Nat.le_of_ble_eq_true rfl⟩ [0, 1, 2, 3, 4, 5, 6, 7, 8, 9, 10, 11, 12] [] rfl rfl rfl rfl (by decide) (ci := 1) (q0 := 0) rfl rfl (As := [.int (iI (rd d ((z) + 5))), .int (iI (1))]) rfl hl.1 rfl (Nat.le_of_ble_eq_true rfl) dX1_countEntry_58 ⟨Nat.zero_le _, Nat.zero_le _⟩ (fun r u H locs hp S => ?_)
      obtain ⟨code14, met15, dirs16, y2, y3, y4, y5, y6, y7, y8, y9, pp10, pp11, pp12, pp13, rfl, rfl, hcen, ⟨⟨hcb1, hcb2⟩, ⟨hcb3, hcb4, hcb5⟩, hcb6⟩⟩ := hp
      have S := S.sub (ws' := [(hZ, .inr (1, [.ref hV, .ref aG, .int (iI (met15)), .int (iI (dirs16))])), (aG, .inl (cA 2, 5, .inr (.inr (.inr (.inr ((lvf g0 g1 g2 g3 g4))))))), (g1, .inr (2, [.ref hB, .ref hV, .ref b1, .int (iI (y2)), .int (iI (y6))])), (b1, .inl (cA 0, 64, .inl (fun y_ => iI (pp10 y_)))), (g2, .inr (2, [.ref hB, .ref hV, .ref b2, .int (iI (y3)), .int (iI (y7))])), (b2, .inl (cA 0, 64, .inl (fun y_ => iI (pp11 y_)))), (g3, .inr (2, [.ref hB, .ref hV, .ref b3, .int (iI (y4)), .int (iI (y8))])), (b3, .inl (cA 0, 64, .inl (fun y_ => iI (pp12 y_)))), (g4, .inr (2, [.ref hB, .ref hV, .ref b4, .int (iI (y5)), .int (iI (y9))])), (b4, .inl (cA 0, 64, .inl (fun y_ => iI (pp13 y_)))), (hV, .inr (8, [.ref hB, .int (iI (chs d)), .int (iI (gRoot d)), .int (iI (gN d)), .int (iI (gSz d)), .int (iI (gT d)), .int (iI (gTB d)), .int (iI (gTA d)), .int (iI (gCA d))])), (hB, .inr (0, [.ref aB])), (aB, .inl (cA 1, 2048, .inl (fun y_ => bI (d y_))))]) [0, 1, 2, 3, 4, 5, 6, 7, 8, 9, 10, 11, 12] rfl rfl
      subst hQ
      refine k_iret C0 S hAe hsz hr hlk dX1_countEntry_61 ?_
      exact ⟨_, _, _, _, _, _, _, _, _, _, _, _, _, _, _, rfl, rfl, (cet_dir (by omega) c31).trans hcen, ⟨by omega, by omega⟩, ⟨by omega, by omega, by omega⟩, hcb6⟩
    · refine lv_iconst (v := iI (0)) C0.1 C0.2.1 dX1_countEntry_34 rfl ?_
      subst hQ
      refine k_iret C0 S hAe hsz hr hlk dX1_countEntry_35 ?_
      exact ⟨_, _, _, _, _, _, _, _, _, _, _, _, _, _, _, rfl, rfl, cet_file (by omega) c31, ⟨by decide, by decide⟩, ⟨by omega, by omega, by omega⟩, fun _ => by omega⟩
  · refine lv_bipush (v := iI (-14)) C0.1 C0.2.1 dX1_countEntry_20 (by decide) ?_
    subst hQ
    refine k_iret C0 S hAe hsz hr hlk dX1_countEntry_22 ?_
    exact ⟨_, _, _, _, _, _, _, _, _, _, _, _, _, _, _, rfl, rfl, cet_many (by omega), ⟨by decide, by decide⟩, ⟨by omega, by omega, by omega⟩, fun h => absurd h (by decide)⟩
def rm_cd0 : Room := { frames := 11, cells := 0, slots := 0, locals := 258 }
set_option maxHeartbeats 4000000 in
set_option maxRecDepth 100000 in
theorem c_cd0 (l : Launch) (D : va_G) (cA : Nat → ClassId) (hZ aG hV hB aB g0 g1 g2 g3 g4 b0 b1 b2 b3 b4 : Nat) (m0 k0 c0 c1 c2 c3 c4 n0 n1 n2 n3 n4 : Int) (d p0 p1 p2 p3 p4 : Nat → Int) (z : Int) (hd : By d) (hB2 : gB d) (hz1 : 0 ≤ z) (hz2 : z < 256) (hk0 : 0 ≤ k0) (hk1 : k0 ≤ m0) (hm0 : m0 ≤ 250) : kCi l D vwCl (kTys cA) yX1_countDirectory wsX1_countDirectory rm_cd0 [.ref hZ, .int (iI (z)), .int (iI (0))] [(hZ, .inr (1, [.ref hV, .ref aG, .int (iI (m0)), .int (iI (k0))])), (aG, .inl (cA 2, 5, .inr (.inr (.inr (.inr ((lvf g0 g1 g2 g3 g4))))))), (g0, .inr (2, [.ref hB, .ref hV, .ref b0, .int (iI (c0)), .int (iI (n0))])), (b0, .inl (cA 0, 64, .inl (fun y_ => iI (p0 y_)))), (g1, .inr (2, [.ref hB, .ref hV, .ref b1, .int (iI (c1)), .int (iI (n1))])), (b1, .inl (cA 0, 64, .inl (fun y_ => iI (p1 y_)))), (g2, .inr (2, [.ref hB, .ref hV, .ref b2, .int (iI (c2)), .int (iI (n2))])), (b2, .inl (cA 0, 64, .inl (fun y_ => iI (p2 y_)))), (g3, .inr (2, [.ref hB, .ref hV, .ref b3, .int (iI (c3)), .int (iI (n3))])), (b3, .inl (cA 0, 64, .inl (fun y_ => iI (p3 y_)))), (g4, .inr (2, [.ref hB, .ref hV, .ref b4, .int (iI (c4)), .int (iI (n4))])), (b4, .inl (cA 0, 64, .inl (fun y_ => iI (p4 y_)))), (hV, .inr (8, [.ref hB, .int (iI (chs d)), .int (iI (gRoot d)), .int (iI (gN d)), .int (iI (gSz d)), .int (iI (gT d)), .int (iI (gTB d)), .int (iI (gTA d)), .int (iI (gCA d))])), (hB, .inr (0, [.ref aB])), (aB, .inl (cA 1, 2048, .inl (fun y_ => bI (d y_))))] (fun r u => ∃ (c_ m_ k_ c0_ c1_ c2_ c3_ c4_ n0_ n1_ n2_ n3_ n4_ : Int) (p0_ p1_ p2_ p3_ p4_ : Nat → Int), r = iI c_ ∧ u = [(hZ, .inr (1, [.ref hV, .ref aG, .int (iI (m_)), .int (iI (k_))])), (aG, .inl (cA 2, 5, .inr (.inr (.inr (.inr ((lvf g0 g1 g2 g3 g4))))))), (g0, .inr (2, [.ref hB, .ref hV, .ref b0, .int (iI (c0_)), .int (iI (n0_))])), (b0, .inl (cA 0, 64, .inl (fun y_ => iI (p0_ y_)))), (g1, .inr (2, [.ref hB, .ref hV, .ref b1, .int (iI (c1_)), .int (iI (n1_))])), (b1, .inl (cA 0, 64, .inl (fun y_ => iI (p1_ y_)))), (g2, .inr (2, [.ref hB, .ref hV, .ref b2, .int (iI (c2_)), .int (iI (n2_))])), (b2, .inl (cA 0, 64, .inl (fun y_ => iI (p2_ y_)))), (g3, .inr (2, [.ref hB, .ref hV, .ref b3, .int (iI (c3_)), .int (iI (n3_))])), (b3, .inl (cA 0, 64, .inl (fun y_ => iI (p3_ y_)))), (g4, .inr (2, [.ref hB, .ref hV, .ref b4, .int (iI (c4_)), .int (iI (n4_))])), (b4, .inl (cA 0, 64, .inl (fun y_ => iI (p4_ y_)))), (hV, .inr (8, [.ref hB, .int (iI (chs d)), .int (iI (gRoot d)), .int (iI (gN d)), .int (iI (gSz d)), .int (iI (gT d)), .int (iI (gTB d)), .int (iI (gTA d)), .int (iI (gCA d))])), (hB, .inr (0, [.ref aB])), (aB, .inl (cA 1, 2048, .inl (fun y_ => bI (d y_))))] ∧ cen d 5 z m0 k0 = (c_, m_, k_) ∧ CB c_ m_ k_) := by
  intro sz
  refine kEntry (cc := cX1_countDirectory) (maxL := 7) (ret := (some .int)) (by decide) rfl (Nat.le_of_ble_eq_true rfl) ?_
  intro p e s m args below meth c A Q hAe hQ C0 hr hlk S hsz ls hl
  have hl : lv_has ls 7 [(0, .ref hZ), (1, .int (iI (z))), (2, .int (iI (0)))] := hl
  refine lv_iload_n C0.1 C0.2.1 dX1_countDirectory_0 rfl (lv_at hl 2 rfl) ?_
  refine lv_iconst (v := iI (5)) C0.1 C0.2.1 dX1_countDirectory_1 rfl ?_
  refine k_icmp_lt (tgt := 8) C0 ⟨by decide, by decide⟩ ⟨by decide, by decide⟩ dX1_countDirectory_2 (by decide) (fun _ => ?_) (fun hc => absurd hc (by decide))
  refine lv_aload_n C0.1 C0.2.1 dX1_countDirectory_8 rfl (lv_at hl 0 rfl) ?_
  refine k_get C0 S (C := RX1) (T := TX1) (N := 4) (ci := 1) (by decide +kernel) 0 rfl rfl 1 (by decide) (by decide +kernel) (v := .ref aG) rfl dX1_countDirectory_9 ?_
  refine lv_iload_n C0.1 C0.2.1 dX1_countDirectory_12 rfl (lv_at hl 2 rfl) ?_
  refine k_aald C0 S 1 2 rfl rfl (z := 0) (by decide) (by decide) (by decide) (v := .ref g0) rfl dX1_countDirectory_13 ?_
  refine lv_astore_n (lv' := [(3, .ref g0), (0, .ref hZ), (1, .int (iI (z))), (2, .int (iI (0)))]) C0.1 C0.2.1 dX1_countDirectory_14 rfl hl (by decide) rfl (fun ls hl => ?_)
  refine lv_aload_n C0.1 C0.2.1 dX1_countDirectory_15 rfl (lv_at hl 0 rfl) ?_
  refine lv_iload_n C0.1 C0.2.1 dX1_countDirectory_16 rfl (lv_at hl 2 rfl) ?_
  refine k_calli (n := 1) (wr := [(hZ, .inr (1, [.ref hV, .ref aG, .int (iI (m0)), .int (iI (k0))])), (aG, .inl (cA 2, 5, .inr (.inr (.inr (.inr ((lvf g0 g1 g2 g3 g4))))))), (g1, .inr (2, [.ref hB, .ref hV, .ref b1, .int (iI (c1)), .int (iI (n1))])), (b1, .inl (cA 0, 64, .inl (fun y_ => iI (p1 y_)))), (g2, .inr (2, [.ref hB, .ref hV, .ref b2, .int (iI (c2)), .int (iI (n2))])), (b2, .inl (cA 0, 64, .inl (fun y_ => iI (p2 y_)))), (g3, .inr (2, [.ref hB, .ref hV, .ref b3, .int (iI (c3)), .int (iI (n3))])), (b3, .inl (cA 0, 64, .inl (fun y_ => iI (p3 y_)))), (g4, .inr (2, [.ref hB, .ref hV, .ref b4, .int (iI (c4)), .int (iI (n4))])), (b4, .inl (cA 0, 64, .inl (fun y_ => iI (p4 y_))))]) C0 S (c_X2_trace l D cA g0 b0 hV hB aB d (c0) (n0) p0 (z) hd hB2 (by omega) (by omega)) gX1_countDirectory_X2_trace rfl ⟨rfl, rfl⟩ (by decide +kernel) ⟨Nat.le_of_ble_eq_true rfl, Nat.le_of_ble_eq_true rfl⟩ [2, 3, 12, 13, 14] [0, 1, 4, 5, 6, 7, 8, 9, 10, 11] rfl rfl rfl rfl (by decide) (ci := 2) (q0 := 0) rfl rfl (As := [.int (iI (z))]) rfl hl.1 rfl (Nat.le_of_ble_eq_true rfl) dX1_countDirectory_17 ⟨Nat.zero_le _, Nat.zero_le _⟩ (fun r u H locs hp S => ?_)
  obtain ⟨cnt1, pl2, rfl, rfl, htcnt1⟩ := hp
  have S := S.sub (ws' := [(hZ, .inr (1, [.ref hV, .ref aG, .int (iI (m0)), .int (iI (k0))])), (aG, .inl (cA 2, 5, .inr (.inr (.inr (.inr ((lvf g0 g1 g2 g3 g4))))))), (g0, .inr (2, [.ref hB, .ref hV, .ref b0, .int (iI (cnt1)), .int (iI (0))])), (b0, .inl (cA 0, 64, .inl (fun y_ => iI (pl2 y_)))), (g1, .inr (2, [.ref hB, .ref hV, .ref b1, .int (iI (c1)), .int (iI (n1))])), (b1, .inl (cA 0, 64, .inl (fun y_ => iI (p1 y_)))), (g2, .inr (2, [.ref hB, .ref hV, .ref b2, .int (iI (c2)), .int (iI (n2))])), (b2, .inl (cA 0, 64, .inl (fun y_ => iI (p2 y_)))), (g3, .inr (2, [.ref hB, .ref hV, .ref b3, .int (iI (c3)), .int (iI (n3))])), (b3, .inl (cA 0, 64, .inl (fun y_ => iI (p3 y_)))), (g4, .inr (2, [.ref hB, .ref hV, .ref b4, .int (iI (c4)), .int (iI (n4))])), (b4, .inl (cA 0, 64, .inl (fun y_ => iI (p4 y_)))), (hV, .inr (8, [.ref hB, .int (iI (chs d)), .int (iI (gRoot d)), .int (iI (gN d)), .int (iI (gSz d)), .int (iI (gT d)), .int (iI (gTB d)), .int (iI (gTA d)), .int (iI (gCA d))])), (hB, .inr (0, [.ref aB])), (aB, .inl (cA 1, 2048, .inl (fun y_ => bI (d y_))))]) [0, 1, 10, 11, 2, 3, 4, 5, 6, 7, 8, 9, 12, 13, 14] rfl rfl
  refine k_bz_ne (tgt := 26) C0 dX1_countDirectory_20 (by decide) (fun c20 => ?_) (fun c20 => ?_)
  · have hT := htcnt1 c20
    obtain ⟨n1_, n2_⟩ := nsl_range hB2 hT.1
    refine lv_iconst (v := iI (0)) C0.1 C0.2.1 dX1_countDirectory_26 rfl ?_
    refine lv_istore (lv' := [(4, .int (iI (0))), (3, .ref g0), (0, .ref hZ), (1, .int (iI (z))), (2, .int (iI (0)))]) C0.1 C0.2.1 dX1_countDirectory_27 hl (by decide) rfl (fun ls hl => ?_)
    have L29 : ∀ (n_ : Nat) (q : Nat) (s1 : Int) (mx : Int) (kx : Int) (c1x : Int) (c2x : Int) (c3x : Int) (c4x : Int) (n1x : Int) (n2x : Int) (n3x : Int) (n4x : Int) (p1x : Nat → Int) (p2x : Nat → Int) (p3x : Nat → Int) (p4x : Nat → Int), ((q : Int) ≤ 256) → ((q : Int) ≤ s1 ∧ s1 ≤ 256) → (cen d 5 z m0 k0 = cl_ d z (chn d z) (cen d 4) s1 mx kx) → (0 ≤ kx ∧ kx ≤ mx ∧ mx ≤ 250) → (256 - q < n_) → ∀ (H : Heap) (locs : List Loc), kS D vwCl (kTys cA) A s [(hZ, .inr (1, [.ref hV, .ref aG, .int (iI (mx)), .int (iI (kx))])), (aG, .inl (cA 2, 5, .inr (.inr (.inr (.inr ((lvf g0 g1 g2 g3 g4))))))), (g0, .inr (2, [.ref hB, .ref hV, .ref b0, .int (iI (cnt1)), .int (iI (s1))])), (b0, .inl (cA 0, 64, .inl (fun y_ => iI (pl2 y_)))), (g1, .inr (2, [.ref hB, .ref hV, .ref b1, .int (iI (c1x)), .int (iI (n1x))])), (b1, .inl (cA 0, 64, .inl (fun y_ => iI (p1x y_)))), (g2, .inr (2, [.ref hB, .ref hV, .ref b2, .int (iI (c2x)), .int (iI (n2x))])), (b2, .inl (cA 0, 64, .inl (fun y_ => iI (p2x y_)))), (g3, .inr (2, [.ref hB, .ref hV, .ref b3, .int (iI (c3x)), .int (iI (n3x))])), (b3, .inl (cA 0, 64, .inl (fun y_ => iI (p3x y_)))), (g4, .inr (2, [.ref hB, .ref hV, .ref b4, .int (iI (c4x)), .int (iI (n4x))])), (b4, .inl (cA 0, 64, .inl (fun y_ => iI (p4x y_)))), (hV, .inr (8, [.ref hB, .int (iI (chs d)), .int (iI (gRoot d)), .int (iI (gN d)), .int (iI (gSz d)), .int (iI (gT d)), .int (iI (gTB d)), .int (iI (gTA d)), .int (iI (gCA d))])), (hB, .inr (0, [.ref aB])), (aB, .inl (cA 1, 2048, .inl (fun y_ => bI (d y_))))] H locs → ∀ ls : Array Slot, lv_has ls 7 [(4, .int (iI ((q : Int)))), (3, .ref g0), (0, .ref hZ), (1, .int (iI (z))), (2, .int (iI (0)))] → W p l e rm_cd0 s m args below meth c H locs 0 0 Q (F0 m 29 ls []) := by
      intro n_
      induction n_ with
      | zero => intro q s1 mx kx c1x c2x c3x c4x n1x n2x n3x n4x p1x p2x p3x p4x hi29_0 hi29_1 hi29_2 hi29_3 hm; exact absurd hm (Nat.not_lt_zero _)
      | succ n_ ih29 =>
        intro q s1 mx kx c1x c2x c3x c4x n1x n2x n3x n4x p1x p2x p3x p4x hi29_0 hi29_1 hi29_2 hi29_3 hm H locs S ls hl
        refine lv_iload C0.1 C0.2.1 dX1_countDirectory_29 (lv_at hl 0 rfl) ?_
        refine lv_sipush (v := iI (256)) C0.1 C0.2.1 dX1_countDirectory_31 (by decide) ?_
        refine k_icmp_ge (tgt := 73) C0 (by constructor <;> omega) ⟨by decide, by decide⟩ dX1_countDirectory_34 (by decide) (fun c34 => ?_) (fun c34 => ?_)
        · refine lv_iconst (v := iI (0)) C0.1 C0.2.1 dX1_countDirectory_73 rfl ?_
          subst hQ
          refine k_iret C0 S hAe hsz hr hlk dX1_countDirectory_74 ?_
          exact ⟨_, _, _, _, _, _, _, _, _, _, _, _, _, _, _, _, _, _, rfl, rfl, by rw [hi29_2]; exact cl_none (by rw [ent_neg (by omega)]; decide), ⟨by decide, by decide⟩, ⟨by omega, by omega, by omega⟩, fun _ => by omega⟩
        · refine lv_aload_n C0.1 C0.2.1 dX1_countDirectory_37 rfl (lv_at hl 1 rfl) ?_
          refine k_calli (n := 0) (wr := [(hZ, .inr (1, [.ref hV, .ref aG, .int (iI (mx)), .int (iI (kx))])), (aG, .inl (cA 2, 5, .inr (.inr (.inr (.inr ((lvf g0 g1 g2 g3 g4))))))), (g1, .inr (2, [.ref hB, .ref hV, .ref b1, .int (iI (c1x)), .int (iI (n1x))])), (b1, .inl (cA 0, 64, .inl (fun y_ => iI (p1x y_)))), (g2, .inr (2, [.ref hB, .ref hV, .ref b2, .int (iI (c2x)), .int (iI (n2x))])), (b2, .inl (cA 0, 64, .inl (fun y_ => iI (p2x y_)))), (g3, .inr (2, [.ref hB, .ref hV, .ref b3, .int (iI (c3x)), .int (iI (n3x))])), (b3, .inl (cA 0, 64, .inl (fun y_ => iI (p3x y_)))), (g4, .inr (2, [.ref hB, .ref hV, .ref b4, .int (iI (c4x)), .int (iI (n4x))])), (b4, .inl (cA 0, 64, .inl (fun y_ => iI (p4x y_))))]) C0 S (c_X2_nextEntry l D cA g0 b0 hV hB aB d (cnt1) (s1) pl2 (z) hd hB2 hT (by omega) (by omega)) gX1_countDirectory_X2_nextEntry rfl ⟨rfl, rfl⟩ (by decide +kernel) ⟨Nat.le_of_ble_eq_true rfl, Nat.le_of_ble_eq_true rfl⟩ [2, 3, 12, 13, 14] [0, 1, 4, 5, 6, 7, 8, 9, 10, 11] rfl rfl rfl rfl (by decide) (ci := 2) (q0 := 0) rfl rfl (As := []) rfl hl.1 rfl (Nat.le_of_ble_eq_true rfl) dX1_countDirectory_38 ⟨Nat.zero_le _, Nat.zero_le _⟩ (fun r u H locs hp S => ?_)
          obtain ⟨a3, t4, rfl, rfl, hnx, ⟨ht0, ht1⟩, hra⟩ := hp
          have S := S.sub (ws' := [(hZ, .inr (1, [.ref hV, .ref aG, .int (iI (mx)), .int (iI (kx))])), (aG, .inl (cA 2, 5, .inr (.inr (.inr (.inr ((lvf g0 g1 g2 g3 g4))))))), (g0, .inr (2, [.ref hB, .ref hV, .ref b0, .int (iI (cnt1)), .int (iI (t4))])), (b0, .inl (cA 0, 64, .inl (fun y_ => iI (pl2 y_)))), (g1, .inr (2, [.ref hB, .ref hV, .ref b1, .int (iI (c1x)), .int (iI (n1x))])), (b1, .inl (cA 0, 64, .inl (fun y_ => iI (p1x y_)))), (g2, .inr (2, [.ref hB, .ref hV, .ref b2, .int (iI (c2x)), .int (iI (n2x))])), (b2, .inl (cA 0, 64, .inl (fun y_ => iI (p2x y_)))), (g3, .inr (2, [.ref hB, .ref hV, .ref b3, .int (iI (c3x)), .int (iI (n3x))])), (b3, .inl (cA 0, 64, .inl (fun y_ => iI (p3x y_)))), (g4, .inr (2, [.ref hB, .ref hV, .ref b4, .int (iI (c4x)), .int (iI (n4x))])), (b4, .inl (cA 0, 64, .inl (fun y_ => iI (p4x y_)))), (hV, .inr (8, [.ref hB, .int (iI (chs d)), .int (iI (gRoot d)), .int (iI (gN d)), .int (iI (gSz d)), .int (iI (gT d)), .int (iI (gTB d)), .int (iI (gTA d)), .int (iI (gCA d))])), (hB, .inr (0, [.ref aB])), (aB, .inl (cA 1, 2048, .inl (fun y_ => bI (d y_))))]) [0, 1, 10, 11, 2, 3, 4, 5, 6, 7, 8, 9, 12, 13, 14] rfl rfl
          have hsk := NX.skip (F := fun j => cl_ d z (chn d z) (cen d 4) j mx kx) hnx (by omega) (fun j _ h1 h2 => cl_pas (by omega) h2)
          refine lv_istore (lv' := [(5, .int (iI (a3))), (4, .int (iI ((q : Int)))), (3, .ref g0), (0, .ref hZ), (1, .int (iI (z))), (2, .int (iI (0)))]) C0.1 C0.2.1 dX1_countDirectory_41 hl (by decide) rfl (fun ls hl => ?_)
          refine lv_iload C0.1 C0.2.1 dX1_countDirectory_43 (lv_at hl 0 rfl) ?_
          refine k_if_ge (tgt := 50) C0 (by constructor <;> omega) dX1_countDirectory_45 (by decide) (fun c45 => ?_) (fun c45 => ?_)
          · refine lv_aload_n C0.1 C0.2.1 dX1_countDirectory_50 rfl (lv_at hl 3 rfl) ?_
            refine lv_iload C0.1 C0.2.1 dX1_countDirectory_51 (lv_at hl 0 rfl) ?_
            refine lv_iload_n C0.1 C0.2.1 dX1_countDirectory_53 rfl (lv_at hl 5 rfl) ?_
            refine k_calli (n := 2) (wr := [(g0, .inr (2, [.ref hB, .ref hV, .ref b0, .int (iI (cnt1)), .int (iI (t4))])), (b0, .inl (cA 0, 64, .inl (fun y_ => iI (pl2 y_))))]) C0 S (c_ce0 l D cA hZ aG hV hB aB g0 g1 g2 g3 g4 b1 b2 b3 b4 (mx) (kx) (c1x) (c2x) (c3x) (c4x) (n1x) (n2x) (n3x) (n4x) d p1x p2x p3x p4x (a3) hd hB2 (by omega) (by omega) (by omega) (by omega) (by omega)) gX1_countDirectory_X1_countEntry rfl ⟨rfl, rfl⟩ (by decide +kernel) ⟨Nat.le_of_ble_eq_true rfl, Nat.le_of_ble_eq_true rfl⟩ [0, 1, 4, 5, 6, 7, 8, 9, 10, 11, 12, 13, 14] [2, 3] rfl rfl rfl rfl (by decide) (ci := 1) (q0 := 0) rfl rfl (As := [.int (iI (a3)), .int (iI (0))]) rfl hl.1 rfl (Nat.le_of_ble_eq_true rfl) dX1_countDirectory_54 ⟨Nat.zero_le _, Nat.zero_le _⟩ (fun r u H locs hp S => ?_)
            obtain ⟨code17, met18, dirs19, y5, y6, y7, y8, y9, y10, y11, y12, pp13, pp14, pp15, pp16, rfl, rfl, hcen, ⟨⟨hcb1, hcb2⟩, ⟨hcb3, hcb4, hcb5⟩, hcb6⟩⟩ := hp
            have S := S.sub (ws' := [(hZ, .inr (1, [.ref hV, .ref aG, .int (iI (met18)), .int (iI (dirs19))])), (aG, .inl (cA 2, 5, .inr (.inr (.inr (.inr ((lvf g0 g1 g2 g3 g4))))))), (g0, .inr (2, [.ref hB, .ref hV, .ref b0, .int (iI (cnt1)), .int (iI (t4))])), (b0, .inl (cA 0, 64, .inl (fun y_ => iI (pl2 y_)))), (g1, .inr (2, [.ref hB, .ref hV, .ref b1, .int (iI (y5)), .int (iI (y9))])), (b1, .inl (cA 0, 64, .inl (fun y_ => iI (pp13 y_)))), (g2, .inr (2, [.ref hB, .ref hV, .ref b2, .int (iI (y6)), .int (iI (y10))])), (b2, .inl (cA 0, 64, .inl (fun y_ => iI (pp14 y_)))), (g3, .inr (2, [.ref hB, .ref hV, .ref b3, .int (iI (y7)), .int (iI (y11))])), (b3, .inl (cA 0, 64, .inl (fun y_ => iI (pp15 y_)))), (g4, .inr (2, [.ref hB, .ref hV, .ref b4, .int (iI (y8)), .int (iI (y12))])), (b4, .inl (cA 0, 64, .inl (fun y_ => iI (pp16 y_)))), (hV, .inr (8, [.ref hB, .int (iI (chs d)), .int (iI (gRoot d)), .int (iI (gN d)), .int (iI (gSz d)), .int (iI (gT d)), .int (iI (gTB d)), .int (iI (gTA d)), .int (iI (gCA d))])), (hB, .inr (0, [.ref aB])), (aB, .inl (cA 1, 2048, .inl (fun y_ => bI (d y_))))]) [2, 3, 0, 1, 4, 5, 6, 7, 8, 9, 10, 11, 12, 13, 14] rfl rfl
            refine lv_istore (lv' := [(6, .int (iI (code17))), (5, .int (iI (a3))), (4, .int (iI ((q : Int)))), (3, .ref g0), (0, .ref hZ), (1, .int (iI (z))), (2, .int (iI (0)))]) C0.1 C0.2.1 dX1_countDirectory_57 hl (by decide) rfl (fun ls hl => ?_)
            refine lv_iload C0.1 C0.2.1 dX1_countDirectory_59 (lv_at hl 0 rfl) ?_
            refine k_if_ge (tgt := 67) C0 (by constructor <;> omega) dX1_countDirectory_61 (by decide) (fun c61 => ?_) (fun c61 => ?_)
            · refine lv_iinc (v := iI ((q : Int) + 1)) (lv' := [(4, .int (iI ((q : Int) + 1))), (6, .int (iI (code17))), (5, .int (iI (a3))), (3, .ref g0), (0, .ref hZ), (1, .int (iI (z))), (2, .int (iI (0)))]) C0.1 C0.2.1 dX1_countDirectory_67 hl (k := 2) rfl (iI_add _ _) (by decide) rfl (fun ls hl => ?_)
              refine lv_goto (tgt := 29) C0.1 C0.2.1 dX1_countDirectory_70 (by decide) ?_
              rcases hsk with ⟨s1_, s2_, s3_, s4_⟩ | ⟨s1_, s2_, s3_, s4_, s5_⟩
              · exact absurd s1_ (by omega)
              have hq : cen d 5 z m0 k0 = cl_ d z (chn d z) (cen d 4) t4 met18 dirs19 := by
                rw [hi29_2, s5_, cl_on (by omega) (by rw [s3_]; exact s4_) (by rw [s3_, hcen]; omega), s3_, hcen]
                congr 1; omega
              exact ih29 (q + 1) (t4) (met18) (dirs19) (y5) (y6) (y7) (y8) (y9) (y10) (y11) (y12) (pp13) (pp14) (pp15) (pp16) (by omega) ⟨by omega, by omega⟩ hq ⟨by omega, by omega, hcb6 (by omega)⟩ (by omega) _ _ S _ (lv_sub hl [0, 3, 4, 5, 6] rfl)
            · refine lv_iload C0.1 C0.2.1 dX1_countDirectory_64 (lv_at hl 0 rfl) ?_
              subst hQ
              refine k_iret C0 S hAe hsz hr hlk dX1_countDirectory_66 ?_
              rcases hsk with ⟨s1_, s2_, s3_, s4_⟩ | ⟨s1_, s2_, s3_, s4_, s5_⟩
              · exact absurd s1_ (by omega)
              · refine ⟨_, _, _, _, _, _, _, _, _, _, _, _, _, _, _, _, _, _, rfl, rfl, ?_, ⟨by omega, by omega⟩, ⟨by omega, by omega, by omega⟩, hcb6⟩
                rw [hi29_2, s5_, cl_bad (by omega) (by rw [s3_]; exact s4_) (by rw [s3_, hcen]; omega), s3_, hcen]
          · refine lv_iconst (v := iI (0)) C0.1 C0.2.1 dX1_countDirectory_48 rfl ?_
            subst hQ
            refine k_iret C0 S hAe hsz hr hlk dX1_countDirectory_49 ?_
            rcases hsk with ⟨s1_, s2_, s3_, s4_⟩ | ⟨s1_, s2_, s3_, s4_, s5_⟩
            · exact ⟨_, _, _, _, _, _, _, _, _, _, _, _, _, _, _, _, _, _, rfl, rfl, by rw [hi29_2, s4_]; exact cl_none (by omega), ⟨by decide, by decide⟩, ⟨by omega, by omega, by omega⟩, fun _ => by omega⟩
            · exact absurd s1_ (by omega)
    exact L29 (257) (0) (0) (m0) (k0) (c1) (c2) (c3) (c4) (n1) (n2) (n3) (n4) (p1) (p2) (p3) (p4) (by omega) ⟨by omega, by omega⟩ (cen_ok c20) ⟨by omega, by omega, by omega⟩ (by omega) _ _ S _ (lv_sub hl [0, 1, 2, 3, 4] rfl)
  · refine lv_bipush (v := iI (-9)) C0.1 C0.2.1 dX1_countDirectory_23 (by decide) ?_
    subst hQ
    refine k_iret C0 S hAe hsz hr hlk dX1_countDirectory_25 ?_
    exact ⟨_, _, _, _, _, _, _, _, _, _, _, _, _, _, _, _, _, _, rfl, rfl, cen_no c20, ⟨by decide, by decide⟩, ⟨by omega, by omega, by omega⟩, fun h => absurd h (by decide)⟩
noncomputable def svy (d : Nat → Int) : Int := by
  classical
  exact if (cen d 5 (gRoot d) 0 0).1 < 0 then (cen d 5 (gRoot d) 0 0).1 else (cen d 5 (gRoot d) 0 0).2.1 - (cen d 5 (gRoot d) 0 0).2.2 + 1000 * (cen d 5 (gRoot d) 0 0).2.2
theorem svy_bad {d : Nat → Int} {c m k : Int} (h : cen d 5 (gRoot d) 0 0 = (c, m, k)) (h2 : c < 0) : svy d = c := by
  classical
  unfold svy; rw [h]; exact if_pos h2
theorem svy_ok {d : Nat → Int} {c m k : Int} (h : cen d 5 (gRoot d) 0 0 = (c, m, k)) (h2 : ¬ c < 0) : svy d = m - k + 1000 * k := by
  classical
  unfold svy; rw [h]; exact if_neg h2
def rmX1_countAll : Room := { frames := 12, cells := 0, slots := 0, locals := 284 }
set_option maxHeartbeats 4000000 in
set_option maxRecDepth 100000 in
theorem c_X1_countAll (l : Launch) (D : va_G) (cA : Nat → ClassId) (hZ aG hV hB aB g0 g1 g2 g3 g4 b0 b1 b2 b3 b4 : Nat) (m0 k0 c0 c1 c2 c3 c4 n0 n1 n2 n3 n4 : Int) (d p0 p1 p2 p3 p4 : Nat → Int) (hd : By d) (hB2 : gB d) : kCi l D vwCl (kTys cA) yX1_countAll wsX1_countAll rmX1_countAll [.ref hZ] [(hZ, .inr (1, [.ref hV, .ref aG, .int (iI (m0)), .int (iI (k0))])), (aG, .inl (cA 2, 5, .inr (.inr (.inr (.inr ((lvf g0 g1 g2 g3 g4))))))), (g0, .inr (2, [.ref hB, .ref hV, .ref b0, .int (iI (c0)), .int (iI (n0))])), (b0, .inl (cA 0, 64, .inl (fun y_ => iI (p0 y_)))), (g1, .inr (2, [.ref hB, .ref hV, .ref b1, .int (iI (c1)), .int (iI (n1))])), (b1, .inl (cA 0, 64, .inl (fun y_ => iI (p1 y_)))), (g2, .inr (2, [.ref hB, .ref hV, .ref b2, .int (iI (c2)), .int (iI (n2))])), (b2, .inl (cA 0, 64, .inl (fun y_ => iI (p2 y_)))), (g3, .inr (2, [.ref hB, .ref hV, .ref b3, .int (iI (c3)), .int (iI (n3))])), (b3, .inl (cA 0, 64, .inl (fun y_ => iI (p3 y_)))), (g4, .inr (2, [.ref hB, .ref hV, .ref b4, .int (iI (c4)), .int (iI (n4))])), (b4, .inl (cA 0, 64, .inl (fun y_ => iI (p4 y_)))), (hV, .inr (8, [.ref hB, .int (iI (chs d)), .int (iI (gRoot d)), .int (iI (gN d)), .int (iI (gSz d)), .int (iI (gT d)), .int (iI (gTB d)), .int (iI (gTA d)), .int (iI (gCA d))])), (hB, .inr (0, [.ref aB])), (aB, .inl (cA 1, 2048, .inl (fun y_ => bI (d y_))))] (fun r u => ∃ (m_ k_ c0_ c1_ c2_ c3_ c4_ n0_ n1_ n2_ n3_ n4_ : Int) (p0_ p1_ p2_ p3_ p4_ : Nat → Int), r = iI (svy d) ∧ u = [(hZ, .inr (1, [.ref hV, .ref aG, .int (iI (m_)), .int (iI (k_))])), (aG, .inl (cA 2, 5, .inr (.inr (.inr (.inr ((lvf g0 g1 g2 g3 g4))))))), (g0, .inr (2, [.ref hB, .ref hV, .ref b0, .int (iI (c0_)), .int (iI (n0_))])), (b0, .inl (cA 0, 64, .inl (fun y_ => iI (p0_ y_)))), (g1, .inr (2, [.ref hB, .ref hV, .ref b1, .int (iI (c1_)), .int (iI (n1_))])), (b1, .inl (cA 0, 64, .inl (fun y_ => iI (p1_ y_)))), (g2, .inr (2, [.ref hB, .ref hV, .ref b2, .int (iI (c2_)), .int (iI (n2_))])), (b2, .inl (cA 0, 64, .inl (fun y_ => iI (p2_ y_)))), (g3, .inr (2, [.ref hB, .ref hV, .ref b3, .int (iI (c3_)), .int (iI (n3_))])), (b3, .inl (cA 0, 64, .inl (fun y_ => iI (p3_ y_)))), (g4, .inr (2, [.ref hB, .ref hV, .ref b4, .int (iI (c4_)), .int (iI (n4_))])), (b4, .inl (cA 0, 64, .inl (fun y_ => iI (p4_ y_)))), (hV, .inr (8, [.ref hB, .int (iI (chs d)), .int (iI (gRoot d)), .int (iI (gN d)), .int (iI (gSz d)), .int (iI (gT d)), .int (iI (gTB d)), .int (iI (gTA d)), .int (iI (gCA d))])), (hB, .inr (0, [.ref aB])), (aB, .inl (cA 1, 2048, .inl (fun y_ => bI (d y_))))] ∧ -100 ≤ svy d ∧ svy d ≤ 300000) := by
  intro sz
  refine kEntry (cc := cX1_countAll) (maxL := 2) (ret := (some .int)) (by decide) rfl (Nat.le_of_ble_eq_true rfl) ?_
  intro p e s m args below meth c A Q hAe hQ C0 hr hlk S hsz ls hl
  have hl : lv_has ls 2 [(0, .ref hZ)] := hl
  have hlin := hB2.lin
  refine lv_aload_n C0.1 C0.2.1 dX1_countAll_0 rfl (lv_at hl 0 rfl) ?_
  refine lv_iconst (v := iI (0)) C0.1 C0.2.1 dX1_countAll_1 rfl ?_
  refine k_put (ws' := [(hZ, .inr (1, [.ref hV, .ref aG, .int (iI (0)), .int (iI (k0))])), (aG, .inl (cA 2, 5, .inr (.inr (.inr (.inr ((lvf g0 g1 g2 g3 g4))))))), (g0, .inr (2, [.ref hB, .ref hV, .ref b0, .int (iI (c0)), .int (iI (n0))])), (b0, .inl (cA 0, 64, .inl (fun y_ => iI (p0 y_)))), (g1, .inr (2, [.ref hB, .ref hV, .ref b1, .int (iI (c1)), .int (iI (n1))])), (b1, .inl (cA 0, 64, .inl (fun y_ => iI (p1 y_)))), (g2, .inr (2, [.ref hB, .ref hV, .ref b2, .int (iI (c2)), .int (iI (n2))])), (b2, .inl (cA 0, 64, .inl (fun y_ => iI (p2 y_)))), (g3, .inr (2, [.ref hB, .ref hV, .ref b3, .int (iI (c3)), .int (iI (n3))])), (b3, .inl (cA 0, 64, .inl (fun y_ => iI (p3 y_)))), (g4, .inr (2, [.ref hB, .ref hV, .ref b4, .int (iI (c4)), .int (iI (n4))])), (b4, .inl (cA 0, 64, .inl (fun y_ => iI (p4 y_)))), (hV, .inr (8, [.ref hB, .int (iI (chs d)), .int (iI (gRoot d)), .int (iI (gN d)), .int (iI (gSz d)), .int (iI (gT d)), .int (iI (gTB d)), .int (iI (gTA d)), .int (iI (gCA d))])), (hB, .inr (0, [.ref aB])), (aB, .inl (cA 1, 2048, .inl (fun y_ => bI (d y_))))]) C0 S (C := RX1) (T := TX1) (N := 4) (ci := 1) (by decide +kernel) tyX1 tyX1_ok nmX1 0 rfl rfl 2 (by decide) (by decide +kernel) rfl (v := .int (iI (0))) rfl rfl (Nat.le_of_ble_eq_true rfl) dX1_countAll_2 rfl (fun H locs S => ?_)
  refine lv_aload_n C0.1 C0.2.1 dX1_countAll_5 rfl (lv_at hl 0 rfl) ?_
  refine lv_iconst (v := iI (0)) C0.1 C0.2.1 dX1_countAll_6 rfl ?_
  refine k_put (ws' := [(hZ, .inr (1, [.ref hV, .ref aG, .int (iI (0)), .int (iI (0))])), (aG, .inl (cA 2, 5, .inr (.inr (.inr (.inr ((lvf g0 g1 g2 g3 g4))))))), (g0, .inr (2, [.ref hB, .ref hV, .ref b0, .int (iI (c0)), .int (iI (n0))])), (b0, .inl (cA 0, 64, .inl (fun y_ => iI (p0 y_)))), (g1, .inr (2, [.ref hB, .ref hV, .ref b1, .int (iI (c1)), .int (iI (n1))])), (b1, .inl (cA 0, 64, .inl (fun y_ => iI (p1 y_)))), (g2, .inr (2, [.ref hB, .ref hV, .ref b2, .int (iI (c2)), .int (iI (n2))])), (b2, .inl (cA 0, 64, .inl (fun y_ => iI (p2 y_)))), (g3, .inr (2, [.ref hB, .ref hV, .ref b3, .int (iI (c3)), .int (iI (n3))])), (b3, .inl (cA 0, 64, .inl (fun y_ => iI (p3 y_)))), (g4, .inr (2, [.ref hB, .ref hV, .ref b4, .int (iI (c4)), .int (iI (n4))])), (b4, .inl (cA 0, 64, .inl (fun y_ => iI (p4 y_)))), (hV, .inr (8, [.ref hB, .int (iI (chs d)), .int (iI (gRoot d)), .int (iI (gN d)), .int (iI (gSz d)), .int (iI (gT d)), .int (iI (gTB d)), .int (iI (gTA d)), .int (iI (gCA d))])), (hB, .inr (0, [.ref aB])), (aB, .inl (cA 1, 2048, .inl (fun y_ => bI (d y_))))]) C0 S (C := RX1) (T := TX1) (N := 4) (ci := 1) (by decide +kernel) tyX1 tyX1_ok nmX1 0 rfl rfl 3 (by decide) (by decide +kernel) rfl (v := .int (iI (0))) rfl rfl (Nat.le_of_ble_eq_true rfl) dX1_countAll_7 rfl (fun H locs S => ?_)
  refine lv_aload_n C0.1 C0.2.1 dX1_countAll_10 rfl (lv_at hl 0 rfl) ?_
  refine lv_aload_n C0.1 C0.2.1 dX1_countAll_11 rfl (lv_at hl 0 rfl) ?_
  refine k_get C0 S (C := RX1) (T := TX1) (N := 4) (ci := 1) (by decide +kernel) 0 rfl rfl 0 (by decide) (by decide +kernel) (v := .ref hV) rfl dX1_countAll_12 ?_
  refine k_get C0 S (C := RX8) (T := TX8) (N := 9) (ci := 8) (by decide +kernel) 12 rfl rfl 2 (by decide) (by decide +kernel) (v := .int (iI (gRoot d))) rfl dX1_countAll_15 ?_
  refine lv_iconst (v := iI (0)) C0.1 C0.2.1 dX1_countAll_18 rfl ?_
  refine k_calli (n := 2) (wr := []) C0 S (c_cd0 l D cA hZ aG hV hB aB g0 g1 g2 g3 g4 b0 b1 b2 b3 b4 (0) (0) (c0) (c1) (c2) (c3) (c4) (n0) (n1) (n2) (n3) (n4) d p0 p1 p2 p3 p4 (gRoot d) hd hB2 (by omega) (by omega) (by omega) (by omega) (by omega)) gX1_countAll_X1_countDirectory rfl ⟨rfl, rfl⟩ (by decide +kernel) ⟨Nat.le_of_ble_eq_true rfl, Nat.le_of_ble_eq_true rfl⟩ [0, 1, 2, 3, 4, 5, 6, 7, 8, 9, 10, 11, 12, 13, 14] [] rfl rfl rfl rfl (by decide) (ci := 1) (q0 := 0) rfl rfl (As := [.int (iI (gRoot d)), .int (iI (0))]) rfl hl.1 rfl (Nat.le_of_ble_eq_true rfl) dX1_countAll_19 ⟨Nat.zero_le _, Nat.zero_le _⟩ (fun r u H locs hp S => ?_)
  obtain ⟨code16, met17, dirs18, y1, y2, y3, y4, y5, y6, y7, y8, y9, y10, pp11, pp12, pp13, pp14, pp15, rfl, rfl, hcen, ⟨⟨hcb1, hcb2⟩, ⟨hcb3, hcb4, hcb5⟩, hcb6⟩⟩ := hp
  have S := S.sub (ws' := [(hZ, .inr (1, [.ref hV, .ref aG, .int (iI (met17)), .int (iI (dirs18))])), (aG, .inl (cA 2, 5, .inr (.inr (.inr (.inr ((lvf g0 g1 g2 g3 g4))))))), (g0, .inr (2, [.ref hB, .ref hV, .ref b0, .int (iI (y1)), .int (iI (y6))])), (b0, .inl (cA 0, 64, .inl (fun y_ => iI (pp11 y_)))), (g1, .inr (2, [.ref hB, .ref hV, .ref b1, .int (iI (y2)), .int (iI (y7))])), (b1, .inl (cA 0, 64, .inl (fun y_ => iI (pp12 y_)))), (g2, .inr (2, [.ref hB, .ref hV, .ref b2, .int (iI (y3)), .int (iI (y8))])), (b2, .inl (cA 0, 64, .inl (fun y_ => iI (pp13 y_)))), (g3, .inr (2, [.ref hB, .ref hV, .ref b3, .int (iI (y4)), .int (iI (y9))])), (b3, .inl (cA 0, 64, .inl (fun y_ => iI (pp14 y_)))), (g4, .inr (2, [.ref hB, .ref hV, .ref b4, .int (iI (y5)), .int (iI (y10))])), (b4, .inl (cA 0, 64, .inl (fun y_ => iI (pp15 y_)))), (hV, .inr (8, [.ref hB, .int (iI (chs d)), .int (iI (gRoot d)), .int (iI (gN d)), .int (iI (gSz d)), .int (iI (gT d)), .int (iI (gTB d)), .int (iI (gTA d)), .int (iI (gCA d))])), (hB, .inr (0, [.ref aB])), (aB, .inl (cA 1, 2048, .inl (fun y_ => bI (d y_))))]) [0, 1, 2, 3, 4, 5, 6, 7, 8, 9, 10, 11, 12, 13, 14] rfl rfl
  refine lv_istore_n (lv' := [(1, .int (iI (code16))), (0, .ref hZ)]) C0.1 C0.2.1 dX1_countAll_22 rfl hl (by decide) rfl (fun ls hl => ?_)
  refine lv_iload_n C0.1 C0.2.1 dX1_countAll_23 rfl (lv_at hl 0 rfl) ?_
  refine k_if_ge (tgt := 31) C0 (by constructor <;> omega) dX1_countAll_24 (by decide) (fun c24 => ?_) (fun c24 => ?_)
  · refine lv_aload_n C0.1 C0.2.1 dX1_countAll_31 rfl (lv_at hl 1 rfl) ?_
    refine k_get C0 S (C := RX1) (T := TX1) (N := 4) (ci := 1) (by decide +kernel) 0 rfl rfl 2 (by decide) (by decide +kernel) (v := .int (iI (met17))) rfl dX1_countAll_32 ?_
    refine lv_aload_n C0.1 C0.2.1 dX1_countAll_35 rfl (lv_at hl 1 rfl) ?_
    refine k_get C0 S (C := RX1) (T := TX1) (N := 4) (ci := 1) (by decide +kernel) 0 rfl rfl 3 (by decide) (by decide +kernel) (v := .int (iI (dirs18))) rfl dX1_countAll_36 ?_
    refine k_isub C0 dX1_countAll_39 ?_
    refine lv_sipush (v := iI (1000)) C0.1 C0.2.1 dX1_countAll_40 (by decide) ?_
    refine lv_aload_n C0.1 C0.2.1 dX1_countAll_43 rfl (lv_at hl 1 rfl) ?_
    refine k_get C0 S (C := RX1) (T := TX1) (N := 4) (ci := 1) (by decide +kernel) 0 rfl rfl 3 (by decide) (by decide +kernel) (v := .int (iI (dirs18))) rfl dX1_countAll_44 ?_
    refine k_imul C0 dX1_countAll_47 ?_
    refine k_iadd C0 dX1_countAll_48 ?_
    subst hQ
    refine k_iret C0 S hAe hsz hr hlk dX1_countAll_49 ?_
    have hq := svy_ok hcen (by omega)
    exact ⟨_, _, _, _, _, _, _, _, _, _, _, _, _, _, _, _, _, congrArg iI hq.symm, rfl, by omega, by omega⟩
  · refine lv_iload_n C0.1 C0.2.1 dX1_countAll_27 rfl (lv_at hl 0 rfl) ?_
    refine lv_goto (tgt := 49) C0.1 C0.2.1 dX1_countAll_28 (by decide) ?_
    subst hQ
    refine k_iret C0 S hAe hsz hr hlk dX1_countAll_49 ?_
    have hq := svy_bad hcen (by omega)
    exact ⟨_, _, _, _, _, _, _, _, _, _, _, _, _, _, _, _, _, congrArg iI hq.symm, rfl, by omega, by omega⟩
