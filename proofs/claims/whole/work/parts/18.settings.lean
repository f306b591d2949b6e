def rmX7_forget : Room := { frames := 0, cells := 0, slots := 0, locals := 0 }
set_option maxHeartbeats 4000000 in
set_option maxRecDepth 100000 in
theorem c_X7_forget (l : Launch) (D : va_G) (cA : Nat → ClassId) (h : Nat) (g f t : Int)  : kCv l D vwCl (kTys cA) yX7_forget wsX7_forget rmX7_forget [.ref h] [(h, .inr (7, [.int (iI (g)), .int (iI (f)), .int (iI (t))]))] (fun u => u = [(h, .inr (7, [.int (iI (0)), .int (iI (0)), .int (iI (0))]))]) := by
  intro sz
  refine kEntry (cc := cX7_forget) (maxL := 1) (ret := none) (by decide) rfl (Nat.le_of_ble_eq_true rfl) ?_
  intro p e s m args below meth c A Q hAe hQ C0 hr hlk S hsz ls hl
  have hl : lv_has ls 1 [(0, .ref h)] := hl
  refine lv_aload_n C0.1 C0.2.1 dX7_forget_0 rfl (lv_at hl 0 rfl) ?_
  refine lv_iconst (v := iI (0)) C0.1 C0.2.1 dX7_forget_1 rfl ?_
  refine k_put (ws' := [(h, .inr (7, [.int (iI (0)), .int (iI (f)), .int (iI (t))]))]) C0 S (C := RX7) (T := TX7) (N := 3) (ci := 7) (by decide +kernel) tyX7 tyX7_ok nmX7 0 rfl rfl 0 (by decide) (by decide +kernel) rfl (v := .int (iI (0))) rfl rfl (Nat.le_of_ble_eq_true rfl) dX7_forget_2 rfl (fun H locs S => ?_)
  refine lv_aload_n C0.1 C0.2.1 dX7_forget_5 rfl (lv_at hl 0 rfl) ?_
  refine lv_iconst (v := iI (0)) C0.1 C0.2.1 dX7_forget_6 rfl ?_
  refine k_put (ws' := [(h, .inr (7, [.int (iI (0)), .int (iI (0)), .int (iI (t))]))]) C0 S (C := RX7) (T := TX7) (N := 3) (ci := 7) (by decide +kernel) tyX7 tyX7_ok nmX7 0 rfl rfl 1 (by decide) (by decide +kernel) rfl (v := .int (iI (0))) rfl rfl (Nat.le_of_ble_eq_true rfl) dX7_forget_7 rfl (fun H locs S => ?_)
  refine lv_aload_n C0.1 C0.2.1 dX7_forget_10 rfl (lv_at hl 0 rfl) ?_
  refine lv_iconst (v := iI (0)) C0.1 C0.2.1 dX7_forget_11 rfl ?_
  refine k_put (ws' := [(h, .inr (7, [.int (iI (0)), .int (iI (0)), .int (iI (0))]))]) C0 S (C := RX7) (T := TX7) (N := 3) (ci := 7) (by decide +kernel) tyX7 tyX7_ok nmX7 0 rfl rfl 2 (by decide) (by decide +kernel) rfl (v := .int (iI (0))) rfl rfl (Nat.le_of_ble_eq_true rfl) dX7_forget_12 rfl (fun H locs S => ?_)
  subst hQ
  refine k_vret C0 S hAe hsz hr hlk dX7_forget_15 ?_
  exact rfl
def rmX7_set : Room := { frames := 0, cells := 0, slots := 0, locals := 0 }
set_option maxHeartbeats 4000000 in
set_option maxRecDepth 100000 in
theorem c_X7_set (l : Launch) (D : va_G) (cA : Nat → ClassId) (h : Nat) (g f t x y : Int)  : kCv l D vwCl (kTys cA) yX7_set wsX7_set rmX7_set [.ref h, .int (iI (x)), .int (iI (y))] [(h, .inr (7, [.int (iI (g)), .int (iI (f)), .int (iI (t))]))] (fun u => u = [(h, .inr (7, [.int (iI (1)), .int (iI (x)), .int (iI (y))]))]) := by
  intro sz
  refine kEntry (cc := cX7_set) (maxL := 3) (ret := none) (by decide) rfl (Nat.le_of_ble_eq_true rfl) ?_
  intro p e s m args below meth c A Q hAe hQ C0 hr hlk S hsz ls hl
  have hl : lv_has ls 3 [(0, .ref h), (1, .int (iI (x))), (2, .int (iI (y)))] := hl
  refine lv_aload_n C0.1 C0.2.1 dX7_set_0 rfl (lv_at hl 0 rfl) ?_
  refine lv_iconst (v := iI (1)) C0.1 C0.2.1 dX7_set_1 rfl ?_
  refine k_put (ws' := [(h, .inr (7, [.int (iI (1)), .int (iI (f)), .int (iI (t))]))]) C0 S (C := RX7) (T := TX7) (N := 3) (ci := 7) (by decide +kernel) tyX7 tyX7_ok nmX7 0 rfl rfl 0 (by decide) (by decide +kernel) rfl (v := .int (iI (1))) rfl rfl (Nat.le_of_ble_eq_true rfl) dX7_set_2 rfl (fun H locs S => ?_)
  refine lv_aload_n C0.1 C0.2.1 dX7_set_5 rfl (lv_at hl 0 rfl) ?_
  refine lv_iload_n C0.1 C0.2.1 dX7_set_6 rfl (lv_at hl 1 rfl) ?_
  refine k_put (ws' := [(h, .inr (7, [.int (iI (1)), .int (iI (x)), .int (iI (t))]))]) C0 S (C := RX7) (T := TX7) (N := 3) (ci := 7) (by decide +kernel) tyX7 tyX7_ok nmX7 0 rfl rfl 1 (by decide) (by decide +kernel) rfl (v := .int (iI (x))) rfl rfl (Nat.le_of_ble_eq_true rfl) dX7_set_7 rfl (fun H locs S => ?_)
  refine lv_aload_n C0.1 C0.2.1 dX7_set_10 rfl (lv_at hl 0 rfl) ?_
  refine lv_iload_n C0.1 C0.2.1 dX7_set_11 rfl (lv_at hl 2 rfl) ?_
  refine k_put (ws' := [(h, .inr (7, [.int (iI (1)), .int (iI (x)), .int (iI (y))]))]) C0 S (C := RX7) (T := TX7) (N := 3) (ci := 7) (by decide +kernel) tyX7 tyX7_ok nmX7 0 rfl rfl 2 (by decide) (by decide +kernel) rfl (v := .int (iI (y))) rfl rfl (Nat.le_of_ble_eq_true rfl) dX7_set_12 rfl (fun H locs S => ?_)
  subst hQ
  refine k_vret C0 S hAe hsz hr hlk dX7_set_15 ?_
  exact rfl
def rmX6_takeLine : Room := { frames := 1, cells := 0, slots := 0, locals := 22 }
set_option maxHeartbeats 4000000 in
set_option maxRecDepth 100000 in
theorem c_X6_takeLine (l : Launch) (D : va_G) (cA : Nat → ClassId) (hS aT hK hO hA : Nat) (k1 k2 k3 o1 o2 o3 a1 a2 a3 : Int) (tx g : Nat → Int) (fr to : Int) (hg : By g) (hg2 : ∀ j : Nat, (j : Int) < to → tx j = g j) (hf0 : 0 ≤ fr) (hf1 : fr ≤ 201) (ht0 : 0 ≤ to) (ht1 : to ≤ 200) : kCi l D vwCl (kTys cA) yX6_takeLine wsX6_takeLine rmX6_takeLine [.ref hS, .int (iI (fr)), .int (iI (to))] [(hS, .inr (6, [.ref aT, .ref hK, .ref hO, .ref hA])), (aT, .inl (cA 0, 200, .inl (fun y_ => iI (tx y_)))), (hK, .inr (7, [.int (iI (k1)), .int (iI (k2)), .int (iI (k3))])), (hO, .inr (7, [.int (iI (o1)), .int (iI (o2)), .int (iI (o3))])), (hA, .inr (7, [.int (iI (a1)), .int (iI (a2)), .int (iI (a3))]))] (fun r u => ∃ w1 w2 w3 w4 w5 w6 w7 w8 w9 : Int, r = iI (bz (lnOk g fr to)) ∧ u = [(hS, .inr (6, [.ref aT, .ref hK, .ref hO, .ref hA])), (aT, .inl (cA 0, 200, .inl (fun y_ => iI (tx y_)))), (hK, .inr (7, [.int (iI (w1)), .int (iI (w2)), .int (iI (w3))])), (hO, .inr (7, [.int (iI (w4)), .int (iI (w5)), .int (iI (w6))])), (hA, .inr (7, [.int (iI (w7)), .int (iI (w8)), .int (iI (w9))]))] ∧ ∀ S : SS, (VR k1 k2 k3 S.1 S.2.1 ∧ VR o1 o2 o3 S.2.2.1 S.2.2.2.1 ∧ VR a1 a2 a3 S.2.2.2.2.1 S.2.2.2.2.2) → lnOk g fr to → (VR w1 w2 w3 (lnS g fr to S).1 (lnS g fr to S).2.1 ∧ VR w4 w5 w6 (lnS g fr to S).2.2.1 (lnS g fr to S).2.2.2.1 ∧ VR w7 w8 w9 (lnS g fr to S).2.2.2.2.1 (lnS g fr to S).2.2.2.2.2)) := by
  intro sz
  refine kEntry (cc := cX6_takeLine) (maxL := 3) (ret := (some .boolean)) (by decide) rfl (Nat.le_of_ble_eq_true rfl) ?_
  intro p e s m args below meth c A Q hAe hQ C0 hr hlk S hsz ls hl
  have hl : lv_has ls 3 [(0, .ref hS), (1, .int (iI (fr))), (2, .int (iI (to)))] := hl
  have q0 := hg.rd fr
  have q1 := hg.rd (fr + 1)
  refine lv_iload_n C0.1 C0.2.1 dX6_takeLine_0 rfl (lv_at hl 1 rfl) ?_
  refine lv_iload_n C0.1 C0.2.1 dX6_takeLine_1 rfl (lv_at hl 2 rfl) ?_
  refine k_icmp_ge (tgt := 16) C0 (by constructor <;> omega) (by constructor <;> omega) dX6_takeLine_2 (by decide) (fun c1 => ?_) (fun c1 => ?_)
  · refine lv_iconst (v := iI (1)) C0.1 C0.2.1 dX6_takeLine_16 rfl ?_
    subst hQ
    refine k_zret C0 S hAe hsz hr hlk (by rfl) dX6_takeLine_17 ?_
    refine ⟨_, _, _, _, _, _, _, _, _, congrArg iI (bz_t (by unfold lnOk; omega)).symm, rfl, fun S hS hk => ?_⟩
    rw [lnS_no (by omega)]; exact hS
  · refine lv_aload_n C0.1 C0.2.1 dX6_takeLine_5 rfl (lv_at hl 0 rfl) ?_
    refine k_get C0 S (C := RX6) (T := TX6) (N := 4) (ci := 6) (by decide +kernel) 0 rfl rfl 0 (by decide) (by decide +kernel) (v := .ref aT) rfl dX6_takeLine_6 ?_
    refine lv_iload_n C0.1 C0.2.1 dX6_takeLine_9 rfl (lv_at hl 1 rfl) ?_
    refine k_iald C0 S 1 0 rfl rfl (z := fr) (by omega) (by omega) (by omega) dX6_takeLine_10 ?_
    refine k_topeq (v := iI (rd g fr)) (congrArg iI (hg2 _ (by omega))) ?_
    refine lv_bipush (v := iI (35)) C0.1 C0.2.1 dX6_takeLine_11 (by decide) ?_
    refine k_icmp_ne (tgt := 18) C0 (by constructor <;> omega) ⟨by decide, by decide⟩ dX6_takeLine_13 (by decide) (fun c2 => ?_) (fun c2 => ?_)
    · refine lv_iload_n C0.1 C0.2.1 dX6_takeLine_18 rfl (lv_at hl 2 rfl) ?_
      refine lv_iload_n C0.1 C0.2.1 dX6_takeLine_19 rfl (lv_at hl 1 rfl) ?_
      refine k_isub C0 dX6_takeLine_20 ?_
      refine lv_iconst (v := iI (2)) C0.1 C0.2.1 dX6_takeLine_21 rfl ?_
      refine k_icmp_lt (tgt := 38) C0 (by constructor <;> omega) ⟨by decide, by decide⟩ dX6_takeLine_22 (by decide) (fun c3 => ?_) (fun c3 => ?_)
      · refine lv_iconst (v := iI (0)) C0.1 C0.2.1 dX6_takeLine_38 rfl ?_
        subst hQ
        refine k_zret C0 S hAe hsz hr hlk (by rfl) dX6_takeLine_39 ?_
        exact ⟨_, _, _, _, _, _, _, _, _, congrArg iI (bz_f (by unfold lnOk; omega)).symm, rfl, fun S hS hk => absurd hk (by unfold lnOk; omega)⟩
      · refine lv_aload_n C0.1 C0.2.1 dX6_takeLine_25 rfl (lv_at hl 0 rfl) ?_
        refine k_get C0 S (C := RX6) (T := TX6) (N := 4) (ci := 6) (by decide +kernel) 0 rfl rfl 0 (by decide) (by decide +kernel) (v := .ref aT) rfl dX6_takeLine_26 ?_
        refine lv_iload_n C0.1 C0.2.1 dX6_takeLine_29 rfl (lv_at hl 1 rfl) ?_
        refine lv_iconst (v := iI (1)) C0.1 C0.2.1 dX6_takeLine_30 rfl ?_
        refine k_iadd C0 dX6_takeLine_31 ?_
        refine k_iald C0 S 1 0 rfl rfl (z := fr + 1) (by omega) (by omega) (by omega) dX6_takeLine_32 ?_
        refine k_topeq (v := iI (rd g (fr + 1))) (congrArg iI (hg2 _ (by omega))) ?_
        refine lv_bipush (v := iI (61)) C0.1 C0.2.1 dX6_takeLine_33 (by decide) ?_
        refine k_icmp_eq (tgt := 40) C0 (by constructor <;> omega) ⟨by decide, by decide⟩ dX6_takeLine_35 (by decide) (fun c4 => ?_) (fun c4 => ?_)
        · refine lv_aload_n C0.1 C0.2.1 dX6_takeLine_40 rfl (lv_at hl 0 rfl) ?_
          refine k_get C0 S (C := RX6) (T := TX6) (N := 4) (ci := 6) (by decide +kernel) 0 rfl rfl 0 (by decide) (by decide +kernel) (v := .ref aT) rfl dX6_takeLine_41 ?_
          refine lv_iload_n C0.1 C0.2.1 dX6_takeLine_44 rfl (lv_at hl 1 rfl) ?_
          refine k_iald C0 S 1 0 rfl rfl (z := fr) (by omega) (by omega) (by omega) dX6_takeLine_45 ?_
          refine k_topeq (v := iI (rd g fr)) (congrArg iI (hg2 _ (by omega))) ?_
          rcases (show rd g fr = 65 ∨ rd g fr = 70 ∨ rd g fr = 75 ∨ (¬ rd g fr = 65 ∧ ¬ rd g fr = 70 ∧ ¬ rd g fr = 75) by omega) with c5 | c5 | c5 | c5
          · refine lv_lookup (off := 60) (tgt := 106) C0.1 C0.2.1 dX6_takeLine_46 (by decide) (by rw [iI_toInt (by constructor <;> omega), c5]; rfl) (by decide) ?_
            refine lv_aload_n C0.1 C0.2.1 dX6_takeLine_106 rfl (lv_at hl 0 rfl) ?_
            refine k_get C0 S (C := RX6) (T := TX6) (N := 4) (ci := 6) (by decide +kernel) 0 rfl rfl 3 (by decide) (by decide +kernel) (v := .ref hA) rfl dX6_takeLine_107 ?_
            refine lv_iload_n C0.1 C0.2.1 dX6_takeLine_110 rfl (lv_at hl 1 rfl) ?_
            refine lv_iconst (v := iI (2)) C0.1 C0.2.1 dX6_takeLine_111 rfl ?_
            refine k_iadd C0 dX6_takeLine_112 ?_
            refine lv_iload_n C0.1 C0.2.1 dX6_takeLine_113 rfl (lv_at hl 2 rfl) ?_
            refine k_callv (n := 2) (wr := [(hS, .inr (6, [.ref aT, .ref hK, .ref hO, .ref hA])), (aT, .inl (cA 0, 200, .inl (fun y_ => iI (tx y_)))), (hK, .inr (7, [.int (iI (k1)), .int (iI (k2)), .int (iI (k3))])), (hO, .inr (7, [.int (iI (o1)), .int (iI (o2)), .int (iI (o3))]))]) C0 S (c_X7_set l D cA hA (a1) (a2) (a3) (fr + 2) (to)) gX6_takeLine_X7_set rfl ⟨rfl, rfl⟩ (by decide +kernel) ⟨Nat.le_of_ble_eq_true rfl, Nat.le_of_ble_eq_true rfl⟩ [4] [0, 1, 2, 3] rfl rfl rfl rfl (by decide) (ci := 7) (q0 := 0) rfl rfl (As := [.int (iI (fr + 2)), .int (iI (to))]) rfl hl.1 rfl (Nat.le_of_ble_eq_true rfl) dX6_takeLine_114 ⟨Nat.zero_le _, Nat.zero_le _⟩ (fun u H locs hp S => ?_)
            obtain rfl := hp
            have S := S.sub (ws' := [(hS, .inr (6, [.ref aT, .ref hK, .ref hO, .ref hA])), (aT, .inl (cA 0, 200, .inl (fun y_ => iI (tx y_)))), (hK, .inr (7, [.int (iI (k1)), .int (iI (k2)), .int (iI (k3))])), (hO, .inr (7, [.int (iI (o1)), .int (iI (o2)), .int (iI (o3))])), (hA, .inr (7, [.int (iI (1)), .int (iI (fr + 2)), .int (iI (to))]))]) [0, 1, 2, 3, 4] rfl rfl
            refine lv_iload_n C0.1 C0.2.1 dX6_takeLine_117 rfl (lv_at hl 2 rfl) ?_
            refine lv_iload_n C0.1 C0.2.1 dX6_takeLine_118 rfl (lv_at hl 1 rfl) ?_
            refine k_isub C0 dX6_takeLine_119 ?_
            refine lv_iconst (v := iI (2)) C0.1 C0.2.1 dX6_takeLine_120 rfl ?_
            refine k_isub C0 dX6_takeLine_121 ?_
            refine lv_bipush (v := iI (24)) C0.1 C0.2.1 dX6_takeLine_122 (by decide) ?_
            refine k_icmp_gt (tgt := 131) C0 (by constructor <;> omega) ⟨by decide, by decide⟩ dX6_takeLine_124 (by decide) (fun c6 => ?_) (fun c6 => ?_)
            · refine lv_iconst (v := iI (0)) C0.1 C0.2.1 dX6_takeLine_131 rfl ?_
              subst hQ
              refine k_zret C0 S hAe hsz hr hlk (by rfl) dX6_takeLine_132 ?_
              exact ⟨_, _, _, _, _, _, _, _, _, congrArg iI (bz_f (by unfold lnOk; omega)).symm, rfl, fun S hS hk => absurd hk (by unfold lnOk; omega)⟩
            · refine lv_iconst (v := iI (1)) C0.1 C0.2.1 dX6_takeLine_127 rfl ?_
              refine lv_goto (tgt := 132) C0.1 C0.2.1 dX6_takeLine_128 (by decide) ?_
              subst hQ
              refine k_zret C0 S hAe hsz hr hlk (by rfl) dX6_takeLine_132 ?_
              refine ⟨_, _, _, _, _, _, _, _, _, congrArg iI (bz_t (by unfold lnOk; omega)).symm, rfl, fun S hS hk => ?_⟩
              obtain ⟨x1, x2, x3⟩ := hS
              rw [lnS_A (by omega) (by omega)]
              exact ⟨x1, x2, Or.inl ⟨rfl, by dsimp only; omega, rfl, by dsimp only; omega⟩⟩
          · refine lv_lookup (off := 47) (tgt := 93) C0.1 C0.2.1 dX6_takeLine_46 (by decide) (by rw [iI_toInt (by constructor <;> omega), c5]; rfl) (by decide) ?_
            refine lv_aload_n C0.1 C0.2.1 dX6_takeLine_93 rfl (lv_at hl 0 rfl) ?_
            refine k_get C0 S (C := RX6) (T := TX6) (N := 4) (ci := 6) (by decide +kernel) 0 rfl rfl 2 (by decide) (by decide +kernel) (v := .ref hO) rfl dX6_takeLine_94 ?_
            refine lv_iload_n C0.1 C0.2.1 dX6_takeLine_97 rfl (lv_at hl 1 rfl) ?_
            refine lv_iconst (v := iI (2)) C0.1 C0.2.1 dX6_takeLine_98 rfl ?_
            refine k_iadd C0 dX6_takeLine_99 ?_
            refine lv_iload_n C0.1 C0.2.1 dX6_takeLine_100 rfl (lv_at hl 2 rfl) ?_
            refine k_callv (n := 2) (wr := [(hS, .inr (6, [.ref aT, .ref hK, .ref hO, .ref hA])), (aT, .inl (cA 0, 200, .inl (fun y_ => iI (tx y_)))), (hK, .inr (7, [.int (iI (k1)), .int (iI (k2)), .int (iI (k3))])), (hA, .inr (7, [.int (iI (a1)), .int (iI (a2)), .int (iI (a3))]))]) C0 S (c_X7_set l D cA hO (o1) (o2) (o3) (fr + 2) (to)) gX6_takeLine_X7_set rfl ⟨rfl, rfl⟩ (by decide +kernel) ⟨Nat.le_of_ble_eq_true rfl, Nat.le_of_ble_eq_true rfl⟩ [3] [0, 1, 2, 4] rfl rfl rfl rfl (by decide) (ci := 7) (q0 := 0) rfl rfl (As := [.int (iI (fr + 2)), .int (iI (to))]) rfl hl.1 rfl (Nat.le_of_ble_eq_true rfl) dX6_takeLine_101 ⟨Nat.zero_le _, Nat.zero_le _⟩ (fun u H locs hp S => ?_)
            obtain rfl := hp
            have S := S.sub (ws' := [(hS, .inr (6, [.ref aT, .ref hK, .ref hO, .ref hA])), (aT, .inl (cA 0, 200, .inl (fun y_ => iI (tx y_)))), (hK, .inr (7, [.int (iI (k1)), .int (iI (k2)), .int (iI (k3))])), (hO, .inr (7, [.int (iI (1)), .int (iI (fr + 2)), .int (iI (to))])), (hA, .inr (7, [.int (iI (a1)), .int (iI (a2)), .int (iI (a3))]))]) [0, 1, 2, 4, 3] rfl rfl
            refine lv_iconst (v := iI (1)) C0.1 C0.2.1 dX6_takeLine_104 rfl ?_
            subst hQ
            refine k_zret C0 S hAe hsz hr hlk (by rfl) dX6_takeLine_105 ?_
            refine ⟨_, _, _, _, _, _, _, _, _, congrArg iI (bz_t (by unfold lnOk; omega)).symm, rfl, fun S hS hk => ?_⟩
            obtain ⟨x1, x2, x3⟩ := hS
            rw [lnS_F (by omega) (by omega)]
            exact ⟨x1, Or.inl ⟨rfl, by dsimp only; omega, rfl, by dsimp only; omega⟩, x3⟩
          · refine lv_lookup (off := 34) (tgt := 80) C0.1 C0.2.1 dX6_takeLine_46 (by decide) (by rw [iI_toInt (by constructor <;> omega), c5]; rfl) (by decide) ?_
            refine lv_aload_n C0.1 C0.2.1 dX6_takeLine_80 rfl (lv_at hl 0 rfl) ?_
            refine k_get C0 S (C := RX6) (T := TX6) (N := 4) (ci := 6) (by decide +kernel) 0 rfl rfl 1 (by decide) (by decide +kernel) (v := .ref hK) rfl dX6_takeLine_81 ?_
            refine lv_iload_n C0.1 C0.2.1 dX6_takeLine_84 rfl (lv_at hl 1 rfl) ?_
            refine lv_iconst (v := iI (2)) C0.1 C0.2.1 dX6_takeLine_85 rfl ?_
            refine k_iadd C0 dX6_takeLine_86 ?_
            refine lv_iload_n C0.1 C0.2.1 dX6_takeLine_87 rfl (lv_at hl 2 rfl) ?_
            refine k_callv (n := 2) (wr := [(hS, .inr (6, [.ref aT, .ref hK, .ref hO, .ref hA])), (aT, .inl (cA 0, 200, .inl (fun y_ => iI (tx y_)))), (hO, .inr (7, [.int (iI (o1)), .int (iI (o2)), .int (iI (o3))])), (hA, .inr (7, [.int (iI (a1)), .int (iI (a2)), .int (iI (a3))]))]) C0 S (c_X7_set l D cA hK (k1) (k2) (k3) (fr + 2) (to)) gX6_takeLine_X7_set rfl ⟨rfl, rfl⟩ (by decide +kernel) ⟨Nat.le_of_ble_eq_true rfl, Nat.le_of_ble_eq_true rfl⟩ [2] [0, 1, 3, 4] rfl rfl rfl rfl (by decide) (ci := 7) (q0 := 0) rfl rfl (As := [.int (iI (fr + 2)), .int (iI (to))]) rfl hl.1 rfl (Nat.le_of_ble_eq_true rfl) dX6_takeLine_88 ⟨Nat.zero_le _, Nat.zero_le _⟩ (fun u H locs hp S => ?_)
            obtain rfl := hp
            have S := S.sub (ws' := [(hS, .inr (6, [.ref aT, .ref hK, .ref hO, .ref hA])), (aT, .inl (cA 0, 200, .inl (fun y_ => iI (tx y_)))), (hK, .inr (7, [.int (iI (1)), .int (iI (fr + 2)), .int (iI (to))])), (hO, .inr (7, [.int (iI (o1)), .int (iI (o2)), .int (iI (o3))])), (hA, .inr (7, [.int (iI (a1)), .int (iI (a2)), .int (iI (a3))]))]) [0, 1, 4, 2, 3] rfl rfl
            refine lv_iconst (v := iI (1)) C0.1 C0.2.1 dX6_takeLine_91 rfl ?_
            subst hQ
            refine k_zret C0 S hAe hsz hr hlk (by rfl) dX6_takeLine_92 ?_
            refine ⟨_, _, _, _, _, _, _, _, _, congrArg iI (bz_t (by unfold lnOk; omega)).symm, rfl, fun S hS hk => ?_⟩
            obtain ⟨x1, x2, x3⟩ := hS
            rw [lnS_K (by omega) (by omega)]
            exact ⟨Or.inl ⟨rfl, by dsimp only; omega, rfl, by dsimp only; omega⟩, x2, x3⟩
          · refine lv_lookup (off := 87) (tgt := 133) C0.1 C0.2.1 dX6_takeLine_46 (by decide) (by rw [iI_toInt (by constructor <;> omega)]; show Op.lookupswitch.offset [(65, 60), (70, 47), (75, 34)] 87 (rd g fr) = 87; rw [Op.lookupswitch.offset_cons, if_neg (by omega)]; rw [Op.lookupswitch.offset_cons, if_neg (by omega)]; rw [Op.lookupswitch.offset_cons, if_neg (by omega)]; rfl) (by decide) ?_
            refine lv_iconst (v := iI (1)) C0.1 C0.2.1 dX6_takeLine_133 rfl ?_
            subst hQ
            refine k_zret C0 S hAe hsz hr hlk (by rfl) dX6_takeLine_134 ?_
            refine ⟨_, _, _, _, _, _, _, _, _, congrArg iI (bz_t (by unfold lnOk; omega)).symm, rfl, fun S hS hk => ?_⟩
            rw [lnS_other (by omega) (by omega) (by omega)]; exact hS
        · refine lv_iconst (v := iI (0)) C0.1 C0.2.1 dX6_takeLine_38 rfl ?_
          subst hQ
          refine k_zret C0 S hAe hsz hr hlk (by rfl) dX6_takeLine_39 ?_
          exact ⟨_, _, _, _, _, _, _, _, _, congrArg iI (bz_f (by unfold lnOk; omega)).symm, rfl, fun S hS hk => absurd hk (by unfold lnOk; omega)⟩
    · refine lv_iconst (v := iI (1)) C0.1 C0.2.1 dX6_takeLine_16 rfl ?_
      subst hQ
      refine k_zret C0 S hAe hsz hr hlk (by rfl) dX6_takeLine_17 ?_
      refine ⟨_, _, _, _, _, _, _, _, _, congrArg iI (bz_t (by unfold lnOk; omega)).symm, rfl, fun S hS hk => ?_⟩
      rw [lnS_no (by omega)]; exact hS
def rmX6_take : Room := { frames := 2, cells := 0, slots := 0, locals := 44 }
set_option maxHeartbeats 4000000 in
set_option maxRecDepth 100000 in
theorem c_X6_take (l : Launch) (D : va_G) (cA : Nat → ClassId) (hS aT hK hO hA : Nat) (k1 k2 k3 o1 o2 o3 a1 a2 a3 : Int) (hC aC hV hB aB : Nat) (tx pl d : Nat → Int) (cnt v2 first len : Int) (hd : By d) (hB2 : gB d) (htx : By tx) (hl0 : 0 ≤ len) (hl1 : len < 65536) (hT : 0 < len → Tr d first cnt pl ∧ len ≤ chn d first * gSz d) : kCi l D vwCl (kTys cA) yX6_take wsX6_take rmX6_take [.ref hS, .ref hC, .int (iI (len))] [(hS, .inr (6, [.ref aT, .ref hK, .ref hO, .ref hA])), (aT, .inl (cA 0, 200, .inl (fun y_ => iI (tx y_)))), (hK, .inr (7, [.int (iI (k1)), .int (iI (k2)), .int (iI (k3))])), (hO, .inr (7, [.int (iI (o1)), .int (iI (o2)), .int (iI (o3))])), (hA, .inr (7, [.int (iI (a1)), .int (iI (a2)), .int (iI (a3))])), (hC, .inr (2, [.ref hB, .ref hV, .ref aC, .int (iI (cnt)), .int (iI (v2))])), (aC, .inl (cA 0, 64, .inl (fun y_ => iI (pl y_)))), (hV, .inr (8, [.ref hB, .int (iI (chs d)), .int (iI (gRoot d)), .int (iI (gN d)), .int (iI (gSz d)), .int (iI (gT d)), .int (iI (gTB d)), .int (iI (gTA d)), .int (iI (gCA d))])), (hB, .inr (0, [.ref aB])), (aB, .inl (cA 1, 2048, .inl (fun y_ => bI (d y_))))] (fun r u => ∃ (w1 w2 w3 w4 w5 w6 w7 w8 w9 : Int) (tx2 : Nat → Int), r = iI (bz (stg (ctn d first) len ≠ none)) ∧ u = [(hS, .inr (6, [.ref aT, .ref hK, .ref hO, .ref hA])), (aT, .inl (cA 0, 200, .inl (fun y_ => iI (tx2 y_)))), (hK, .inr (7, [.int (iI (w1)), .int (iI (w2)), .int (iI (w3))])), (hO, .inr (7, [.int (iI (w4)), .int (iI (w5)), .int (iI (w6))])), (hA, .inr (7, [.int (iI (w7)), .int (iI (w8)), .int (iI (w9))])), (hC, .inr (2, [.ref hB, .ref hV, .ref aC, .int (iI (cnt)), .int (iI (v2))])), (aC, .inl (cA 0, 64, .inl (fun y_ => iI (pl y_)))), (hV, .inr (8, [.ref hB, .int (iI (chs d)), .int (iI (gRoot d)), .int (iI (gN d)), .int (iI (gSz d)), .int (iI (gT d)), .int (iI (gTB d)), .int (iI (gTA d)), .int (iI (gCA d))])), (hB, .inr (0, [.ref aB])), (aB, .inl (cA 1, 2048, .inl (fun y_ => bI (d y_))))] ∧ (∀ S, stg (ctn d first) len = some S → (VR w1 w2 w3 S.1 S.2.1 ∧ VR w4 w5 w6 S.2.2.1 S.2.2.2.1 ∧ VR w7 w8 w9 S.2.2.2.2.1 S.2.2.2.2.2) ∧ SB S len ∧ ∀ j : Nat, (j : Int) < len → tx2 j = ctn d first j) ∧ By tx2) := by
  intro sz
  refine kEntry (cc := cX6_take) (maxL := 5) (ret := (some .boolean)) (by decide) rfl (Nat.le_of_ble_eq_true rfl) ?_
  intro p e s m args below meth c A Q hAe hQ C0 hr hlk S hsz ls hl
  have hl : lv_has ls 5 [(0, .ref hS), (1, .ref hC), (2, .int (iI (len)))] := hl
  refine lv_iload_n C0.1 C0.2.1 dX6_take_0 rfl (lv_at hl 2 rfl) ?_
  refine lv_sipush (v := iI (200)) C0.1 C0.2.1 dX6_take_1 (by decide) ?_
  refine k_icmp_le (tgt := 9) C0 (by constructor <;> omega) ⟨by decide, by decide⟩ dX6_take_4 (by decide) (fun c4 => ?_) (fun c4 => ?_)
  · refine lv_aload_n C0.1 C0.2.1 dX6_take_9 rfl (lv_at hl 0 rfl) ?_
    refine k_get C0 S (C := RX6) (T := TX6) (N := 4) (ci := 6) (by decide +kernel) 0 rfl rfl 1 (by decide) (by decide +kernel) (v := .ref hK) rfl dX6_take_10 ?_
    refine k_callv (n := 0) (wr := [(hS, .inr (6, [.ref aT, .ref hK, .ref hO, .ref hA])), (aT, .inl (cA 0, 200, .inl (fun y_ => iI (tx y_)))), (hO, .inr (7, [.int (iI (o1)), .int (iI (o2)), .int (iI (o3))])), (hA, .inr (7, [.int (iI (a1)), .int (iI (a2)), .int (iI (a3))])), (hC, .inr (2, [.ref hB, .ref hV, .ref aC, .int (iI (cnt)), .int (iI (v2))])), (aC, .inl (cA 0, 64, .inl (fun y_ => iI (pl y_)))), (hV, .inr (8, [.ref hB, .int (iI (chs d)), .int (iI (gRoot d)), .int (iI (gN d)), .int (iI (gSz d)), .int (iI (gT d)), .int (iI (gTB d)), .int (iI (gTA d)), .int (iI (gCA d))])), (hB, .inr (0, [.ref aB])), (aB, .inl (cA 1, 2048, .inl (fun y_ => bI (d y_))))]) C0 S (c_X7_forget l D cA hK (k1) (k2) (k3)) gX6_take_X7_forget rfl ⟨rfl, rfl⟩ (by decide +kernel) ⟨Nat.le_of_ble_eq_true rfl, Nat.le_of_ble_eq_true rfl⟩ [2] [0, 1, 3, 4, 5, 6, 7, 8, 9] rfl rfl rfl rfl (by decide) (ci := 7) (q0 := 0) rfl rfl (As := []) rfl hl.1 rfl (Nat.le_of_ble_eq_true rfl) dX6_take_13 ⟨Nat.zero_le _, Nat.zero_le _⟩ (fun u H locs hp S => ?_)
    obtain rfl := hp
    have S := S.sub (ws' := [(hS, .inr (6, [.ref aT, .ref hK, .ref hO, .ref hA])), (aT, .inl (cA 0, 200, .inl (fun y_ => iI (tx y_)))), (hK, .inr (7, [.int (iI (0)), .int (iI (0)), .int (iI (0))])), (hO, .inr (7, [.int (iI (o1)), .int (iI (o2)), .int (iI (o3))])), (hA, .inr (7, [.int (iI (a1)), .int (iI (a2)), .int (iI (a3))])), (hC, .inr (2, [.ref hB, .ref hV, .ref aC, .int (iI (cnt)), .int (iI (v2))])), (aC, .inl (cA 0, 64, .inl (fun y_ => iI (pl y_)))), (hV, .inr (8, [.ref hB, .int (iI (chs d)), .int (iI (gRoot d)), .int (iI (gN d)), .int (iI (gSz d)), .int (iI (gT d)), .int (iI (gTB d)), .int (iI (gTA d)), .int (iI (gCA d))])), (hB, .inr (0, [.ref aB])), (aB, .inl (cA 1, 2048, .inl (fun y_ => bI (d y_))))]) [0, 1, 9, 2, 3, 4, 5, 6, 7, 8] rfl rfl
    refine lv_aload_n C0.1 C0.2.1 dX6_take_16 rfl (lv_at hl 0 rfl) ?_
    refine k_get C0 S (C := RX6) (T := TX6) (N := 4) (ci := 6) (by decide +kernel) 0 rfl rfl 2 (by decide) (by decide +kernel) (v := .ref hO) rfl dX6_take_17 ?_
    refine k_callv (n := 0) (wr := [(hS, .inr (6, [.ref aT, .ref hK, .ref hO, .ref hA])), (aT, .inl (cA 0, 200, .inl (fun y_ => iI (tx y_)))), (hK, .inr (7, [.int (iI (0)), .int (iI (0)), .int (iI (0))])), (hA, .inr (7, [.int (iI (a1)), .int (iI (a2)), .int (iI (a3))])), (hC, .inr (2, [.ref hB, .ref hV, .ref aC, .int (iI (cnt)), .int (iI (v2))])), (aC, .inl (cA 0, 64, .inl (fun y_ => iI (pl y_)))), (hV, .inr (8, [.ref hB, .int (iI (chs d)), .int (iI (gRoot d)), .int (iI (gN d)), .int (iI (gSz d)), .int (iI (gT d)), .int (iI (gTB d)), .int (iI (gTA d)), .int (iI (gCA d))])), (hB, .inr (0, [.ref aB])), (aB, .inl (cA 1, 2048, .inl (fun y_ => bI (d y_))))]) C0 S (c_X7_forget l D cA hO (o1) (o2) (o3)) gX6_take_X7_forget rfl ⟨rfl, rfl⟩ (by decide +kernel) ⟨Nat.le_of_ble_eq_true rfl, Nat.le_of_ble_eq_true rfl⟩ [3] [0, 1, 2, 4, 5, 6, 7, 8, 9] rfl rfl rfl rfl (by decide) (ci := 7) (q0 := 0) rfl rfl (As := []) rfl hl.1 rfl (Nat.le_of_ble_eq_true rfl) dX6_take_20 ⟨Nat.zero_le _, Nat.zero_le _⟩ (fun u H locs hp S => ?_)
    obtain rfl := hp
    have S := S.sub (ws' := [(hS, .inr (6, [.ref aT, .ref hK, .ref hO, .ref hA])), (aT, .inl (cA 0, 200, .inl (fun y_ => iI (tx y_)))), (hK, .inr (7, [.int (iI (0)), .int (iI (0)), .int (iI (0))])), (hO, .inr (7, [.int (iI (0)), .int (iI (0)), .int (iI (0))])), (hA, .inr (7, [.int (iI (a1)), .int (iI (a2)), .int (iI (a3))])), (hC, .inr (2, [.ref hB, .ref hV, .ref aC, .int (iI (cnt)), .int (iI (v2))])), (aC, .inl (cA 0, 64, .inl (fun y_ => iI (pl y_)))), (hV, .inr (8, [.ref hB, .int (iI (chs d)), .int (iI (gRoot d)), .int (iI (gN d)), .int (iI (gSz d)), .int (iI (gT d)), .int (iI (gTB d)), .int (iI (gTA d)), .int (iI (gCA d))])), (hB, .inr (0, [.ref aB])), (aB, .inl (cA 1, 2048, .inl (fun y_ => bI (d y_))))]) [0, 1, 2, 9, 3, 4, 5, 6, 7, 8] rfl rfl
    refine lv_aload_n C0.1 C0.2.1 dX6_take_23 rfl (lv_at hl 0 rfl) ?_
    refine k_get C0 S (C := RX6) (T := TX6) (N := 4) (ci := 6) (by decide +kernel) 0 rfl rfl 3 (by decide) (by decide +kernel) (v := .ref hA) rfl dX6_take_24 ?_
    refine k_callv (n := 0) (wr := [(hS, .inr (6, [.ref aT, .ref hK, .ref hO, .ref hA])), (aT, .inl (cA 0, 200, .inl (fun y_ => iI (tx y_)))), (hK, .inr (7, [.int (iI (0)), .int (iI (0)), .int (iI (0))])), (hO, .inr (7, [.int (iI (0)), .int (iI (0)), .int (iI (0))])), (hC, .inr (2, [.ref hB, .ref hV, .ref aC, .int (iI (cnt)), .int (iI (v2))])), (aC, .inl (cA 0, 64, .inl (fun y_ => iI (pl y_)))), (hV, .inr (8, [.ref hB, .int (iI (chs d)), .int (iI (gRoot d)), .int (iI (gN d)), .int (iI (gSz d)), .int (iI (gT d)), .int (iI (gTB d)), .int (iI (gTA d)), .int (iI (gCA d))])), (hB, .inr (0, [.ref aB])), (aB, .inl (cA 1, 2048, .inl (fun y_ => bI (d y_))))]) C0 S (c_X7_forget l D cA hA (a1) (a2) (a3)) gX6_take_X7_forget rfl ⟨rfl, rfl⟩ (by decide +kernel) ⟨Nat.le_of_ble_eq_true rfl, Nat.le_of_ble_eq_true rfl⟩ [4] [0, 1, 2, 3, 5, 6, 7, 8, 9] rfl rfl rfl rfl (by decide) (ci := 7) (q0 := 0) rfl rfl (As := []) rfl hl.1 rfl (Nat.le_of_ble_eq_true rfl) dX6_take_27 ⟨Nat.zero_le _, Nat.zero_le _⟩ (fun u H locs hp S => ?_)
    obtain rfl := hp
    have S := S.sub (ws' := [(hS, .inr (6, [.ref aT, .ref hK, .ref hO, .ref hA])), (aT, .inl (cA 0, 200, .inl (fun y_ => iI (tx y_)))), (hK, .inr (7, [.int (iI (0)), .int (iI (0)), .int (iI (0))])), (hO, .inr (7, [.int (iI (0)), .int (iI (0)), .int (iI (0))])), (hA, .inr (7, [.int (iI (0)), .int (iI (0)), .int (iI (0))])), (hC, .inr (2, [.ref hB, .ref hV, .ref aC, .int (iI (cnt)), .int (iI (v2))])), (aC, .inl (cA 0, 64, .inl (fun y_ => iI (pl y_)))), (hV, .inr (8, [.ref hB, .int (iI (chs d)), .int (iI (gRoot d)), .int (iI (gN d)), .int (iI (gSz d)), .int (iI (gT d)), .int (iI (gTB d)), .int (iI (gTA d)), .int (iI (gCA d))])), (hB, .inr (0, [.ref aB])), (aB, .inl (cA 1, 2048, .inl (fun y_ => bI (d y_))))]) [0, 1, 2, 3, 9, 4, 5, 6, 7, 8] rfl rfl
    refine lv_iconst (v := iI (0)) C0.1 C0.2.1 dX6_take_30 rfl ?_
    refine lv_istore_n (lv' := [(3, .int (iI (0))), (0, .ref hS), (1, .ref hC), (2, .int (iI (len)))]) C0.1 C0.2.1 dX6_take_31 rfl hl (by decide) rfl (fun ls hl => ?_)
    have L32 : ∀ (n_ : Nat) (i : Nat) (tx2 : Nat → Int), ((i : Int) ≤ len) → (∀ j, j < i → tx2 j = ctn d first j) → (By tx2) → (len.toNat - i < n_) → ∀ (H : Heap) (locs : List Loc), kS D vwCl (kTys cA) A s [(hS, .inr (6, [.ref aT, .ref hK, .ref hO, .ref hA])), (aT, .inl (cA 0, 200, .inl (fun y_ => iI (tx2 y_)))), (hK, .inr (7, [.int (iI (0)), .int (iI (0)), .int (iI (0))])), (hO, .inr (7, [.int (iI (0)), .int (iI (0)), .int (iI (0))])), (hA, .inr (7, [.int (iI (0)), .int (iI (0)), .int (iI (0))])), (hC, .inr (2, [.ref hB, .ref hV, .ref aC, .int (iI (cnt)), .int (iI (v2))])), (aC, .inl (cA 0, 64, .inl (fun y_ => iI (pl y_)))), (hV, .inr (8, [.ref hB, .int (iI (chs d)), .int (iI (gRoot d)), .int (iI (gN d)), .int (iI (gSz d)), .int (iI (gT d)), .int (iI (gTB d)), .int (iI (gTA d)), .int (iI (gCA d))])), (hB, .inr (0, [.ref aB])), (aB, .inl (cA 1, 2048, .inl (fun y_ => bI (d y_))))] H locs → ∀ ls : Array Slot, lv_has ls 5 [(3, .int (iI ((i : Int)))), (0, .ref hS), (1, .ref hC), (2, .int (iI (len)))] → W p l e rmX6_take s m args below meth c H locs 0 0 Q (F0 m 32 ls []) := by
      intro n_
      induction n_ with
      | zero => intro i tx2 hi32_0 hi32_1 hi32_2 hm; exact absurd hm (Nat.not_lt_zero _)
      | succ n_ ih32 =>
        intro i tx2 hi32_0 hi32_1 hi32_2 hm H locs S ls hl
        refine lv_iload_n C0.1 C0.2.1 dX6_take_32 rfl (lv_at hl 0 rfl) ?_
        refine lv_iload_n C0.1 C0.2.1 dX6_take_33 rfl (lv_at hl 3 rfl) ?_
        refine k_icmp_ge (tgt := 54) C0 (by constructor <;> omega) (by constructor <;> omega) dX6_take_34 (by decide) (fun c34 => ?_) (fun c34 => ?_)
        · refine lv_iconst (v := iI (0)) C0.1 C0.2.1 dX6_take_54 rfl ?_
          refine lv_istore_n (lv' := [(3, .int (iI (0))), (0, .ref hS), (1, .ref hC), (2, .int (iI (len)))]) C0.1 C0.2.1 dX6_take_55 rfl hl (by decide) rfl (fun ls hl => ?_)
          refine lv_iconst (v := iI (0)) C0.1 C0.2.1 dX6_take_56 rfl ?_
          refine lv_istore (lv' := [(4, .int (iI (0))), (3, .int (iI (0))), (0, .ref hS), (1, .ref hC), (2, .int (iI (len)))]) C0.1 C0.2.1 dX6_take_57 hl (by decide) rfl (fun ls hl => ?_)
          have L59 : ∀ (n_ : Nat) (x : Int) (fr : Int) (S0 : SS) (w1 : Int) (w2 : Int) (w3 : Int) (w4 : Int) (w5 : Int) (w6 : Int) (w7 : Int) (w8 : Int) (w9 : Int), (0 ≤ x ∧ x ≤ len + 1) → (0 ≤ fr ∧ fr ≤ x) → (stg (ctn d first) len = stF (ctn d first) len (len + 1 - x).toNat x fr S0) → ((VR w1 w2 w3 S0.1 S0.2.1 ∧ VR w4 w5 w6 S0.2.2.1 S0.2.2.2.1 ∧ VR w7 w8 w9 S0.2.2.2.2.1 S0.2.2.2.2.2)) → (SB S0 len) → (∀ j : Nat, (j : Int) < len → tx2 j = ctn d first j) → (By tx2) → ((len + 1 - x).toNat < n_) → ∀ (H : Heap) (locs : List Loc), kS D vwCl (kTys cA) A s [(hS, .inr (6, [.ref aT, .ref hK, .ref hO, .ref hA])), (aT, .inl (cA 0, 200, .inl (fun y_ => iI (tx2 y_)))), (hK, .inr (7, [.int (iI (w1)), .int (iI (w2)), .int (iI (w3))])), (hO, .inr (7, [.int (iI (w4)), .int (iI (w5)), .int (iI (w6))])), (hA, .inr (7, [.int (iI (w7)), .int (iI (w8)), .int (iI (w9))])), (hC, .inr (2, [.ref hB, .ref hV, .ref aC, .int (iI (cnt)), .int (iI (v2))])), (aC, .inl (cA 0, 64, .inl (fun y_ => iI (pl y_)))), (hV, .inr (8, [.ref hB, .int (iI (chs d)), .int (iI (gRoot d)), .int (iI (gN d)), .int (iI (gSz d)), .int (iI (gT d)), .int (iI (gTB d)), .int (iI (gTA d)), .int (iI (gCA d))])), (hB, .inr (0, [.ref aB])), (aB, .inl (cA 1, 2048, .inl (fun y_ => bI (d y_))))] H locs → ∀ ls : Array Slot, lv_has ls 5 [(4, .int (iI (x))), (3, .int (iI (fr))), (0, .ref hS), (1, .ref hC), (2, .int (iI (len)))] → W p l e rmX6_take s m args below meth c H locs 0 0 Q (F0 m 59 ls []) := by
            intro n_
            induction n_ with
            | zero => intro x fr S0 w1 w2 w3 w4 w5 w6 w7 w8 w9 hi59_0 hi59_1 hi59_2 hi59_3 hi59_4 hi59_5 hi59_6 hm; exact absurd hm (Nat.not_lt_zero _)
            | succ n_ ih59 =>
              intro x fr S0 w1 w2 w3 w4 w5 w6 w7 w8 w9 hi59_0 hi59_1 hi59_2 hi59_3 hi59_4 hi59_5 hi59_6 hm H locs S ls hl
              refine lv_iload C0.1 C0.2.1 dX6_take_59 (lv_at hl 0 rfl) ?_
              refine lv_iload_n C0.1 C0.2.1 dX6_take_61 rfl (lv_at hl 4 rfl) ?_
              refine k_icmp_gt (tgt := 106) C0 (by constructor <;> omega) (by constructor <;> omega) dX6_take_62 (by decide) (fun c62 => ?_) (fun c62 => ?_)
              · refine lv_aload_n C0.1 C0.2.1 dX6_take_106 rfl (lv_at hl 2 rfl) ?_
                refine k_get C0 S (C := RX6) (T := TX6) (N := 4) (ci := 6) (by decide +kernel) 0 rfl rfl 1 (by decide) (by decide +kernel) (v := .ref hK) rfl dX6_take_107 ?_
                refine k_get C0 S (C := RX7) (T := TX7) (N := 3) (ci := 7) (by decide +kernel) 2 rfl rfl 0 (by decide) (by decide +kernel) (v := .int (iI (w1))) rfl dX6_take_110 ?_
                subst hQ
                refine k_zret C0 S hAe hsz hr hlk (by rcases hi59_3.1 with ⟨e, _⟩ | ⟨e, _⟩ <;> rw [e] <;> rfl) dX6_take_113 ?_
                have hz : (len + 1 - x).toNat = 0 := by omega
                rcases hi59_3.1 with ⟨e1, e2, e3, e4⟩ | ⟨e1, e2, e3, e4⟩
                · have hq : stg (ctn d first) len = some S0 := by rw [hi59_2, hz]; exact stF_end e2
                  exact ⟨_, _, _, _, _, _, _, _, _, _, congrArg iI (e1.trans (bz_t (by rw [hq]; exact fun h => by cases h)).symm), rfl, (fun S h => by rw [hq] at h; cases h; exact ⟨hi59_3, hi59_4, hi59_5⟩), hi59_6⟩
                · have hq : stg (ctn d first) len = none := by rw [hi59_2, hz]; exact stF_end_no (by omega)
                  exact ⟨_, _, _, _, _, _, _, _, _, _, congrArg iI (e1.trans (bz_f (fun h => h hq)).symm), rfl, (fun S h => by rw [hq] at h; cases h), hi59_6⟩
              · refine lv_iload C0.1 C0.2.1 dX6_take_65 (lv_at hl 0 rfl) ?_
                refine lv_iload_n C0.1 C0.2.1 dX6_take_67 rfl (lv_at hl 4 rfl) ?_
                refine k_icmp_eq (tgt := 83) C0 (by constructor <;> omega) (by constructor <;> omega) dX6_take_68 (by decide) (fun c68 => ?_) (fun c68 => ?_)
                · refine lv_aload_n C0.1 C0.2.1 dX6_take_83 rfl (lv_at hl 2 rfl) ?_
                  refine lv_iload_n C0.1 C0.2.1 dX6_take_84 rfl (lv_at hl 1 rfl) ?_
                  refine lv_iload C0.1 C0.2.1 dX6_take_85 (lv_at hl 0 rfl) ?_
                  refine k_calli (n := 2) (wr := [(hC, .inr (2, [.ref hB, .ref hV, .ref aC, .int (iI (cnt)), .int (iI (v2))])), (aC, .inl (cA 0, 64, .inl (fun y_ => iI (pl y_)))), (hV, .inr (8, [.ref hB, .int (iI (chs d)), .int (iI (gRoot d)), .int (iI (gN d)), .int (iI (gSz d)), .int (iI (gT d)), .int (iI (gTB d)), .int (iI (gTA d)), .int (iI (gCA d))])), (hB, .inr (0, [.ref aB])), (aB, .inl (cA 1, 2048, .inl (fun y_ => bI (d y_))))]) C0 S (c_X6_takeLine l D cA hS aT hK hO hA (w1) (w2) (w3) (w4) (w5) (w6) (w7) (w8) (w9) tx2 (ctn d first) (fr) (x) (By_ctn hd first) (fun j hj => hi59_5 j (by omega)) (by omega) (by omega) (by omega) (by omega)) gX6_take_X6_takeLine rfl ⟨rfl, rfl⟩ (by decide +kernel) ⟨Nat.le_of_ble_eq_true rfl, Nat.le_of_ble_eq_true rfl⟩ [0, 1, 2, 3, 4] [5, 6, 7, 8, 9] rfl rfl rfl rfl (by decide) (ci := 6) (q0 := 0) rfl rfl (As := [.int (iI (fr)), .int (iI (x))]) rfl hl.1 rfl (Nat.le_of_ble_eq_true rfl) dX6_take_87 ⟨Nat.zero_le _, Nat.zero_le _⟩ (fun r u H locs hp S => ?_)
                  obtain ⟨w1, w2, w3, w4, w5, w6, w7, w8, w9, rfl, rfl, hln⟩ := hp
                  have S := S.sub (ws' := [(hS, .inr (6, [.ref aT, .ref hK, .ref hO, .ref hA])), (aT, .inl (cA 0, 200, .inl (fun y_ => iI (tx2 y_)))), (hK, .inr (7, [.int (iI (w1)), .int (iI (w2)), .int (iI (w3))])), (hO, .inr (7, [.int (iI (w4)), .int (iI (w5)), .int (iI (w6))])), (hA, .inr (7, [.int (iI (w7)), .int (iI (w8)), .int (iI (w9))])), (hC, .inr (2, [.ref hB, .ref hV, .ref aC, .int (iI (cnt)), .int (iI (v2))])), (aC, .inl (cA 0, 64, .inl (fun y_ => iI (pl y_)))), (hV, .inr (8, [.ref hB, .int (iI (chs d)), .int (iI (gRoot d)), .int (iI (gN d)), .int (iI (gSz d)), .int (iI (gT d)), .int (iI (gTB d)), .int (iI (gTA d)), .int (iI (gCA d))])), (hB, .inr (0, [.ref aB])), (aB, .inl (cA 1, 2048, .inl (fun y_ => bI (d y_))))]) [5, 6, 7, 8, 9, 0, 1, 2, 3, 4] rfl rfl
                  refine k_bz_ne (tgt := 95) C0 dX6_take_90 (by decide) (fun c90 => ?_) (fun c90 => ?_)
                  · refine lv_iload C0.1 C0.2.1 dX6_take_95 (lv_at hl 0 rfl) ?_
                    refine lv_iconst (v := iI (1)) C0.1 C0.2.1 dX6_take_97 rfl ?_
                    refine k_iadd C0 dX6_take_98 ?_
                    refine lv_istore_n (lv' := [(3, .int (iI (x + 1))), (4, .int (iI (x))), (0, .ref hS), (1, .ref hC), (2, .int (iI (len)))]) C0.1 C0.2.1 dX6_take_99 rfl hl (by decide) rfl (fun ls hl => ?_)
                    refine lv_iinc (v := iI (x + 1)) (lv' := [(4, .int (iI (x + 1))), (3, .int (iI (x + 1))), (0, .ref hS), (1, .ref hC), (2, .int (iI (len)))]) C0.1 C0.2.1 dX6_take_100 hl (k := 1) rfl (iI_add _ _) (by decide) rfl (fun ls hl => ?_)
                    refine lv_goto (tgt := 59) C0.1 C0.2.1 dX6_take_103 (by decide) ?_
                    have hq : stg (ctn d first) len = stF (ctn d first) len (len + 1 - (x + 1)).toNat (x + 1) (x + 1) (lnS (ctn d first) fr x S0) := by rw [hi59_2]; rw [show (len + 1 - x).toNat = (len + 1 - (x + 1)).toNat + 1 by omega]; exact stF_line (show x = len ∨ rd (ctn d first) x = 10 from Or.inl c68) c90
                    have hv2 := hln S0 hi59_3 c90
                    have hsb := SB_ln hi59_4 (by omega) (by omega) c90
                    exact ih59 (x + 1) (x + 1) (lnS (ctn d first) fr x S0) (w1) (w2) (w3) (w4) (w5) (w6) (w7) (w8) (w9) ⟨by omega, by omega⟩ ⟨by omega, by omega⟩ hq hv2 hsb hi59_5 hi59_6 (by omega) _ _ S _ (lv_sub hl [0, 1, 2, 3, 4] rfl)
                  · refine lv_iconst (v := iI (0)) C0.1 C0.2.1 dX6_take_93 rfl ?_
                    subst hQ
                    refine k_zret C0 S hAe hsz hr hlk (by rfl) dX6_take_94 ?_
                    have hq : stg (ctn d first) len = none := by rw [hi59_2]; rw [show (len + 1 - x).toNat = (len + 1 - (x + 1)).toNat + 1 by omega]; exact stF_bad (Or.inl c68) c90
                    exact ⟨_, _, _, _, _, _, _, _, _, _, congrArg iI (bz_f (fun h => h hq)).symm, rfl, (fun S h => by rw [hq] at h; cases h), hi59_6⟩
                · refine lv_aload_n C0.1 C0.2.1 dX6_take_71 rfl (lv_at hl 2 rfl) ?_
                  refine k_get C0 S (C := RX6) (T := TX6) (N := 4) (ci := 6) (by decide +kernel) 0 rfl rfl 0 (by decide) (by decide +kernel) (v := .ref aT) rfl dX6_take_72 ?_
                  refine lv_iload C0.1 C0.2.1 dX6_take_75 (lv_at hl 0 rfl) ?_
                  refine k_iald C0 S 1 0 rfl rfl (z := x) (by omega) (by omega) (by omega) dX6_take_77 ?_
                  refine k_topeq (v := iI (rd (ctn d first) x)) (congrArg iI (hi59_5 _ (by omega))) ?_
                  have q10 := (By_ctn hd first).rd x
                  refine lv_bipush (v := iI (10)) C0.1 C0.2.1 dX6_take_78 (by decide) ?_
                  refine k_icmp_ne (tgt := 100) C0 (by constructor <;> omega) ⟨by decide, by decide⟩ dX6_take_80 (by decide) (fun c80 => ?_) (fun c80 => ?_)
                  · refine lv_iinc (v := iI (x + 1)) (lv' := [(4, .int (iI (x + 1))), (3, .int (iI (fr))), (0, .ref hS), (1, .ref hC), (2, .int (iI (len)))]) C0.1 C0.2.1 dX6_take_100 hl (k := 0) rfl (iI_add _ _) (by decide) rfl (fun ls hl => ?_)
                    refine lv_goto (tgt := 59) C0.1 C0.2.1 dX6_take_103 (by decide) ?_
                    have hq : stg (ctn d first) len = stF (ctn d first) len (len + 1 - (x + 1)).toNat (x + 1) fr S0 := by rw [hi59_2]; rw [show (len + 1 - x).toNat = (len + 1 - (x + 1)).toNat + 1 by omega]; exact stF_on (by rintro (h | h); exact c68 h; exact c80 h)
                    have hv2 := hi59_3
                    have hsb := hi59_4
                    exact ih59 (x + 1) (fr) (S0) (w1) (w2) (w3) (w4) (w5) (w6) (w7) (w8) (w9) ⟨by omega, by omega⟩ ⟨by omega, by omega⟩ hq hv2 hsb hi59_5 hi59_6 (by omega) _ _ S _ (lv_sub hl [0, 1, 2, 3, 4] rfl)
                  · refine lv_aload_n C0.1 C0.2.1 dX6_take_83 rfl (lv_at hl 2 rfl) ?_
                    refine lv_iload_n C0.1 C0.2.1 dX6_take_84 rfl (lv_at hl 1 rfl) ?_
                    refine lv_iload C0.1 C0.2.1 dX6_take_85 (lv_at hl 0 rfl) ?_
                    refine k_calli (n := 2) (wr := [(hC, .inr (2, [.ref hB, .ref hV, .ref aC, .int (iI (cnt)), .int (iI (v2))])), (aC, .inl (cA 0, 64, .inl (fun y_ => iI (pl y_)))), (hV, .inr (8, [.ref hB, .int (iI (chs d)), .int (iI (gRoot d)), .int (iI (gN d)), .int (iI (gSz d)), .int (iI (gT d)), .int (iI (gTB d)), .int (iI (gTA d)), .int (iI (gCA d))])), (hB, .inr (0, [.ref aB])), (aB, .inl (cA 1, 2048, .inl (fun y_ => bI (d y_))))]) C0 S (c_X6_takeLine l D cA hS aT hK hO hA (w1) (w2) (w3) (w4) (w5) (w6) (w7) (w8) (w9) tx2 (ctn d first) (fr) (x) (By_ctn hd first) (fun j hj => hi59_5 j (by omega)) (by omega) (by omega) (by omega) (by omega)) gX6_take_X6_takeLine rfl ⟨rfl, rfl⟩ (by decide +kernel) ⟨Nat.le_of_ble_eq_true rfl, Nat.le_of_ble_eq_true rfl⟩ [0, 1, 2, 3, 4] [5, 6, 7, 8, 9] rfl rfl rfl rfl (by decide) (ci := 6) (q0 := 0) rfl rfl (As := [.int (iI (fr)), .int (iI (x))]) rfl hl.1 rfl (Nat.le_of_ble_eq_true rfl) dX6_take_87 ⟨Nat.zero_le _, Nat.zero_le _⟩ (fun r u H locs hp S => ?_)
                    obtain ⟨w10, w11, w12, w13, w14, w15, w16, w17, w18, rfl, rfl, hln⟩ := hp
                    have S := S.sub (ws' := [(hS, .inr (6, [.ref aT, .ref hK, .ref hO, .ref hA])), (aT, .inl (cA 0, 200, .inl (fun y_ => iI (tx2 y_)))), (hK, .inr (7, [.int (iI (w10)), .int (iI (w11)), .int (iI (w12))])), (hO, .inr (7, [.int (iI (w13)), .int (iI (w14)), .int (iI (w15))])), (hA, .inr (7, [.int (iI (w16)), .int (iI (w17)), .int (iI (w18))])), (hC, .inr (2, [.ref hB, .ref hV, .ref aC, .int (iI (cnt)), .int (iI (v2))])), (aC, .inl (cA 0, 64, .inl (fun y_ => iI (pl y_)))), (hV, .inr (8, [.ref hB, .int (iI (chs d)), .int (iI (gRoot d)), .int (iI (gN d)), .int (iI (gSz d)), .int (iI (gT d)), .int (iI (gTB d)), .int (iI (gTA d)), .int (iI (gCA d))])), (hB, .inr (0, [.ref aB])), (aB, .inl (cA 1, 2048, .inl (fun y_ => bI (d y_))))]) [5, 6, 7, 8, 9, 0, 1, 2, 3, 4] rfl rfl
                    refine k_bz_ne (tgt := 95) C0 dX6_take_90 (by decide) (fun c90 => ?_) (fun c90 => ?_)
                    · refine lv_iload C0.1 C0.2.1 dX6_take_95 (lv_at hl 0 rfl) ?_
                      refine lv_iconst (v := iI (1)) C0.1 C0.2.1 dX6_take_97 rfl ?_
                      refine k_iadd C0 dX6_take_98 ?_
                      refine lv_istore_n (lv' := [(3, .int (iI (x + 1))), (4, .int (iI (x))), (0, .ref hS), (1, .ref hC), (2, .int (iI (len)))]) C0.1 C0.2.1 dX6_take_99 rfl hl (by decide) rfl (fun ls hl => ?_)
                      refine lv_iinc (v := iI (x + 1)) (lv' := [(4, .int (iI (x + 1))), (3, .int (iI (x + 1))), (0, .ref hS), (1, .ref hC), (2, .int (iI (len)))]) C0.1 C0.2.1 dX6_take_100 hl (k := 1) rfl (iI_add _ _) (by decide) rfl (fun ls hl => ?_)
                      refine lv_goto (tgt := 59) C0.1 C0.2.1 dX6_take_103 (by decide) ?_
                      have hq : stg (ctn d first) len = stF (ctn d first) len (len + 1 - (x + 1)).toNat (x + 1) (x + 1) (lnS (ctn d first) fr x S0) := by rw [hi59_2]; rw [show (len + 1 - x).toNat = (len + 1 - (x + 1)).toNat + 1 by omega]; exact stF_line (show x = len ∨ rd (ctn d first) x = 10 from Or.inr c80) c90
                      have hv2 := hln S0 hi59_3 c90
                      have hsb := SB_ln hi59_4 (by omega) (by omega) c90
                      exact ih59 (x + 1) (x + 1) (lnS (ctn d first) fr x S0) (w10) (w11) (w12) (w13) (w14) (w15) (w16) (w17) (w18) ⟨by omega, by omega⟩ ⟨by omega, by omega⟩ hq hv2 hsb hi59_5 hi59_6 (by omega) _ _ S _ (lv_sub hl [0, 1, 2, 3, 4] rfl)
                    · refine lv_iconst (v := iI (0)) C0.1 C0.2.1 dX6_take_93 rfl ?_
                      subst hQ
                      refine k_zret C0 S hAe hsz hr hlk (by rfl) dX6_take_94 ?_
                      have hq : stg (ctn d first) len = none := by rw [hi59_2]; rw [show (len + 1 - x).toNat = (len + 1 - (x + 1)).toNat + 1 by omega]; exact stF_bad (Or.inr c80) c90
                      exact ⟨_, _, _, _, _, _, _, _, _, _, congrArg iI (bz_f (fun h => h hq)).symm, rfl, (fun S h => by rw [hq] at h; cases h), hi59_6⟩
          exact L59 (len.toNat + 2) (0) (0) ((0, -1, 0, -1, 0, -1)) (0) (0) (0) (0) (0) (0) (0) (0) (0) ⟨by omega, by omega⟩ ⟨by omega, by omega⟩ (by rw [stg_short (by omega)]; congr 1; omega) ⟨Or.inr ⟨rfl, rfl, rfl, rfl⟩, Or.inr ⟨rfl, rfl, rfl, rfl⟩, Or.inr ⟨rfl, rfl, rfl, rfl⟩⟩ ⟨Or.inl rfl, Or.inl rfl, Or.inl rfl⟩ (fun j hj => hi32_1 j (by omega)) hi32_2 (by omega) _ _ S _ (lv_sub hl [0, 1, 2, 3, 4] rfl)
        · refine lv_aload_n C0.1 C0.2.1 dX6_take_37 rfl (lv_at hl 1 rfl) ?_
          refine k_get C0 S (C := RX6) (T := TX6) (N := 4) (ci := 6) (by decide +kernel) 0 rfl rfl 0 (by decide) (by decide +kernel) (v := .ref aT) rfl dX6_take_38 ?_
          refine lv_iload_n C0.1 C0.2.1 dX6_take_41 rfl (lv_at hl 0 rfl) ?_
          have hlc := (hT (by omega)).2
          refine lv_aload_n C0.1 C0.2.1 dX6_take_42 rfl (lv_at hl 2 rfl) ?_
          refine lv_iload_n C0.1 C0.2.1 dX6_take_43 rfl (lv_at hl 0 rfl) ?_
          refine k_calli (n := 1) (wr := [(hS, .inr (6, [.ref aT, .ref hK, .ref hO, .ref hA])), (aT, .inl (cA 0, 200, .inl (fun y_ => iI (tx2 y_)))), (hK, .inr (7, [.int (iI (0)), .int (iI (0)), .int (iI (0))])), (hO, .inr (7, [.int (iI (0)), .int (iI (0)), .int (iI (0))])), (hA, .inr (7, [.int (iI (0)), .int (iI (0)), .int (iI (0))]))]) C0 S (c_X2_byteAt l D cA hC aC hV hB aB d (cnt) (v2) pl (first) ((i : Int)) hd hB2 (hT (by omega)).1 (by omega) (by omega)) gX6_take_X2_byteAt rfl ⟨rfl, rfl⟩ (by decide +kernel) ⟨Nat.le_of_ble_eq_true rfl, Nat.le_of_ble_eq_true rfl⟩ [5, 6, 7, 8, 9] [0, 1, 2, 3, 4] rfl rfl rfl rfl (by decide) (ci := 2) (q0 := 0) rfl rfl (As := [.int (iI ((i : Int)))]) rfl hl.1 rfl (Nat.le_of_ble_eq_true rfl) dX6_take_44 ⟨Nat.zero_le _, Nat.zero_le _⟩ (fun r u H locs hp S => ?_)
          obtain ⟨rfl, rfl⟩ := hp
          have S := S.sub (ws' := [(hS, .inr (6, [.ref aT, .ref hK, .ref hO, .ref hA])), (aT, .inl (cA 0, 200, .inl (fun y_ => iI (tx2 y_)))), (hK, .inr (7, [.int (iI (0)), .int (iI (0)), .int (iI (0))])), (hO, .inr (7, [.int (iI (0)), .int (iI (0)), .int (iI (0))])), (hA, .inr (7, [.int (iI (0)), .int (iI (0)), .int (iI (0))])), (hC, .inr (2, [.ref hB, .ref hV, .ref aC, .int (iI (cnt)), .int (iI (v2))])), (aC, .inl (cA 0, 64, .inl (fun y_ => iI (pl y_)))), (hV, .inr (8, [.ref hB, .int (iI (chs d)), .int (iI (gRoot d)), .int (iI (gN d)), .int (iI (gSz d)), .int (iI (gT d)), .int (iI (gTB d)), .int (iI (gTA d)), .int (iI (gCA d))])), (hB, .inr (0, [.ref aB])), (aB, .inl (cA 1, 2048, .inl (fun y_ => bI (d y_))))]) [0, 1, 2, 3, 4, 5, 6, 7, 8, 9] rfl rfl
          have hb19 := By.rd hd (plc d (first) ((i : Int)))
          refine k_iast (ws' := [(hS, .inr (6, [.ref aT, .ref hK, .ref hO, .ref hA])), (aT, .inl (cA 0, 200, .inl (fun y_ => iI ((va_up tx2 ((i : Int)).toNat (rd d (plc d (first) ((i : Int))))) y_)))), (hK, .inr (7, [.int (iI (0)), .int (iI (0)), .int (iI (0))])), (hO, .inr (7, [.int (iI (0)), .int (iI (0)), .int (iI (0))])), (hA, .inr (7, [.int (iI (0)), .int (iI (0)), .int (iI (0))])), (hC, .inr (2, [.ref hB, .ref hV, .ref aC, .int (iI (cnt)), .int (iI (v2))])), (aC, .inl (cA 0, 64, .inl (fun y_ => iI (pl y_)))), (hV, .inr (8, [.ref hB, .int (iI (chs d)), .int (iI (gRoot d)), .int (iI (gN d)), .int (iI (gSz d)), .int (iI (gT d)), .int (iI (gTB d)), .int (iI (gTA d)), .int (iI (gCA d))])), (hB, .inr (0, [.ref aB])), (aB, .inl (cA 1, 2048, .inl (fun y_ => bI (d y_))))]) C0 S 1 0 rfl rfl (z := (i : Int)) (by omega) (by omega) (by omega) dX6_take_47 rfl (fun H locs S => ?_)
          refine lv_iinc (v := iI ((i : Int) + 1)) (lv' := [(3, .int (iI ((i : Int) + 1))), (0, .ref hS), (1, .ref hC), (2, .int (iI (len)))]) C0.1 C0.2.1 dX6_take_48 hl (k := 0) rfl (iI_add _ _) (by decide) rfl (fun ls hl => ?_)
          refine lv_goto (tgt := 32) C0.1 C0.2.1 dX6_take_51 (by decide) ?_
          exact ih32 (i + 1) (va_up tx2 (i : Int).toNat (rd d (plc d first (i : Int)))) (by omega) (fun j hj => by unfold va_up; split; (rename_i e; rw [show j = i by omega]; rfl); (rename_i e; exact hi32_1 j (by omega))) (By_up hi32_2 (hd.rd _).1 (hd.rd _).2) (by omega) _ _ S _ (lv_sub hl [0, 1, 2, 3] rfl)
    exact L32 (len.toNat + 1) (0) (tx) (by omega) (fun j h => absurd h (Nat.not_lt_zero _)) htx (by omega) _ _ S _ (lv_sub hl [0, 1, 2, 3] rfl)
  · refine lv_iconst (v := iI (0)) C0.1 C0.2.1 dX6_take_7 rfl ?_
    subst hQ
    refine k_zret C0 S hAe hsz hr hlk (by rfl) dX6_take_8 ?_
    have hq : stg (ctn d first) len = none := stg_long (by omega)
    exact ⟨_, _, _, _, _, _, _, _, _, _, congrArg iI (bz_f (fun h => h hq)).symm, rfl, (fun S h => by rw [hq] at h; cases h), htx⟩
