def rmX7_forget : Room := { frames := 0, cells := 0, slots := 0, locals := 0 }
set_option maxHeartbeats 4000000 in
set_option maxRecDepth 100000 in
theorem c_X7_forget (l : Launch) (D : va_G) (cA : Nat → ClassId) (h : Nat) (g f t : Int)  : kCv l D vwCl (kTys cA) yX7_forget wsX7_forget rmX7_forget [.ref h] [(h, .inr (7, [.int (iI (g)), .int (iI (f)), .int (iI (t))]))] (fun u => u = [(h, .inr (7, [.int (iI (0)), .int (iI (0)), .int (iI (0))]))]) := by
  intro sz
  refine kEntry (cc := cX7_forget) (maxL := 1) (ret := none) (by decide) rfl (Nat.le_of_ble_eq_true rfl) ?_
  intro p e s m args below meth c A Q hAe hQ C0 hr hlk S hsz ls hl
  have hl : lv_has ls 1 [(0, .ref h)] := hl
  refine lv_aload_n C0.1 C0.2.1 dX7_forget_0 rfl (lv_at hl 0 rfl) ?_
  refine lv_iconst (v := iI (0)) C0.1 C0.2.1 dX7_forget_1 rfl ?_
  refine k_put (ws' := [(h, .inr (7, [.int (iI (0)), .int (iI (f)), .int (iI (t))]))]) C0 S (C := RX7) (T := TX7) (N := 3) (ci := 7) (by decide +kernel) tyX7 tyX7_ok nmX7 0 rfl rfl 0 (by decide) (by decide +kernel) rfl (v := .int (iI (0))) rfl rfl (Nat.le_of_ble_eq_true rfl) dX7_forget_2 rfl (fun H locs S => ?_)
  refine lv_aload_n C0.1 C0.2.1 dX7_forget_5 rfl (lv_at hl 0 rfl) ?_
  refine lv_iconst (v := iI (0)) C0.1 C0.2.1 dX7_forget_6 rfl ?_
  refine k_put (ws' := [(h, .inr (7, [.int (iI (0)), .int (iI (0)), .int (iI (t))]))]) C0 S (C := RX7) (T := TX7) (N := 3) (ci := 7) (by decide +kernel) tyX7 tyX7_ok nmX7 0 rfl rfl 1 (by decide) (by decide +kernel) rfl (v := .int (iI (0))) rfl rfl (Nat.le_of_ble_eq_true rfl) dX7_forget_7 rfl (fun H locs S => ?_)
  refine lv_aload_n C0.1 C0.2.1 dX7_forget_10 rfl (lv_at hl 0 rfl) ?_
  refine lv_iconst (v := iI (0)) C0.1 C0.2.1 dX7_forget_11 rfl ?_
  refine k_put (ws' := [(h, .inr (7, [.int (iI (0)), .int (iI (0)), .int (iI (0))]))]) C0 S (C := RX7) (T := TX7) (N := 3) (ci := 7) (by decide +kernel) tyX7 tyX7_ok nmX7 0 rfl rfl 2 (by decide) (by decide +kernel) rfl (v := .int (iI (0))) rfl rfl (Nat.le_of_ble_eq_true rfl) dX7_forget_12 rfl (fun H locs S => ?_)
  subst hQ
  refine k_vret C0 S hAe hsz hr hlk dX7_forget_15 ?_
  exact rfl
def rmX7_set : Room := { frames := 0, cells := 0, slots := 0, locals := 0 }
set_option maxHeartbeats 4000000 in
set_option maxRecDepth 100000 in
theorem c_X7_set (l : Launch) (D : va_G) (cA : Nat → ClassId) (h : Nat) (g f t x y : Int)  : kCv l D vwCl (kTys cA) yX7_set wsX7_set rmX7_set [.ref h, .int (iI (x)), .int (iI (y))] [(h, .inr (7, [.int (iI (g)), .int (iI (f)), .int (iI (t))]))] (fun u => u = [(h, .inr (7, [.int (iI (1)), .int (iI (x)), .int (iI (y))]))]) := by
  intro sz
  refine kEntry (cc := cX7_set) (maxL := 3) (ret := none) (by decide) rfl (Nat.le_of_ble_eq_true rfl) ?_
  intro p e s m args below meth c A Q hAe hQ C0 hr hlk S hsz ls hl
  have hl : lv_has ls 3 [(0, .ref h), (1, .int (iI (x))), (2, .int (iI (y)))] := hl
  refine lv_aload_n C0.1 C0.2.1 dX7_set_0 rfl (lv_at hl 0 rfl) ?_
  refine lv_iconst (v := iI (1)) C0.1 C0.2.1 dX7_set_1 rfl ?_
  refine k_put (ws' := [(h, .inr (7, [.int (iI (1)), .int (iI (f)), .int (iI (t))]))]) C0 S (C := RX7) (T := TX7) (N := 3) (ci := 7) (by decide +kernel) tyX7 tyX7_ok nmX7 0 rfl rfl 0 (by decide) (by decide +kernel) rfl (v := .int (iI (1))) rfl rfl (Nat.le_of_ble_eq_true rfl) dX7_set_2 rfl (fun H locs S => ?_)
  refine lv_aload_n C0.1 C0.2.1 dX7_set_5 rfl (lv_at hl 0 rfl) ?_
  refine lv_iload_n C0.1 C0.2.1 dX7_set_6 rfl (lv_at hl 1 rfl) ?_
  refine k_put (ws' := [(h, .inr (7, [.int (iI (1)), .int (iI (x)), .int (iI (t))]))]) C0 S (C := RX7) (T := TX7) (N := 3) (ci := 7) (by decide +kernel) tyX7 tyX7_ok nmX7 0 rfl rfl 1 (by decide) (by decide +kernel) rfl (v := .int (iI (x))) rfl rfl (Nat.le_of_ble_eq_true rfl) dX7_set_7 rfl (fun H locs S => ?_)
  refine lv_aload_n C0.1 C0.2.1 dX7_set_10 rfl (lv_at hl 0 rfl) ?_
  refine lv_iload_n C0.1 C0.2.1 dX7_set_11 rfl (lv_at hl 2 rfl) ?_
  refine k_put (ws' := [(h, .inr (7, [.int (iI (1)), .int (iI (x)), .int (iI (y))]))]) C0 S (C := RX7) (T := TX7) (N := 3) (ci := 7) (by decide +kernel) tyX7 tyX7_ok nmX7 0 rfl rfl 2 (by decide) (by decide +kernel) rfl (v := .int (iI (y))) rfl rfl (Nat.le_of_ble_eq_true rfl) dX7_set_12 rfl (fun H locs S => ?_)
  subst hQ
  refine k_vret C0 S hAe hsz hr hlk dX7_set_15 ?_
  exact rfl
def rmX6_takeLine : Room := { frames := 1, cells := 0, slots := 0, locals := 22 }
set_option maxHeartbeats 4000000 in
set_option maxRecDepth 100000 in
theorem c_X6_takeLine (l : Launch) (D : va_G) (cA : Nat → ClassId) (hS aT hK hO hA : Nat) (k1 k2 k3 o1 o2 o3 a1 a2 a3 : Int) (tx g : Nat → Int) (fr to : Int) (hg : By g) (hg2 : ∀ j : Nat, (j : Int) < to → tx j = g j) (hf0 : 0 ≤ fr) (hf1 : fr ≤ 201) (ht0 : 0 ≤ to) (ht1 : to ≤ 200) : kCi l D vwCl (kTys cA) yX6_takeLine wsX6_takeLine rmX6_takeLine [.ref hS, .int (iI (fr)), .int (iI (to))] [(hS, .inr (6, [.ref aT, .ref hK, .ref hO, .ref hA])), (aT, .inl (cA 0, 200, .inl (fun y_ => iI (tx y_)))), (hK, .inr (7, [.int (iI (k1)), .int (iI (k2)), .int (iI (k3))])), (hO, .inr (7, [.int (iI (o1)), .int (iI (o2)), .int (iI (o3))])), (hA, .inr (7, [.int (iI (a1)), .int (iI (a2)), .int (iI (a3))]))] (fun r u => ∃ w1 w2 w3 w4 w5 w6 w7 w8 w9 : Int, r = iI (bz (lnOk g fr to)) ∧ u = [(hS, .inr (6, [.ref aT, .ref hK, .ref hO, .ref hA])), (aT, .inl (cA 0, 200, .inl (fun y_ => iI (tx y_)))), (hK, .inr (7, [.int (iI (w1)), .int (iI (w2)), .int (iI (w3))])), (hO, .inr (7, [.int (iI (w4)), .int (iI (w5)), .int (iI (w6))])), (hA, .inr (7, [.int (iI (w7)), .int (iI (w8)), .int (iI (w9))]))] ∧ ∀ S : SS, (VR k1 k2 k3 S.1 S.2.1 ∧ VR o1 o2 o3 S.2.2.1 S.2.2.2.1 ∧ VR a1 a2 a3 S.2.2.2.2.1 S.2.2.2.2.2) → lnOk g fr to → (VR w1 w2 w3 (lnS g fr to S).1 (lnS g fr to S).2.1 ∧ VR w4 w5 w6 (lnS g fr to S).2.2.1 (lnS g fr to S).2.2.2.1 ∧ VR w7 w8 w9 (lnS g fr to S).2.2.2.2.1 (lnS g fr to S).2.2.2.2.2)) := by
  intro sz
  refine kEntry (cc := cX6_takeLine) (maxL := 3) (ret := (some .boolean)) (by decide) rfl (Nat.le_of_ble_eq_true rfl) ?_
  intro p e s m args below meth c A Q hAe hQ C0 hr hlk S hsz ls hl
  have hl : lv_has ls 3 [(0, .ref hS), (1, .int (iI (fr))), (2, .int (iI (to)))] := hl
  have q0 := hg.rd fr
  have q1 := hg.rd (fr + 1)
  refine lv_iload_n C0.1 C0.2.1 dX6_takeLine_0 rfl (lv_at hl 1 rfl) ?_
  refine lv_iload_n C0.1 C0.2.1 dX6_takeLine_1 rfl (lv_at hl 2 rfl) ?_
  refine k_icmp_ge (tgt := 16) C0 (by constructor <;> omega) (by constructor <;> omega) dX6_takeLine_2 (by decide) (fun c1 => ?_) (fun c1 => ?_)
  · refine lv_iconst (v := iI (1)) C0.1 C0.2.1 dX6_takeLine_16 rfl ?_
    subst hQ
    refine k_zret C0 S hAe hsz hr hlk (by rfl) dX6_takeLine_17 ?_
    refine ⟨_, _, _, _, _, _, _, _, _, congrArg iI (bz_t (by unfold lnOk; omega)).symm, rfl, fun S hS hk => ?_⟩
    rw [lnS_no (by omega)]; exact hS
  · refine lv_aload_n C0.1 C0.2.1 dX6_takeLine_5 rfl (lv_at hl 0 rfl) ?_
    refine k_get C0 S (C := RX6) (T := TX6) (N := 4) (ci := 6) (by decide +kernel) 0 rfl rfl 0 (by decide) (by decide +kernel) (v := .ref aT) rfl dX6_takeLine_6 ?_
    refine lv_iload_n C0.1 C0.2.1 dX6_takeLine_9 rfl (lv_at hl 1 rfl) ?_
    refine k_iald C0 S 1 0 rfl rfl (z := fr) (by omega) (by omega) (by omega) dX6_takeLine_10 ?_
    refine k_topeq (v := iI (rd g fr)) (congrArg iI (hg2 _ (by omega))) ?_
    refine lv_bipush (v := iI (35)) C0.1 C0.2.1 dX6_takeLine_11 (by decide) ?_
    refine k_icmp_ne (tgt := 18) C0 (by constructor <;> omega) ⟨by decide, by decide⟩ dX6_takeLine_13 (by decide) (fun c2 => ?_) (fun c2 => ?_)
    · refine lv_iload_n C0.1 C0.2.1 dX6_takeLine_18 rfl (lv_at hl 2 rfl) ?_
      refine lv_iload_n C0.1 C0.2.1 dX6_takeLine_19 rfl (lv_at hl 1 rfl) ?_
      refine k_isub C0 dX6_takeLine_20 ?_
      refine lv_iconst (v := iI (2)) C0.1 C0.2.1 dX6_takeLine_21 rfl ?_
      refine k_icmp_lt (tgt := 38) C0 (by constructor <;> omega) ⟨by decide, by decide⟩ dX6_takeLine_22 (by decide) (fun c3 => ?_) (fun c3 => ?_)
      · refine lv_iconst (v := iI (0)) C0.1 C0.2.1 dX6_takeLine_38 rfl ?_
        subst hQ
        refine k_zret C0 S hAe hsz hr hlk (by rfl) dX6_takeLine_39 ?_
        exact ⟨_, _, _, _, _, _, _, _, _, congrArg iI (bz_f (by unfold lnOk; omega)).symm, rfl, fun S hS hk => absurd hk (by unfold lnOk; omega)⟩
      · refine lv_aload_n C0.1 C0.2.1 dX6_takeLine_25 rfl (lv_at hl 0 rfl) ?_
        refine k_get C0 S (C := RX6) (T := TX6) (N := 4) (ci := 6) (by decide +kernel) 0 rfl rfl 0 (by decide) (by decide +kernel) (v := .ref aT) rfl dX6_takeLine_26 ?_
        refine lv_iload_n C0.1 C0.2.1 dX6_takeLine_29 rfl (lv_at hl 1 rfl) ?_
        refine lv_iconst (v := iI (1)) C0.1 C0.2.1 dX6_takeLine_30 rfl ?_
        refine k_iadd C0 dX6_takeLine_31 ?_
        refine k_iald C0 S 1 0 rfl rfl (z := fr + 1) (by omega) (by omega) (by omega) dX6_takeLine_32 ?_
        refine k_topeq (v := iI (rd g (fr + 1))) (congrArg iI (hg2 _ (by omega))) ?_
        refine lv_bipush (v := iI (61)) C0.1 C0.2.1 dX6_takeLine_33 (by decide) ?_
        refine k_icmp_eq (tgt := 40) C0 (by constructor <;> omega) ⟨by decide, by decide⟩ dX6_takeLine_35 (by decide) (fun c4 => ?_) (fun c4 => ?_)
        · refine lv_aload_n C0.1 C0.2.1 dX6_takeLine_40 rfl (lv_at hl 0 rfl) ?_
          refine k_get C0 S (C := RX6) (T := TX6) (N := 4) (ci := 6) (by decide +kernel) 0 rfl rfl 0 (by decide) (by decide +kernel) (v := .ref aT) rfl dX6_takeLine_41 ?_
          refine lv_iload_n C0.1 C0.2.1 dX6_takeLine_44 rfl (lv_at hl 1 rfl) ?_
          refine k_iald C0 S 1 0 rfl rfl (z := fr) (by omega) (by omega) (by omega) dX6_takeLine_45 ?_
          refine k_topeq (v := iI (rd g fr)) (congrArg iI (hg2 _ (by omega))) ?_
          rcases (show rd g fr = 65 ∨ rd g fr = 70 ∨ rd g fr = 75 ∨ (¬ rd g fr = 65 ∧ ¬ rd g fr = 70 ∧ ¬ rd g fr = 75) by omega) with c5 | c5 | c5 | c5
          · refine lv_lookup (off := 60) (tgt := 106) C0.1 C0.2.1 dX6_takeLine_46 (by decide) (by rw [iI_toInt (by constructor <;> omega), c5]; rfl) (by decide) ?_
            refine lv_aload_n C0.1 C0.2.1 dX6_takeLine_106 rfl (lv_at hl 0 rfl) ?_
            refine k_get C0 S (C := RX6) (T := TX6) (N := 4) (ci := 6) (by decide +kernel) 0 rfl rfl 3 (by decide) (by decide +kernel) (v := .ref hA) rfl dX6_takeLine_107 ?_
            refine lv_iload_n C0.1 C0.2.1 dX6_takeLine_110 rfl (lv_at hl 1 rfl) ?_
            refine lv_iconst (v := iI (2)) C0.1 C0.2.1 dX6_takeLine_111 rfl ?_
            refine k_iadd C0 dX6_takeLine_112 ?_
            refine lv_iload_n C0.1 C0.2.1 dX6_takeLine_113 rfl (lv_at hl 2 rfl) ?_
            refine k_callv (n := 2) (wr := [(hS, .inr (6, [.ref aT, .ref hK, .ref hO, .ref hA])), (aT, .inl (cA 0, 200, .inl (fun y_ => iI (tx y_)))), (hK, .inr (7, [.int (iI (k1)), .int (iI (k2)), .int (iI (k3))])), (hO, .inr (7, [.int (iI (o1)), .int (iI (o2)), .int (iI (o3))]))]) C0 S (c_X7_set l D cA hA (a1) (a2) (a3) (fr + 2) (to)) gX6_takeLine_X7_set rfl ⟨rfl, rfl⟩ (by decide +kernel) ⟨Nat.le_of_ble_eq_true rfl, Nat.le_of_ble_eq_true rfl⟩ [4] [0, 1, 2, 3] rfl rfl rfl rfl (by decide) (ci := 7) (q0 := 0) rfl rfl (As := [.int (iI (fr + 2)), .int (iI (to))]) rfl hl.1 rfl (Nat.le_of_ble_eq_true rfl) dX6_takeLine_114 ⟨Nat.zero_le _, Nat.zero_le _⟩ (fun u H locs hp S => ?_)
            obtain rfl := hp
            have S := S.sub (ws' := [(hS, .inr (6, [.ref aT, .ref hK, .ref hO, .ref hA])), (aT, .inl (cA 0, 200, .inl (fun y_ => iI (tx y_)))), (hK, .inr (7, [.int (iI (k1)), .int (iI (k2)), .int (iI (k3))])), (hO, .inr (7, [.int (iI (o1)), .int (iI (o2)), .int (iI (o3))])), (hA, .inr (7, [.int (iI (1)), .int (iI (fr + 2)), .int (iI (to))]))]) [0, 1, 2, 3, 4] rfl rfl
            refine lv_iload_n C0.1 C0.2.1 dX6_takeLine_117 rfl (lv_at hl 2 rfl) ?_
            refine lv_iload_n C0.1 C0.2.1 dX6_takeLine_118 rfl (lv_at hl 1 rfl) ?_
            refine k_isub C0 dX6_takeLine_119 ?_
            refine lv_iconst (v := iI (2)) C0.1 C0.2.1 dX6_takeLine_120 rfl ?_
            refine k_isub C0 dX6_takeLine_121 ?_
            refine lv_bipush (v := iI (24)) C0.1 C0.2.1 dX6_takeLine_122 (by decide) ?_
            refine k_icmp_gt (tgt := 131) C0 (by constructor <;> omega) ⟨by decide, by decide⟩ dX6_takeLine_124 (by decide) (fun c6 => ?_) (fun c6 => ?_)
            · refine lv_iconst (v := iI (0)) C0.1 C0.2.1 dX6_takeLine_131 rfl ?_
              subst hQ
              refine k_zret C0 S hAe hsz hr hlk (by rfl) dX6_takeLine_132 ?_
              exact ⟨_, _, _, _, _, _, _, _, _, congrArg iI (bz_f (by unfold lnOk; omega)).symm, rfl, fun S hS hk => absurd hk (by unfold lnOk; omega)⟩
            · refine lv_iconst (v := iI (1)) C0.1 C0.2.1 dX6_takeLine_127 rfl ?_
              refine lv_goto (tgt := 132) C0.1 C0.2.1 dX6_takeLine_128 (by decide) ?_
              subst hQ
              refine k_zret C0 S hAe hsz hr hlk (by rfl) dX6_takeLine_132 ?_
              refine ⟨_, _, _, _, _, _, _, _, _, congrArg iI (bz_t (by unfold lnOk; omega)).symm, rfl, fun S hS hk => ?_⟩
              obtain ⟨x1, x2, x3⟩ := hS
              rw [lnS_A (by omega) (by omega)]
              exact ⟨x1, x2, Or.inl ⟨rfl, by dsimp only; omega, rfl, by dsimp only; omega⟩⟩
          · refine lv_lookup (off := 47) (tgt := 93) C0.1 C0.2.1 dX6_takeLine_46 (by decide) (by rw [iI_toInt (by constructor <;> omega), c5]; rfl) (by decide) ?_
            refine lv_aload_n C0.1 C0.2.1 dX6_takeLine_93 rfl (lv_at hl 0 rfl) ?_
            refine k_get C0 S (C := RX6) (T := TX6) (N := 4) (ci := 6) (by decide +kernel) 0 rfl rfl 2 (by decide) (by decide +kernel) (v := .ref hO) rfl dX6_takeLine_94 ?_
            refine lv_iload_n C0.1 C0.2.1 dX6_takeLine_97 rfl (lv_at hl 1 rfl) ?_
            refine lv_iconst (v := iI (2)) C0.1 C0.2.1 dX6_takeLine_98 rfl ?_
            refine k_iadd C0 dX6_takeLine_99 ?_
            refine lv_iload_n C0.1 C0.2.1 dX6_takeLine_100 rfl (lv_at hl 2 rfl) ?_
            refine k_callv (n := 2) (wr := [(hS, .inr (6, [.ref aT, .ref hK, .ref hO, .ref hA])), (aT, .inl (cA 0, 200, .inl (fun y_ => iI (tx y_)))), (hK, .inr (7, [.int (iI (k1)), .int (iI (k2)), .int (iI (k3))])), (hA, .inr (7, [.int (iI (a1)), .int (iI (a2)), .int (iI (a3))]))]) C0 S (c_X7_set l D cA hO (o1) (o2) (o3) (fr + 2) (to)) gX6_takeLine_X7_set rfl ⟨rfl, rfl⟩ (by decide +kernel) ⟨Nat.le_of_ble_eq_true rfl, Nat.le_of_ble_eq_true rfl⟩ [3] [0, 1, 2, 4] rfl rfl rfl rfl (by decide) (ci := 7) (q0 := 0) rfl rfl (As := [.int (iI (fr + 2)), .int (iI (to))]) rfl hl.1 rfl (Nat.le_of_ble_eq_true rfl) dX6_takeLine_101 ⟨Nat.zero_le _, Nat.zero_le _⟩ (fun u H locs hp S => ?_)
            obtain rfl := hp
            have S := S.sub (ws' := [(hS, .inr (6, [.ref aT, .ref hK, .ref hO, .ref hA])), (aT, .inl (cA 0, 200, .inl (fun y_ => iI (tx y_)))), (hK, .inr (7, [.int (iI (k1)), .int (iI (k2)), .int (iI (k3))])), (hO, .inr (7, [.int (iI (1)), .int (iI (fr + 2)), .int (iI (to))])), (hA, .inr (7, [.int (iI (a1)), .int (iI (a2)), .int (iI (a3))]))]) [0, 1, 2, 4, 3] rfl rfl
            refine lv_iconst (v := iI (1)) C0.1 C0.2.1 dX6_takeLine_104 rfl ?_
            subst hQ
            refine k_zret C0 S hAe hsz hr hlk (by rfl) dX6_takeLine_105 ?_
            refine ⟨_, _, _, _, _, _, _, _, _, congrArg iI (bz_t (by unfold lnOk; omega)).symm, rfl, fun S hS hk => ?_⟩
            obtain ⟨x1, x2, x3⟩ := hS
            rw [lnS_F (by omega) (by omega)]
            exact ⟨x1, Or.inl ⟨rfl, by dsimp only; omega, rfl, by dsimp only; omega⟩, x3⟩
          · refine lv_lookup (off := 34) (tgt := 80) C0.1 C0.2.1 dX6_takeLine_46 (by decide) (by rw [iI_toInt (by constructor <;> omega), c5]; rfl) (by decide) ?_
            refine lv_aload_n C0.1 C0.2.1 dX6_takeLine_80 rfl (lv_at hl 0 rfl) ?_
            refine k_get C0 S (C := RX6) (T := TX6) (N := 4) (ci := 6) (by decide +kernel) 0 rfl rfl 1 (by decide) (by decide +kernel) (v := .ref hK) rfl dX6_takeLine_81 ?_
            refine lv_iload_n C0.1 C0.2.1 dX6_takeLine_84 rfl (lv_at hl 1 rfl) ?_
            refine lv_iconst (v := iI (2)) C0.1 C0.2.1 dX6_takeLine_85 rfl ?_
            refine k_iadd C0 dX6_takeLine_86 ?_
            refine lv_iload_n C0.1 C0.2.1 dX6_takeLine_87 rfl (lv_at hl 2 rfl) ?_
            refine k_callv (n := 2) (wr := [(hS, .inr (6, [.ref aT, .ref hK, .ref hO, .ref hA])), (aT, .inl (cA 0, 200, .inl (fun y_ => iI (tx y_)))), (hO, .inr (7, [.int (iI (o1)), .int (iI (o2)), .int (iI (o3))])), (hA, .inr (7, [.int (iI (a1)), .int (iI (a2)), .int (iI (a3))]))]) C0 S (c_X7_set l D cA hK (k1) (k2) (k3) (fr + 2) (to)) gX6_takeLine_X7_set rfl ⟨rfl, rfl⟩ (by decide +kernel) ⟨Nat.le_of_ble_eq_true rfl, Nat.le_of_ble_eq_true rfl⟩ [2] [0, 1, 3, 4] rfl rfl rfl rfl (by decide) (ci := 7) (q0 := 0) rfl rfl (As := [.int (iI (fr + 2)), .int (iI (to))]) rfl hl.1 rfl (Nat.le_of_ble_eq_true rfl) dX6_takeLine_88 ⟨Nat.zero_le _, Nat.zero_le _⟩ (fun u H locs hp S => ?_)
            obtain rfl := hp
            have S := S.sub (ws' := [(hS, .inr (6, [.ref aT, .ref hK, .ref hO, .ref hA])), (aT, .inl (cA 0, 200, .inl (fun y_ => iI (tx y_)))), (hK, .inr (7, [.int (iI (1)), .int (iI (fr + 2)), .int (iI (to))])), (hO, .inr (7, [.int (iI (o1)), .int (iI (o2)), .int (iI (o3))])), (hA, .inr (7, [.int (iI (a1)), .int (iI (a2)), .int (iI (a3))]))]) [0, 1, 4, 2, 3] rfl rfl
            refine lv_iconst (v := iI (1)) C0.1 C0.2.1 dX6_takeLine_91 rfl ?_
            subst hQ
            refine k_zret C0 S hAe hsz hr hlk (by rfl) dX6_takeLine_92 ?_
            refine ⟨_, _, _, _, _, _, _, _, _, congrArg iI (bz_t (by unfold lnOk; omega)).symm, rfl, fun S hS hk => ?_⟩
            obtain ⟨x1, x2, x3⟩ := hS
            rw [lnS_K (by omega) (by omega)]
            exact ⟨Or.inl ⟨rfl, by dsimp only; omega, rfl, by dsimp only; omega⟩, x2, x3⟩
          · refine lv_lookup (off := 87) (tgt := 133) C0.1 C0.2.1 dX6_takeLine_46 (by decide) (by rw [iI_toInt (by constructor <;> omega)]; show Op.lookupswitch.offset [(65, 60), (70, 47), (75, 34)] 87 (rd g fr) = 87; rw [Op.lookupswitch.offset_cons, if_neg (by omega)]; rw [Op.lookupswitch.offset_cons, if_neg (by omega)]; rw [Op.lookupswitch.offset_cons, if_neg (by omega)]; rfl) (by decide) ?_
            refine lv_iconst (v := iI (1)) C0.1 C0.2.1 dX6_takeLine_133 rfl ?_
            subst hQ
            refine k_zret C0 S hAe hsz hr hlk (by rfl) dX6_takeLine_134 ?_
            refine ⟨_, _, _, _, _, _, _, _, _, congrArg iI (bz_t (by unfold lnOk; omega)).symm, rfl, fun S hS hk => ?_⟩
            rw [lnS_other (by omega) (by omega) (by omega)]; exact hS
        · refine lv_iconst (v := iI (0)) C0.1 C0.2.1 dX6_takeLine_38 rfl ?_
          subst hQ
          refine k_zret C0 S hAe hsz hr hlk (by rfl) dX6_takeLine_39 ?_
          exact ⟨_, _, _, _, _, _, _, _, _, congrArg iI (bz_f (by unfold lnOk; omega)).symm, rfl, fun S hS hk => absurd hk (by unfold lnOk; omega)⟩
    · refine lv_iconst (v := iI (1)) C0.1 C0.2.1 dX6_takeLine_16 rfl ?_
      subst hQ
      refine k_zret C0 S hAe hsz hr hlk (by rfl) dX6_takeLine_17 ?_
      refine ⟨_, _, _, _, _, _, _, _, _, congrArg iI (bz_t (by unfold lnOk; omega)).symm, rfl, fun S hS hk => ?_⟩
      rw [lnS_no (by omega)]; exact hS
