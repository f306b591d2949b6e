def rmX10_entry : Room := { frames := 0, cells := 0, slots := 0, locals := 0 }
set_option maxHeartbeats 4000000 in
set_option maxRecDepth 100000 in
theorem c_X10_entry (l : Launch) (D : va_G) (cA : Nat → ClassId) (hM aD aM aX aP aQ aK aO aA a1 a2 a3 : Nat) (st r3 r4 r5 r6 r7 r8 r9 r10 tl pn nc kl ol al : Int) (d : Nat → Int)  : kCi l D vwCl (kTys cA) yX10_entry wsX10_entry rmX10_entry [.ref hM] [(hM, .inr (10, [.ref aD, .ref aM, .int (iI (st)), .int (iI (r3)), .int (iI (r4)), .int (iI (r5)), .int (iI (r6)), .int (iI (r7)), .int (iI (r8)), .int (iI (r9)), .int (iI (r10)), .ref aX, .int (iI (tl)), .ref aP, .int (iI (pn)), .ref aQ, .int (iI (nc)), .ref aK, .ref aO, .ref aA, .int (iI (kl)), .int (iI (ol)), .int (iI (al)), .ref a1, .ref a2, .ref a3]))] (fun r u => r = iI st ∧ u = [(hM, .inr (10, [.ref aD, .ref aM, .int (iI (st)), .int (iI (r3)), .int (iI (r4)), .int (iI (r5)), .int (iI (r6)), .int (iI (r7)), .int (iI (r8)), .int (iI (r9)), .int (iI (r10)), .ref aX, .int (iI (tl)), .ref aP, .int (iI (pn)), .ref aQ, .int (iI (nc)), .ref aK, .ref aO, .ref aA, .int (iI (kl)), .int (iI (ol)), .int (iI (al)), .ref a1, .ref a2, .ref a3]))]) := by
  intro sz
  refine kEntry (cc := cX10_entry) (maxL := 1) (ret := (some .int)) (by decide) rfl (Nat.le_of_ble_eq_true rfl) ?_
  intro p e s m args below meth c A Q hAe hQ C0 hr hlk S hsz ls hl
  have hl : lv_has ls 1 [(0, .ref hM)] := hl
  refine lv_aload_n C0.1 C0.2.1 dX10_entry_0 rfl (lv_at hl 0 rfl) ?_
  refine k_get C0 S (C := RX10) (T := TX10) (N := 26) (ci := 10) (by decide +kernel) 0 rfl rfl 2 (by decide) (by decide +kernel) (v := .int (iI (st))) rfl dX10_entry_1 ?_
  subst hQ
  refine k_iret C0 S hAe hsz hr hlk dX10_entry_4 ?_
  exact ⟨rfl, rfl⟩
def rmX10_memory : Room := { frames := 0, cells := 0, slots := 0, locals := 0 }
set_option maxHeartbeats 4000000 in
set_option maxRecDepth 100000 in
theorem c_X10_memory (l : Launch) (D : va_G) (cA : Nat → ClassId) (hM aD aM aX aP aQ aK aO aA a1 a2 a3 : Nat) (st r3 r4 r5 r6 r7 r8 r9 r10 tl pn nc kl ol al : Int) (d : Nat → Int) (ra : Nat → Int) (z : Int) (hra : By ra) (hz : ir z) : kCi l D vwCl (kTys cA) yX10_memory wsX10_memory rmX10_memory [.ref hM, .int (iI (z))] [(hM, .inr (10, [.ref aD, .ref aM, .int (iI (st)), .int (iI (r3)), .int (iI (r4)), .int (iI (r5)), .int (iI (r6)), .int (iI (r7)), .int (iI (r8)), .int (iI (r9)), .int (iI (r10)), .ref aX, .int (iI (tl)), .ref aP, .int (iI (pn)), .ref aQ, .int (iI (nc)), .ref aK, .ref aO, .ref aA, .int (iI (kl)), .int (iI (ol)), .int (iI (al)), .ref a1, .ref a2, .ref a3])), (aM, .inl (cA 0, 1024, .inl (fun y_ => iI (ra y_))))] (fun r u => r = iI (bAt 1024 ra z) ∧ u = [(hM, .inr (10, [.ref aD, .ref aM, .int (iI (st)), .int (iI (r3)), .int (iI (r4)), .int (iI (r5)), .int (iI (r6)), .int (iI (r7)), .int (iI (r8)), .int (iI (r9)), .int (iI (r10)), .ref aX, .int (iI (tl)), .ref aP, .int (iI (pn)), .ref aQ, .int (iI (nc)), .ref aK, .ref aO, .ref aA, .int (iI (kl)), .int (iI (ol)), .int (iI (al)), .ref a1, .ref a2, .ref a3])), (aM, .inl (cA 0, 1024, .inl (fun y_ => iI (ra y_))))]) := by
  intro sz
  refine kEntry (cc := cX10_memory) (maxL := 2) (ret := (some .int)) (by decide) rfl (Nat.le_of_ble_eq_true rfl) ?_
  intro p e s m args below meth c A Q hAe hQ C0 hr hlk S hsz ls hl
  have hl : lv_has ls 2 [(0, .ref hM), (1, .int (iI (z)))] := hl
  obtain ⟨hz1, hz2⟩ := hz
  refine lv_iload_n C0.1 C0.2.1 dX10_memory_0 rfl (lv_at hl 1 rfl) ?_
  refine k_if_lt (tgt := 11) C0 (by constructor <;> omega) dX10_memory_1 (by decide) (fun c1 => ?_) (fun c1 => ?_)
  · refine lv_iconst (v := iI (-1)) C0.1 C0.2.1 dX10_memory_11 rfl ?_
    refine lv_goto (tgt := 21) C0.1 C0.2.1 dX10_memory_12 (by decide) ?_
    subst hQ
    refine k_iret C0 S hAe hsz hr hlk dX10_memory_21 ?_
    exact ⟨congrArg iI (by unfold bAt; rw [if_neg (by omega)]), rfl⟩
  · refine lv_iload_n C0.1 C0.2.1 dX10_memory_4 rfl (lv_at hl 1 rfl) ?_
    refine lv_sipush (v := iI (1023)) C0.1 C0.2.1 dX10_memory_5 (by decide) ?_
    refine k_icmp_le (tgt := 15) C0 (by constructor <;> omega) ⟨by decide, by decide⟩ dX10_memory_8 (by decide) (fun c2 => ?_) (fun c2 => ?_)
    · refine lv_aload_n C0.1 C0.2.1 dX10_memory_15 rfl (lv_at hl 0 rfl) ?_
      refine k_get C0 S (C := RX10) (T := TX10) (N := 26) (ci := 10) (by decide +kernel) 0 rfl rfl 1 (by decide) (by decide +kernel) (v := .ref aM) rfl dX10_memory_16 ?_
      refine lv_iload_n C0.1 C0.2.1 dX10_memory_19 rfl (lv_at hl 1 rfl) ?_
      refine k_iald C0 S 1 0 rfl rfl (z := z) (by omega) (by omega) (by omega) dX10_memory_20 ?_
      refine k_topeq (v := iI (rd ra (z))) rfl ?_
      have hb3 := By.rd hra (z)
      subst hQ
      refine k_iret C0 S hAe hsz hr hlk dX10_memory_21 ?_
      exact ⟨congrArg iI (by unfold bAt; rw [if_pos ⟨by omega, by omega⟩]), rfl⟩
    · refine lv_iconst (v := iI (-1)) C0.1 C0.2.1 dX10_memory_11 rfl ?_
      refine lv_goto (tgt := 21) C0.1 C0.2.1 dX10_memory_12 (by decide) ?_
      subst hQ
      refine k_iret C0 S hAe hsz hr hlk dX10_memory_21 ?_
      exact ⟨congrArg iI (by unfold bAt; rw [if_neg (by omega)]), rfl⟩
def rmX10_list : Room := { frames := 6, cells := 0, slots := 0, locals := 140 }
set_option maxHeartbeats 4000000 in
set_option maxRecDepth 100000 in
theorem c_X10_list (l : Launch) (D : va_G) (cA : Nat → ClassId) (hM aD aM aX aP aQ aK aO aA a1 a2 a3 : Nat) (st r3 r4 r5 r6 r7 r8 r9 r10 tl pn nc kl ol al : Int) (d : Nat → Int) (px nm ty : Nat → Int) (i : Int) (hd : By d) (hpx : By px) (hty : By ty) (ht1 : 0 ≤ tl) (ht2 : tl ≤ 20) (hi : ir i) : kCl l D vwCl (kTys cA) yX10_list wsX10_list rmX10_list [.ref hM, .int (iI (i))] [(hM, .inr (10, [.ref aD, .ref aM, .int (iI (st)), .int (iI (r3)), .int (iI (r4)), .int (iI (r5)), .int (iI (r6)), .int (iI (r7)), .int (iI (r8)), .int (iI (r9)), .int (iI (r10)), .ref aX, .int (iI (tl)), .ref aP, .int (iI (pn)), .ref aQ, .int (iI (nc)), .ref aK, .ref aO, .ref aA, .int (iI (kl)), .int (iI (ol)), .int (iI (al)), .ref a1, .ref a2, .ref a3])), (aD, .inl (cA 0, 2048, .inl (fun y_ => iI (d y_)))), (aP, .inl (cA 0, 200, .inl (fun y_ => iI (px y_)))), (aQ, .inl (cA 0, 4, .inl (fun y_ => iI (nm y_)))), (aX, .inl (cA 0, 20, .inl (fun y_ => iI (ty y_))))] (fun r u => ∃ (x1 x2 x3 x4 x5 x6 x7 x8 pn2 nc2 : Int) (px2 nm2 : Nat → Int), r = lI (lisS d ty tl i) ∧ u = [(hM, .inr (10, [.ref aD, .ref aM, .int (iI (st)), .int (iI (x1)), .int (iI (x2)), .int (iI (x3)), .int (iI (x4)), .int (iI (x5)), .int (iI (x6)), .int (iI (x7)), .int (iI (x8)), .ref aX, .int (iI (tl)), .ref aP, .int (iI (pn2)), .ref aQ, .int (iI (nc2)), .ref aK, .ref aO, .ref aA, .int (iI (kl)), .int (iI (ol)), .int (iI (al)), .ref a1, .ref a2, .ref a3])), (aD, .inl (cA 0, 2048, .inl (fun y_ => iI (d y_)))), (aP, .inl (cA 0, 200, .inl (fun y_ => iI (px2 y_)))), (aQ, .inl (cA 0, 4, .inl (fun y_ => iI (nm2 y_)))), (aX, .inl (cA 0, 20, .inl (fun y_ => iI (ty y_))))] ∧ By px2) := by
  intro sz
  refine kEntry (cc := cX10_list) (maxL := 8) (ret := (some .long)) (by decide) rfl (Nat.le_of_ble_eq_true rfl) ?_
  intro p e s m args below meth c A Q hAe hQ C0 hr hlk S hsz ls hl
  have hl : lv_has ls 8 [(0, .ref hM), (1, .int (iI (i)))] := hl
  obtain ⟨hi1, hi2⟩ := hi
  refine lv_aload_n C0.1 C0.2.1 dX10_list_0 rfl (lv_at hl 0 rfl) ?_
  refine k_calli (n := 0) (wr := [(aP, .inl (cA 0, 200, .inl (fun y_ => iI (px y_)))), (aQ, .inl (cA 0, 4, .inl (fun y_ => iI (nm y_)))), (aX, .inl (cA 0, 20, .inl (fun y_ => iI (ty y_))))]) C0 S (c_X10_volume l D cA hM aD aM aX aP aQ aK aO aA a1 a2 a3 (st) (r3) (r4) (r5) (r6) (r7) (r8) (r9) (r10) (tl) (pn) (nc) (kl) (ol) (al) d hd) gX10_list_X10_volume rfl ⟨rfl, rfl⟩ (by decide +kernel) ⟨Nat.le_of_ble_eq_true rfl, Nat.le_of_ble_eq_true rfl⟩ [0, 1] [2, 3, 4] rfl rfl rfl rfl (by decide) (ci := 10) (q0 := 0) rfl rfl (As := []) rfl hl.1 rfl (Nat.le_of_ble_eq_true rfl) dX10_list_1 ⟨Nat.zero_le _, Nat.zero_le _⟩ (fun r u H locs hp S => ?_)
  obtain ⟨x1, x2, x3, x4, x5, x6, x7, x8, rfl, rfl, hgeo⟩ := hp
  have S := S.sub (ws' := [(hM, .inr (10, [.ref aD, .ref aM, .int (iI (st)), .int (iI (x1)), .int (iI (x2)), .int (iI (x3)), .int (iI (x4)), .int (iI (x5)), .int (iI (x6)), .int (iI (x7)), .int (iI (x8)), .ref aX, .int (iI (tl)), .ref aP, .int (iI (pn)), .ref aQ, .int (iI (nc)), .ref aK, .ref aO, .ref aA, .int (iI (kl)), .int (iI (ol)), .int (iI (al)), .ref a1, .ref a2, .ref a3])), (aD, .inl (cA 0, 2048, .inl (fun y_ => iI (d y_)))), (aP, .inl (cA 0, 200, .inl (fun y_ => iI (px y_)))), (aQ, .inl (cA 0, 4, .inl (fun y_ => iI (nm y_)))), (aX, .inl (cA 0, 20, .inl (fun y_ => iI (ty y_))))]) [3, 4, 0, 1, 2] rfl rfl
  have hvr := vol_range hd
  refine lv_istore_n (lv' := [(2, .int (iI (vol d))), (0, .ref hM), (1, .int (iI (i)))]) C0.1 C0.2.1 dX10_list_4 rfl hl (by decide) rfl (fun ls hl => ?_)
  refine lv_iload_n C0.1 C0.2.1 dX10_list_5 rfl (lv_at hl 0 rfl) ?_
  refine k_if_ge (tgt := 12) C0 (by constructor <;> omega) dX10_list_6 (by decide) (fun c6 => ?_) (fun c6 => ?_)
  · have hGood := good_of_vol (show 0 ≤ vol d by omega)
    have hB2 := hGood.bounds hd
    have hlin := hB2.lin
    obtain ⟨rfl, rfl, rfl, rfl, rfl, rfl, rfl, rfl⟩ := hgeo (by omega)
    refine lv_aload_n C0.1 C0.2.1 dX10_list_12 rfl (lv_at hl 1 rfl) ?_
    refine k_get C0 S (C := RX10) (T := TX10) (N := 26) (ci := 10) (by decide +kernel) 0 rfl rfl 10 (by decide) (by decide +kernel) (v := .int (iI (gRoot d))) rfl dX10_list_13 ?_
    refine lv_istore_n (lv' := [(3, .int (iI (gRoot d))), (2, .int (iI (vol d))), (0, .ref hM), (1, .int (iI (i)))]) C0.1 C0.2.1 dX10_list_16 rfl hl (by decide) rfl (fun ls hl => ?_)
    refine lv_aload_n C0.1 C0.2.1 dX10_list_17 rfl (lv_at hl 2 rfl) ?_
    refine k_get C0 S (C := RX10) (T := TX10) (N := 26) (ci := 10) (by decide +kernel) 0 rfl rfl 12 (by decide) (by decide +kernel) (v := .int (iI (tl))) rfl dX10_list_18 ?_
    refine k_if_le (tgt := 74) C0 (by constructor <;> omega) dX10_list_21 (by decide) (fun c21 => ?_) (fun c21 => ?_)
    · have hfd : ftd d ty tl = gRoot d := ftd_0 (by omega)
      refine lv_aload_n C0.1 C0.2.1 dX10_list_74 rfl (lv_at hl 2 rfl) ?_
      refine lv_iload_n C0.1 C0.2.1 dX10_list_75 rfl (lv_at hl 0 rfl) ?_
      refine k_calli (n := 1) (wr := [(aP, .inl (cA 0, 200, .inl (fun y_ => iI (px y_)))), (aQ, .inl (cA 0, 4, .inl (fun y_ => iI (nm y_)))), (aX, .inl (cA 0, 20, .inl (fun y_ => iI (ty y_))))]) C0 S (c_X10_chain l D cA hM aD aM aX aP aQ aK aO aA a1 a2 a3 (st) (tl) (pn) (nc) (kl) (ol) (al) d (gRoot d) hd hB2 (by omega) (by omega)) gX10_list_X10_chain rfl ⟨rfl, rfl⟩ (by decide +kernel) ⟨Nat.le_of_ble_eq_true rfl, Nat.le_of_ble_eq_true rfl⟩ [0, 1] [2, 3, 4] rfl rfl rfl rfl (by decide) (ci := 10) (q0 := 0) rfl rfl (As := [.int (iI (gRoot d))]) rfl hl.1 rfl (Nat.le_of_ble_eq_true rfl) dX10_list_76 ⟨Nat.zero_le _, Nat.zero_le _⟩ (fun r u H locs hp S => ?_)
      obtain ⟨rfl, rfl⟩ := hp
      have S := S.sub (ws' := [(hM, .inr (10, [.ref aD, .ref aM, .int (iI (st)), .int (iI (chs d)), .int (iI (gTA d)), .int (iI (gT d)), .int (iI (gTS d)), .int (iI (gCS d)), .int (iI (gCA d)), .int (iI (gN d)), .int (iI (gRoot d)), .ref aX, .int (iI (tl)), .ref aP, .int (iI (pn)), .ref aQ, .int (iI (nc)), .ref aK, .ref aO, .ref aA, .int (iI (kl)), .int (iI (ol)), .int (iI (al)), .ref a1, .ref a2, .ref a3])), (aD, .inl (cA 0, 2048, .inl (fun y_ => iI (d y_)))), (aP, .inl (cA 0, 200, .inl (fun y_ => iI (px y_)))), (aQ, .inl (cA 0, 4, .inl (fun y_ => iI (nm y_)))), (aX, .inl (cA 0, 20, .inl (fun y_ => iI (ty y_))))]) [3, 4, 0, 1, 2] rfl rfl
      have hb11 : chn d (gRoot d) < 0 ∨ (1 ≤ chn d (gRoot d) ∧ chn d (gRoot d) ≤ gN d) := by rcases Int.lt_or_le (chn d (gRoot d)) 0 with h | h; exact Or.inl h; exact Or.inr (chn_all hB2 h).1
      have hb12 : -1 ≤ chn d (gRoot d) := chn_ge _ _
      refine lv_istore (lv' := [(4, .int (iI (chn d (gRoot d)))), (3, .int (iI (gRoot d))), (2, .int (iI (vol d))), (0, .ref hM), (1, .int (iI (i)))]) C0.1 C0.2.1 dX10_list_79 hl (by decide) rfl (fun ls hl => ?_)
      refine lv_iload C0.1 C0.2.1 dX10_list_81 (lv_at hl 0 rfl) ?_
      refine k_if_ge (tgt := 90) C0 (by constructor <;> omega) dX10_list_83 (by decide) (fun c83 => ?_) (fun c83 => ?_)
      · have hcn : 0 ≤ chn d (gRoot d) := by omega
        have hnr := nsl_range hB2 hcn
        refine lv_iload_n C0.1 C0.2.1 dX10_list_90 rfl (lv_at hl 4 rfl) ?_
        refine lv_istore (lv' := [(5, .int (iI (i))), (4, .int (iI (chn d (gRoot d)))), (3, .int (iI (gRoot d))), (2, .int (iI (vol d))), (0, .ref hM), (1, .int (iI (i)))]) C0.1 C0.2.1 dX10_list_91 hl (by decide) rfl (fun ls hl => ?_)
        refine lv_aload_n C0.1 C0.2.1 dX10_list_93 rfl (lv_at hl 4 rfl) ?_
        refine lv_iload_n C0.1 C0.2.1 dX10_list_94 rfl (lv_at hl 2 rfl) ?_
        refine lv_iload C0.1 C0.2.1 dX10_list_95 (lv_at hl 1 rfl) ?_
        refine lv_iconst (v := iI (0)) C0.1 C0.2.1 dX10_list_97 rfl ?_
        refine k_calli (n := 3) (wr := [(aP, .inl (cA 0, 200, .inl (fun y_ => iI (px y_)))), (aQ, .inl (cA 0, 4, .inl (fun y_ => iI (nm y_)))), (aX, .inl (cA 0, 20, .inl (fun y_ => iI (ty y_))))]) C0 S (c_X10_nth l D cA hM aD aM aX aP aQ aK aO aA a1 a2 a3 (st) (tl) (pn) (nc) (kl) (ol) (al) d (gRoot d) (0) hd hB2 (by omega) (by omega) hcn (by omega) (by omega)) gX10_list_X10_nth rfl ⟨rfl, rfl⟩ (by decide +kernel) ⟨Nat.le_of_ble_eq_true rfl, Nat.le_of_ble_eq_true rfl⟩ [0, 1] [2, 3, 4] rfl rfl rfl rfl (by decide) (ci := 10) (q0 := 0) rfl rfl (As := [.int (iI (gRoot d)), .int (iI (chn d (gRoot d))), .int (iI (0))]) rfl hl.1 rfl (Nat.le_of_ble_eq_true rfl) dX10_list_98 ⟨Nat.zero_le _, Nat.zero_le _⟩ (fun r u H locs hp S => ?_)
        obtain ⟨rfl, rfl⟩ := hp
        have S := S.sub (ws' := [(hM, .inr (10, [.ref aD, .ref aM, .int (iI (st)), .int (iI (chs d)), .int (iI (gTA d)), .int (iI (gT d)), .int (iI (gTS d)), .int (iI (gCS d)), .int (iI (gCA d)), .int (iI (gN d)), .int (iI (gRoot d)), .ref aX, .int (iI (tl)), .ref aP, .int (iI (pn)), .ref aQ, .int (iI (nc)), .ref aK, .ref aO, .ref aA, .int (iI (kl)), .int (iI (ol)), .int (iI (al)), .ref a1, .ref a2, .ref a3])), (aD, .inl (cA 0, 2048, .inl (fun y_ => iI (d y_)))), (aP, .inl (cA 0, 200, .inl (fun y_ => iI (px y_)))), (aQ, .inl (cA 0, 4, .inl (fun y_ => iI (nm y_)))), (aX, .inl (cA 0, 20, .inl (fun y_ => iI (ty y_))))]) [3, 4, 0, 1, 2] rfl rfl
        have hb15 := ent_range hB2 hcn (j := (0)) (by omega)
        refine lv_istore (lv' := [(6, .int (iI (ent d (gRoot d) (chn d (gRoot d)) (0)))), (5, .int (iI (i))), (4, .int (iI (chn d (gRoot d)))), (3, .int (iI (gRoot d))), (2, .int (iI (vol d))), (0, .ref hM), (1, .int (iI (i)))]) C0.1 C0.2.1 dX10_list_101 hl (by decide) rfl (fun ls hl => ?_)
        refine lv_iconst (v := iI (1)) C0.1 C0.2.1 dX10_list_103 rfl ?_
        refine lv_istore (lv' := [(7, .int (iI (1))), (6, .int (iI (ent d (gRoot d) (chn d (gRoot d)) (0)))), (5, .int (iI (i))), (4, .int (iI (chn d (gRoot d)))), (3, .int (iI (gRoot d))), (2, .int (iI (vol d))), (0, .ref hM), (1, .int (iI (i)))]) C0.1 C0.2.1 dX10_list_104 hl (by decide) rfl (fun ls hl => ?_)
        have L106 : ∀ (n_ : Nat) (j : Int) (a : Int) (lf : Int), (1 ≤ j ∧ j ≤ 300) → (lst d (gRoot d) (chn d (gRoot d)) 0 i = lst d (gRoot d) (chn d (gRoot d)) (j - 1) lf) → (a = ent d (gRoot d) (chn d (gRoot d)) (j - 1)) → ((i < 0 ∧ lf = i) ∨ (0 ≤ lf ∧ lf ≤ i)) → ((300 - j).toNat < n_) → ∀ (H : Heap) (locs : List Loc), kS D vwCl (kTys cA) A s [(hM, .inr (10, [.ref aD, .ref aM, .int (iI (st)), .int (iI (chs d)), .int (iI (gTA d)), .int (iI (gT d)), .int (iI (gTS d)), .int (iI (gCS d)), .int (iI (gCA d)), .int (iI (gN d)), .int (iI (gRoot d)), .ref aX, .int (iI (tl)), .ref aP, .int (iI (pn)), .ref aQ, .int (iI (nc)), .ref aK, .ref aO, .ref aA, .int (iI (kl)), .int (iI (ol)), .int (iI (al)), .ref a1, .ref a2, .ref a3])), (aD, .inl (cA 0, 2048, .inl (fun y_ => iI (d y_)))), (aP, .inl (cA 0, 200, .inl (fun y_ => iI (px y_)))), (aQ, .inl (cA 0, 4, .inl (fun y_ => iI (nm y_)))), (aX, .inl (cA 0, 20, .inl (fun y_ => iI (ty y_))))] H locs → ∀ ls : Array Slot, lv_has ls 8 [(7, .int (iI (j))), (6, .int (iI (a))), (5, .int (iI (lf))), (4, .int (iI (chn d (gRoot d)))), (3, .int (iI (gRoot d))), (0, .ref hM), (1, .int (iI (i)))] → W p l e rmX10_list s m args below meth c H locs 0 0 Q (F0 m 106 ls []) := by
          intro n_
          induction n_ with
          | zero => intro j a lf hi106_0 hi106_1 hi106_2 hi106_3 hm; exact absurd hm (Nat.not_lt_zero _)
          | succ n_ ih106 =>
            intro j a lf hi106_0 hi106_1 hi106_2 hi106_3 hm H locs S ls hl
            have her := ent_range hB2 hcn (j := j - 1) (by omega)
            rw [← hi106_2] at her
            refine lv_iload C0.1 C0.2.1 dX10_list_106 (lv_at hl 1 rfl) ?_
            refine k_if_lt (tgt := 161) C0 (by constructor <;> omega) dX10_list_108 (by decide) (fun c108 => ?_) (fun c108 => ?_)
            · refine lv_ldc2 (v := (-1 : Int64)) C0.1 C0.2.1 C0.2.2.2.1 (C0.2.2.2.2 (.constantLong RX10 157 (-1)) (by decide +kernel)) dX10_list_161 ?_
              refine k_topeql (v := lI (-1)) (by decide) ?_
              subst hQ
              refine k_lret C0 S hAe hsz hr hlk dX10_list_164 ?_
              exact ⟨_, _, _, _, _, _, _, _, _, _, _, _, congrArg lI (by rw [lisS_3 (by omega) (by rw [hfd]; omega), hfd, lnm_ok hcn, hi106_1]; exact (lst_none (by rw [← hi106_2]; exact c108)).symm), rfl, hpx⟩
            · refine lv_iload_n C0.1 C0.2.1 dX10_list_111 rfl (lv_at hl 6 rfl) ?_
              refine k_if_lt (tgt := 161) C0 (by constructor <;> omega) dX10_list_112 (by decide) (fun c112 => ?_) (fun c112 => ?_)
              · refine lv_ldc2 (v := (-1 : Int64)) C0.1 C0.2.1 C0.2.2.2.1 (C0.2.2.2.2 (.constantLong RX10 157 (-1)) (by decide +kernel)) dX10_list_161 ?_
                refine k_topeql (v := lI (-1)) (by decide) ?_
                subst hQ
                refine k_lret C0 S hAe hsz hr hlk dX10_list_164 ?_
                exact ⟨_, _, _, _, _, _, _, _, _, _, _, _, congrArg lI (by rw [lisS_3 (by omega) (by rw [hfd]; omega), hfd, lnm_ok hcn, lst_neg c112]), rfl, hpx⟩
              · refine lv_aload_n C0.1 C0.2.1 dX10_list_115 rfl (lv_at hl 5 rfl) ?_
                refine lv_iload C0.1 C0.2.1 dX10_list_116 (lv_at hl 1 rfl) ?_
                refine k_calli (n := 1) (wr := [(aP, .inl (cA 0, 200, .inl (fun y_ => iI (px y_)))), (aQ, .inl (cA 0, 4, .inl (fun y_ => iI (nm y_)))), (aX, .inl (cA 0, 20, .inl (fun y_ => iI (ty y_))))]) C0 S (c_X10_isPassed l D cA hM aD aM aX aP aQ aK aO aA a1 a2 a3 (st) (chs d) (gTA d) (gT d) (gTS d) (gCS d) (gCA d) (gN d) (gRoot d) (tl) (pn) (nc) (kl) (ol) (al) d (a) hd (by omega) (by omega)) gX10_list_X10_isPassed rfl ⟨rfl, rfl⟩ (by decide +kernel) ⟨Nat.le_of_ble_eq_true rfl, Nat.le_of_ble_eq_true rfl⟩ [0, 1] [2, 3, 4] rfl rfl rfl rfl (by decide) (ci := 10) (q0 := 0) rfl rfl (As := [.int (iI (a))]) rfl hl.1 rfl (Nat.le_of_ble_eq_true rfl) dX10_list_118 ⟨Nat.zero_le _, Nat.zero_le _⟩ (fun r u H locs hp S => ?_)
                obtain ⟨rfl, rfl⟩ := hp
                have S := S.sub (ws' := [(hM, .inr (10, [.ref aD, .ref aM, .int (iI (st)), .int (iI (chs d)), .int (iI (gTA d)), .int (iI (gT d)), .int (iI (gTS d)), .int (iI (gCS d)), .int (iI (gCA d)), .int (iI (gN d)), .int (iI (gRoot d)), .ref aX, .int (iI (tl)), .ref aP, .int (iI (pn)), .ref aQ, .int (iI (nc)), .ref aK, .ref aO, .ref aA, .int (iI (kl)), .int (iI (ol)), .int (iI (al)), .ref a1, .ref a2, .ref a3])), (aD, .inl (cA 0, 2048, .inl (fun y_ => iI (d y_)))), (aP, .inl (cA 0, 200, .inl (fun y_ => iI (px y_)))), (aQ, .inl (cA 0, 4, .inl (fun y_ => iI (nm y_)))), (aX, .inl (cA 0, 20, .inl (fun y_ => iI (ty y_))))]) [3, 4, 0, 1, 2] rfl rfl
                refine k_bz_ne (tgt := 144) C0 dX10_list_121 (by decide) (fun c121 => ?_) (fun c121 => ?_)
                · refine lv_aload_n C0.1 C0.2.1 dX10_list_144 rfl (lv_at hl 5 rfl) ?_
                  refine lv_iload_n C0.1 C0.2.1 dX10_list_145 rfl (lv_at hl 4 rfl) ?_
                  refine lv_iload C0.1 C0.2.1 dX10_list_146 (lv_at hl 3 rfl) ?_
                  refine lv_iload C0.1 C0.2.1 dX10_list_148 (lv_at hl 0 rfl) ?_
                  refine k_calli (n := 3) (wr := [(aP, .inl (cA 0, 200, .inl (fun y_ => iI (px y_)))), (aQ, .inl (cA 0, 4, .inl (fun y_ => iI (nm y_)))), (aX, .inl (cA 0, 20, .inl (fun y_ => iI (ty y_))))]) C0 S (c_X10_nth l D cA hM aD aM aX aP aQ aK aO aA a1 a2 a3 (st) (tl) (pn) (nc) (kl) (ol) (al) d (gRoot d) (j) hd hB2 (by omega) (by omega) hcn (by omega) (by omega)) gX10_list_X10_nth rfl ⟨rfl, rfl⟩ (by decide +kernel) ⟨Nat.le_of_ble_eq_true rfl, Nat.le_of_ble_eq_true rfl⟩ [0, 1] [2, 3, 4] rfl rfl rfl rfl (by decide) (ci := 10) (q0 := 0) rfl rfl (As := [.int (iI (gRoot d)), .int (iI (chn d (gRoot d))), .int (iI (j))]) rfl hl.1 rfl (Nat.le_of_ble_eq_true rfl) dX10_list_150 ⟨Nat.zero_le _, Nat.zero_le _⟩ (fun r u H locs hp S => ?_)
                  obtain ⟨rfl, rfl⟩ := hp
                  have S := S.sub (ws' := [(hM, .inr (10, [.ref aD, .ref aM, .int (iI (st)), .int (iI (chs d)), .int (iI (gTA d)), .int (iI (gT d)), .int (iI (gTS d)), .int (iI (gCS d)), .int (iI (gCA d)), .int (iI (gN d)), .int (iI (gRoot d)), .ref aX, .int (iI (tl)), .ref aP, .int (iI (pn)), .ref aQ, .int (iI (nc)), .ref aK, .ref aO, .ref aA, .int (iI (kl)), .int (iI (ol)), .int (iI (al)), .ref a1, .ref a2, .ref a3])), (aD, .inl (cA 0, 2048, .inl (fun y_ => iI (d y_)))), (aP, .inl (cA 0, 200, .inl (fun y_ => iI (px y_)))), (aQ, .inl (cA 0, 4, .inl (fun y_ => iI (nm y_)))), (aX, .inl (cA 0, 20, .inl (fun y_ => iI (ty y_))))]) [3, 4, 0, 1, 2] rfl rfl
                  have hb20 := ent_range hB2 hcn (j := (j)) (by omega)
                  refine lv_istore (lv' := [(6, .int (iI (ent d (gRoot d) (chn d (gRoot d)) (j)))), (7, .int (iI (j))), (5, .int (iI (lf))), (4, .int (iI (chn d (gRoot d)))), (3, .int (iI (gRoot d))), (0, .ref hM), (1, .int (iI (i)))]) C0.1 C0.2.1 dX10_list_153 hl (by decide) rfl (fun ls hl => ?_)
                  refine lv_iinc (v := iI (j + 1)) (lv' := [(7, .int (iI (j + 1))), (6, .int (iI (ent d (gRoot d) (chn d (gRoot d)) (j)))), (5, .int (iI (lf))), (4, .int (iI (chn d (gRoot d)))), (3, .int (iI (gRoot d))), (0, .ref hM), (1, .int (iI (i)))]) C0.1 C0.2.1 dX10_list_155 hl (k := 1) rfl (iI_add _ _) (by decide) rfl (fun ls hl => ?_)
                  refine lv_goto (tgt := 106) C0.1 C0.2.1 dX10_list_158 (by decide) ?_
                  have hlt := ent_lt (show ¬ ent d (gRoot d) (chn d (gRoot d)) (j - 1) < 0 by rw [← hi106_2]; exact c108)
                  have hq : lst d (gRoot d) (chn d (gRoot d)) 0 i = lst d (gRoot d) (chn d (gRoot d)) (j + 1 - 1) (lf) := by
                    rw [hi106_1, lst_pas (by rw [← hi106_2]; exact c108) (by rw [← hi106_2]; exact c121)]
                    congr 1; omega
                  exact ih106 (j + 1) (ent d (gRoot d) (chn d (gRoot d)) j) (lf) ⟨by omega, by omega⟩ hq (by rw [show j + 1 - 1 = j by omega]) (by omega) (by omega) _ _ S _ (lv_sub hl [0, 1, 2, 3, 4, 5, 6] rfl)
                · refine lv_iload C0.1 C0.2.1 dX10_list_124 (lv_at hl 2 rfl) ?_
                  refine k_if_ne (tgt := 141) C0 (by constructor <;> omega) dX10_list_126 (by decide) (fun c126 => ?_) (fun c126 => ?_)
                  · refine lv_iinc (v := iI (lf - 1)) (lv' := [(5, .int (iI (lf - 1))), (7, .int (iI (j))), (6, .int (iI (a))), (4, .int (iI (chn d (gRoot d)))), (3, .int (iI (gRoot d))), (0, .ref hM), (1, .int (iI (i)))]) C0.1 C0.2.1 dX10_list_141 hl (k := 2) rfl (iI_addn _ _) (by decide) rfl (fun ls hl => ?_)
                    refine lv_aload_n C0.1 C0.2.1 dX10_list_144 rfl (lv_at hl 5 rfl) ?_
                    refine lv_iload_n C0.1 C0.2.1 dX10_list_145 rfl (lv_at hl 4 rfl) ?_
                    refine lv_iload C0.1 C0.2.1 dX10_list_146 (lv_at hl 3 rfl) ?_
                    refine lv_iload C0.1 C0.2.1 dX10_list_148 (lv_at hl 1 rfl) ?_
                    refine k_calli (n := 3) (wr := [(aP, .inl (cA 0, 200, .inl (fun y_ => iI (px y_)))), (aQ, .inl (cA 0, 4, .inl (fun y_ => iI (nm y_)))), (aX, .inl (cA 0, 20, .inl (fun y_ => iI (ty y_))))]) C0 S (c_X10_nth l D cA hM aD aM aX aP aQ aK aO aA a1 a2 a3 (st) (tl) (pn) (nc) (kl) (ol) (al) d (gRoot d) (j) hd hB2 (by omega) (by omega) hcn (by omega) (by omega)) gX10_list_X10_nth rfl ⟨rfl, rfl⟩ (by decide +kernel) ⟨Nat.le_of_ble_eq_true rfl, Nat.le_of_ble_eq_true rfl⟩ [0, 1] [2, 3, 4] rfl rfl rfl rfl (by decide) (ci := 10) (q0 := 0) rfl rfl (As := [.int (iI (gRoot d)), .int (iI (chn d (gRoot d))), .int (iI (j))]) rfl hl.1 rfl (Nat.le_of_ble_eq_true rfl) dX10_list_150 ⟨Nat.zero_le _, Nat.zero_le _⟩ (fun r u H locs hp S => ?_)
                    obtain ⟨rfl, rfl⟩ := hp
                    have S := S.sub (ws' := [(hM, .inr (10, [.ref aD, .ref aM, .int (iI (st)), .int (iI (chs d)), .int (iI (gTA d)), .int (iI (gT d)), .int (iI (gTS d)), .int (iI (gCS d)), .int (iI (gCA d)), .int (iI (gN d)), .int (iI (gRoot d)), .ref aX, .int (iI (tl)), .ref aP, .int (iI (pn)), .ref aQ, .int (iI (nc)), .ref aK, .ref aO, .ref aA, .int (iI (kl)), .int (iI (ol)), .int (iI (al)), .ref a1, .ref a2, .ref a3])), (aD, .inl (cA 0, 2048, .inl (fun y_ => iI (d y_)))), (aP, .inl (cA 0, 200, .inl (fun y_ => iI (px y_)))), (aQ, .inl (cA 0, 4, .inl (fun y_ => iI (nm y_)))), (aX, .inl (cA 0, 20, .inl (fun y_ => iI (ty y_))))]) [3, 4, 0, 1, 2] rfl rfl
                    have hb23 := ent_range hB2 hcn (j := (j)) (by omega)
                    refine lv_istore (lv' := [(6, .int (iI (ent d (gRoot d) (chn d (gRoot d)) (j)))), (5, .int (iI (lf - 1))), (7, .int (iI (j))), (4, .int (iI (chn d (gRoot d)))), (3, .int (iI (gRoot d))), (0, .ref hM), (1, .int (iI (i)))]) C0.1 C0.2.1 dX10_list_153 hl (by decide) rfl (fun ls hl => ?_)
                    refine lv_iinc (v := iI (j + 1)) (lv' := [(7, .int (iI (j + 1))), (6, .int (iI (ent d (gRoot d) (chn d (gRoot d)) (j)))), (5, .int (iI (lf - 1))), (4, .int (iI (chn d (gRoot d)))), (3, .int (iI (gRoot d))), (0, .ref hM), (1, .int (iI (i)))]) C0.1 C0.2.1 dX10_list_155 hl (k := 2) rfl (iI_add _ _) (by decide) rfl (fun ls hl => ?_)
                    refine lv_goto (tgt := 106) C0.1 C0.2.1 dX10_list_158 (by decide) ?_
                    have hlt := ent_lt (show ¬ ent d (gRoot d) (chn d (gRoot d)) (j - 1) < 0 by rw [← hi106_2]; exact c108)
                    have hq : lst d (gRoot d) (chn d (gRoot d)) 0 i = lst d (gRoot d) (chn d (gRoot d)) (j + 1 - 1) (lf - 1) := by
                      rw [hi106_1, lst_step (by rw [← hi106_2]; exact c108) (by rw [← hi106_2]; exact c121) (by omega)]
                      congr 1; omega
                    exact ih106 (j + 1) (ent d (gRoot d) (chn d (gRoot d)) j) (lf - 1) ⟨by omega, by omega⟩ hq (by rw [show j + 1 - 1 = j by omega]) (by omega) (by omega) _ _ S _ (lv_sub hl [0, 1, 2, 3, 4, 5, 6] rfl)
                  · refine lv_aload_n C0.1 C0.2.1 dX10_list_129 rfl (lv_at hl 5 rfl) ?_
                    refine lv_iload C0.1 C0.2.1 dX10_list_130 (lv_at hl 1 rfl) ?_
                    refine k_calli (n := 1) (wr := [(aP, .inl (cA 0, 200, .inl (fun y_ => iI (px y_)))), (aQ, .inl (cA 0, 4, .inl (fun y_ => iI (nm y_)))), (aX, .inl (cA 0, 20, .inl (fun y_ => iI (ty y_))))]) C0 S (c_X10_four l D cA hM aD aM aX aP aQ aK aO aA a1 a2 a3 (st) (chs d) (gTA d) (gT d) (gTS d) (gCS d) (gCA d) (gN d) (gRoot d) (tl) (pn) (nc) (kl) (ol) (al) d (a) hd (by omega) (by omega)) gX10_list_X10_four rfl ⟨rfl, rfl⟩ (by decide +kernel) ⟨Nat.le_of_ble_eq_true rfl, Nat.le_of_ble_eq_true rfl⟩ [0, 1] [2, 3, 4] rfl rfl rfl rfl (by decide) (ci := 10) (q0 := 0) rfl rfl (As := [.int (iI (a))]) rfl hl.1 rfl (Nat.le_of_ble_eq_true rfl) dX10_list_132 ⟨Nat.zero_le _, Nat.zero_le _⟩ (fun r u H locs hp S => ?_)
                    obtain ⟨rfl, rfl⟩ := hp
                    have S := S.sub (ws' := [(hM, .inr (10, [.ref aD, .ref aM, .int (iI (st)), .int (iI (chs d)), .int (iI (gTA d)), .int (iI (gT d)), .int (iI (gTS d)), .int (iI (gCS d)), .int (iI (gCA d)), .int (iI (gN d)), .int (iI (gRoot d)), .ref aX, .int (iI (tl)), .ref aP, .int (iI (pn)), .ref aQ, .int (iI (nc)), .ref aK, .ref aO, .ref aA, .int (iI (kl)), .int (iI (ol)), .int (iI (al)), .ref a1, .ref a2, .ref a3])), (aD, .inl (cA 0, 2048, .inl (fun y_ => iI (d y_)))), (aP, .inl (cA 0, 200, .inl (fun y_ => iI (px y_)))), (aQ, .inl (cA 0, 4, .inl (fun y_ => iI (nm y_)))), (aX, .inl (cA 0, 20, .inl (fun y_ => iI (ty y_))))]) [3, 4, 0, 1, 2] rfl rfl
                    have hb26 := By_n4 hd (a)
                    refine lv_i2l (v := (iI (n4 d (a))).toInt64) C0.1 C0.2.1 dX10_list_135 rfl ?_
                    refine lv_ldc2 (v := (4294967295 : Int64)) C0.1 C0.2.1 C0.2.2.2.1 (C0.2.2.2.2 (.constantLong RX10 155 (4294967295)) (by decide +kernel)) dX10_list_136 ?_
                    refine k_topeql (v := lI (4294967295)) (by decide) ?_
                    refine lv_land C0.1 C0.2.1 dX10_list_139 ?_
                    refine k_topeql (v := lI (n4 d a)) (l_mask2 (By_n4 hd a).1 (By_n4 hd a).2) ?_
                    subst hQ
                    refine k_lret C0 S hAe hsz hr hlk dX10_list_140 ?_
                    have hne := By_n4 hd a
                    exact ⟨_, _, _, _, _, _, _, _, _, _, _, _, congrArg lI (by rw [lisS_3 (by omega) (by rw [hfd]; omega), hfd, lnm_ok hcn, hi106_1, lst_hit (by rw [← hi106_2]; exact c108) (by rw [← hi106_2]; exact c121) c126, ← hi106_2]), rfl, hpx⟩
        exact L106 (300) (1) (ent d (gRoot d) (chn d (gRoot d)) 0) (i) ⟨by decide, by decide⟩ rfl rfl (by omega) (by omega) _ _ S _ (lv_sub hl [0, 1, 2, 3, 4, 6, 7] rfl)
      · refine lv_ldc2 (v := (-9 : Int64)) C0.1 C0.2.1 C0.2.2.2.1 (C0.2.2.2.2 (.constantLong RX10 153 (-9)) (by decide +kernel)) dX10_list_86 ?_
        refine k_topeql (v := lI (-9)) (by decide) ?_
        subst hQ
        refine k_lret C0 S hAe hsz hr hlk dX10_list_89 ?_
        exact ⟨_, _, _, _, _, _, _, _, _, _, _, _, congrArg lI (by rw [lisS_3 (by omega) (by rw [hfd]; omega), hfd, lnm_no (by omega)]), rfl, hpx⟩
    · refine lv_aload_n C0.1 C0.2.1 dX10_list_24 rfl (lv_at hl 2 rfl) ?_
      refine lv_aload_n C0.1 C0.2.1 dX10_list_25 rfl (lv_at hl 2 rfl) ?_
      refine k_get C0 S (C := RX10) (T := TX10) (N := 26) (ci := 10) (by decide +kernel) 0 rfl rfl 11 (by decide) (by decide +kernel) (v := .ref aX) rfl dX10_list_26 ?_
      refine lv_aload_n C0.1 C0.2.1 dX10_list_29 rfl (lv_at hl 2 rfl) ?_
      refine k_get C0 S (C := RX10) (T := TX10) (N := 26) (ci := 10) (by decide +kernel) 0 rfl rfl 12 (by decide) (by decide +kernel) (v := .int (iI (tl))) rfl dX10_list_30 ?_
      refine k_callv (n := 2) (wr := [(aD, .inl (cA 0, 2048, .inl (fun y_ => iI (d y_)))), (aQ, .inl (cA 0, 4, .inl (fun y_ => iI (nm y_))))]) C0 S (c_X10_take l D cA hM aD aM aX aP aQ aK aO aA a1 a2 a3 (st) (chs d) (gTA d) (gT d) (gTS d) (gCS d) (gCA d) (gN d) (gRoot d) (tl) (pn) (nc) (kl) (ol) (al) d aX 20 px ty (tl) hpx hty (by omega) (by omega) (by omega) (by omega)) gX10_list_X10_take rfl ⟨rfl, rfl⟩ (by decide +kernel) ⟨Nat.le_of_ble_eq_true rfl, Nat.le_of_ble_eq_true rfl⟩ [0, 2, 4] [1, 3] rfl rfl rfl rfl (by decide) (ci := 10) (q0 := 0) rfl rfl (As := [.ref aX, .int (iI (tl))]) rfl hl.1 rfl (Nat.le_of_ble_eq_true rfl) dX10_list_33 ⟨Nat.zero_le _, Nat.zero_le _⟩ (fun u H locs hp S => ?_)
      obtain ⟨px27, rfl, hpe, hpx2⟩ := hp
      have S := S.sub (ws' := [(hM, .inr (10, [.ref aD, .ref aM, .int (iI (st)), .int (iI (chs d)), .int (iI (gTA d)), .int (iI (gT d)), .int (iI (gTS d)), .int (iI (gCS d)), .int (iI (gCA d)), .int (iI (gN d)), .int (iI (gRoot d)), .ref aX, .int (iI (tl)), .ref aP, .int (iI (tl)), .ref aQ, .int (iI (nc)), .ref aK, .ref aO, .ref aA, .int (iI (kl)), .int (iI (ol)), .int (iI (al)), .ref a1, .ref a2, .ref a3])), (aD, .inl (cA 0, 2048, .inl (fun y_ => iI (d y_)))), (aP, .inl (cA 0, 200, .inl (fun y_ => iI (px27 y_)))), (aQ, .inl (cA 0, 4, .inl (fun y_ => iI (nm y_)))), (aX, .inl (cA 0, 20, .inl (fun y_ => iI (ty y_))))]) [2, 0, 3, 1, 4] rfl rfl
      refine lv_aload_n C0.1 C0.2.1 dX10_list_36 rfl (lv_at hl 2 rfl) ?_
      refine k_calli (n := 0) (wr := [(aX, .inl (cA 0, 20, .inl (fun y_ => iI (ty y_))))]) C0 S (c_X10_find l D cA hM aD aM aX aP aQ aK aO aA a1 a2 a3 (st) (tl) (tl) (nc) (kl) (ol) (al) d px27 nm hd hB2 hpx2 (by omega) (by omega)) gX10_list_X10_find rfl ⟨rfl, rfl⟩ (by decide +kernel) ⟨Nat.le_of_ble_eq_true rfl, Nat.le_of_ble_eq_true rfl⟩ [0, 1, 2, 3] [4] rfl rfl rfl rfl (by decide) (ci := 10) (q0 := 0) rfl rfl (As := []) rfl hl.1 rfl (Nat.le_of_ble_eq_true rfl) dX10_list_37 ⟨Nat.zero_le _, Nat.zero_le _⟩ (fun r u H locs hp S => ?_)
      obtain ⟨nq28, nm29, rfl, rfl, hfr1, hfr2⟩ := hp
      have S := S.sub (ws' := [(hM, .inr (10, [.ref aD, .ref aM, .int (iI (st)), .int (iI (chs d)), .int (iI (gTA d)), .int (iI (gT d)), .int (iI (gTS d)), .int (iI (gCS d)), .int (iI (gCA d)), .int (iI (gN d)), .int (iI (gRoot d)), .ref aX, .int (iI (tl)), .ref aP, .int (iI (tl)), .ref aQ, .int (iI (nq28)), .ref aK, .ref aO, .ref aA, .int (iI (kl)), .int (iI (ol)), .int (iI (al)), .ref a1, .ref a2, .ref a3])), (aD, .inl (cA 0, 2048, .inl (fun y_ => iI (d y_)))), (aP, .inl (cA 0, 200, .inl (fun y_ => iI (px27 y_)))), (aQ, .inl (cA 0, 4, .inl (fun y_ => iI (nm29 y_)))), (aX, .inl (cA 0, 20, .inl (fun y_ => iI (ty y_))))]) [1, 2, 3, 4, 0] rfl rfl
      refine lv_istore (lv' := [(4, .int (iI (fnM d px27 (tl).toNat))), (3, .int (iI (gRoot d))), (2, .int (iI (vol d))), (0, .ref hM), (1, .int (iI (i)))]) C0.1 C0.2.1 dX10_list_40 hl (by decide) rfl (fun ls hl => ?_)
      refine lv_iload C0.1 C0.2.1 dX10_list_42 (lv_at hl 0 rfl) ?_
      refine k_if_ge (tgt := 51) C0 (by constructor <;> omega) dX10_list_44 (by decide) (fun c44 => ?_) (fun c44 => ?_)
      · refine lv_aload_n C0.1 C0.2.1 dX10_list_51 rfl (lv_at hl 3 rfl) ?_
        refine lv_iload C0.1 C0.2.1 dX10_list_52 (lv_at hl 0 rfl) ?_
        refine k_calli (n := 1) (wr := [(aP, .inl (cA 0, 200, .inl (fun y_ => iI (px27 y_)))), (aQ, .inl (cA 0, 4, .inl (fun y_ => iI (nm29 y_)))), (aX, .inl (cA 0, 20, .inl (fun y_ => iI (ty y_))))]) C0 S (c_X10_isDirectory l D cA hM aD aM aX aP aQ aK aO aA a1 a2 a3 (st) (chs d) (gTA d) (gT d) (gTS d) (gCS d) (gCA d) (gN d) (gRoot d) (tl) (tl) (nq28) (kl) (ol) (al) d (fnM d px27 (tl).toNat) hd (by omega) (by omega)) gX10_list_X10_isDirectory rfl ⟨rfl, rfl⟩ (by decide +kernel) ⟨Nat.le_of_ble_eq_true rfl, Nat.le_of_ble_eq_true rfl⟩ [0, 1] [2, 3, 4] rfl rfl rfl rfl (by decide) (ci := 10) (q0 := 0) rfl rfl (As := [.int (iI (fnM d px27 (tl).toNat))]) rfl hl.1 rfl (Nat.le_of_ble_eq_true rfl) dX10_list_54 ⟨Nat.zero_le _, Nat.zero_le _⟩ (fun r u H locs hp S => ?_)
        obtain ⟨rfl, rfl⟩ := hp
        have S := S.sub (ws' := [(hM, .inr (10, [.ref aD, .ref aM, .int (iI (st)), .int (iI (chs d)), .int (iI (gTA d)), .int (iI (gT d)), .int (iI (gTS d)), .int (iI (gCS d)), .int (iI (gCA d)), .int (iI (gN d)), .int (iI (gRoot d)), .ref aX, .int (iI (tl)), .ref aP, .int (iI (tl)), .ref aQ, .int (iI (nq28)), .ref aK, .ref aO, .ref aA, .int (iI (kl)), .int (iI (ol)), .int (iI (al)), .ref a1, .ref a2, .ref a3])), (aD, .inl (cA 0, 2048, .inl (fun y_ => iI (d y_)))), (aP, .inl (cA 0, 200, .inl (fun y_ => iI (px27 y_)))), (aQ, .inl (cA 0, 4, .inl (fun y_ => iI (nm29 y_)))), (aX, .inl (cA 0, 20, .inl (fun y_ => iI (ty y_))))]) [3, 4, 0, 1, 2] rfl rfl
        refine k_bz_ne (tgt := 64) C0 dX10_list_57 (by decide) (fun c57 => ?_) (fun c57 => ?_)
        · refine lv_aload_n C0.1 C0.2.1 dX10_list_64 rfl (lv_at hl 3 rfl) ?_
          refine k_get C0 S (C := RX10) (T := TX10) (N := 26) (ci := 10) (by decide +kernel) 0 rfl rfl 0 (by decide) (by decide +kernel) (v := .ref aD) rfl dX10_list_65 ?_
          refine lv_iload C0.1 C0.2.1 dX10_list_68 (lv_at hl 0 rfl) ?_
          refine lv_iconst (v := iI (5)) C0.1 C0.2.1 dX10_list_70 rfl ?_
          refine k_iadd C0 dX10_list_71 ?_
          refine k_iald C0 S 1 0 rfl rfl (z := (fnM d px27 (tl).toNat) + 5) (by omega) (by omega) (by omega) dX10_list_72 ?_
          refine k_topeq (v := iI (rd d ((fnM d px27 (tl).toNat) + 5))) rfl ?_
          have hb32 := By.rd hd ((fnM d px27 (tl).toNat) + 5)
          refine lv_istore_n (lv' := [(3, .int (iI (rd d ((fnM d px27 (tl).toNat) + 5)))), (4, .int (iI (fnM d px27 (tl).toNat))), (2, .int (iI (vol d))), (0, .ref hM), (1, .int (iI (i)))]) C0.1 C0.2.1 dX10_list_73 rfl hl (by decide) rfl (fun ls hl => ?_)
          have hfd : ftd d ty tl = rd d ((fnM d px27 (tl).toNat) + 5) := (ftdM (d := d) (by omega) (flM_fot (d := d) hpe).2).2.1 (by omega) c57
          refine lv_aload_n C0.1 C0.2.1 dX10_list_74 rfl (lv_at hl 3 rfl) ?_
          refine lv_iload_n C0.1 C0.2.1 dX10_list_75 rfl (lv_at hl 0 rfl) ?_
          refine k_calli (n := 1) (wr := [(aP, .inl (cA 0, 200, .inl (fun y_ => iI (px27 y_)))), (aQ, .inl (cA 0, 4, .inl (fun y_ => iI (nm29 y_)))), (aX, .inl (cA 0, 20, .inl (fun y_ => iI (ty y_))))]) C0 S (c_X10_chain l D cA hM aD aM aX aP aQ aK aO aA a1 a2 a3 (st) (tl) (tl) (nq28) (kl) (ol) (al) d (rd d ((fnM d px27 (tl).toNat) + 5)) hd hB2 (by omega) (by omega)) gX10_list_X10_chain rfl ⟨rfl, rfl⟩ (by decide +kernel) ⟨Nat.le_of_ble_eq_true rfl, Nat.le_of_ble_eq_true rfl⟩ [0, 1] [2, 3, 4] rfl rfl rfl rfl (by decide) (ci := 10) (q0 := 0) rfl rfl (As := [.int (iI (rd d ((fnM d px27 (tl).toNat) + 5)))]) rfl hl.1 rfl (Nat.le_of_ble_eq_true rfl) dX10_list_76 ⟨Nat.zero_le _, Nat.zero_le _⟩ (fun r u H locs hp S => ?_)
          obtain ⟨rfl, rfl⟩ := hp
          have S := S.sub (ws' := [(hM, .inr (10, [.ref aD, .ref aM, .int (iI (st)), .int (iI (chs d)), .int (iI (gTA d)), .int (iI (gT d)), .int (iI (gTS d)), .int (iI (gCS d)), .int (iI (gCA d)), .int (iI (gN d)), .int (iI (gRoot d)), .ref aX, .int (iI (tl)), .ref aP, .int (iI (tl)), .ref aQ, .int (iI (nq28)), .ref aK, .ref aO, .ref aA, .int (iI (kl)), .int (iI (ol)), .int (iI (al)), .ref a1, .ref a2, .ref a3])), (aD, .inl (cA 0, 2048, .inl (fun y_ => iI (d y_)))), (aP, .inl (cA 0, 200, .inl (fun y_ => iI (px27 y_)))), (aQ, .inl (cA 0, 4, .inl (fun y_ => iI (nm29 y_)))), (aX, .inl (cA 0, 20, .inl (fun y_ => iI (ty y_))))]) [3, 4, 0, 1, 2] rfl rfl
          have hb35 : chn d (rd d ((fnM d px27 (tl).toNat) + 5)) < 0 ∨ (1 ≤ chn d (rd d ((fnM d px27 (tl).toNat) + 5)) ∧ chn d (rd d ((fnM d px27 (tl).toNat) + 5)) ≤ gN d) := by rcases Int.lt_or_le (chn d (rd d ((fnM d px27 (tl).toNat) + 5))) 0 with h | h; exact Or.inl h; exact Or.inr (chn_all hB2 h).1
          have hb36 : -1 ≤ chn d (rd d ((fnM d px27 (tl).toNat) + 5)) := chn_ge _ _
          refine lv_istore (lv' := [(4, .int (iI (chn d (rd d ((fnM d px27 (tl).toNat) + 5))))), (3, .int (iI (rd d ((fnM d px27 (tl).toNat) + 5)))), (2, .int (iI (vol d))), (0, .ref hM), (1, .int (iI (i)))]) C0.1 C0.2.1 dX10_list_79 hl (by decide) rfl (fun ls hl => ?_)
          refine lv_iload C0.1 C0.2.1 dX10_list_81 (lv_at hl 0 rfl) ?_
          refine k_if_ge (tgt := 90) C0 (by constructor <;> omega) dX10_list_83 (by decide) (fun c83 => ?_) (fun c83 => ?_)
          · have hcn : 0 ≤ chn d (rd d ((fnM d px27 (tl).toNat) + 5)) := by omega
            have hnr := nsl_range hB2 hcn
            refine lv_iload_n C0.1 C0.2.1 dX10_list_90 rfl (lv_at hl 4 rfl) ?_
            refine lv_istore (lv' := [(5, .int (iI (i))), (4, .int (iI (chn d (rd d ((fnM d px27 (tl).toNat) + 5))))), (3, .int (iI (rd d ((fnM d px27 (tl).toNat) + 5)))), (2, .int (iI (vol d))), (0, .ref hM), (1, .int (iI (i)))]) C0.1 C0.2.1 dX10_list_91 hl (by decide) rfl (fun ls hl => ?_)
            refine lv_aload_n C0.1 C0.2.1 dX10_list_93 rfl (lv_at hl 4 rfl) ?_
            refine lv_iload_n C0.1 C0.2.1 dX10_list_94 rfl (lv_at hl 2 rfl) ?_
            refine lv_iload C0.1 C0.2.1 dX10_list_95 (lv_at hl 1 rfl) ?_
            refine lv_iconst (v := iI (0)) C0.1 C0.2.1 dX10_list_97 rfl ?_
            refine k_calli (n := 3) (wr := [(aP, .inl (cA 0, 200, .inl (fun y_ => iI (px27 y_)))), (aQ, .inl (cA 0, 4, .inl (fun y_ => iI (nm29 y_)))), (aX, .inl (cA 0, 20, .inl (fun y_ => iI (ty y_))))]) C0 S (c_X10_nth l D cA hM aD aM aX aP aQ aK aO aA a1 a2 a3 (st) (tl) (tl) (nq28) (kl) (ol) (al) d (rd d ((fnM d px27 (tl).toNat) + 5)) (0) hd hB2 (by omega) (by omega) hcn (by omega) (by omega)) gX10_list_X10_nth rfl ⟨rfl, rfl⟩ (by decide +kernel) ⟨Nat.le_of_ble_eq_true rfl, Nat.le_of_ble_eq_true rfl⟩ [0, 1] [2, 3, 4] rfl rfl rfl rfl (by decide) (ci := 10) (q0 := 0) rfl rfl (As := [.int (iI (rd d ((fnM d px27 (tl).toNat) + 5))), .int (iI (chn d (rd d ((fnM d px27 (tl).toNat) + 5)))), .int (iI (0))]) rfl hl.1 rfl (Nat.le_of_ble_eq_true rfl) dX10_list_98 ⟨Nat.zero_le _, Nat.zero_le _⟩ (fun r u H locs hp S => ?_)
            obtain ⟨rfl, rfl⟩ := hp
            have S := S.sub (ws' := [(hM, .inr (10, [.ref aD, .ref aM, .int (iI (st)), .int (iI (chs d)), .int (iI (gTA d)), .int (iI (gT d)), .int (iI (gTS d)), .int (iI (gCS d)), .int (iI (gCA d)), .int (iI (gN d)), .int (iI (gRoot d)), .ref aX, .int (iI (tl)), .ref aP, .int (iI (tl)), .ref aQ, .int (iI (nq28)), .ref aK, .ref aO, .ref aA, .int (iI (kl)), .int (iI (ol)), .int (iI (al)), .ref a1, .ref a2, .ref a3])), (aD, .inl (cA 0, 2048, .inl (fun y_ => iI (d y_)))), (aP, .inl (cA 0, 200, .inl (fun y_ => iI (px27 y_)))), (aQ, .inl (cA 0, 4, .inl (fun y_ => iI (nm29 y_)))), (aX, .inl (cA 0, 20, .inl (fun y_ => iI (ty y_))))]) [3, 4, 0, 1, 2] rfl rfl
            have hb39 := ent_range hB2 hcn (j := (0)) (by omega)
            refine lv_istore (lv' := [(6, .int (iI (ent d (rd d ((fnM d px27 (tl).toNat) + 5)) (chn d (rd d ((fnM d px27 (tl).toNat) + 5))) (0)))), (5, .int (iI (i))), (4, .int (iI (chn d (rd d ((fnM d px27 (tl).toNat) + 5))))), (3, .int (iI (rd d ((fnM d px27 (tl).toNat) + 5)))), (2, .int (iI (vol d))), (0, .ref hM), (1, .int (iI (i)))]) C0.1 C0.2.1 dX10_list_101 hl (by decide) rfl (fun ls hl => ?_)
            refine lv_iconst (v := iI (1)) C0.1 C0.2.1 dX10_list_103 rfl ?_
            refine lv_istore (lv' := [(7, .int (iI (1))), (6, .int (iI (ent d (rd d ((fnM d px27 (tl).toNat) + 5)) (chn d (rd d ((fnM d px27 (tl).toNat) + 5))) (0)))), (5, .int (iI (i))), (4, .int (iI (chn d (rd d ((fnM d px27 (tl).toNat) + 5))))), (3, .int (iI (rd d ((fnM d px27 (tl).toNat) + 5)))), (2, .int (iI (vol d))), (0, .ref hM), (1, .int (iI (i)))]) C0.1 C0.2.1 dX10_list_104 hl (by decide) rfl (fun ls hl => ?_)
            have L106 : ∀ (n_ : Nat) (j : Int) (a : Int) (lf : Int), (1 ≤ j ∧ j ≤ 300) → (lst d (rd d ((fnM d px27 (tl).toNat) + 5)) (chn d (rd d ((fnM d px27 (tl).toNat) + 5))) 0 i = lst d (rd d ((fnM d px27 (tl).toNat) + 5)) (chn d (rd d ((fnM d px27 (tl).toNat) + 5))) (j - 1) lf) → (a = ent d (rd d ((fnM d px27 (tl).toNat) + 5)) (chn d (rd d ((fnM d px27 (tl).toNat) + 5))) (j - 1)) → ((i < 0 ∧ lf = i) ∨ (0 ≤ lf ∧ lf ≤ i)) → ((300 - j).toNat < n_) → ∀ (H : Heap) (locs : List Loc), kS D vwCl (kTys cA) A s [(hM, .inr (10, [.ref aD, .ref aM, .int (iI (st)), .int (iI (chs d)), .int (iI (gTA d)), .int (iI (gT d)), .int (iI (gTS d)), .int (iI (gCS d)), .int (iI (gCA d)), .int (iI (gN d)), .int (iI (gRoot d)), .ref aX, .int (iI (tl)), .ref aP, .int (iI (tl)), .ref aQ, .int (iI (nq28)), .ref aK, .ref aO, .ref aA, .int (iI (kl)), .int (iI (ol)), .int (iI (al)), .ref a1, .ref a2, .ref a3])), (aD, .inl (cA 0, 2048, .inl (fun y_ => iI (d y_)))), (aP, .inl (cA 0, 200, .inl (fun y_ => iI (px27 y_)))), (aQ, .inl (cA 0, 4, .inl (fun y_ => iI (nm29 y_)))), (aX, .inl (cA 0, 20, .inl (fun y_ => iI (ty y_))))] H locs → ∀ ls : Array Slot, lv_has ls 8 [(7, .int (iI (j))), (6, .int (iI (a))), (5, .int (iI (lf))), (4, .int (iI (chn d (rd d ((fnM d px27 (tl).toNat) + 5))))), (3, .int (iI (rd d ((fnM d px27 (tl).toNat) + 5)))), (0, .ref hM), (1, .int (iI (i)))] → W p l e rmX10_list s m args below meth c H locs 0 0 Q (F0 m 106 ls []) := by
              intro n_
              induction n_ with
              | zero => intro j a lf hi106_0 hi106_1 hi106_2 hi106_3 hm; exact absurd hm (Nat.not_lt_zero _)
              | succ n_ ih106 =>
                intro j a lf hi106_0 hi106_1 hi106_2 hi106_3 hm H locs S ls hl
                have her := ent_range hB2 hcn (j := j - 1) (by omega)
                rw [← hi106_2] at her
                refine lv_iload C0.1 C0.2.1 dX10_list_106 (lv_at hl 1 rfl) ?_
                refine k_if_lt (tgt := 161) C0 (by constructor <;> omega) dX10_list_108 (by decide) (fun c108 => ?_) (fun c108 => ?_)
                · refine lv_ldc2 (v := (-1 : Int64)) C0.1 C0.2.1 C0.2.2.2.1 (C0.2.2.2.2 (.constantLong RX10 157 (-1)) (by decide +kernel)) dX10_list_161 ?_
                  refine k_topeql (v := lI (-1)) (by decide) ?_
                  subst hQ
                  refine k_lret C0 S hAe hsz hr hlk dX10_list_164 ?_
                  exact ⟨_, _, _, _, _, _, _, _, _, _, _, _, congrArg lI (by rw [lisS_3 (by omega) (by rw [hfd]; omega), hfd, lnm_ok hcn, hi106_1]; exact (lst_none (by rw [← hi106_2]; exact c108)).symm), rfl, hpx2⟩
                · refine lv_iload_n C0.1 C0.2.1 dX10_list_111 rfl (lv_at hl 6 rfl) ?_
                  refine k_if_lt (tgt := 161) C0 (by constructor <;> omega) dX10_list_112 (by decide) (fun c112 => ?_) (fun c112 => ?_)
                  · refine lv_ldc2 (v := (-1 : Int64)) C0.1 C0.2.1 C0.2.2.2.1 (C0.2.2.2.2 (.constantLong RX10 157 (-1)) (by decide +kernel)) dX10_list_161 ?_
                    refine k_topeql (v := lI (-1)) (by decide) ?_
                    subst hQ
                    refine k_lret C0 S hAe hsz hr hlk dX10_list_164 ?_
                    exact ⟨_, _, _, _, _, _, _, _, _, _, _, _, congrArg lI (by rw [lisS_3 (by omega) (by rw [hfd]; omega), hfd, lnm_ok hcn, lst_neg c112]), rfl, hpx2⟩
                  · refine lv_aload_n C0.1 C0.2.1 dX10_list_115 rfl (lv_at hl 5 rfl) ?_
                    refine lv_iload C0.1 C0.2.1 dX10_list_116 (lv_at hl 1 rfl) ?_
                    refine k_calli (n := 1) (wr := [(aP, .inl (cA 0, 200, .inl (fun y_ => iI (px27 y_)))), (aQ, .inl (cA 0, 4, .inl (fun y_ => iI (nm29 y_)))), (aX, .inl (cA 0, 20, .inl (fun y_ => iI (ty y_))))]) C0 S (c_X10_isPassed l D cA hM aD aM aX aP aQ aK aO aA a1 a2 a3 (st) (chs d) (gTA d) (gT d) (gTS d) (gCS d) (gCA d) (gN d) (gRoot d) (tl) (tl) (nq28) (kl) (ol) (al) d (a) hd (by omega) (by omega)) gX10_list_X10_isPassed rfl ⟨rfl, rfl⟩ (by decide +kernel) ⟨Nat.le_of_ble_eq_true rfl, Nat.le_of_ble_eq_true rfl⟩ [0, 1] [2, 3, 4] rfl rfl rfl rfl (by decide) (ci := 10) (q0 := 0) rfl rfl (As := [.int (iI (a))]) rfl hl.1 rfl (Nat.le_of_ble_eq_true rfl) dX10_list_118 ⟨Nat.zero_le _, Nat.zero_le _⟩ (fun r u H locs hp S => ?_)
                    obtain ⟨rfl, rfl⟩ := hp
                    have S := S.sub (ws' := [(hM, .inr (10, [.ref aD, .ref aM, .int (iI (st)), .int (iI (chs d)), .int (iI (gTA d)), .int (iI (gT d)), .int (iI (gTS d)), .int (iI (gCS d)), .int (iI (gCA d)), .int (iI (gN d)), .int (iI (gRoot d)), .ref aX, .int (iI (tl)), .ref aP, .int (iI (tl)), .ref aQ, .int (iI (nq28)), .ref aK, .ref aO, .ref aA, .int (iI (kl)), .int (iI (ol)), .int (iI (al)), .ref a1, .ref a2, .ref a3])), (aD, .inl (cA 0, 2048, .inl (fun y_ => iI (d y_)))), (aP, .inl (cA 0, 200, .inl (fun y_ => iI (px27 y_)))), (aQ, .inl (cA 0, 4, .inl (fun y_ => iI (nm29 y_)))), (aX, .inl (cA 0, 20, .inl (fun y_ => iI (ty y_))))]) [3, 4, 0, 1, 2] rfl rfl
                    refine k_bz_ne (tgt := 144) C0 dX10_list_121 (by decide) (fun c121 => ?_) (fun c121 => ?_)
                    · refine lv_aload_n C0.1 C0.2.1 dX10_list_144 rfl (lv_at hl 5 rfl) ?_
                      refine lv_iload_n C0.1 C0.2.1 dX10_list_145 rfl (lv_at hl 4 rfl) ?_
                      refine lv_iload C0.1 C0.2.1 dX10_list_146 (lv_at hl 3 rfl) ?_
                      refine lv_iload C0.1 C0.2.1 dX10_list_148 (lv_at hl 0 rfl) ?_
                      refine k_calli (n := 3) (wr := [(aP, .inl (cA 0, 200, .inl (fun y_ => iI (px27 y_)))), (aQ, .inl (cA 0, 4, .inl (fun y_ => iI (nm29 y_)))), (aX, .inl (cA 0, 20, .inl (fun y_ => iI (ty y_))))]) C0 S (c_X10_nth l D cA hM aD aM aX aP aQ aK aO aA a1 a2 a3 (st) (tl) (tl) (nq28) (kl) (ol) (al) d (rd d ((fnM d px27 (tl).toNat) + 5)) (j) hd hB2 (by omega) (by omega) hcn (by omega) (by omega)) gX10_list_X10_nth rfl ⟨rfl, rfl⟩ (by decide +kernel) ⟨Nat.le_of_ble_eq_true rfl, Nat.le_of_ble_eq_true rfl⟩ [0, 1] [2, 3, 4] rfl rfl rfl rfl (by decide) (ci := 10) (q0 := 0) rfl rfl (As := [.int (iI (rd d ((fnM d px27 (tl).toNat) + 5))), .int (iI (chn d (rd d ((fnM d px27 (tl).toNat) + 5)))), .int (iI (j))]) rfl hl.1 rfl (Nat.le_of_ble_eq_true rfl) dX10_list_150 ⟨Nat.zero_le _, Nat.zero_le _⟩ (fun r u H locs hp S => ?_)
                      obtain ⟨rfl, rfl⟩ := hp
                      have S := S.sub (ws' := [(hM, .inr (10, [.ref aD, .ref aM, .int (iI (st)), .int (iI (chs d)), .int (iI (gTA d)), .int (iI (gT d)), .int (iI (gTS d)), .int (iI (gCS d)), .int (iI (gCA d)), .int (iI (gN d)), .int (iI (gRoot d)), .ref aX, .int (iI (tl)), .ref aP, .int (iI (tl)), .ref aQ, .int (iI (nq28)), .ref aK, .ref aO, .ref aA, .int (iI (kl)), .int (iI (ol)), .int (iI (al)), .ref a1, .ref a2, .ref a3])), (aD, .inl (cA 0, 2048, .inl (fun y_ => iI (d y_)))), (aP, .inl (cA 0, 200, .inl (fun y_ => iI (px27 y_)))), (aQ, .inl (cA 0, 4, .inl (fun y_ => iI (nm29 y_)))), (aX, .inl (cA 0, 20, .inl (fun y_ => iI (ty y_))))]) [3, 4, 0, 1, 2] rfl rfl
                      have hb44 := ent_range hB2 hcn (j := (j)) (by omega)
                      refine lv_istore (lv' := [(6, .int (iI (ent d (rd d ((fnM d px27 (tl).toNat) + 5)) (chn d (rd d ((fnM d px27 (tl).toNat) + 5))) (j)))), (7, .int (iI (j))), (5, .int (iI (lf))), (4, .int (iI (chn d (rd d ((fnM d px27 (tl).toNat) + 5))))), (3, .int (iI (rd d ((fnM d px27 (tl).toNat) + 5)))), (0, .ref hM), (1, .int (iI (i)))]) C0.1 C0.2.1 dX10_list_153 hl (by decide) rfl (fun ls hl => ?_)
                      refine lv_iinc (v := iI (j + 1)) (lv' := [(7, .int (iI (j + 1))), (6, .int (iI (ent d (rd d ((fnM d px27 (tl).toNat) + 5)) (chn d (rd d ((fnM d px27 (tl).toNat) + 5))) (j)))), (5, .int (iI (lf))), (4, .int (iI (chn d (rd d ((fnM d px27 (tl).toNat) + 5))))), (3, .int (iI (rd d ((fnM d px27 (tl).toNat) + 5)))), (0, .ref hM), (1, .int (iI (i)))]) C0.1 C0.2.1 dX10_list_155 hl (k := 1) rfl (iI_add _ _) (by decide) rfl (fun ls hl => ?_)
                      refine lv_goto (tgt := 106) C0.1 C0.2.1 dX10_list_158 (by decide) ?_
                      have hlt := ent_lt (show ¬ ent d (rd d ((fnM d px27 (tl).toNat) + 5)) (chn d (rd d ((fnM d px27 (tl).toNat) + 5))) (j - 1) < 0 by rw [← hi106_2]; exact c108)
                      have hq : lst d (rd d ((fnM d px27 (tl).toNat) + 5)) (chn d (rd d ((fnM d px27 (tl).toNat) + 5))) 0 i = lst d (rd d ((fnM d px27 (tl).toNat) + 5)) (chn d (rd d ((fnM d px27 (tl).toNat) + 5))) (j + 1 - 1) (lf) := by
                        rw [hi106_1, lst_pas (by rw [← hi106_2]; exact c108) (by rw [← hi106_2]; exact c121)]
                        congr 1; omega
                      exact ih106 (j + 1) (ent d (rd d ((fnM d px27 (tl).toNat) + 5)) (chn d (rd d ((fnM d px27 (tl).toNat) + 5))) j) (lf) ⟨by omega, by omega⟩ hq (by rw [show j + 1 - 1 = j by omega]) (by omega) (by omega) _ _ S _ (lv_sub hl [0, 1, 2, 3, 4, 5, 6] rfl)
                    · refine lv_iload C0.1 C0.2.1 dX10_list_124 (lv_at hl 2 rfl) ?_
                      refine k_if_ne (tgt := 141) C0 (by constructor <;> omega) dX10_list_126 (by decide) (fun c126 => ?_) (fun c126 => ?_)
                      · refine lv_iinc (v := iI (lf - 1)) (lv' := [(5, .int (iI (lf - 1))), (7, .int (iI (j))), (6, .int (iI (a))), (4, .int (iI (chn d (rd d ((fnM d px27 (tl).toNat) + 5))))), (3, .int (iI (rd d ((fnM d px27 (tl).toNat) + 5)))), (0, .ref hM), (1, .int (iI (i)))]) C0.1 C0.2.1 dX10_list_141 hl (k := 2) rfl (iI_addn _ _) (by decide) rfl (fun ls hl => ?_)
                        refine lv_aload_n C0.1 C0.2.1 dX10_list_144 rfl (lv_at hl 5 rfl) ?_
                        refine lv_iload_n C0.1 C0.2.1 dX10_list_145 rfl (lv_at hl 4 rfl) ?_
                        refine lv_iload C0.1 C0.2.1 dX10_list_146 (lv_at hl 3 rfl) ?_
                        refine lv_iload C0.1 C0.2.1 dX10_list_148 (lv_at hl 1 rfl) ?_
                        refine k_calli (n := 3) (wr := [(aP, .inl (cA 0, 200, .inl (fun y_ => iI (px27 y_)))), (aQ, .inl (cA 0, 4, .inl (fun y_ => iI (nm29 y_)))), (aX, .inl (cA 0, 20, .inl (fun y_ => iI (ty y_))))]) C0 S (c_X10_nth l D cA hM aD aM aX aP aQ aK aO aA a1 a2 a3 (st) (tl) (tl) (nq28) (kl) (ol) (al) d (rd d ((fnM d px27 (tl).toNat) + 5)) (j) hd hB2 (by omega) (by omega) hcn (by omega) (by omega)) gX10_list_X10_nth rfl ⟨rfl, rfl⟩ (by decide +kernel) ⟨Nat.le_of_ble_eq_true rfl, Nat.le_of_ble_eq_true rfl⟩ [0, 1] [2, 3, 4] rfl rfl rfl rfl (by decide) (ci := 10) (q0 := 0) rfl rfl (As := [.int (iI (rd d ((fnM d px27 (tl).toNat) + 5))), .int (iI (chn d (rd d ((fnM d px27 (tl).toNat) + 5)))), .int (iI (j))]) rfl hl.1 rfl (Nat.le_of_ble_eq_true rfl) dX10_list_150 ⟨Nat.zero_le _, Nat.zero_le _⟩ (fun r u H locs hp S => ?_)
                        obtain ⟨rfl, rfl⟩ := hp
                        have S := S.sub (ws' := [(hM, .inr (10, [.ref aD, .ref aM, .int (iI (st)), .int (iI (chs d)), .int (iI (gTA d)), .int (iI (gT d)), .int (iI (gTS d)), .int (iI (gCS d)), .int (iI (gCA d)), .int (iI (gN d)), .int (iI (gRoot d)), .ref aX, .int (iI (tl)), .ref aP, .int (iI (tl)), .ref aQ, .int (iI (nq28)), .ref aK, .ref aO, .ref aA, .int (iI (kl)), .int (iI (ol)), .int (iI (al)), .ref a1, .ref a2, .ref a3])), (aD, .inl (cA 0, 2048, .inl (fun y_ => iI (d y_)))), (aP, .inl (cA 0, 200, .inl (fun y_ => iI (px27 y_)))), (aQ, .inl (cA 0, 4, .inl (fun y_ => iI (nm29 y_)))), (aX, .inl (cA 0, 20, .inl (fun y_ => iI (ty y_))))]) [3, 4, 0, 1, 2] rfl rfl
                        have hb47 := ent_range hB2 hcn (j := (j)) (by omega)
                        refine lv_istore (lv' := [(6, .int (iI (ent d (rd d ((fnM d px27 (tl).toNat) + 5)) (chn d (rd d ((fnM d px27 (tl).toNat) + 5))) (j)))), (5, .int (iI (lf - 1))), (7, .int (iI (j))), (4, .int (iI (chn d (rd d ((fnM d px27 (tl).toNat) + 5))))), (3, .int (iI (rd d ((fnM d px27 (tl).toNat) + 5)))), (0, .ref hM), (1, .int (iI (i)))]) C0.1 C0.2.1 dX10_list_153 hl (by decide) rfl (fun ls hl => ?_)
                        refine lv_iinc (v := iI (j + 1)) (lv' := [(7, .int (iI (j + 1))), (6, .int (iI (ent d (rd d ((fnM d px27 (tl).toNat) + 5)) (chn d (rd d ((fnM d px27 (tl).toNat) + 5))) (j)))), (5, .int (iI (lf - 1))), (4, .int (iI (chn d (rd d ((fnM d px27 (tl).toNat) + 5))))), (3, .int (iI (rd d ((fnM d px27 (tl).toNat) + 5)))), (0, .ref hM), (1, .int (iI (i)))]) C0.1 C0.2.1 dX10_list_155 hl (k := 2) rfl (iI_add _ _) (by decide) rfl (fun ls hl => ?_)
                        refine lv_goto (tgt := 106) C0.1 C0.2.1 dX10_list_158 (by decide) ?_
                        have hlt := ent_lt (show ¬ ent d (rd d ((fnM d px27 (tl).toNat) + 5)) (chn d (rd d ((fnM d px27 (tl).toNat) + 5))) (j - 1) < 0 by rw [← hi106_2]; exact c108)
                        have hq : lst d (rd d ((fnM d px27 (tl).toNat) + 5)) (chn d (rd d ((fnM d px27 (tl).toNat) + 5))) 0 i = lst d (rd d ((fnM d px27 (tl).toNat) + 5)) (chn d (rd d ((fnM d px27 (tl).toNat) + 5))) (j + 1 - 1) (lf - 1) := by
                          rw [hi106_1, lst_step (by rw [← hi106_2]; exact c108) (by rw [← hi106_2]; exact c121) (by omega)]
                          congr 1; omega
                        exact ih106 (j + 1) (ent d (rd d ((fnM d px27 (tl).toNat) + 5)) (chn d (rd d ((fnM d px27 (tl).toNat) + 5))) j) (lf - 1) ⟨by omega, by omega⟩ hq (by rw [show j + 1 - 1 = j by omega]) (by omega) (by omega) _ _ S _ (lv_sub hl [0, 1, 2, 3, 4, 5, 6] rfl)
                      · refine lv_aload_n C0.1 C0.2.1 dX10_list_129 rfl (lv_at hl 5 rfl) ?_
                        refine lv_iload C0.1 C0.2.1 dX10_list_130 (lv_at hl 1 rfl) ?_
                        refine k_calli (n := 1) (wr := [(aP, .inl (cA 0, 200, .inl (fun y_ => iI (px27 y_)))), (aQ, .inl (cA 0, 4, .inl (fun y_ => iI (nm29 y_)))), (aX, .inl (cA 0, 20, .inl (fun y_ => iI (ty y_))))]) C0 S (c_X10_four l D cA hM aD aM aX aP aQ aK aO aA a1 a2 a3 (st) (chs d) (gTA d) (gT d) (gTS d) (gCS d) (gCA d) (gN d) (gRoot d) (tl) (tl) (nq28) (kl) (ol) (al) d (a) hd (by omega) (by omega)) gX10_list_X10_four rfl ⟨rfl, rfl⟩ (by decide +kernel) ⟨Nat.le_of_ble_eq_true rfl, Nat.le_of_ble_eq_true rfl⟩ [0, 1] [2, 3, 4] rfl rfl rfl rfl (by decide) (ci := 10) (q0 := 0) rfl rfl (As := [.int (iI (a))]) rfl hl.1 rfl (Nat.le_of_ble_eq_true rfl) dX10_list_132 ⟨Nat.zero_le _, Nat.zero_le _⟩ (fun r u H locs hp S => ?_)
                        obtain ⟨rfl, rfl⟩ := hp
                        have S := S.sub (ws' := [(hM, .inr (10, [.ref aD, .ref aM, .int (iI (st)), .int (iI (chs d)), .int (iI (gTA d)), .int (iI (gT d)), .int (iI (gTS d)), .int (iI (gCS d)), .int (iI (gCA d)), .int (iI (gN d)), .int (iI (gRoot d)), .ref aX, .int (iI (tl)), .ref aP, .int (iI (tl)), .ref aQ, .int (iI (nq28)), .ref aK, .ref aO, .ref aA, .int (iI (kl)), .int (iI (ol)), .int (iI (al)), .ref a1, .ref a2, .ref a3])), (aD, .inl (cA 0, 2048, .inl (fun y_ => iI (d y_)))), (aP, .inl (cA 0, 200, .inl (fun y_ => iI (px27 y_)))), (aQ, .inl (cA 0, 4, .inl (fun y_ => iI (nm29 y_)))), (aX, .inl (cA 0, 20, .inl (fun y_ => iI (ty y_))))]) [3, 4, 0, 1, 2] rfl rfl
                        have hb50 := By_n4 hd (a)
                        refine lv_i2l (v := (iI (n4 d (a))).toInt64) C0.1 C0.2.1 dX10_list_135 rfl ?_
                        refine lv_ldc2 (v := (4294967295 : Int64)) C0.1 C0.2.1 C0.2.2.2.1 (C0.2.2.2.2 (.constantLong RX10 155 (4294967295)) (by decide +kernel)) dX10_list_136 ?_
                        refine k_topeql (v := lI (4294967295)) (by decide) ?_
                        refine lv_land C0.1 C0.2.1 dX10_list_139 ?_
                        refine k_topeql (v := lI (n4 d a)) (l_mask2 (By_n4 hd a).1 (By_n4 hd a).2) ?_
                        subst hQ
                        refine k_lret C0 S hAe hsz hr hlk dX10_list_140 ?_
                        have hne := By_n4 hd a
                        exact ⟨_, _, _, _, _, _, _, _, _, _, _, _, congrArg lI (by rw [lisS_3 (by omega) (by rw [hfd]; omega), hfd, lnm_ok hcn, hi106_1, lst_hit (by rw [← hi106_2]; exact c108) (by rw [← hi106_2]; exact c121) c126, ← hi106_2]), rfl, hpx2⟩
            exact L106 (300) (1) (ent d (rd d ((fnM d px27 (tl).toNat) + 5)) (chn d (rd d ((fnM d px27 (tl).toNat) + 5))) 0) (i) ⟨by decide, by decide⟩ rfl rfl (by omega) (by omega) _ _ S _ (lv_sub hl [0, 1, 2, 3, 4, 6, 7] rfl)
          · refine lv_ldc2 (v := (-9 : Int64)) C0.1 C0.2.1 C0.2.2.2.1 (C0.2.2.2.2 (.constantLong RX10 153 (-9)) (by decide +kernel)) dX10_list_86 ?_
            refine k_topeql (v := lI (-9)) (by decide) ?_
            subst hQ
            refine k_lret C0 S hAe hsz hr hlk dX10_list_89 ?_
            exact ⟨_, _, _, _, _, _, _, _, _, _, _, _, congrArg lI (by rw [lisS_3 (by omega) (by rw [hfd]; omega), hfd, lnm_no (by omega)]), rfl, hpx2⟩
        · refine lv_ldc2 (v := (-8 : Int64)) C0.1 C0.2.1 C0.2.2.2.1 (C0.2.2.2.2 (.constantLong RX10 151 (-8)) (by decide +kernel)) dX10_list_60 ?_
          refine k_topeql (v := lI (-8)) (by decide) ?_
          subst hQ
          refine k_lret C0 S hAe hsz hr hlk dX10_list_63 ?_
          have hq := (ftdM (d := d) (by omega) (flM_fot (d := d) hpe).2).2.2 (by omega) c57
          exact ⟨_, _, _, _, _, _, _, _, _, _, _, _, congrArg lI (by rw [lisS_2 (by omega) (by omega), hq]), rfl, hpx2⟩
      · refine lv_iload C0.1 C0.2.1 dX10_list_47 (lv_at hl 0 rfl) ?_
        refine lv_i2l (v := (iI (fnM d px27 (tl).toNat)).toInt64) C0.1 C0.2.1 dX10_list_49 rfl ?_
        refine k_topeql (v := lI (fnM d px27 (tl).toNat)) (lI_of32 (by constructor <;> omega)) ?_
        subst hQ
        refine k_lret C0 S hAe hsz hr hlk dX10_list_50 ?_
        have hq := (ftdM (d := d) (by omega) (flM_fot (d := d) hpe).2).1 (by omega)
        exact ⟨_, _, _, _, _, _, _, _, _, _, _, _, congrArg lI (by rw [lisS_2 (by omega) (by omega), hq]), rfl, hpx2⟩
  · refine lv_iload_n C0.1 C0.2.1 dX10_list_9 rfl (lv_at hl 0 rfl) ?_
    refine lv_i2l (v := (iI (vol d)).toInt64) C0.1 C0.2.1 dX10_list_10 rfl ?_
    refine k_topeql (v := lI (vol d)) (lI_of32 (by constructor <;> omega)) ?_
    subst hQ
    refine k_lret C0 S hAe hsz hr hlk dX10_list_11 ?_
    exact ⟨_, _, _, _, _, _, _, _, _, _, _, _, congrArg lI (lisS_1 (by omega)).symm, rfl, hpx⟩
def rmX10_survey : Room := { frames := 4, cells := 0, slots := 0, locals := 92 }
set_option maxHeartbeats 4000000 in
set_option maxRecDepth 100000 in
theorem c_X10_survey (l : Launch) (D : va_G) (cA : Nat → ClassId) (hM aD aM aX aP aQ aK aO aA a1 a2 a3 : Nat) (st r3 r4 r5 r6 r7 r8 r9 r10 tl pn nc kl ol al : Int) (d : Nat → Int) (oA0 oL0 oN0 : Nat → Int) (hd : By d) : kCi l D vwCl (kTys cA) yX10_survey wsX10_survey rmX10_survey [.ref hM] [(hM, .inr (10, [.ref aD, .ref aM, .int (iI (st)), .int (iI (r3)), .int (iI (r4)), .int (iI (r5)), .int (iI (r6)), .int (iI (r7)), .int (iI (r8)), .int (iI (r9)), .int (iI (r10)), .ref aX, .int (iI (tl)), .ref aP, .int (iI (pn)), .ref aQ, .int (iI (nc)), .ref aK, .ref aO, .ref aA, .int (iI (kl)), .int (iI (ol)), .int (iI (al)), .ref a1, .ref a2, .ref a3])), (aD, .inl (cA 0, 2048, .inl (fun y_ => iI (d y_)))), (a1, .inl (cA 0, 5, .inl (fun y_ => iI (oA0 y_)))), (a2, .inl (cA 0, 5, .inl (fun y_ => iI (oL0 y_)))), (a3, .inl (cA 0, 5, .inl (fun y_ => iI (oN0 y_))))] (fun r u => ∃ (x1 x2 x3 x4 x5 x6 x7 x8 : Int) (oA2 oL2 oN2 : Nat → Int), r = iI (surS d) ∧ u = [(hM, .inr (10, [.ref aD, .ref aM, .int (iI (st)), .int (iI (x1)), .int (iI (x2)), .int (iI (x3)), .int (iI (x4)), .int (iI (x5)), .int (iI (x6)), .int (iI (x7)), .int (iI (x8)), .ref aX, .int (iI (tl)), .ref aP, .int (iI (pn)), .ref aQ, .int (iI (nc)), .ref aK, .ref aO, .ref aA, .int (iI (kl)), .int (iI (ol)), .int (iI (al)), .ref a1, .ref a2, .ref a3])), (aD, .inl (cA 0, 2048, .inl (fun y_ => iI (d y_)))), (a1, .inl (cA 0, 5, .inl (fun y_ => iI (oA2 y_)))), (a2, .inl (cA 0, 5, .inl (fun y_ => iI (oL2 y_)))), (a3, .inl (cA 0, 5, .inl (fun y_ => iI (oN2 y_))))]) := by
  intro sz
  refine kEntry (cc := cX10_survey) (maxL := 8) (ret := (some .int)) (by decide) rfl (Nat.le_of_ble_eq_true rfl) ?_
  intro p e s m args below meth c A Q hAe hQ C0 hr hlk S hsz ls hl
  have hl : lv_has ls 8 [(0, .ref hM)] := hl
  refine lv_aload_n C0.1 C0.2.1 dX10_survey_0 rfl (lv_at hl 0 rfl) ?_
  refine k_calli (n := 0) (wr := [(a1, .inl (cA 0, 5, .inl (fun y_ => iI (oA0 y_)))), (a2, .inl (cA 0, 5, .inl (fun y_ => iI (oL0 y_)))), (a3, .inl (cA 0, 5, .inl (fun y_ => iI (oN0 y_))))]) C0 S (c_X10_volume l D cA hM aD aM aX aP aQ aK aO aA a1 a2 a3 (st) (r3) (r4) (r5) (r6) (r7) (r8) (r9) (r10) (tl) (pn) (nc) (kl) (ol) (al) d hd) gX10_survey_X10_volume rfl ⟨rfl, rfl⟩ (by decide +kernel) ⟨Nat.le_of_ble_eq_true rfl, Nat.le_of_ble_eq_true rfl⟩ [0, 1] [2, 3, 4] rfl rfl rfl rfl (by decide) (ci := 10) (q0 := 0) rfl rfl (As := []) rfl hl.1 rfl (Nat.le_of_ble_eq_true rfl) dX10_survey_1 ⟨Nat.zero_le _, Nat.zero_le _⟩ (fun r u H locs hp S => ?_)
  obtain ⟨x1, x2, x3, x4, x5, x6, x7, x8, rfl, rfl, hgeo⟩ := hp
  have S := S.sub (ws' := [(hM, .inr (10, [.ref aD, .ref aM, .int (iI (st)), .int (iI (x1)), .int (iI (x2)), .int (iI (x3)), .int (iI (x4)), .int (iI (x5)), .int (iI (x6)), .int (iI (x7)), .int (iI (x8)), .ref aX, .int (iI (tl)), .ref aP, .int (iI (pn)), .ref aQ, .int (iI (nc)), .ref aK, .ref aO, .ref aA, .int (iI (kl)), .int (iI (ol)), .int (iI (al)), .ref a1, .ref a2, .ref a3])), (aD, .inl (cA 0, 2048, .inl (fun y_ => iI (d y_)))), (a1, .inl (cA 0, 5, .inl (fun y_ => iI (oA0 y_)))), (a2, .inl (cA 0, 5, .inl (fun y_ => iI (oL0 y_)))), (a3, .inl (cA 0, 5, .inl (fun y_ => iI (oN0 y_))))]) [3, 4, 0, 1, 2] rfl rfl
  have hvr := vol_range hd
  refine lv_istore_n (lv' := [(1, .int (iI (vol d))), (0, .ref hM)]) C0.1 C0.2.1 dX10_survey_4 rfl hl (by decide) rfl (fun ls hl => ?_)
  refine lv_iload_n C0.1 C0.2.1 dX10_survey_5 rfl (lv_at hl 0 rfl) ?_
  refine k_if_ge (tgt := 11) C0 (by constructor <;> omega) dX10_survey_6 (by decide) (fun c6 => ?_) (fun c6 => ?_)
  · have hGood := good_of_vol (show 0 ≤ vol d by omega)
    have hB2 := hGood.bounds hd
    have hlin := hB2.lin
    obtain ⟨rfl, rfl, rfl, rfl, rfl, rfl, rfl, rfl⟩ := hgeo (by omega)
    refine lv_iconst (v := iI (0)) C0.1 C0.2.1 dX10_survey_11 rfl ?_
    refine lv_istore_n (lv' := [(2, .int (iI (0))), (1, .int (iI (vol d))), (0, .ref hM)]) C0.1 C0.2.1 dX10_survey_12 rfl hl (by decide) rfl (fun ls hl => ?_)
    refine lv_iconst (v := iI (0)) C0.1 C0.2.1 dX10_survey_13 rfl ?_
    refine lv_istore_n (lv' := [(3, .int (iI (0))), (2, .int (iI (0))), (1, .int (iI (vol d))), (0, .ref hM)]) C0.1 C0.2.1 dX10_survey_14 rfl hl (by decide) rfl (fun ls hl => ?_)
    refine lv_iconst (v := iI (0)) C0.1 C0.2.1 dX10_survey_15 rfl ?_
    refine lv_istore (lv' := [(4, .int (iI (0))), (3, .int (iI (0))), (2, .int (iI (0))), (1, .int (iI (vol d))), (0, .ref hM)]) C0.1 C0.2.1 dX10_survey_16 hl (by decide) rfl (fun ls hl => ?_)
    refine lv_iconst (v := iI (0)) C0.1 C0.2.1 dX10_survey_18 rfl ?_
    refine lv_istore (lv' := [(5, .int (iI (0))), (4, .int (iI (0))), (3, .int (iI (0))), (2, .int (iI (0))), (1, .int (iI (vol d))), (0, .ref hM)]) C0.1 C0.2.1 dX10_survey_19 hl (by decide) rfl (fun ls hl => ?_)
    refine lv_aload_n C0.1 C0.2.1 dX10_survey_21 rfl (lv_at hl 5 rfl) ?_
    refine k_get C0 S (C := RX10) (T := TX10) (N := 26) (ci := 10) (by decide +kernel) 0 rfl rfl 23 (by decide) (by decide +kernel) (v := .ref a1) rfl dX10_survey_22 ?_
    refine lv_iconst (v := iI (0)) C0.1 C0.2.1 dX10_survey_25 rfl ?_
    refine lv_aload_n C0.1 C0.2.1 dX10_survey_26 rfl (lv_at hl 5 rfl) ?_
    refine k_get C0 S (C := RX10) (T := TX10) (N := 26) (ci := 10) (by decide +kernel) 0 rfl rfl 10 (by decide) (by decide +kernel) (v := .int (iI (gRoot d))) rfl dX10_survey_27 ?_
    refine k_iast (ws' := [(hM, .inr (10, [.ref aD, .ref aM, .int (iI (st)), .int (iI (chs d)), .int (iI (gTA d)), .int (iI (gT d)), .int (iI (gTS d)), .int (iI (gCS d)), .int (iI (gCA d)), .int (iI (gN d)), .int (iI (gRoot d)), .ref aX, .int (iI (tl)), .ref aP, .int (iI (pn)), .ref aQ, .int (iI (nc)), .ref aK, .ref aO, .ref aA, .int (iI (kl)), .int (iI (ol)), .int (iI (al)), .ref a1, .ref a2, .ref a3])), (aD, .inl (cA 0, 2048, .inl (fun y_ => iI (d y_)))), (a1, .inl (cA 0, 5, .inl (fun y_ => iI ((va_up oA0 0 (gRoot d)) y_)))), (a2, .inl (cA 0, 5, .inl (fun y_ => iI (oL0 y_)))), (a3, .inl (cA 0, 5, .inl (fun y_ => iI (oN0 y_))))]) C0 S 2 0 rfl rfl (z := 0) (by omega) (by omega) (by omega) dX10_survey_30 rfl (fun H locs S => ?_)
    refine lv_aload_n C0.1 C0.2.1 dX10_survey_31 rfl (lv_at hl 5 rfl) ?_
    refine k_get C0 S (C := RX10) (T := TX10) (N := 26) (ci := 10) (by decide +kernel) 0 rfl rfl 24 (by decide) (by decide +kernel) (v := .ref a2) rfl dX10_survey_32 ?_
    refine lv_iconst (v := iI (0)) C0.1 C0.2.1 dX10_survey_35 rfl ?_
    refine lv_aload_n C0.1 C0.2.1 dX10_survey_36 rfl (lv_at hl 5 rfl) ?_
    refine lv_aload_n C0.1 C0.2.1 dX10_survey_37 rfl (lv_at hl 5 rfl) ?_
    refine k_get C0 S (C := RX10) (T := TX10) (N := 26) (ci := 10) (by decide +kernel) 0 rfl rfl 10 (by decide) (by decide +kernel) (v := .int (iI (gRoot d))) rfl dX10_survey_38 ?_
    refine k_calli (n := 1) (wr := [(a1, .inl (cA 0, 5, .inl (fun y_ => iI ((va_up oA0 0 (gRoot d)) y_)))), (a2, .inl (cA 0, 5, .inl (fun y_ => iI (oL0 y_)))), (a3, .inl (cA 0, 5, .inl (fun y_ => iI (oN0 y_))))]) C0 S (c_X10_chain l D cA hM aD aM aX aP aQ aK aO aA a1 a2 a3 (st) (tl) (pn) (nc) (kl) (ol) (al) d (gRoot d) hd hB2 (by omega) (by omega)) gX10_survey_X10_chain rfl ⟨rfl, rfl⟩ (by decide +kernel) ⟨Nat.le_of_ble_eq_true rfl, Nat.le_of_ble_eq_true rfl⟩ [0, 1] [2, 3, 4] rfl rfl rfl rfl (by decide) (ci := 10) (q0 := 0) rfl rfl (As := [.int (iI (gRoot d))]) rfl hl.1 rfl (Nat.le_of_ble_eq_true rfl) dX10_survey_41 ⟨Nat.zero_le _, Nat.zero_le _⟩ (fun r u H locs hp S => ?_)
    obtain ⟨rfl, rfl⟩ := hp
    have S := S.sub (ws' := [(hM, .inr (10, [.ref aD, .ref aM, .int (iI (st)), .int (iI (chs d)), .int (iI (gTA d)), .int (iI (gT d)), .int (iI (gTS d)), .int (iI (gCS d)), .int (iI (gCA d)), .int (iI (gN d)), .int (iI (gRoot d)), .ref aX, .int (iI (tl)), .ref aP, .int (iI (pn)), .ref aQ, .int (iI (nc)), .ref aK, .ref aO, .ref aA, .int (iI (kl)), .int (iI (ol)), .int (iI (al)), .ref a1, .ref a2, .ref a3])), (aD, .inl (cA 0, 2048, .inl (fun y_ => iI (d y_)))), (a1, .inl (cA 0, 5, .inl (fun y_ => iI ((va_up oA0 0 (gRoot d)) y_)))), (a2, .inl (cA 0, 5, .inl (fun y_ => iI (oL0 y_)))), (a3, .inl (cA 0, 5, .inl (fun y_ => iI (oN0 y_))))]) [3, 4, 0, 1, 2] rfl rfl
    have hb11 : chn d (gRoot d) < 0 ∨ (1 ≤ chn d (gRoot d) ∧ chn d (gRoot d) ≤ gN d) := by rcases Int.lt_or_le (chn d (gRoot d)) 0 with h | h; exact Or.inl h; exact Or.inr (chn_all hB2 h).1
    have hb12 : -1 ≤ chn d (gRoot d) := chn_ge _ _
    refine k_iast (ws' := [(hM, .inr (10, [.ref aD, .ref aM, .int (iI (st)), .int (iI (chs d)), .int (iI (gTA d)), .int (iI (gT d)), .int (iI (gTS d)), .int (iI (gCS d)), .int (iI (gCA d)), .int (iI (gN d)), .int (iI (gRoot d)), .ref aX, .int (iI (tl)), .ref aP, .int (iI (pn)), .ref aQ, .int (iI (nc)), .ref aK, .ref aO, .ref aA, .int (iI (kl)), .int (iI (ol)), .int (iI (al)), .ref a1, .ref a2, .ref a3])), (aD, .inl (cA 0, 2048, .inl (fun y_ => iI (d y_)))), (a1, .inl (cA 0, 5, .inl (fun y_ => iI ((va_up oA0 0 (gRoot d)) y_)))), (a2, .inl (cA 0, 5, .inl (fun y_ => iI ((va_up oL0 0 (chn d (gRoot d))) y_)))), (a3, .inl (cA 0, 5, .inl (fun y_ => iI (oN0 y_))))]) C0 S 3 0 rfl rfl (z := 0) (by omega) (by omega) (by omega) dX10_survey_44 rfl (fun H locs S => ?_)
    refine lv_aload_n C0.1 C0.2.1 dX10_survey_45 rfl (lv_at hl 5 rfl) ?_
    refine k_get C0 S (C := RX10) (T := TX10) (N := 26) (ci := 10) (by decide +kernel) 0 rfl rfl 25 (by decide) (by decide +kernel) (v := .ref a3) rfl dX10_survey_46 ?_
    refine lv_iconst (v := iI (0)) C0.1 C0.2.1 dX10_survey_49 rfl ?_
    refine lv_iconst (v := iI (0)) C0.1 C0.2.1 dX10_survey_50 rfl ?_
    refine k_iast (ws' := [(hM, .inr (10, [.ref aD, .ref aM, .int (iI (st)), .int (iI (chs d)), .int (iI (gTA d)), .int (iI (gT d)), .int (iI (gTS d)), .int (iI (gCS d)), .int (iI (gCA d)), .int (iI (gN d)), .int (iI (gRoot d)), .ref aX, .int (iI (tl)), .ref aP, .int (iI (pn)), .ref aQ, .int (iI (nc)), .ref aK, .ref aO, .ref aA, .int (iI (kl)), .int (iI (ol)), .int (iI (al)), .ref a1, .ref a2, .ref a3])), (aD, .inl (cA 0, 2048, .inl (fun y_ => iI (d y_)))), (a1, .inl (cA 0, 5, .inl (fun y_ => iI ((va_up oA0 0 (gRoot d)) y_)))), (a2, .inl (cA 0, 5, .inl (fun y_ => iI ((va_up oL0 0 (chn d (gRoot d))) y_)))), (a3, .inl (cA 0, 5, .inl (fun y_ => iI ((va_up oN0 0 (0)) y_))))]) C0 S 4 0 rfl rfl (z := 0) (by omega) (by omega) (by omega) dX10_survey_51 rfl (fun H locs S => ?_)
    refine lv_aload_n C0.1 C0.2.1 dX10_survey_52 rfl (lv_at hl 5 rfl) ?_
    refine k_get C0 S (C := RX10) (T := TX10) (N := 26) (ci := 10) (by decide +kernel) 0 rfl rfl 24 (by decide) (by decide +kernel) (v := .ref a2) rfl dX10_survey_53 ?_
    refine lv_iconst (v := iI (0)) C0.1 C0.2.1 dX10_survey_56 rfl ?_
    refine k_iald C0 S 3 0 rfl rfl (z := 0) (by omega) (by omega) (by omega) dX10_survey_57 ?_
    refine k_topeq (v := iI (chn d (gRoot d))) (congrArg iI (va_up_self _ _ _)) ?_
    refine k_if_ge (tgt := 64) C0 (by constructor <;> omega) dX10_survey_58 (by decide) (fun c58 => ?_) (fun c58 => ?_)
    · have L64 : ∀ (n_ : Nat) (L9 : Nat) (x : Int) (mt : Int) (fl : Int) (dk : Int) (oA : Nat → Int) (oL : Nat → Int) (oN : Nat → Int), (x = (L9 : Int) - 1 ∧ L9 ≤ 5) → (svy d = top d oA oN L9 mt dk) → (∀ l, l < L9 → 0 ≤ oA l ∧ oA l < 256) → (∀ l, l < L9 → 0 ≤ chn d (oA l)) → (∀ l, l < L9 → oL l = chn d (oA l)) → (∀ l, l < L9 → 0 ≤ oN l ∧ oN l ≤ 256) → (0 ≤ dk ∧ dk ≤ mt ∧ mt ≤ 250 ∧ fl = mt - dk) → ((250 - mt).toNat * 600 + sumN oN L9 < n_) → ∀ (H : Heap) (locs : List Loc), kS D vwCl (kTys cA) A s [(hM, .inr (10, [.ref aD, .ref aM, .int (iI (st)), .int (iI (chs d)), .int (iI (gTA d)), .int (iI (gT d)), .int (iI (gTS d)), .int (iI (gCS d)), .int (iI (gCA d)), .int (iI (gN d)), .int (iI (gRoot d)), .ref aX, .int (iI (tl)), .ref aP, .int (iI (pn)), .ref aQ, .int (iI (nc)), .ref aK, .ref aO, .ref aA, .int (iI (kl)), .int (iI (ol)), .int (iI (al)), .ref a1, .ref a2, .ref a3])), (aD, .inl (cA 0, 2048, .inl (fun y_ => iI (d y_)))), (a1, .inl (cA 0, 5, .inl (fun y_ => iI (oA y_)))), (a2, .inl (cA 0, 5, .inl (fun y_ => iI (oL y_)))), (a3, .inl (cA 0, 5, .inl (fun y_ => iI (oN y_))))] H locs → ∀ ls : Array Slot, lv_has ls 8 [(5, .int (iI (dk))), (4, .int (iI (fl))), (3, .int (iI (mt))), (2, .int (iI (x))), (1, .int (iI (vol d))), (0, .ref hM)] → W p l e rmX10_survey s m args below meth c H locs 0 0 Q (F0 m 64 ls []) := by
        intro n_
        induction n_ with
        | zero => intro L9 x mt fl dk oA oL oN hi64_0 hi64_1 hi64_2 hi64_3 hi64_4 hi64_5 hi64_6 hm; exact absurd hm (Nat.not_lt_zero _)
        | succ n_ ih64 =>
          intro L9 x mt fl dk oA oL oN hi64_0 hi64_1 hi64_2 hi64_3 hi64_4 hi64_5 hi64_6 hm H locs S ls hl
          refine lv_iload_n C0.1 C0.2.1 dX10_survey_64 rfl (lv_at hl 3 rfl) ?_
          refine k_if_lt (tgt := 231) C0 (by constructor <;> omega) dX10_survey_65 (by decide) (fun c65 => ?_) (fun c65 => ?_)
          · refine lv_iload C0.1 C0.2.1 dX10_survey_231 (lv_at hl 1 rfl) ?_
            refine lv_sipush (v := iI (1000)) C0.1 C0.2.1 dX10_survey_233 (by decide) ?_
            refine lv_iload C0.1 C0.2.1 dX10_survey_236 (lv_at hl 0 rfl) ?_
            refine k_imul C0 dX10_survey_238 ?_
            refine k_iadd C0 dX10_survey_239 ?_
            subst hQ
            refine k_iret C0 S hAe hsz hr hlk dX10_survey_240 ?_
            have hz : L9 = 0 := by omega
            subst hz
            have hq : svy d = mt - dk + 1000 * dk := hi64_1
            exact ⟨_, _, _, _, _, _, _, _, _, _, _, congrArg iI (by rw [surS_2 (by omega), hq]; omega), rfl⟩
          · obtain ⟨lv, rfl⟩ : ∃ lv, L9 = lv + 1 := ⟨L9 - 1, by omega⟩
            have ex : x.toNat = lv := by omega
            have hcn : 0 ≤ chn d (oA lv) := (hi64_3 lv (by omega))
            have hoA := hi64_2 lv (by omega)
            have hoL := hi64_4 lv (by omega)
            have hoN := hi64_5 lv (by omega)
            have hnr := nsl_range hB2 hcn
            have hcall := chn_all hB2 hcn
            refine lv_aload_n C0.1 C0.2.1 dX10_survey_68 rfl (lv_at hl 5 rfl) ?_
            refine lv_aload_n C0.1 C0.2.1 dX10_survey_69 rfl (lv_at hl 5 rfl) ?_
            refine k_get C0 S (C := RX10) (T := TX10) (N := 26) (ci := 10) (by decide +kernel) 0 rfl rfl 23 (by decide) (by decide +kernel) (v := .ref a1) rfl dX10_survey_70 ?_
            refine lv_iload_n C0.1 C0.2.1 dX10_survey_73 rfl (lv_at hl 3 rfl) ?_
            refine k_iald C0 S 2 0 rfl rfl (z := x) (by omega) (by omega) (by omega) dX10_survey_74 ?_
            refine k_topeq (v := iI (oA lv)) (by rw [ex]) ?_
            refine lv_aload_n C0.1 C0.2.1 dX10_survey_75 rfl (lv_at hl 5 rfl) ?_
            refine k_get C0 S (C := RX10) (T := TX10) (N := 26) (ci := 10) (by decide +kernel) 0 rfl rfl 24 (by decide) (by decide +kernel) (v := .ref a2) rfl dX10_survey_76 ?_
            refine lv_iload_n C0.1 C0.2.1 dX10_survey_79 rfl (lv_at hl 3 rfl) ?_
            refine k_iald C0 S 3 0 rfl rfl (z := x) (by omega) (by omega) (by omega) dX10_survey_80 ?_
            refine k_topeq (v := iI (chn d (oA lv))) (by rw [ex, hoL]) ?_
            refine lv_aload_n C0.1 C0.2.1 dX10_survey_81 rfl (lv_at hl 5 rfl) ?_
            refine k_get C0 S (C := RX10) (T := TX10) (N := 26) (ci := 10) (by decide +kernel) 0 rfl rfl 25 (by decide) (by decide +kernel) (v := .ref a3) rfl dX10_survey_82 ?_
            refine lv_iload_n C0.1 C0.2.1 dX10_survey_85 rfl (lv_at hl 3 rfl) ?_
            refine k_iald C0 S 4 0 rfl rfl (z := x) (by omega) (by omega) (by omega) dX10_survey_86 ?_
            refine k_topeq (v := iI (oN lv)) (by rw [ex]) ?_
            refine k_calli (n := 3) (wr := [(a1, .inl (cA 0, 5, .inl (fun y_ => iI (oA y_)))), (a2, .inl (cA 0, 5, .inl (fun y_ => iI (oL y_)))), (a3, .inl (cA 0, 5, .inl (fun y_ => iI (oN y_))))]) C0 S (c_X10_nth l D cA hM aD aM aX aP aQ aK aO aA a1 a2 a3 (st) (tl) (pn) (nc) (kl) (ol) (al) d (oA lv) (oN lv) hd hB2 (by omega) (by omega) hcn (by omega) (by omega)) gX10_survey_X10_nth rfl ⟨rfl, rfl⟩ (by decide +kernel) ⟨Nat.le_of_ble_eq_true rfl, Nat.le_of_ble_eq_true rfl⟩ [0, 1] [2, 3, 4] rfl rfl rfl rfl (by decide) (ci := 10) (q0 := 0) rfl rfl (As := [.int (iI (oA lv)), .int (iI (chn d (oA lv))), .int (iI (oN lv))]) rfl hl.1 rfl (Nat.le_of_ble_eq_true rfl) dX10_survey_87 ⟨Nat.zero_le _, Nat.zero_le _⟩ (fun r u H locs hp S => ?_)
            obtain ⟨rfl, rfl⟩ := hp
            have S := S.sub (ws' := [(hM, .inr (10, [.ref aD, .ref aM, .int (iI (st)), .int (iI (chs d)), .int (iI (gTA d)), .int (iI (gT d)), .int (iI (gTS d)), .int (iI (gCS d)), .int (iI (gCA d)), .int (iI (gN d)), .int (iI (gRoot d)), .ref aX, .int (iI (tl)), .ref aP, .int (iI (pn)), .ref aQ, .int (iI (nc)), .ref aK, .ref aO, .ref aA, .int (iI (kl)), .int (iI (ol)), .int (iI (al)), .ref a1, .ref a2, .ref a3])), (aD, .inl (cA 0, 2048, .inl (fun y_ => iI (d y_)))), (a1, .inl (cA 0, 5, .inl (fun y_ => iI (oA y_)))), (a2, .inl (cA 0, 5, .inl (fun y_ => iI (oL y_)))), (a3, .inl (cA 0, 5, .inl (fun y_ => iI (oN y_))))]) [3, 4, 0, 1, 2] rfl rfl
            have hb15 := ent_range hB2 hcn (j := (oN lv)) (by omega)
            refine lv_istore (lv' := [(6, .int (iI (ent d (oA lv) (chn d (oA lv)) (oN lv)))), (5, .int (iI (dk))), (4, .int (iI (fl))), (3, .int (iI (mt))), (2, .int (iI (x))), (1, .int (iI (vol d))), (0, .ref hM)]) C0.1 C0.2.1 dX10_survey_90 hl (by decide) rfl (fun ls hl => ?_)
            refine lv_aload_n C0.1 C0.2.1 dX10_survey_92 rfl (lv_at hl 6 rfl) ?_
            refine k_get C0 S (C := RX10) (T := TX10) (N := 26) (ci := 10) (by decide +kernel) 0 rfl rfl 25 (by decide) (by decide +kernel) (v := .ref a3) rfl dX10_survey_93 ?_
            refine lv_iload_n C0.1 C0.2.1 dX10_survey_96 rfl (lv_at hl 4 rfl) ?_
            refine lv_aload_n C0.1 C0.2.1 dX10_survey_97 rfl (lv_at hl 6 rfl) ?_
            refine k_get C0 S (C := RX10) (T := TX10) (N := 26) (ci := 10) (by decide +kernel) 0 rfl rfl 25 (by decide) (by decide +kernel) (v := .ref a3) rfl dX10_survey_98 ?_
            refine lv_iload_n C0.1 C0.2.1 dX10_survey_101 rfl (lv_at hl 4 rfl) ?_
            refine k_iald C0 S 4 0 rfl rfl (z := x) (by omega) (by omega) (by omega) dX10_survey_102 ?_
            refine k_topeq (v := iI (oN lv)) (by rw [ex]) ?_
            refine lv_iconst (v := iI (1)) C0.1 C0.2.1 dX10_survey_103 rfl ?_
            refine k_iadd C0 dX10_survey_104 ?_
            refine k_iast (ws' := [(hM, .inr (10, [.ref aD, .ref aM, .int (iI (st)), .int (iI (chs d)), .int (iI (gTA d)), .int (iI (gT d)), .int (iI (gTS d)), .int (iI (gCS d)), .int (iI (gCA d)), .int (iI (gN d)), .int (iI (gRoot d)), .ref aX, .int (iI (tl)), .ref aP, .int (iI (pn)), .ref aQ, .int (iI (nc)), .ref aK, .ref aO, .ref aA, .int (iI (kl)), .int (iI (ol)), .int (iI (al)), .ref a1, .ref a2, .ref a3])), (aD, .inl (cA 0, 2048, .inl (fun y_ => iI (d y_)))), (a1, .inl (cA 0, 5, .inl (fun y_ => iI (oA y_)))), (a2, .inl (cA 0, 5, .inl (fun y_ => iI (oL y_)))), (a3, .inl (cA 0, 5, .inl (fun y_ => iI ((va_up oN (x).toNat ((oN lv) + 1)) y_))))]) C0 S 4 0 rfl rfl (z := x) (by omega) (by omega) (by omega) dX10_survey_105 rfl (fun H locs S => ?_)
            refine lv_iload C0.1 C0.2.1 dX10_survey_106 (lv_at hl 0 rfl) ?_
            refine k_if_ge (tgt := 117) C0 (by constructor <;> omega) dX10_survey_108 (by decide) (fun c108 => ?_) (fun c108 => ?_)
            · have c108 : ¬ ent d (oA lv) (chn d (oA lv)) (oN lv) < 0 := by omega
              have hlt := ent_lt c108
              refine lv_aload_n C0.1 C0.2.1 dX10_survey_117 rfl (lv_at hl 6 rfl) ?_
              refine lv_iload C0.1 C0.2.1 dX10_survey_118 (lv_at hl 0 rfl) ?_
              refine k_calli (n := 1) (wr := [(a1, .inl (cA 0, 5, .inl (fun y_ => iI (oA y_)))), (a2, .inl (cA 0, 5, .inl (fun y_ => iI (oL y_)))), (a3, .inl (cA 0, 5, .inl (fun y_ => iI ((va_up oN (x).toNat ((oN lv) + 1)) y_))))]) C0 S (c_X10_isPassed l D cA hM aD aM aX aP aQ aK aO aA a1 a2 a3 (st) (chs d) (gTA d) (gT d) (gTS d) (gCS d) (gCA d) (gN d) (gRoot d) (tl) (pn) (nc) (kl) (ol) (al) d (ent d (oA lv) (chn d (oA lv)) (oN lv)) hd (by omega) (by omega)) gX10_survey_X10_isPassed rfl ⟨rfl, rfl⟩ (by decide +kernel) ⟨Nat.le_of_ble_eq_true rfl, Nat.le_of_ble_eq_true rfl⟩ [0, 1] [2, 3, 4] rfl rfl rfl rfl (by decide) (ci := 10) (q0 := 0) rfl rfl (As := [.int (iI (ent d (oA lv) (chn d (oA lv)) (oN lv)))]) rfl hl.1 rfl (Nat.le_of_ble_eq_true rfl) dX10_survey_120 ⟨Nat.zero_le _, Nat.zero_le _⟩ (fun r u H locs hp S => ?_)
              obtain ⟨rfl, rfl⟩ := hp
              have S := S.sub (ws' := [(hM, .inr (10, [.ref aD, .ref aM, .int (iI (st)), .int (iI (chs d)), .int (iI (gTA d)), .int (iI (gT d)), .int (iI (gTS d)), .int (iI (gCS d)), .int (iI (gCA d)), .int (iI (gN d)), .int (iI (gRoot d)), .ref aX, .int (iI (tl)), .ref aP, .int (iI (pn)), .ref aQ, .int (iI (nc)), .ref aK, .ref aO, .ref aA, .int (iI (kl)), .int (iI (ol)), .int (iI (al)), .ref a1, .ref a2, .ref a3])), (aD, .inl (cA 0, 2048, .inl (fun y_ => iI (d y_)))), (a1, .inl (cA 0, 5, .inl (fun y_ => iI (oA y_)))), (a2, .inl (cA 0, 5, .inl (fun y_ => iI (oL y_)))), (a3, .inl (cA 0, 5, .inl (fun y_ => iI ((va_up oN (x).toNat ((oN lv) + 1)) y_))))]) [3, 4, 0, 1, 2] rfl rfl
              refine k_bz_ne (tgt := 228) C0 dX10_survey_123 (by decide) (fun c123 => ?_) (fun c123 => ?_)
              · refine lv_goto (tgt := 64) C0.1 C0.2.1 dX10_survey_228 (by decide) ?_
                rw [ex] at S
                have hs3 : sumN (va_up oN lv (oN lv + 1)) (lv + 1) = sumN (va_up oN lv (oN lv + 1)) lv + (257 - (va_up oN lv (oN lv + 1)) lv).toNat := rfl
                have hs4 : sumN (va_up oN lv (oN lv + 1)) lv = sumN oN lv := sumN_up lv (by omega)
                rw [va_up_self] at hs3
                have hs0 : sumN oN (lv + 1) = sumN oN lv + (257 - oN lv).toNat := rfl
                have hN1 : ∀ l, l < lv + 1 → 0 ≤ va_up oN lv (oN lv + 1) l ∧ va_up oN lv (oN lv + 1) l ≤ 256 := fun l hl => by unfold va_up; split; omega; exact hi64_5 l (by omega)
                have hq := top_slot (oA := oA) (L := lv) (m := mt) (k := dk) (cl_pas c108 c123)
                exact ih64 (lv + 1) (x) (mt) (fl) (dk) (oA) (oL) (va_up oN lv (oN lv + 1)) ⟨by omega, by omega⟩ (hi64_1.trans hq) hi64_2 hi64_3 hi64_4 hN1 ⟨by omega, by omega, by omega, by omega⟩ (by omega) _ _ S _ (lv_sub hl [1, 2, 3, 4, 5, 6] rfl)
              · refine lv_iinc (v := iI (mt + 1)) (lv' := [(3, .int (iI (mt + 1))), (6, .int (iI (ent d (oA lv) (chn d (oA lv)) (oN lv)))), (5, .int (iI (dk))), (4, .int (iI (fl))), (2, .int (iI (x))), (1, .int (iI (vol d))), (0, .ref hM)]) C0.1 C0.2.1 dX10_survey_126 hl (k := 3) rfl (iI_add _ _) (by decide) rfl (fun ls hl => ?_)
                refine lv_iload_n C0.1 C0.2.1 dX10_survey_129 rfl (lv_at hl 0 rfl) ?_
                refine lv_sipush (v := iI (250)) C0.1 C0.2.1 dX10_survey_130 (by decide) ?_
                refine k_icmp_le (tgt := 139) C0 (by constructor <;> omega) ⟨by decide, by decide⟩ dX10_survey_133 (by decide) (fun c133 => ?_) (fun c133 => ?_)
                · refine lv_aload_n C0.1 C0.2.1 dX10_survey_139 rfl (lv_at hl 6 rfl) ?_
                  refine lv_iload C0.1 C0.2.1 dX10_survey_140 (lv_at hl 1 rfl) ?_
                  refine k_calli (n := 1) (wr := [(a1, .inl (cA 0, 5, .inl (fun y_ => iI (oA y_)))), (a2, .inl (cA 0, 5, .inl (fun y_ => iI (oL y_)))), (a3, .inl (cA 0, 5, .inl (fun y_ => iI ((va_up oN (x).toNat ((oN lv) + 1)) y_))))]) C0 S (c_X10_isDirectory l D cA hM aD aM aX aP aQ aK aO aA a1 a2 a3 (st) (chs d) (gTA d) (gT d) (gTS d) (gCS d) (gCA d) (gN d) (gRoot d) (tl) (pn) (nc) (kl) (ol) (al) d (ent d (oA lv) (chn d (oA lv)) (oN lv)) hd (by omega) (by omega)) gX10_survey_X10_isDirectory rfl ⟨rfl, rfl⟩ (by decide +kernel) ⟨Nat.le_of_ble_eq_true rfl, Nat.le_of_ble_eq_true rfl⟩ [0, 1] [2, 3, 4] rfl rfl rfl rfl (by decide) (ci := 10) (q0 := 0) rfl rfl (As := [.int (iI (ent d (oA lv) (chn d (oA lv)) (oN lv)))]) rfl hl.1 rfl (Nat.le_of_ble_eq_true rfl) dX10_survey_142 ⟨Nat.zero_le _, Nat.zero_le _⟩ (fun r u H locs hp S => ?_)
                  obtain ⟨rfl, rfl⟩ := hp
                  have S := S.sub (ws' := [(hM, .inr (10, [.ref aD, .ref aM, .int (iI (st)), .int (iI (chs d)), .int (iI (gTA d)), .int (iI (gT d)), .int (iI (gTS d)), .int (iI (gCS d)), .int (iI (gCA d)), .int (iI (gN d)), .int (iI (gRoot d)), .ref aX, .int (iI (tl)), .ref aP, .int (iI (pn)), .ref aQ, .int (iI (nc)), .ref aK, .ref aO, .ref aA, .int (iI (kl)), .int (iI (ol)), .int (iI (al)), .ref a1, .ref a2, .ref a3])), (aD, .inl (cA 0, 2048, .inl (fun y_ => iI (d y_)))), (a1, .inl (cA 0, 5, .inl (fun y_ => iI (oA y_)))), (a2, .inl (cA 0, 5, .inl (fun y_ => iI (oL y_)))), (a3, .inl (cA 0, 5, .inl (fun y_ => iI ((va_up oN (x).toNat ((oN lv) + 1)) y_))))]) [3, 4, 0, 1, 2] rfl rfl
                  refine k_bz_ne (tgt := 154) C0 dX10_survey_145 (by decide) (fun c145 => ?_) (fun c145 => ?_)
                  · refine lv_aload_n C0.1 C0.2.1 dX10_survey_154 rfl (lv_at hl 6 rfl) ?_
                    refine lv_aload_n C0.1 C0.2.1 dX10_survey_155 rfl (lv_at hl 6 rfl) ?_
                    refine k_get C0 S (C := RX10) (T := TX10) (N := 26) (ci := 10) (by decide +kernel) 0 rfl rfl 0 (by decide) (by decide +kernel) (v := .ref aD) rfl dX10_survey_156 ?_
                    refine lv_iload C0.1 C0.2.1 dX10_survey_159 (lv_at hl 1 rfl) ?_
                    refine lv_iconst (v := iI (5)) C0.1 C0.2.1 dX10_survey_161 rfl ?_
                    refine k_iadd C0 dX10_survey_162 ?_
                    refine k_iald C0 S 1 0 rfl rfl (z := (ent d (oA lv) (chn d (oA lv)) (oN lv)) + 5) (by omega) (by omega) (by omega) dX10_survey_163 ?_
                    refine k_topeq (v := iI (rd d ((ent d (oA lv) (chn d (oA lv)) (oN lv)) + 5))) rfl ?_
                    have hb20 := By.rd hd ((ent d (oA lv) (chn d (oA lv)) (oN lv)) + 5)
                    refine k_calli (n := 1) (wr := [(a1, .inl (cA 0, 5, .inl (fun y_ => iI (oA y_)))), (a2, .inl (cA 0, 5, .inl (fun y_ => iI (oL y_)))), (a3, .inl (cA 0, 5, .inl (fun y_ => iI ((va_up oN (x).toNat ((oN lv) + 1)) y_))))]) C0 S (c_X10_chain l D cA hM aD aM aX aP aQ aK aO aA a1 a2 a3 (st) (tl) (pn) (nc) (kl) (ol) (al) d (rd d ((ent d (oA lv) (chn d (oA lv)) (oN lv)) + 5)) hd hB2 (by omega) (by omega)) gX10_survey_X10_chain rfl ⟨rfl, rfl⟩ (by decide +kernel) ⟨Nat.le_of_ble_eq_true rfl, Nat.le_of_ble_eq_true rfl⟩ [0, 1] [2, 3, 4] rfl rfl rfl rfl (by decide) (ci := 10) (q0 := 0) rfl rfl (As := [.int (iI (rd d ((ent d (oA lv) (chn d (oA lv)) (oN lv)) + 5)))]) rfl hl.1 rfl (Nat.le_of_ble_eq_true rfl) dX10_survey_164 ⟨Nat.zero_le _, Nat.zero_le _⟩ (fun r u H locs hp S => ?_)
                    obtain ⟨rfl, rfl⟩ := hp
                    have S := S.sub (ws' := [(hM, .inr (10, [.ref aD, .ref aM, .int (iI (st)), .int (iI (chs d)), .int (iI (gTA d)), .int (iI (gT d)), .int (iI (gTS d)), .int (iI (gCS d)), .int (iI (gCA d)), .int (iI (gN d)), .int (iI (gRoot d)), .ref aX, .int (iI (tl)), .ref aP, .int (iI (pn)), .ref aQ, .int (iI (nc)), .ref aK, .ref aO, .ref aA, .int (iI (kl)), .int (iI (ol)), .int (iI (al)), .ref a1, .ref a2, .ref a3])), (aD, .inl (cA 0, 2048, .inl (fun y_ => iI (d y_)))), (a1, .inl (cA 0, 5, .inl (fun y_ => iI (oA y_)))), (a2, .inl (cA 0, 5, .inl (fun y_ => iI (oL y_)))), (a3, .inl (cA 0, 5, .inl (fun y_ => iI ((va_up oN (x).toNat ((oN lv) + 1)) y_))))]) [3, 4, 0, 1, 2] rfl rfl
                    have hb23 : chn d (rd d ((ent d (oA lv) (chn d (oA lv)) (oN lv)) + 5)) < 0 ∨ (1 ≤ chn d (rd d ((ent d (oA lv) (chn d (oA lv)) (oN lv)) + 5)) ∧ chn d (rd d ((ent d (oA lv) (chn d (oA lv)) (oN lv)) + 5)) ≤ gN d) := by rcases Int.lt_or_le (chn d (rd d ((ent d (oA lv) (chn d (oA lv)) (oN lv)) + 5))) 0 with h | h; exact Or.inl h; exact Or.inr (chn_all hB2 h).1
                    have hb24 : -1 ≤ chn d (rd d ((ent d (oA lv) (chn d (oA lv)) (oN lv)) + 5)) := chn_ge _ _
                    refine lv_istore (lv' := [(7, .int (iI (chn d (rd d ((ent d (oA lv) (chn d (oA lv)) (oN lv)) + 5))))), (3, .int (iI (mt + 1))), (6, .int (iI (ent d (oA lv) (chn d (oA lv)) (oN lv)))), (5, .int (iI (dk))), (4, .int (iI (fl))), (2, .int (iI (x))), (1, .int (iI (vol d))), (0, .ref hM)]) C0.1 C0.2.1 dX10_survey_167 hl (by decide) rfl (fun ls hl => ?_)
                    refine lv_iload_n C0.1 C0.2.1 dX10_survey_169 rfl (lv_at hl 5 rfl) ?_
                    refine lv_iconst (v := iI (4)) C0.1 C0.2.1 dX10_survey_170 rfl ?_
                    refine k_icmp_eq (tgt := 179) C0 (by constructor <;> omega) ⟨by decide, by decide⟩ dX10_survey_171 (by decide) (fun c171 => ?_) (fun c171 => ?_)
                    · refine lv_iload_n C0.1 C0.2.1 dX10_survey_179 rfl (lv_at hl 5 rfl) ?_
                      refine lv_iconst (v := iI (4)) C0.1 C0.2.1 dX10_survey_180 rfl ?_
                      refine k_icmp_ne (tgt := 189) C0 (by constructor <;> omega) ⟨by decide, by decide⟩ dX10_survey_181 (by decide) (fun c181 => ?_) (fun c181 => ?_)
                      · refine lv_bipush (v := iI (-9)) C0.1 C0.2.1 dX10_survey_189 (by decide) ?_
                        subst hQ
                        refine k_iret C0 S hAe hsz hr hlk dX10_survey_191 ?_
                        have hx4 : lv ≤ 3 ∧ chn d (rd d (ent d (oA lv) (chn d (oA lv)) (oN lv) + 5)) < 0 := by omega
                        have ece := cet_dir (d := d) (r := 4 - lv) (k := dk) (show ¬ 250 < mt + 1 by omega) c145
                        rw [show 4 - lv = (3 - lv) + 1 by omega, cen_no (by omega), ← show 4 - lv = (3 - lv) + 1 by omega] at ece
                        have hq : svy d = _ := hi64_1.trans (top_1 ((cl_bad c108 c123 (by rw [ece]; exact (show (-9 : Int) < 0 by decide))).trans ece) (by decide))
                        exact ⟨_, _, _, _, _, _, _, _, _, _, _, congrArg iI (by rw [surS_2 (by omega), hq]), rfl⟩
                      · refine lv_bipush (v := iI (-13)) C0.1 C0.2.1 dX10_survey_184 (by decide) ?_
                        refine lv_goto (tgt := 191) C0.1 C0.2.1 dX10_survey_186 (by decide) ?_
                        subst hQ
                        refine k_iret C0 S hAe hsz hr hlk dX10_survey_191 ?_
                        have hx4 : lv = 4 := by omega
                        subst hx4
                        have ece : cet d (4 - 4) (ent d (oA 4) (chn d (oA 4)) (oN 4)) mt dk = (-13, mt + 1, dk + 1) := cet_dir (by omega) c145
                        have hq : svy d = _ := hi64_1.trans (top_1 ((cl_bad c108 c123 (by rw [ece]; exact (show (-13 : Int) < 0 by decide))).trans ece) (by decide))
                        exact ⟨_, _, _, _, _, _, _, _, _, _, _, congrArg iI (by rw [surS_2 (by omega), hq]), rfl⟩
                    · refine lv_iload C0.1 C0.2.1 dX10_survey_174 (lv_at hl 0 rfl) ?_
                      refine k_if_ge (tgt := 192) C0 (by constructor <;> omega) dX10_survey_176 (by decide) (fun c176 => ?_) (fun c176 => ?_)
                      · refine lv_iinc (v := iI (dk + 1)) (lv' := [(5, .int (iI (dk + 1))), (7, .int (iI (chn d (rd d ((ent d (oA lv) (chn d (oA lv)) (oN lv)) + 5))))), (3, .int (iI (mt + 1))), (6, .int (iI (ent d (oA lv) (chn d (oA lv)) (oN lv)))), (4, .int (iI (fl))), (2, .int (iI (x))), (1, .int (iI (vol d))), (0, .ref hM)]) C0.1 C0.2.1 dX10_survey_192 hl (k := 3) rfl (iI_add _ _) (by decide) rfl (fun ls hl => ?_)
                        refine lv_iinc (v := iI (x + 1)) (lv' := [(2, .int (iI (x + 1))), (5, .int (iI (dk + 1))), (7, .int (iI (chn d (rd d ((ent d (oA lv) (chn d (oA lv)) (oN lv)) + 5))))), (3, .int (iI (mt + 1))), (6, .int (iI (ent d (oA lv) (chn d (oA lv)) (oN lv)))), (4, .int (iI (fl))), (1, .int (iI (vol d))), (0, .ref hM)]) C0.1 C0.2.1 dX10_survey_195 hl (k := 5) rfl (iI_add _ _) (by decide) rfl (fun ls hl => ?_)
                        refine lv_aload_n C0.1 C0.2.1 dX10_survey_198 rfl (lv_at hl 7 rfl) ?_
                        refine k_get C0 S (C := RX10) (T := TX10) (N := 26) (ci := 10) (by decide +kernel) 0 rfl rfl 23 (by decide) (by decide +kernel) (v := .ref a1) rfl dX10_survey_199 ?_
                        refine lv_iload_n C0.1 C0.2.1 dX10_survey_202 rfl (lv_at hl 0 rfl) ?_
                        refine lv_aload_n C0.1 C0.2.1 dX10_survey_203 rfl (lv_at hl 7 rfl) ?_
                        refine k_get C0 S (C := RX10) (T := TX10) (N := 26) (ci := 10) (by decide +kernel) 0 rfl rfl 0 (by decide) (by decide +kernel) (v := .ref aD) rfl dX10_survey_204 ?_
                        refine lv_iload C0.1 C0.2.1 dX10_survey_207 (lv_at hl 4 rfl) ?_
                        refine lv_iconst (v := iI (5)) C0.1 C0.2.1 dX10_survey_209 rfl ?_
                        refine k_iadd C0 dX10_survey_210 ?_
                        refine k_iald C0 S 1 0 rfl rfl (z := (ent d (oA lv) (chn d (oA lv)) (oN lv)) + 5) (by omega) (by omega) (by omega) dX10_survey_211 ?_
                        refine k_topeq (v := iI (rd d ((ent d (oA lv) (chn d (oA lv)) (oN lv)) + 5))) rfl ?_
                        have hb25 := By.rd hd ((ent d (oA lv) (chn d (oA lv)) (oN lv)) + 5)
                        refine k_iast (ws' := [(hM, .inr (10, [.ref aD, .ref aM, .int (iI (st)), .int (iI (chs d)), .int (iI (gTA d)), .int (iI (gT d)), .int (iI (gTS d)), .int (iI (gCS d)), .int (iI (gCA d)), .int (iI (gN d)), .int (iI (gRoot d)), .ref aX, .int (iI (tl)), .ref aP, .int (iI (pn)), .ref aQ, .int (iI (nc)), .ref aK, .ref aO, .ref aA, .int (iI (kl)), .int (iI (ol)), .int (iI (al)), .ref a1, .ref a2, .ref a3])), (aD, .inl (cA 0, 2048, .inl (fun y_ => iI (d y_)))), (a1, .inl (cA 0, 5, .inl (fun y_ => iI ((va_up oA (x + 1).toNat (rd d ((ent d (oA lv) (chn d (oA lv)) (oN lv)) + 5))) y_)))), (a2, .inl (cA 0, 5, .inl (fun y_ => iI (oL y_)))), (a3, .inl (cA 0, 5, .inl (fun y_ => iI ((va_up oN (x).toNat ((oN lv) + 1)) y_))))]) C0 S 2 0 rfl rfl (z := x + 1) (by omega) (by omega) (by omega) dX10_survey_212 rfl (fun H locs S => ?_)
                        refine lv_aload_n C0.1 C0.2.1 dX10_survey_213 rfl (lv_at hl 7 rfl) ?_
                        refine k_get C0 S (C := RX10) (T := TX10) (N := 26) (ci := 10) (by decide +kernel) 0 rfl rfl 24 (by decide) (by decide +kernel) (v := .ref a2) rfl dX10_survey_214 ?_
                        refine lv_iload_n C0.1 C0.2.1 dX10_survey_217 rfl (lv_at hl 0 rfl) ?_
                        refine lv_iload C0.1 C0.2.1 dX10_survey_218 (lv_at hl 2 rfl) ?_
                        refine k_iast (ws' := [(hM, .inr (10, [.ref aD, .ref aM, .int (iI (st)), .int (iI (chs d)), .int (iI (gTA d)), .int (iI (gT d)), .int (iI (gTS d)), .int (iI (gCS d)), .int (iI (gCA d)), .int (iI (gN d)), .int (iI (gRoot d)), .ref aX, .int (iI (tl)), .ref aP, .int (iI (pn)), .ref aQ, .int (iI (nc)), .ref aK, .ref aO, .ref aA, .int (iI (kl)), .int (iI (ol)), .int (iI (al)), .ref a1, .ref a2, .ref a3])), (aD, .inl (cA 0, 2048, .inl (fun y_ => iI (d y_)))), (a1, .inl (cA 0, 5, .inl (fun y_ => iI ((va_up oA (x + 1).toNat (rd d ((ent d (oA lv) (chn d (oA lv)) (oN lv)) + 5))) y_)))), (a2, .inl (cA 0, 5, .inl (fun y_ => iI ((va_up oL (x + 1).toNat (chn d (rd d ((ent d (oA lv) (chn d (oA lv)) (oN lv)) + 5)))) y_)))), (a3, .inl (cA 0, 5, .inl (fun y_ => iI ((va_up oN (x).toNat ((oN lv) + 1)) y_))))]) C0 S 3 0 rfl rfl (z := x + 1) (by omega) (by omega) (by omega) dX10_survey_220 rfl (fun H locs S => ?_)
                        refine lv_aload_n C0.1 C0.2.1 dX10_survey_221 rfl (lv_at hl 7 rfl) ?_
                        refine k_get C0 S (C := RX10) (T := TX10) (N := 26) (ci := 10) (by decide +kernel) 0 rfl rfl 25 (by decide) (by decide +kernel) (v := .ref a3) rfl dX10_survey_222 ?_
                        refine lv_iload_n C0.1 C0.2.1 dX10_survey_225 rfl (lv_at hl 0 rfl) ?_
                        refine lv_iconst (v := iI (0)) C0.1 C0.2.1 dX10_survey_226 rfl ?_
                        refine k_iast (ws' := [(hM, .inr (10, [.ref aD, .ref aM, .int (iI (st)), .int (iI (chs d)), .int (iI (gTA d)), .int (iI (gT d)), .int (iI (gTS d)), .int (iI (gCS d)), .int (iI (gCA d)), .int (iI (gN d)), .int (iI (gRoot d)), .ref aX, .int (iI (tl)), .ref aP, .int (iI (pn)), .ref aQ, .int (iI (nc)), .ref aK, .ref aO, .ref aA, .int (iI (kl)), .int (iI (ol)), .int (iI (al)), .ref a1, .ref a2, .ref a3])), (aD, .inl (cA 0, 2048, .inl (fun y_ => iI (d y_)))), (a1, .inl (cA 0, 5, .inl (fun y_ => iI ((va_up oA (x + 1).toNat (rd d ((ent d (oA lv) (chn d (oA lv)) (oN lv)) + 5))) y_)))), (a2, .inl (cA 0, 5, .inl (fun y_ => iI ((va_up oL (x + 1).toNat (chn d (rd d ((ent d (oA lv) (chn d (oA lv)) (oN lv)) + 5)))) y_)))), (a3, .inl (cA 0, 5, .inl (fun y_ => iI ((va_up (va_up oN (x).toNat ((oN lv) + 1)) (x + 1).toNat (0)) y_))))]) C0 S 4 0 rfl rfl (z := x + 1) (by omega) (by omega) (by omega) dX10_survey_227 rfl (fun H locs S => ?_)
                        refine lv_goto (tgt := 64) C0.1 C0.2.1 dX10_survey_228 (by decide) ?_
                        rw [ex, show (x + 1).toNat = lv + 1 by omega] at S
                        have hq := top_push (oA := oA) (oN := oN) (m := mt) (k := dk) (show lv ≤ 3 by omega) c108 c123 (by omega) c145 (by omega)
                        have hs1 : sumN (va_up (va_up oN lv (oN lv + 1)) (lv + 1) 0) (lv + 2) = sumN (va_up (va_up oN lv (oN lv + 1)) (lv + 1) 0) (lv + 1) + (257 - va_up (va_up oN lv (oN lv + 1)) (lv + 1) 0 (lv + 1)).toNat := rfl
                        have hs2 : sumN (va_up (va_up oN lv (oN lv + 1)) (lv + 1) 0) (lv + 1) = sumN (va_up oN lv (oN lv + 1)) (lv + 1) := sumN_up _ (by omega)
                        have hs3 : sumN (va_up oN lv (oN lv + 1)) (lv + 1) = sumN (va_up oN lv (oN lv + 1)) lv + (257 - (va_up oN lv (oN lv + 1)) lv).toNat := rfl
                        have hs4 : sumN (va_up oN lv (oN lv + 1)) lv = sumN oN lv := sumN_up lv (by omega)
                        rw [va_up_self] at hs1 hs3
                        have hs0 : sumN oN (lv + 1) = sumN oN lv + (257 - oN lv).toNat := rfl
                        have hN1 : ∀ l, l < lv + 1 → 0 ≤ va_up oN lv (oN lv + 1) l ∧ va_up oN lv (oN lv + 1) l ≤ 256 := fun l hl => by unfold va_up; split; omega; exact hi64_5 l (by omega)
                        exact ih64 (lv + 2) (x + 1) (mt + 1) (fl) (dk + 1) (va_up oA (lv + 1) (rd d (ent d (oA lv) (chn d (oA lv)) (oN lv) + 5))) (va_up oL (lv + 1) (chn d (rd d (ent d (oA lv) (chn d (oA lv)) (oN lv) + 5)))) (va_up (va_up oN lv (oN lv + 1)) (lv + 1) 0) ⟨by omega, by omega⟩ (hi64_1.trans hq) (fun l hl => by by_cases e : l = lv + 1; (rw [e, va_up_self]; omega); (rw [va_up_ne _ _ e]; exact hi64_2 l (by omega))) (fun l hl => by by_cases e : l = lv + 1; (rw [e, va_up_self]; omega); (rw [va_up_ne _ _ e]; exact hi64_3 l (by omega))) (fun l hl => by by_cases e : l = lv + 1; (rw [e, va_up_self, va_up_self]); (rw [va_up_ne _ _ e, va_up_ne _ _ e]; exact hi64_4 l (by omega))) (fun l hl => by by_cases e : l = lv + 1; (rw [e, va_up_self]; omega); (rw [va_up_ne _ _ e]; exact hN1 l (by omega))) ⟨by omega, by omega, by omega, by omega⟩ (by omega) _ _ S _ (lv_sub hl [1, 5, 3, 0, 6, 7] rfl)
                      · refine lv_iload_n C0.1 C0.2.1 dX10_survey_179 rfl (lv_at hl 5 rfl) ?_
                        refine lv_iconst (v := iI (4)) C0.1 C0.2.1 dX10_survey_180 rfl ?_
                        refine k_icmp_ne (tgt := 189) C0 (by constructor <;> omega) ⟨by decide, by decide⟩ dX10_survey_181 (by decide) (fun c181 => ?_) (fun c181 => ?_)
                        · refine lv_bipush (v := iI (-9)) C0.1 C0.2.1 dX10_survey_189 (by decide) ?_
                          subst hQ
                          refine k_iret C0 S hAe hsz hr hlk dX10_survey_191 ?_
                          have hx4 : lv ≤ 3 ∧ chn d (rd d (ent d (oA lv) (chn d (oA lv)) (oN lv) + 5)) < 0 := by omega
                          have ece := cet_dir (d := d) (r := 4 - lv) (k := dk) (show ¬ 250 < mt + 1 by omega) c145
                          rw [show 4 - lv = (3 - lv) + 1 by omega, cen_no (by omega), ← show 4 - lv = (3 - lv) + 1 by omega] at ece
                          have hq : svy d = _ := hi64_1.trans (top_1 ((cl_bad c108 c123 (by rw [ece]; exact (show (-9 : Int) < 0 by decide))).trans ece) (by decide))
                          exact ⟨_, _, _, _, _, _, _, _, _, _, _, congrArg iI (by rw [surS_2 (by omega), hq]), rfl⟩
                        · refine lv_bipush (v := iI (-13)) C0.1 C0.2.1 dX10_survey_184 (by decide) ?_
                          refine lv_goto (tgt := 191) C0.1 C0.2.1 dX10_survey_186 (by decide) ?_
                          subst hQ
                          refine k_iret C0 S hAe hsz hr hlk dX10_survey_191 ?_
                          have hx4 : lv = 4 := by omega
                          subst hx4
                          have ece : cet d (4 - 4) (ent d (oA 4) (chn d (oA 4)) (oN 4)) mt dk = (-13, mt + 1, dk + 1) := cet_dir (by omega) c145
                          have hq : svy d = _ := hi64_1.trans (top_1 ((cl_bad c108 c123 (by rw [ece]; exact (show (-13 : Int) < 0 by decide))).trans ece) (by decide))
                          exact ⟨_, _, _, _, _, _, _, _, _, _, _, congrArg iI (by rw [surS_2 (by omega), hq]), rfl⟩
                  · refine lv_iinc (v := iI (fl + 1)) (lv' := [(4, .int (iI (fl + 1))), (3, .int (iI (mt + 1))), (6, .int (iI (ent d (oA lv) (chn d (oA lv)) (oN lv)))), (5, .int (iI (dk))), (2, .int (iI (x))), (1, .int (iI (vol d))), (0, .ref hM)]) C0.1 C0.2.1 dX10_survey_148 hl (k := 3) rfl (iI_add _ _) (by decide) rfl (fun ls hl => ?_)
                    refine lv_goto (tgt := 228) C0.1 C0.2.1 dX10_survey_151 (by decide) ?_
                    refine lv_goto (tgt := 64) C0.1 C0.2.1 dX10_survey_228 (by decide) ?_
                    rw [ex] at S
                    have hs3 : sumN (va_up oN lv (oN lv + 1)) (lv + 1) = sumN (va_up oN lv (oN lv + 1)) lv + (257 - (va_up oN lv (oN lv + 1)) lv).toNat := rfl
                    have hs4 : sumN (va_up oN lv (oN lv + 1)) lv = sumN oN lv := sumN_up lv (by omega)
                    rw [va_up_self] at hs3
                    have hs0 : sumN oN (lv + 1) = sumN oN lv + (257 - oN lv).toNat := rfl
                    have hN1 : ∀ l, l < lv + 1 → 0 ≤ va_up oN lv (oN lv + 1) l ∧ va_up oN lv (oN lv + 1) l ≤ 256 := fun l hl => by unfold va_up; split; omega; exact hi64_5 l (by omega)
                    have ece := cet_file (r := 4 - lv) (k := dk) (show ¬ 250 < mt + 1 by omega) c145
                    have eon := cl_on (r := 4 - lv) (k := dk) c108 c123 (by rw [ece]; exact (show ¬ (0 : Int) < 0 by decide))
                    rw [ece] at eon
                    have hq := top_slot (oA := oA) eon
                    exact ih64 (lv + 1) (x) (mt + 1) (fl + 1) (dk) (oA) (oL) (va_up oN lv (oN lv + 1)) ⟨by omega, by omega⟩ (hi64_1.trans hq) hi64_2 hi64_3 hi64_4 hN1 ⟨by omega, by omega, by omega, by omega⟩ (by omega) _ _ S _ (lv_sub hl [3, 0, 1, 4, 5, 6] rfl)
                · refine lv_bipush (v := iI (-14)) C0.1 C0.2.1 dX10_survey_136 (by decide) ?_
                  subst hQ
                  refine k_iret C0 S hAe hsz hr hlk dX10_survey_138 ?_
                  have ece := cet_many (d := d) (r := 4 - lv) (a := ent d (oA lv) (chn d (oA lv)) (oN lv)) (k := dk) (show 250 < mt + 1 by omega)
                  have hq : svy d = _ := hi64_1.trans (top_1 ((cl_bad c108 c123 (by rw [ece]; exact (show (-14 : Int) < 0 by decide))).trans ece) (by decide))
                  exact ⟨_, _, _, _, _, _, _, _, _, _, _, congrArg iI (by rw [surS_2 (by omega), hq]), rfl⟩
            · have c108 : ent d (oA lv) (chn d (oA lv)) (oN lv) < 0 := by omega
              refine lv_iinc (v := iI (x - 1)) (lv' := [(2, .int (iI (x - 1))), (6, .int (iI (ent d (oA lv) (chn d (oA lv)) (oN lv)))), (5, .int (iI (dk))), (4, .int (iI (fl))), (3, .int (iI (mt))), (1, .int (iI (vol d))), (0, .ref hM)]) C0.1 C0.2.1 dX10_survey_111 hl (k := 4) rfl (iI_addn _ _) (by decide) rfl (fun ls hl => ?_)
              refine lv_goto (tgt := 228) C0.1 C0.2.1 dX10_survey_114 (by decide) ?_
              refine lv_goto (tgt := 64) C0.1 C0.2.1 dX10_survey_228 (by decide) ?_
              rw [ex] at S
              have hq := top_pop (oA := oA) (m := mt) (k := dk) c108
              have hs : sumN (va_up oN lv (oN lv + 1)) lv = sumN oN lv := sumN_up lv (by omega)
              have hs0 : sumN oN (lv + 1) = sumN oN lv + (257 - oN lv).toNat := rfl
              exact ih64 (lv) (x - 1) (mt) (fl) (dk) (oA) (oL) (va_up oN lv (oN lv + 1)) ⟨by omega, by omega⟩ (hi64_1.trans hq) (fun l hl => hi64_2 l (by omega)) (fun l hl => hi64_3 l (by omega)) (fun l hl => hi64_4 l (by omega)) (fun l hl => by rw [va_up_ne _ _ (by omega)]; exact hi64_5 l (by omega)) ⟨by omega, by omega, by omega, by omega⟩ (by omega) _ _ S _ (lv_sub hl [2, 3, 4, 0, 5, 6] rfl)
      exact L64 ((250 - (0 : Int)).toNat * 600 + sumN (va_up oN0 0 0) 1 + 1) (1) (0) (0) (0) (0) ((va_up oA0 0 (gRoot d))) ((va_up oL0 0 (chn d (gRoot d)))) ((va_up oN0 0 (0))) ⟨by decide, by decide⟩ (svy_top (by omega) (va_up_self _ _ _) (va_up_self _ _ _)) (fun l hl => by rw [show l = 0 by omega, va_up_self]; omega) (fun l hl => by rw [show l = 0 by omega, va_up_self]; omega) (fun l hl => by rw [show l = 0 by omega, va_up_self, va_up_self]) (fun l hl => by rw [show l = 0 by omega, va_up_self]; omega) ⟨by decide, by decide, by decide, by decide⟩ (by omega) _ _ S _ (lv_sub hl [0, 1, 2, 3, 4, 5] rfl)
    · refine lv_bipush (v := iI (-9)) C0.1 C0.2.1 dX10_survey_61 (by decide) ?_
      subst hQ
      refine k_iret C0 S hAe hsz hr hlk dX10_survey_63 ?_
      have hq : svy d = -9 := svy_bad (cen_no (r := 4) (by omega)) (by decide)
      exact ⟨_, _, _, _, _, _, _, _, _, _, _, congrArg iI (by rw [surS_2 (by omega), hq]), rfl⟩
  · refine lv_iload_n C0.1 C0.2.1 dX10_survey_9 rfl (lv_at hl 0 rfl) ?_
    subst hQ
    refine k_iret C0 S hAe hsz hr hlk dX10_survey_10 ?_
    exact ⟨_, _, _, _, _, _, _, _, _, _, _, congrArg iI (surS_1 (by omega)).symm, rfl⟩
