def rmX4_findHeader : Room := { frames := 3, cells := 0, slots := 0, locals := 64 }
set_option maxHeartbeats 4000000 in
set_option maxRecDepth 100000 in
theorem c_X4_findHeader (l : Launch) (D : va_G) (cA : Nat → ClassId) (hN hC aC hV hB aB : Nat) (v5 v6 v7 cnt v2 : Int) (pl d : Nat → Int) (first len : Int) (hd : By d) (hB2 : gB d) (hl0 : 0 ≤ len) (hl1 : len < 65536) (hT : 0 < len → Tr d first cnt pl ∧ len ≤ chn d first * gSz d) : kCi l D vwCl (kTys cA) yX4_findHeader wsX4_findHeader rmX4_findHeader [.ref hN, .ref hC, .int (iI (len))] [(hN, .inr (4, [.int (iI (v5)), .int (iI (v6)), .int (iI (v7))])), (hC, .inr (2, [.ref hB, .ref hV, .ref aC, .int (iI (cnt)), .int (iI (v2))])), (aC, .inl (cA 0, 64, .inl (fun y_ => iI (pl y_)))), (hV, .inr (8, [.ref hB, .int (iI (chs d)), .int (iI (gRoot d)), .int (iI (gN d)), .int (iI (gSz d)), .int (iI (gT d)), .int (iI (gTB d)), .int (iI (gTA d)), .int (iI (gCA d))])), (hB, .inr (0, [.ref aB])), (aB, .inl (cA 1, 2048, .inl (fun y_ => bI (d y_))))] (fun r u => r = iI (hdr d first len) ∧ u = [(hN, .inr (4, [.int (iI (v5)), .int (iI (v6)), .int (iI (v7))])), (hC, .inr (2, [.ref hB, .ref hV, .ref aC, .int (iI (cnt)), .int (iI (v2))])), (aC, .inl (cA 0, 64, .inl (fun y_ => iI (pl y_)))), (hV, .inr (8, [.ref hB, .int (iI (chs d)), .int (iI (gRoot d)), .int (iI (gN d)), .int (iI (gSz d)), .int (iI (gT d)), .int (iI (gTB d)), .int (iI (gTA d)), .int (iI (gCA d))])), (hB, .inr (0, [.ref aB])), (aB, .inl (cA 1, 2048, .inl (fun y_ => bI (d y_))))]) := by
  intro sz
  refine kEntry (cc := cX4_findHeader) (maxL := 4) (ret := (some .int)) (by decide) rfl (Nat.le_of_ble_eq_true rfl) ?_
  intro p e s m args below meth c A Q hAe hQ C0 hr hlk S hsz ls hl
  have hl : lv_has ls 4 [(0, .ref hN), (1, .ref hC), (2, .int (iI (len)))] := hl
  refine lv_iconst (v := iI (0)) C0.1 C0.2.1 dX4_findHeader_0 rfl ?_
  refine lv_istore_n (lv' := [(3, .int (iI (0))), (0, .ref hN), (1, .ref hC), (2, .int (iI (len)))]) C0.1 C0.2.1 dX4_findHeader_1 rfl hl (by decide) rfl (fun ls hl => ?_)
  have L2 : ∀ (n_ : Nat) (j : Nat) (x : Int), (j ≤ 8) → (x = 4 * (j : Int)) → (hdr d first len = hdF d first len (8 - j) x) → (8 - j < n_) → ∀ (H : Heap) (locs : List Loc), kS D vwCl (kTys cA) A s [(hN, .inr (4, [.int (iI (v5)), .int (iI (v6)), .int (iI (v7))])), (hC, .inr (2, [.ref hB, .ref hV, .ref aC, .int (iI (cnt)), .int (iI (v2))])), (aC, .inl (cA 0, 64, .inl (fun y_ => iI (pl y_)))), (hV, .inr (8, [.ref hB, .int (iI (chs d)), .int (iI (gRoot d)), .int (iI (gN d)), .int (iI (gSz d)), .int (iI (gT d)), .int (iI (gTB d)), .int (iI (gTA d)), .int (iI (gCA d))])), (hB, .inr (0, [.ref aB])), (aB, .inl (cA 1, 2048, .inl (fun y_ => bI (d y_))))] H locs → ∀ ls : Array Slot, lv_has ls 4 [(3, .int (iI (x))), (0, .ref hN), (1, .ref hC), (2, .int (iI (len)))] → W p l e rmX4_findHeader s m args below meth c H locs 0 0 Q (F0 m 2 ls []) := by
    intro n_
    induction n_ with
    | zero => intro j x hi2_0 hi2_1 hi2_2 hm; exact absurd hm (Nat.not_lt_zero _)
    | succ n_ ih2 =>
      intro j x hi2_0 hi2_1 hi2_2 hm H locs S ls hl
      refine lv_iload_n C0.1 C0.2.1 dX4_findHeader_2 rfl (lv_at hl 0 rfl) ?_
      refine lv_bipush (v := iI (28)) C0.1 C0.2.1 dX4_findHeader_3 (by decide) ?_
      refine k_icmp_gt (tgt := 34) C0 (by constructor <;> omega) ⟨by decide, by decide⟩ dX4_findHeader_5 (by decide) (fun c5 => ?_) (fun c5 => ?_)
      · refine lv_iconst (v := iI (-1)) C0.1 C0.2.1 dX4_findHeader_34 rfl ?_
        subst hQ
        refine k_iret C0 S hAe hsz hr hlk dX4_findHeader_35 ?_
        exact ⟨congrArg iI (by rw [hi2_2, show 8 - j = 0 by omega]; rfl), rfl⟩
      · refine lv_iload_n C0.1 C0.2.1 dX4_findHeader_8 rfl (lv_at hl 0 rfl) ?_
        refine lv_bipush (v := iI (20)) C0.1 C0.2.1 dX4_findHeader_9 (by decide) ?_
        refine k_iadd C0 dX4_findHeader_11 ?_
        refine lv_iload_n C0.1 C0.2.1 dX4_findHeader_12 rfl (lv_at hl 3 rfl) ?_
        refine k_icmp_gt (tgt := 34) C0 (by constructor <;> omega) (by constructor <;> omega) dX4_findHeader_13 (by decide) (fun c13 => ?_) (fun c13 => ?_)
        · refine lv_iconst (v := iI (-1)) C0.1 C0.2.1 dX4_findHeader_34 rfl ?_
          subst hQ
          refine k_iret C0 S hAe hsz hr hlk dX4_findHeader_35 ?_
          exact ⟨congrArg iI (by rw [hi2_2, show 8 - j = (8 - (j + 1)) + 1 by omega]; exact (hdF_end (by omega)).symm), rfl⟩
        · have hlc := (hT (by omega)).2
          refine lv_aload_n C0.1 C0.2.1 dX4_findHeader_16 rfl (lv_at hl 2 rfl) ?_
          refine lv_iload_n C0.1 C0.2.1 dX4_findHeader_17 rfl (lv_at hl 0 rfl) ?_
          refine k_calli (n := 1) (wr := [(hN, .inr (4, [.int (iI (v5)), .int (iI (v6)), .int (iI (v7))]))]) C0 S (c_X2_intAt l D cA hC aC hV hB aB d (cnt) (v2) pl (first) (x) hd hB2 (hT (by omega)).1 (by omega) (by omega)) gX4_findHeader_X2_intAt rfl ⟨rfl, rfl⟩ (by decide +kernel) ⟨Nat.le_of_ble_eq_true rfl, Nat.le_of_ble_eq_true rfl⟩ [1, 2, 3, 4, 5] [0] rfl rfl rfl rfl (by decide) (ci := 2) (q0 := 0) rfl rfl (As := [.int (iI (x))]) rfl hl.1 rfl (Nat.le_of_ble_eq_true rfl) dX4_findHeader_18 ⟨Nat.zero_le _, Nat.zero_le _⟩ (fun r u H locs hp S => ?_)
          obtain ⟨rfl, rfl⟩ := hp
          have S := S.sub (ws' := [(hN, .inr (4, [.int (iI (v5)), .int (iI (v6)), .int (iI (v7))])), (hC, .inr (2, [.ref hB, .ref hV, .ref aC, .int (iI (cnt)), .int (iI (v2))])), (aC, .inl (cA 0, 64, .inl (fun y_ => iI (pl y_)))), (hV, .inr (8, [.ref hB, .int (iI (chs d)), .int (iI (gRoot d)), .int (iI (gN d)), .int (iI (gSz d)), .int (iI (gT d)), .int (iI (gTB d)), .int (iI (gTA d)), .int (iI (gCA d))])), (hB, .inr (0, [.ref aB])), (aB, .inl (cA 1, 2048, .inl (fun y_ => bI (d y_))))]) [0, 1, 2, 3, 4, 5] rfl rfl
          refine k_topeq (v := iI (cS d (first) (x))) (iI_of _).symm ?_
          have hb1 : -2147483648 ≤ cS d (first) (x) ∧ cS d (first) (x) < 2147483648 := iI_ir _
          refine lv_ldc (v := iI (464367618)) C0.1 C0.2.1 C0.2.2.2.1 (C0.2.2.2.2 (.constant RX4 31 (iI (464367618))) (by decide +kernel)) dX4_findHeader_21 ?_
          refine k_icmp_ne (tgt := 28) C0 (by constructor <;> omega) ⟨by decide, by decide⟩ dX4_findHeader_23 (by decide) (fun c23 => ?_) (fun c23 => ?_)
          · refine lv_iinc (v := iI (x + 4)) (lv' := [(3, .int (iI (x + 4))), (0, .ref hN), (1, .ref hC), (2, .int (iI (len)))]) C0.1 C0.2.1 dX4_findHeader_28 hl (k := 0) rfl (iI_add _ _) (by decide) rfl (fun ls hl => ?_)
            refine lv_goto (tgt := 2) C0.1 C0.2.1 dX4_findHeader_31 (by decide) ?_
            exact ih2 (j + 1) (x + 4) (by omega) (by omega) (by rw [hi2_2, show 8 - j = (8 - (j + 1)) + 1 by omega]; exact hdF_step (by omega) c23) (by omega) _ _ S _ (lv_sub hl [0, 1, 2, 3] rfl)
          · refine lv_iload_n C0.1 C0.2.1 dX4_findHeader_26 rfl (lv_at hl 0 rfl) ?_
            subst hQ
            refine k_iret C0 S hAe hsz hr hlk dX4_findHeader_27 ?_
            exact ⟨congrArg iI (by rw [hi2_2, show 8 - j = (8 - (j + 1)) + 1 by omega]; exact (hdF_hit (by omega) c23).symm), rfl⟩
  exact L2 (9) (0) (0) (by decide) rfl rfl (by omega) _ _ S _ (lv_sub hl [0, 1, 2, 3] rfl)
def rmX4_takeHeader : Room := { frames := 4, cells := 0, slots := 0, locals := 87 }
set_option maxHeartbeats 4000000 in
set_option maxRecDepth 100000 in
theorem c_X4_takeHeader (l : Launch) (D : va_G) (cA : Nat → ClassId) (hN hC aC hV hB aB : Nat) (v5 v6 v7 cnt v2 : Int) (pl d : Nat → Int) (first len : Int) (hd : By d) (hB2 : gB d) (hl0 : 0 ≤ len) (hl1 : len < 65536) (hT : 0 < len → Tr d first cnt pl ∧ len ≤ chn d first * gSz d) : kCi l D vwCl (kTys cA) yX4_takeHeader wsX4_takeHeader rmX4_takeHeader [.ref hN, .ref hC, .int (iI (len))] [(hN, .inr (4, [.int (iI (v5)), .int (iI (v6)), .int (iI (v7))])), (hC, .inr (2, [.ref hB, .ref hV, .ref aC, .int (iI (cnt)), .int (iI (v2))])), (aC, .inl (cA 0, 64, .inl (fun y_ => iI (pl y_)))), (hV, .inr (8, [.ref hB, .int (iI (chs d)), .int (iI (gRoot d)), .int (iI (gN d)), .int (iI (gSz d)), .int (iI (gT d)), .int (iI (gTB d)), .int (iI (gTA d)), .int (iI (gCA d))])), (hB, .inr (0, [.ref aB])), (aB, .inl (cA 1, 2048, .inl (fun y_ => bI (d y_))))] (fun r u => ∃ x5 x6 x7 : Int, r = iI (bz (hdOk d first len)) ∧ u = [(hN, .inr (4, [.int (iI (x5)), .int (iI (x6)), .int (iI (x7))])), (hC, .inr (2, [.ref hB, .ref hV, .ref aC, .int (iI (cnt)), .int (iI (v2))])), (aC, .inl (cA 0, 64, .inl (fun y_ => iI (pl y_)))), (hV, .inr (8, [.ref hB, .int (iI (chs d)), .int (iI (gRoot d)), .int (iI (gN d)), .int (iI (gSz d)), .int (iI (gT d)), .int (iI (gTB d)), .int (iI (gTA d)), .int (iI (gCA d))])), (hB, .inr (0, [.ref aB])), (aB, .inl (cA 1, 2048, .inl (fun y_ => bI (d y_))))] ∧ ((hdOk d first len) → x5 = kFl d first len ∧ x6 = kAd d first len ∧ x7 = kSt d first len)) := by
  intro sz
  refine kEntry (cc := cX4_takeHeader) (maxL := 4) (ret := (some .boolean)) (by decide) rfl (Nat.le_of_ble_eq_true rfl) ?_
  intro p e s m args below meth c A Q hAe hQ C0 hr hlk S hsz ls hl
  have hl : lv_has ls 4 [(0, .ref hN), (1, .ref hC), (2, .int (iI (len)))] := hl
  refine lv_aload_n C0.1 C0.2.1 dX4_takeHeader_0 rfl (lv_at hl 0 rfl) ?_
  refine lv_aload_n C0.1 C0.2.1 dX4_takeHeader_1 rfl (lv_at hl 1 rfl) ?_
  refine lv_iload_n C0.1 C0.2.1 dX4_takeHeader_2 rfl (lv_at hl 2 rfl) ?_
  refine k_calli (n := 2) (wr := []) C0 S (c_X4_findHeader l D cA hN hC aC hV hB aB (v5) (v6) (v7) cnt v2 pl d first len hd hB2 hl0 hl1 hT) gX4_takeHeader_X4_findHeader rfl ⟨rfl, rfl⟩ (by decide +kernel) ⟨Nat.le_of_ble_eq_true rfl, Nat.le_of_ble_eq_true rfl⟩ [0, 1, 2, 3, 4, 5] [] rfl rfl rfl rfl (by decide) (ci := 4) (q0 := 0) rfl rfl (As := [.ref hC, .int (iI (len))]) rfl hl.1 rfl (Nat.le_of_ble_eq_true rfl) dX4_takeHeader_3 ⟨Nat.zero_le _, Nat.zero_le _⟩ (fun r u H locs hp S => ?_)
  obtain ⟨rfl, rfl⟩ := hp
  have S := S.sub (ws' := [(hN, .inr (4, [.int (iI (v5)), .int (iI (v6)), .int (iI (v7))])), (hC, .inr (2, [.ref hB, .ref hV, .ref aC, .int (iI (cnt)), .int (iI (v2))])), (aC, .inl (cA 0, 64, .inl (fun y_ => iI (pl y_)))), (hV, .inr (8, [.ref hB, .int (iI (chs d)), .int (iI (gRoot d)), .int (iI (gN d)), .int (iI (gSz d)), .int (iI (gT d)), .int (iI (gTB d)), .int (iI (gTA d)), .int (iI (gCA d))])), (hB, .inr (0, [.ref aB])), (aB, .inl (cA 1, 2048, .inl (fun y_ => bI (d y_))))]) [0, 1, 2, 3, 4, 5] rfl rfl
  have hhr := hdr_range (d := d) (first := first) (len := len)
  refine lv_istore_n (lv' := [(3, .int (iI (hdr d first len))), (0, .ref hN), (1, .ref hC), (2, .int (iI (len)))]) C0.1 C0.2.1 dX4_takeHeader_6 rfl hl (by decide) rfl (fun ls hl => ?_)
  refine lv_iload_n C0.1 C0.2.1 dX4_takeHeader_7 rfl (lv_at hl 0 rfl) ?_
  refine k_if_ge (tgt := 13) C0 (by constructor <;> omega) dX4_takeHeader_8 (by decide) (fun c8 => ?_) (fun c8 => ?_)
  · have hlc := (hT (by omega)).2
    refine lv_aload_n C0.1 C0.2.1 dX4_takeHeader_13 rfl (lv_at hl 1 rfl) ?_
    refine lv_aload_n C0.1 C0.2.1 dX4_takeHeader_14 rfl (lv_at hl 2 rfl) ?_
    refine lv_iload_n C0.1 C0.2.1 dX4_takeHeader_15 rfl (lv_at hl 0 rfl) ?_
    refine lv_iconst (v := iI (4)) C0.1 C0.2.1 dX4_takeHeader_16 rfl ?_
    refine k_iadd C0 dX4_takeHeader_17 ?_
    refine k_calli (n := 1) (wr := [(hN, .inr (4, [.int (iI (v5)), .int (iI (v6)), .int (iI (v7))]))]) C0 S (c_X2_intAt l D cA hC aC hV hB aB d (cnt) (v2) pl (first) ((hdr d first len) + 4) hd hB2 (hT (by omega)).1 (by omega) (by omega)) gX4_takeHeader_X2_intAt rfl ⟨rfl, rfl⟩ (by decide +kernel) ⟨Nat.le_of_ble_eq_true rfl, Nat.le_of_ble_eq_true rfl⟩ [1, 2, 3, 4, 5] [0] rfl rfl rfl rfl (by decide) (ci := 2) (q0 := 0) rfl rfl (As := [.int (iI ((hdr d first len) + 4))]) rfl hl.1 rfl (Nat.le_of_ble_eq_true rfl) dX4_takeHeader_18 ⟨Nat.zero_le _, Nat.zero_le _⟩ (fun r u H locs hp S => ?_)
    obtain ⟨rfl, rfl⟩ := hp
    have S := S.sub (ws' := [(hN, .inr (4, [.int (iI (v5)), .int (iI (v6)), .int (iI (v7))])), (hC, .inr (2, [.ref hB, .ref hV, .ref aC, .int (iI (cnt)), .int (iI (v2))])), (aC, .inl (cA 0, 64, .inl (fun y_ => iI (pl y_)))), (hV, .inr (8, [.ref hB, .int (iI (chs d)), .int (iI (gRoot d)), .int (iI (gN d)), .int (iI (gSz d)), .int (iI (gT d)), .int (iI (gTB d)), .int (iI (gTA d)), .int (iI (gCA d))])), (hB, .inr (0, [.ref aB])), (aB, .inl (cA 1, 2048, .inl (fun y_ => bI (d y_))))]) [0, 1, 2, 3, 4, 5] rfl rfl
    refine k_topeq (v := iI (cS d (first) ((hdr d first len) + 4))) (iI_of _).symm ?_
    have hb1 : -2147483648 ≤ cS d (first) ((hdr d first len) + 4) ∧ cS d (first) ((hdr d first len) + 4) < 2147483648 := iI_ir _
    refine k_topeq (v := iI (kFl d first len)) (rfl) ?_
    refine k_put (ws' := [(hN, .inr (4, [.int (iI (kFl d first len)), .int (iI (v6)), .int (iI (v7))])), (hC, .inr (2, [.ref hB, .ref hV, .ref aC, .int (iI (cnt)), .int (iI (v2))])), (aC, .inl (cA 0, 64, .inl (fun y_ => iI (pl y_)))), (hV, .inr (8, [.ref hB, .int (iI (chs d)), .int (iI (gRoot d)), .int (iI (gN d)), .int (iI (gSz d)), .int (iI (gT d)), .int (iI (gTB d)), .int (iI (gTA d)), .int (iI (gCA d))])), (hB, .inr (0, [.ref aB])), (aB, .inl (cA 1, 2048, .inl (fun y_ => bI (d y_))))]) C0 S (C := RX4) (T := TX4) (N := 3) (ci := 4) (by decide +kernel) tyX4 tyX4_ok nmX4 0 rfl rfl 0 (by decide) (by decide +kernel) rfl (v := .int (iI (kFl d first len))) rfl rfl (Nat.le_of_ble_eq_true rfl) dX4_takeHeader_21 rfl (fun H locs S => ?_)
    refine lv_aload_n C0.1 C0.2.1 dX4_takeHeader_24 rfl (lv_at hl 1 rfl) ?_
    refine lv_aload_n C0.1 C0.2.1 dX4_takeHeader_25 rfl (lv_at hl 2 rfl) ?_
    refine lv_iload_n C0.1 C0.2.1 dX4_takeHeader_26 rfl (lv_at hl 0 rfl) ?_
    refine lv_bipush (v := iI (12)) C0.1 C0.2.1 dX4_takeHeader_27 (by decide) ?_
    refine k_iadd C0 dX4_takeHeader_29 ?_
    refine k_calli (n := 1) (wr := [(hN, .inr (4, [.int (iI (kFl d first len)), .int (iI (v6)), .int (iI (v7))]))]) C0 S (c_X2_intAt l D cA hC aC hV hB aB d (cnt) (v2) pl (first) ((hdr d first len) + 12) hd hB2 (hT (by omega)).1 (by omega) (by omega)) gX4_takeHeader_X2_intAt rfl ⟨rfl, rfl⟩ (by decide +kernel) ⟨Nat.le_of_ble_eq_true rfl, Nat.le_of_ble_eq_true rfl⟩ [1, 2, 3, 4, 5] [0] rfl rfl rfl rfl (by decide) (ci := 2) (q0 := 0) rfl rfl (As := [.int (iI ((hdr d first len) + 12))]) rfl hl.1 rfl (Nat.le_of_ble_eq_true rfl) dX4_takeHeader_30 ⟨Nat.zero_le _, Nat.zero_le _⟩ (fun r u H locs hp S => ?_)
    obtain ⟨rfl, rfl⟩ := hp
    have S := S.sub (ws' := [(hN, .inr (4, [.int (iI (kFl d first len)), .int (iI (v6)), .int (iI (v7))])), (hC, .inr (2, [.ref hB, .ref hV, .ref aC, .int (iI (cnt)), .int (iI (v2))])), (aC, .inl (cA 0, 64, .inl (fun y_ => iI (pl y_)))), (hV, .inr (8, [.ref hB, .int (iI (chs d)), .int (iI (gRoot d)), .int (iI (gN d)), .int (iI (gSz d)), .int (iI (gT d)), .int (iI (gTB d)), .int (iI (gTA d)), .int (iI (gCA d))])), (hB, .inr (0, [.ref aB])), (aB, .inl (cA 1, 2048, .inl (fun y_ => bI (d y_))))]) [0, 1, 2, 3, 4, 5] rfl rfl
    refine k_topeq (v := iI (cS d (first) ((hdr d first len) + 12))) (iI_of _).symm ?_
    have hb2 : -2147483648 ≤ cS d (first) ((hdr d first len) + 12) ∧ cS d (first) ((hdr d first len) + 12) < 2147483648 := iI_ir _
    refine k_topeq (v := iI (kAd d first len)) (rfl) ?_
    refine k_put (ws' := [(hN, .inr (4, [.int (iI (kFl d first len)), .int (iI (kAd d first len)), .int (iI (v7))])), (hC, .inr (2, [.ref hB, .ref hV, .ref aC, .int (iI (cnt)), .int (iI (v2))])), (aC, .inl (cA 0, 64, .inl (fun y_ => iI (pl y_)))), (hV, .inr (8, [.ref hB, .int (iI (chs d)), .int (iI (gRoot d)), .int (iI (gN d)), .int (iI (gSz d)), .int (iI (gT d)), .int (iI (gTB d)), .int (iI (gTA d)), .int (iI (gCA d))])), (hB, .inr (0, [.ref aB])), (aB, .inl (cA 1, 2048, .inl (fun y_ => bI (d y_))))]) C0 S (C := RX4) (T := TX4) (N := 3) (ci := 4) (by decide +kernel) tyX4 tyX4_ok nmX4 0 rfl rfl 1 (by decide) (by decide +kernel) rfl (v := .int (iI (kAd d first len))) rfl rfl (Nat.le_of_ble_eq_true rfl) dX4_takeHeader_33 rfl (fun H locs S => ?_)
    refine lv_aload_n C0.1 C0.2.1 dX4_takeHeader_36 rfl (lv_at hl 1 rfl) ?_
    refine lv_aload_n C0.1 C0.2.1 dX4_takeHeader_37 rfl (lv_at hl 2 rfl) ?_
    refine lv_iload_n C0.1 C0.2.1 dX4_takeHeader_38 rfl (lv_at hl 0 rfl) ?_
    refine lv_bipush (v := iI (16)) C0.1 C0.2.1 dX4_takeHeader_39 (by decide) ?_
    refine k_iadd C0 dX4_takeHeader_41 ?_
    refine k_calli (n := 1) (wr := [(hN, .inr (4, [.int (iI (kFl d first len)), .int (iI (kAd d first len)), .int (iI (v7))]))]) C0 S (c_X2_intAt l D cA hC aC hV hB aB d (cnt) (v2) pl (first) ((hdr d first len) + 16) hd hB2 (hT (by omega)).1 (by omega) (by omega)) gX4_takeHeader_X2_intAt rfl ⟨rfl, rfl⟩ (by decide +kernel) ⟨Nat.le_of_ble_eq_true rfl, Nat.le_of_ble_eq_true rfl⟩ [1, 2, 3, 4, 5] [0] rfl rfl rfl rfl (by decide) (ci := 2) (q0 := 0) rfl rfl (As := [.int (iI ((hdr d first len) + 16))]) rfl hl.1 rfl (Nat.le_of_ble_eq_true rfl) dX4_takeHeader_42 ⟨Nat.zero_le _, Nat.zero_le _⟩ (fun r u H locs hp S => ?_)
    obtain ⟨rfl, rfl⟩ := hp
    have S := S.sub (ws' := [(hN, .inr (4, [.int (iI (kFl d first len)), .int (iI (kAd d first len)), .int (iI (v7))])), (hC, .inr (2, [.ref hB, .ref hV, .ref aC, .int (iI (cnt)), .int (iI (v2))])), (aC, .inl (cA 0, 64, .inl (fun y_ => iI (pl y_)))), (hV, .inr (8, [.ref hB, .int (iI (chs d)), .int (iI (gRoot d)), .int (iI (gN d)), .int (iI (gSz d)), .int (iI (gT d)), .int (iI (gTB d)), .int (iI (gTA d)), .int (iI (gCA d))])), (hB, .inr (0, [.ref aB])), (aB, .inl (cA 1, 2048, .inl (fun y_ => bI (d y_))))]) [0, 1, 2, 3, 4, 5] rfl rfl
    refine k_topeq (v := iI (cS d (first) ((hdr d first len) + 16))) (iI_of _).symm ?_
    have hb3 : -2147483648 ≤ cS d (first) ((hdr d first len) + 16) ∧ cS d (first) ((hdr d first len) + 16) < 2147483648 := iI_ir _
    refine k_topeq (v := iI (kSt d first len)) (rfl) ?_
    refine k_put (ws' := [(hN, .inr (4, [.int (iI (kFl d first len)), .int (iI (kAd d first len)), .int (iI (kSt d first len))])), (hC, .inr (2, [.ref hB, .ref hV, .ref aC, .int (iI (cnt)), .int (iI (v2))])), (aC, .inl (cA 0, 64, .inl (fun y_ => iI (pl y_)))), (hV, .inr (8, [.ref hB, .int (iI (chs d)), .int (iI (gRoot d)), .int (iI (gN d)), .int (iI (gSz d)), .int (iI (gT d)), .int (iI (gTB d)), .int (iI (gTA d)), .int (iI (gCA d))])), (hB, .inr (0, [.ref aB])), (aB, .inl (cA 1, 2048, .inl (fun y_ => bI (d y_))))]) C0 S (C := RX4) (T := TX4) (N := 3) (ci := 4) (by decide +kernel) tyX4 tyX4_ok nmX4 0 rfl rfl 2 (by decide) (by decide +kernel) rfl (v := .int (iI (kSt d first len))) rfl rfl (Nat.le_of_ble_eq_true rfl) dX4_takeHeader_45 rfl (fun H locs S => ?_)
    refine lv_ldc (v := iI (464367618)) C0.1 C0.2.1 C0.2.2.2.1 (C0.2.2.2.2 (.constant RX4 31 (iI (464367618))) (by decide +kernel)) dX4_takeHeader_48 ?_
    refine lv_aload_n C0.1 C0.2.1 dX4_takeHeader_50 rfl (lv_at hl 1 rfl) ?_
    refine k_get C0 S (C := RX4) (T := TX4) (N := 3) (ci := 4) (by decide +kernel) 0 rfl rfl 0 (by decide) (by decide +kernel) (v := .int (iI (kFl d first len))) rfl dX4_takeHeader_51 ?_
    refine k_iadd C0 dX4_takeHeader_54 ?_
    refine lv_aload_n C0.1 C0.2.1 dX4_takeHeader_55 rfl (lv_at hl 2 rfl) ?_
    refine lv_iload_n C0.1 C0.2.1 dX4_takeHeader_56 rfl (lv_at hl 0 rfl) ?_
    refine lv_bipush (v := iI (8)) C0.1 C0.2.1 dX4_takeHeader_57 (by decide) ?_
    refine k_iadd C0 dX4_takeHeader_59 ?_
    refine k_calli (n := 1) (wr := [(hN, .inr (4, [.int (iI (kFl d first len)), .int (iI (kAd d first len)), .int (iI (kSt d first len))]))]) C0 S (c_X2_intAt l D cA hC aC hV hB aB d (cnt) (v2) pl (first) ((hdr d first len) + 8) hd hB2 (hT (by omega)).1 (by omega) (by omega)) gX4_takeHeader_X2_intAt rfl ⟨rfl, rfl⟩ (by decide +kernel) ⟨Nat.le_of_ble_eq_true rfl, Nat.le_of_ble_eq_true rfl⟩ [1, 2, 3, 4, 5] [0] rfl rfl rfl rfl (by decide) (ci := 2) (q0 := 0) rfl rfl (As := [.int (iI ((hdr d first len) + 8))]) rfl hl.1 rfl (Nat.le_of_ble_eq_true rfl) dX4_takeHeader_60 ⟨Nat.zero_le _, Nat.zero_le _⟩ (fun r u H locs hp S => ?_)
    obtain ⟨rfl, rfl⟩ := hp
    have S := S.sub (ws' := [(hN, .inr (4, [.int (iI (kFl d first len)), .int (iI (kAd d first len)), .int (iI (kSt d first len))])), (hC, .inr (2, [.ref hB, .ref hV, .ref aC, .int (iI (cnt)), .int (iI (v2))])), (aC, .inl (cA 0, 64, .inl (fun y_ => iI (pl y_)))), (hV, .inr (8, [.ref hB, .int (iI (chs d)), .int (iI (gRoot d)), .int (iI (gN d)), .int (iI (gSz d)), .int (iI (gT d)), .int (iI (gTB d)), .int (iI (gTA d)), .int (iI (gCA d))])), (hB, .inr (0, [.ref aB])), (aB, .inl (cA 1, 2048, .inl (fun y_ => bI (d y_))))]) [0, 1, 2, 3, 4, 5] rfl rfl
    refine k_topeq (v := iI (cS d (first) ((hdr d first len) + 8))) (iI_of _).symm ?_
    have hb4 : -2147483648 ≤ cS d (first) ((hdr d first len) + 8) ∧ cS d (first) ((hdr d first len) + 8) < 2147483648 := iI_ir _
    refine k_topeq (v := iI (kCk d first len)) (rfl) ?_
    refine k_iadd C0 dX4_takeHeader_63 ?_
    refine lv_if_eq (tgt := 69) C0.1 C0.2.1 dX4_takeHeader_64 (by decide) (fun c64 => ?_) (fun c64 => ?_)
    · refine lv_aload_n C0.1 C0.2.1 dX4_takeHeader_69 rfl (lv_at hl 1 rfl) ?_
      refine k_get C0 S (C := RX4) (T := TX4) (N := 3) (ci := 4) (by decide +kernel) 0 rfl rfl 0 (by decide) (by decide +kernel) (v := .int (iI (kFl d first len))) rfl dX4_takeHeader_70 ?_
      refine lv_bipush (v := iI (-4)) C0.1 C0.2.1 dX4_takeHeader_73 (by decide) ?_
      refine lv_iand C0.1 C0.2.1 dX4_takeHeader_75 ?_
      refine lv_if_eq (tgt := 81) C0.1 C0.2.1 dX4_takeHeader_76 (by decide) (fun c76 => ?_) (fun c76 => ?_)
      · refine lv_aload_n C0.1 C0.2.1 dX4_takeHeader_81 rfl (lv_at hl 1 rfl) ?_
        refine k_get C0 S (C := RX4) (T := TX4) (N := 3) (ci := 4) (by decide +kernel) 0 rfl rfl 0 (by decide) (by decide +kernel) (v := .int (iI (kFl d first len))) rfl dX4_takeHeader_82 ?_
        refine lv_iconst (v := iI (1)) C0.1 C0.2.1 dX4_takeHeader_85 rfl ?_
        refine lv_iand C0.1 C0.2.1 dX4_takeHeader_86 ?_
        refine lv_if_eq (tgt := 100) C0.1 C0.2.1 dX4_takeHeader_87 (by decide) (fun c87 => ?_) (fun c87 => ?_)
        · refine lv_iconst (v := iI (1)) C0.1 C0.2.1 dX4_takeHeader_100 rfl ?_
          refine lv_goto (tgt := 105) C0.1 C0.2.1 dX4_takeHeader_101 (by decide) ?_
          subst hQ
          refine k_zret C0 S hAe hsz hr hlk (by rfl) dX4_takeHeader_105 ?_
          exact ⟨_, _, _, congrArg iI (bz_t (show hdOk d first len from ⟨by omega, c64, c76, Or.inl c87⟩)).symm, rfl, fun _ => ⟨rfl, rfl, rfl⟩⟩
        · refine lv_aload_n C0.1 C0.2.1 dX4_takeHeader_90 rfl (lv_at hl 1 rfl) ?_
          refine k_get C0 S (C := RX4) (T := TX4) (N := 3) (ci := 4) (by decide +kernel) 0 rfl rfl 1 (by decide) (by decide +kernel) (v := .int (iI (kAd d first len))) rfl dX4_takeHeader_91 ?_
          have hkad : -2147483648 ≤ kAd d first len ∧ kAd d first len < 2147483648 := iI_ir _
          refine lv_bipush (v := iI (16)) C0.1 C0.2.1 dX4_takeHeader_94 (by decide) ?_
          refine k_irem C0 (by constructor <;> omega) (by omega) (by omega) dX4_takeHeader_96 ?_
          refine lv_if_ne (tgt := 104) C0.1 C0.2.1 dX4_takeHeader_97 (by decide) (fun c97 => ?_) (fun c97 => ?_)
          · refine lv_iconst (v := iI (0)) C0.1 C0.2.1 dX4_takeHeader_104 rfl ?_
            subst hQ
            refine k_zret C0 S hAe hsz hr hlk (by rfl) dX4_takeHeader_105 ?_
            exact ⟨_, _, _, congrArg iI (bz_f (fun h => by rcases h.2.2.2 with q | q; exact c87 q; exact c97 q)).symm, rfl, fun h => absurd h (fun h => by rcases h.2.2.2 with q | q; exact c87 q; exact c97 q)⟩
          · refine lv_iconst (v := iI (1)) C0.1 C0.2.1 dX4_takeHeader_100 rfl ?_
            refine lv_goto (tgt := 105) C0.1 C0.2.1 dX4_takeHeader_101 (by decide) ?_
            subst hQ
            refine k_zret C0 S hAe hsz hr hlk (by rfl) dX4_takeHeader_105 ?_
            exact ⟨_, _, _, congrArg iI (bz_t (show hdOk d first len from ⟨by omega, c64, c76, Or.inr c97⟩)).symm, rfl, fun _ => ⟨rfl, rfl, rfl⟩⟩
      · refine lv_iconst (v := iI (0)) C0.1 C0.2.1 dX4_takeHeader_79 rfl ?_
        subst hQ
        refine k_zret C0 S hAe hsz hr hlk (by rfl) dX4_takeHeader_80 ?_
        exact ⟨_, _, _, congrArg iI (bz_f (fun h => c76 h.2.2.1)).symm, rfl, fun h => absurd h.2.2.1 c76⟩
    · refine lv_iconst (v := iI (0)) C0.1 C0.2.1 dX4_takeHeader_67 rfl ?_
      subst hQ
      refine k_zret C0 S hAe hsz hr hlk (by rfl) dX4_takeHeader_68 ?_
      exact ⟨_, _, _, congrArg iI (bz_f (fun h => c64 h.2.1)).symm, rfl, fun h => absurd h.2.1 c64⟩
  · refine lv_iconst (v := iI (0)) C0.1 C0.2.1 dX4_takeHeader_11 rfl ?_
    subst hQ
    refine k_zret C0 S hAe hsz hr hlk (by rfl) dX4_takeHeader_12 ?_
    exact ⟨_, _, _, congrArg iI (bz_f (fun h => absurd h.1 (by omega))).symm, rfl, fun h => absurd h.1 (by omega)⟩
def rmX4_fits : Room := { frames := 0, cells := 0, slots := 0, locals := 0 }
set_option maxHeartbeats 4000000 in
set_option maxRecDepth 100000 in
theorem c_X4_fits (l : Launch) (D : va_G) (cA : Nat → ClassId) (hN : Nat) (v5 v6 v7 len : Int) (h6 : ir v6) (h7 : ir v7) (hl0 : 0 ≤ len) (hl1 : len < 65536) : kCi l D vwCl (kTys cA) yX4_fits wsX4_fits rmX4_fits [.ref hN, .int (iI (len))] [(hN, .inr (4, [.int (iI (v5)), .int (iI (v6)), .int (iI (v7))]))] (fun r u => r = iI (bz (rmOk v6 v7 len)) ∧ u = [(hN, .inr (4, [.int (iI (v5)), .int (iI (v6)), .int (iI (v7))]))]) := by
  intro sz
  refine kEntry (cc := cX4_fits) (maxL := 2) (ret := (some .boolean)) (by decide) rfl (Nat.le_of_ble_eq_true rfl) ?_
  intro p e s m args below meth c A Q hAe hQ C0 hr hlk S hsz ls hl
  have hl : lv_has ls 2 [(0, .ref hN), (1, .int (iI (len)))] := hl
  obtain ⟨h61, h62⟩ := h6
  obtain ⟨h71, h72⟩ := h7
  refine lv_aload_n C0.1 C0.2.1 dX4_fits_0 rfl (lv_at hl 0 rfl) ?_
  refine k_get C0 S (C := RX4) (T := TX4) (N := 3) (ci := 4) (by decide +kernel) 0 rfl rfl 1 (by decide) (by decide +kernel) (v := .int (iI (v6))) rfl dX4_fits_1 ?_
  refine lv_bipush (v := iI (64)) C0.1 C0.2.1 dX4_fits_4 (by decide) ?_
  refine k_icmp_lt (tgt := 49) C0 (by constructor <;> omega) ⟨by decide, by decide⟩ dX4_fits_6 (by decide) (fun c1 => ?_) (fun c1 => ?_)
  · refine lv_iconst (v := iI (0)) C0.1 C0.2.1 dX4_fits_49 rfl ?_
    subst hQ
    refine k_zret C0 S hAe hsz hr hlk (by rfl) dX4_fits_50 ?_
    exact ⟨congrArg iI (bz_f (by unfold rmOk; omega)).symm, rfl⟩
  · refine lv_aload_n C0.1 C0.2.1 dX4_fits_9 rfl (lv_at hl 0 rfl) ?_
    refine k_get C0 S (C := RX4) (T := TX4) (N := 3) (ci := 4) (by decide +kernel) 0 rfl rfl 1 (by decide) (by decide +kernel) (v := .int (iI (v6))) rfl dX4_fits_10 ?_
    refine lv_sipush (v := iI (1024)) C0.1 C0.2.1 dX4_fits_13 (by decide) ?_
    refine lv_iload_n C0.1 C0.2.1 dX4_fits_16 rfl (lv_at hl 1 rfl) ?_
    refine k_isub C0 dX4_fits_17 ?_
    refine k_icmp_gt (tgt := 49) C0 (by constructor <;> omega) (by constructor <;> omega) dX4_fits_18 (by decide) (fun c2 => ?_) (fun c2 => ?_)
    · refine lv_iconst (v := iI (0)) C0.1 C0.2.1 dX4_fits_49 rfl ?_
      subst hQ
      refine k_zret C0 S hAe hsz hr hlk (by rfl) dX4_fits_50 ?_
      exact ⟨congrArg iI (bz_f (by unfold rmOk; omega)).symm, rfl⟩
    · refine lv_aload_n C0.1 C0.2.1 dX4_fits_21 rfl (lv_at hl 0 rfl) ?_
      refine k_get C0 S (C := RX4) (T := TX4) (N := 3) (ci := 4) (by decide +kernel) 0 rfl rfl 2 (by decide) (by decide +kernel) (v := .int (iI (v7))) rfl dX4_fits_22 ?_
      refine lv_aload_n C0.1 C0.2.1 dX4_fits_25 rfl (lv_at hl 0 rfl) ?_
      refine k_get C0 S (C := RX4) (T := TX4) (N := 3) (ci := 4) (by decide +kernel) 0 rfl rfl 1 (by decide) (by decide +kernel) (v := .int (iI (v6))) rfl dX4_fits_26 ?_
      refine k_icmp_lt (tgt := 49) C0 (by constructor <;> omega) (by constructor <;> omega) dX4_fits_29 (by decide) (fun c3 => ?_) (fun c3 => ?_)
      · refine lv_iconst (v := iI (0)) C0.1 C0.2.1 dX4_fits_49 rfl ?_
        subst hQ
        refine k_zret C0 S hAe hsz hr hlk (by rfl) dX4_fits_50 ?_
        exact ⟨congrArg iI (bz_f (by unfold rmOk; omega)).symm, rfl⟩
      · refine lv_aload_n C0.1 C0.2.1 dX4_fits_32 rfl (lv_at hl 0 rfl) ?_
        refine k_get C0 S (C := RX4) (T := TX4) (N := 3) (ci := 4) (by decide +kernel) 0 rfl rfl 2 (by decide) (by decide +kernel) (v := .int (iI (v7))) rfl dX4_fits_33 ?_
        refine lv_aload_n C0.1 C0.2.1 dX4_fits_36 rfl (lv_at hl 0 rfl) ?_
        refine k_get C0 S (C := RX4) (T := TX4) (N := 3) (ci := 4) (by decide +kernel) 0 rfl rfl 1 (by decide) (by decide +kernel) (v := .int (iI (v6))) rfl dX4_fits_37 ?_
        refine lv_iload_n C0.1 C0.2.1 dX4_fits_40 rfl (lv_at hl 1 rfl) ?_
        refine k_iadd C0 dX4_fits_41 ?_
        refine k_icmp_ge (tgt := 49) C0 (by constructor <;> omega) (by constructor <;> omega) dX4_fits_42 (by decide) (fun c4 => ?_) (fun c4 => ?_)
        · refine lv_iconst (v := iI (0)) C0.1 C0.2.1 dX4_fits_49 rfl ?_
          subst hQ
          refine k_zret C0 S hAe hsz hr hlk (by rfl) dX4_fits_50 ?_
          exact ⟨congrArg iI (bz_f (by unfold rmOk; omega)).symm, rfl⟩
        · refine lv_iconst (v := iI (1)) C0.1 C0.2.1 dX4_fits_45 rfl ?_
          refine lv_goto (tgt := 50) C0.1 C0.2.1 dX4_fits_46 (by decide) ?_
          subst hQ
          refine k_zret C0 S hAe hsz hr hlk (by rfl) dX4_fits_50 ?_
          exact ⟨congrArg iI (bz_t (by unfold rmOk; omega)).symm, rfl⟩
def rmX4_wantsMemoryBytes : Room := { frames := 0, cells := 0, slots := 0, locals := 0 }
set_option maxHeartbeats 4000000 in
set_option maxRecDepth 100000 in
theorem c_X4_wantsMemoryBytes (l : Launch) (D : va_G) (cA : Nat → ClassId) (hN : Nat) (v5 v6 v7 : Int)  : kCi l D vwCl (kTys cA) yX4_wantsMemoryBytes wsX4_wantsMemoryBytes rmX4_wantsMemoryBytes [.ref hN] [(hN, .inr (4, [.int (iI (v5)), .int (iI (v6)), .int (iI (v7))]))] (fun r u => r = iI (bz (¬ (iI v5 &&& iI 2) = 0)) ∧ u = [(hN, .inr (4, [.int (iI (v5)), .int (iI (v6)), .int (iI (v7))]))]) := by
  intro sz
  refine kEntry (cc := cX4_wantsMemoryBytes) (maxL := 1) (ret := (some .boolean)) (by decide) rfl (Nat.le_of_ble_eq_true rfl) ?_
  intro p e s m args below meth c A Q hAe hQ C0 hr hlk S hsz ls hl
  have hl : lv_has ls 1 [(0, .ref hN)] := hl
  refine lv_aload_n C0.1 C0.2.1 dX4_wantsMemoryBytes_0 rfl (lv_at hl 0 rfl) ?_
  refine k_get C0 S (C := RX4) (T := TX4) (N := 3) (ci := 4) (by decide +kernel) 0 rfl rfl 0 (by decide) (by decide +kernel) (v := .int (iI (v5))) rfl dX4_wantsMemoryBytes_1 ?_
  refine lv_iconst (v := iI (2)) C0.1 C0.2.1 dX4_wantsMemoryBytes_4 rfl ?_
  refine lv_iand C0.1 C0.2.1 dX4_wantsMemoryBytes_5 ?_
  refine lv_if_eq (tgt := 13) C0.1 C0.2.1 dX4_wantsMemoryBytes_6 (by decide) (fun c6 => ?_) (fun c6 => ?_)
  · refine lv_iconst (v := iI (0)) C0.1 C0.2.1 dX4_wantsMemoryBytes_13 rfl ?_
    subst hQ
    refine k_zret C0 S hAe hsz hr hlk (by rfl) dX4_wantsMemoryBytes_14 ?_
    exact ⟨congrArg iI (bz_f (fun h => h c6)).symm, rfl⟩
  · refine lv_iconst (v := iI (1)) C0.1 C0.2.1 dX4_wantsMemoryBytes_9 rfl ?_
    refine lv_goto (tgt := 14) C0.1 C0.2.1 dX4_wantsMemoryBytes_10 (by decide) ?_
    subst hQ
    refine k_zret C0 S hAe hsz hr hlk (by rfl) dX4_wantsMemoryBytes_14 ?_
    exact ⟨congrArg iI (bz_t c6).symm, rfl⟩
