def rmX10_poke : Room := { frames := 0, cells := 0, slots := 0, locals := 0 }
set_option maxHeartbeats 4000000 in
set_option maxRecDepth 100000 in
theorem c_X10_poke (l : Launch) (D : va_G) (cA : Nat → ClassId) (hM aD aM aX aP aQ aK aO aA a1 a2 a3 : Nat) (st r3 r4 r5 r6 r7 r8 r9 r10 tl pn nc kl ol al : Int) (d : Nat → Int) (z : Int) (b : Int64) (k : Int) (hd : By d) (hz : ir z) (hk : ir k) : kCi l D vwCl (kTys cA) yX10_poke wsX10_poke rmX10_poke [.ref hM, .int (iI (z)), .long (b), .int (iI (k))] [(hM, .inr (10, [.ref aD, .ref aM, .int (iI (st)), .int (iI (r3)), .int (iI (r4)), .int (iI (r5)), .int (iI (r6)), .int (iI (r7)), .int (iI (r8)), .int (iI (r9)), .int (iI (r10)), .ref aX, .int (iI (tl)), .ref aP, .int (iI (pn)), .ref aQ, .int (iI (nc)), .ref aK, .ref aO, .ref aA, .int (iI (kl)), .int (iI (ol)), .int (iI (al)), .ref a1, .ref a2, .ref a3])), (aD, .inl (cA 0, 2048, .inl (fun y_ => iI (d y_))))] (fun r u => ∃ d2 : Nat → Int, r = iI (bz (putOk 2048 z k)) ∧ u = [(hM, .inr (10, [.ref aD, .ref aM, .int (iI (st)), .int (iI (r3)), .int (iI (r4)), .int (iI (r5)), .int (iI (r6)), .int (iI (r7)), .int (iI (r8)), .int (iI (r9)), .int (iI (r10)), .ref aX, .int (iI (tl)), .ref aP, .int (iI (pn)), .ref aQ, .int (iI (nc)), .ref aK, .ref aO, .ref aA, .int (iI (kl)), .int (iI (ol)), .int (iI (al)), .ref a1, .ref a2, .ref a3])), (aD, .inl (cA 0, 2048, .inl (fun y_ => iI (d2 y_))))] ∧ (putOk 2048 z k → d2 = putK d z b k.toNat) ∧ (¬ putOk 2048 z k → d2 = d)) := by
  intro sz
  refine kEntry (cc := cX10_poke) (maxL := 6) (ret := (some .boolean)) (by decide) rfl (Nat.le_of_ble_eq_true rfl) ?_
  intro p e s m args below meth c A Q hAe hQ C0 hr hlk S hsz ls hl
  have hl : lv_has ls 6 [(0, .ref hM), (1, .int (iI (z))), (2, .long (b)), (4, .int (iI (k)))] := hl
  obtain ⟨hz1, hz2⟩ := hz
  obtain ⟨hk1, hk2⟩ := hk
  refine lv_iload C0.1 C0.2.1 dX10_poke_0 (lv_at hl 3 rfl) ?_
  refine lv_iconst (v := iI (1)) C0.1 C0.2.1 dX10_poke_2 rfl ?_
  refine k_icmp_lt (tgt := 27) C0 (by constructor <;> omega) ⟨by decide, by decide⟩ dX10_poke_3 (by decide) (fun c1 => ?_) (fun c1 => ?_)
  · refine lv_iconst (v := iI (0)) C0.1 C0.2.1 dX10_poke_27 rfl ?_
    subst hQ
    refine k_zret C0 S hAe hsz hr hlk (by rfl) dX10_poke_28 ?_
    exact ⟨d, congrArg iI (bz_f (by unfold putOk; omega)).symm, rfl, fun h => absurd h (by unfold putOk; omega), fun _ => rfl⟩
  · refine lv_iload C0.1 C0.2.1 dX10_poke_6 (lv_at hl 3 rfl) ?_
    refine lv_bipush (v := iI (8)) C0.1 C0.2.1 dX10_poke_8 (by decide) ?_
    refine k_icmp_gt (tgt := 27) C0 (by constructor <;> omega) ⟨by decide, by decide⟩ dX10_poke_10 (by decide) (fun c2 => ?_) (fun c2 => ?_)
    · refine lv_iconst (v := iI (0)) C0.1 C0.2.1 dX10_poke_27 rfl ?_
      subst hQ
      refine k_zret C0 S hAe hsz hr hlk (by rfl) dX10_poke_28 ?_
      exact ⟨d, congrArg iI (bz_f (by unfold putOk; omega)).symm, rfl, fun h => absurd h (by unfold putOk; omega), fun _ => rfl⟩
    · refine lv_iload_n C0.1 C0.2.1 dX10_poke_13 rfl (lv_at hl 1 rfl) ?_
      refine k_if_lt (tgt := 27) C0 (by constructor <;> omega) dX10_poke_14 (by decide) (fun c3 => ?_) (fun c3 => ?_)
      · refine lv_iconst (v := iI (0)) C0.1 C0.2.1 dX10_poke_27 rfl ?_
        subst hQ
        refine k_zret C0 S hAe hsz hr hlk (by rfl) dX10_poke_28 ?_
        exact ⟨d, congrArg iI (bz_f (by unfold putOk; omega)).symm, rfl, fun h => absurd h (by unfold putOk; omega), fun _ => rfl⟩
      · refine lv_iload_n C0.1 C0.2.1 dX10_poke_17 rfl (lv_at hl 1 rfl) ?_
        refine lv_sipush (v := iI (2048)) C0.1 C0.2.1 dX10_poke_18 (by decide) ?_
        refine lv_iload C0.1 C0.2.1 dX10_poke_21 (lv_at hl 3 rfl) ?_
        refine k_isub C0 dX10_poke_23 ?_
        refine k_icmp_le (tgt := 29) C0 (by constructor <;> omega) (by constructor <;> omega) dX10_poke_24 (by decide) (fun c4 => ?_) (fun c4 => ?_)
        · refine lv_iconst (v := iI (0)) C0.1 C0.2.1 dX10_poke_29 rfl ?_
          refine lv_istore (lv' := [(5, .int (iI (0))), (0, .ref hM), (1, .int (iI (z))), (2, .long (b)), (4, .int (iI (k)))]) C0.1 C0.2.1 dX10_poke_30 hl (by decide) rfl (fun ls hl => ?_)
          have L32 : ∀ (n_ : Nat) (j : Nat), ((j : Int) ≤ k) → ((k - (j : Int)).toNat < n_) → ∀ (H : Heap) (locs : List Loc), kS D vwCl (kTys cA) A s [(hM, .inr (10, [.ref aD, .ref aM, .int (iI (st)), .int (iI (r3)), .int (iI (r4)), .int (iI (r5)), .int (iI (r6)), .int (iI (r7)), .int (iI (r8)), .int (iI (r9)), .int (iI (r10)), .ref aX, .int (iI (tl)), .ref aP, .int (iI (pn)), .ref aQ, .int (iI (nc)), .ref aK, .ref aO, .ref aA, .int (iI (kl)), .int (iI (ol)), .int (iI (al)), .ref a1, .ref a2, .ref a3])), (aD, .inl (cA 0, 2048, .inl (fun y_ => iI ((putK d z b j) y_))))] H locs → ∀ ls : Array Slot, lv_has ls 6 [(5, .int (iI ((j : Int)))), (0, .ref hM), (1, .int (iI (z))), (2, .long (b)), (4, .int (iI (k)))] → W p l e rmX10_poke s m args below meth c H locs 0 0 Q (F0 m 32 ls []) := by
            intro n_
            induction n_ with
            | zero => intro j hi32_0 hm; exact absurd hm (Nat.not_lt_zero _)
            | succ n_ ih32 =>
              intro j hi32_0 hm H locs S ls hl
              refine lv_iload C0.1 C0.2.1 dX10_poke_32 (lv_at hl 0 rfl) ?_
              refine lv_iload C0.1 C0.2.1 dX10_poke_34 (lv_at hl 4 rfl) ?_
              refine k_icmp_ge (tgt := 66) C0 (by constructor <;> omega) (by constructor <;> omega) dX10_poke_36 (by decide) (fun c5 => ?_) (fun c5 => ?_)
              · refine lv_iconst (v := iI (1)) C0.1 C0.2.1 dX10_poke_66 rfl ?_
                subst hQ
                refine k_zret C0 S hAe hsz hr hlk (by rfl) dX10_poke_67 ?_
                exact ⟨_, congrArg iI (bz_t (by unfold putOk; omega)).symm, rfl, fun _ => by rw [show (j : Nat) = k.toNat by omega], fun h => absurd (show putOk 2048 z k by unfold putOk; omega) h⟩
              · refine lv_aload_n C0.1 C0.2.1 dX10_poke_39 rfl (lv_at hl 1 rfl) ?_
                refine k_get C0 S (C := RX10) (T := TX10) (N := 26) (ci := 10) (by decide +kernel) 0 rfl rfl 0 (by decide) (by decide +kernel) (v := .ref aD) rfl dX10_poke_40 ?_
                refine lv_iload_n C0.1 C0.2.1 dX10_poke_43 rfl (lv_at hl 2 rfl) ?_
                refine lv_iload C0.1 C0.2.1 dX10_poke_44 (lv_at hl 0 rfl) ?_
                refine k_iadd C0 dX10_poke_46 ?_
                refine lv_lload_n C0.1 C0.2.1 dX10_poke_47 rfl (lv_at hl 3 rfl) ?_
                refine lv_bipush (v := iI (8)) C0.1 C0.2.1 dX10_poke_48 (by decide) ?_
                refine lv_iload C0.1 C0.2.1 dX10_poke_50 (lv_at hl 0 rfl) ?_
                refine k_imul C0 dX10_poke_52 ?_
                refine lv_lushr (v := ((b).toUInt64 >>> ((iI (8 * ((j : Int)))).toInt64.toUInt64 &&& Int64.toUInt64 63)).toInt64) C0.1 C0.2.1 dX10_poke_53 rfl ?_
                refine lv_l2i (v := (((b).toUInt64 >>> ((iI (8 * ((j : Int)))).toInt64.toUInt64 &&& Int64.toUInt64 63)).toInt64).toInt32) C0.1 C0.2.1 dX10_poke_54 rfl ?_
                refine lv_sipush (v := iI (255)) C0.1 C0.2.1 dX10_poke_55 (by decide) ?_
                refine lv_iand C0.1 C0.2.1 dX10_poke_58 ?_
                refine k_topeq (v := iI (byt b j)) (byt_u b j (by omega)) ?_
                refine k_iast (ws' := [(hM, .inr (10, [.ref aD, .ref aM, .int (iI (st)), .int (iI (r3)), .int (iI (r4)), .int (iI (r5)), .int (iI (r6)), .int (iI (r7)), .int (iI (r8)), .int (iI (r9)), .int (iI (r10)), .ref aX, .int (iI (tl)), .ref aP, .int (iI (pn)), .ref aQ, .int (iI (nc)), .ref aK, .ref aO, .ref aA, .int (iI (kl)), .int (iI (ol)), .int (iI (al)), .ref a1, .ref a2, .ref a3])), (aD, .inl (cA 0, 2048, .inl (fun y_ => iI ((va_up (putK d z b j) (z + ((j : Int))).toNat (byt b j)) y_))))]) C0 S 1 0 rfl rfl (z := z + ((j : Int))) (by omega) (by omega) (by omega) dX10_poke_59 rfl (fun H locs S => ?_)
                refine lv_iinc (v := iI ((j : Int) + 1)) (lv' := [(5, .int (iI ((j : Int) + 1))), (0, .ref hM), (1, .int (iI (z))), (2, .long (b)), (4, .int (iI (k)))]) C0.1 C0.2.1 dX10_poke_60 hl (k := 0) rfl (iI_add _ _) (by decide) rfl (fun ls hl => ?_)
                refine lv_goto (tgt := 32) C0.1 C0.2.1 dX10_poke_63 (by decide) ?_
                exact ih32 (j + 1) (by omega) (by omega) _ _ S _ (lv_sub hl [0, 1, 2, 3, 4] rfl)
          exact L32 (9) (0) (by omega) (by omega) _ _ S _ (lv_sub hl [0, 1, 2, 3, 4] rfl)
        · refine lv_iconst (v := iI (0)) C0.1 C0.2.1 dX10_poke_27 rfl ?_
          subst hQ
          refine k_zret C0 S hAe hsz hr hlk (by rfl) dX10_poke_28 ?_
          exact ⟨d, congrArg iI (bz_f (by unfold putOk; omega)).symm, rfl, fun h => absurd h (by unfold putOk; omega), fun _ => rfl⟩
def rmX10_peek : Room := { frames := 0, cells := 0, slots := 0, locals := 0 }
set_option maxHeartbeats 4000000 in
set_option maxRecDepth 100000 in
theorem c_X10_peek (l : Launch) (D : va_G) (cA : Nat → ClassId) (hM aD aM aX aP aQ aK aO aA a1 a2 a3 : Nat) (st r3 r4 r5 r6 r7 r8 r9 r10 tl pn nc kl ol al : Int) (d : Nat → Int) (z : Int) (hd : By d) (hz : ir z) : kCi l D vwCl (kTys cA) yX10_peek wsX10_peek rmX10_peek [.ref hM, .int (iI (z))] [(hM, .inr (10, [.ref aD, .ref aM, .int (iI (st)), .int (iI (r3)), .int (iI (r4)), .int (iI (r5)), .int (iI (r6)), .int (iI (r7)), .int (iI (r8)), .int (iI (r9)), .int (iI (r10)), .ref aX, .int (iI (tl)), .ref aP, .int (iI (pn)), .ref aQ, .int (iI (nc)), .ref aK, .ref aO, .ref aA, .int (iI (kl)), .int (iI (ol)), .int (iI (al)), .ref a1, .ref a2, .ref a3])), (aD, .inl (cA 0, 2048, .inl (fun y_ => iI (d y_))))] (fun r u => r = iI (bAt 2048 d z) ∧ u = [(hM, .inr (10, [.ref aD, .ref aM, .int (iI (st)), .int (iI (r3)), .int (iI (r4)), .int (iI (r5)), .int (iI (r6)), .int (iI (r7)), .int (iI (r8)), .int (iI (r9)), .int (iI (r10)), .ref aX, .int (iI (tl)), .ref aP, .int (iI (pn)), .ref aQ, .int (iI (nc)), .ref aK, .ref aO, .ref aA, .int (iI (kl)), .int (iI (ol)), .int (iI (al)), .ref a1, .ref a2, .ref a3])), (aD, .inl (cA 0, 2048, .inl (fun y_ => iI (d y_))))]) := by
  intro sz
  refine kEntry (cc := cX10_peek) (maxL := 2) (ret := (some .int)) (by decide) rfl (Nat.le_of_ble_eq_true rfl) ?_
  intro p e s m args below meth c A Q hAe hQ C0 hr hlk S hsz ls hl
  have hl : lv_has ls 2 [(0, .ref hM), (1, .int (iI (z)))] := hl
  obtain ⟨hz1, hz2⟩ := hz
  refine lv_iload_n C0.1 C0.2.1 dX10_peek_0 rfl (lv_at hl 1 rfl) ?_
  refine k_if_lt (tgt := 11) C0 (by constructor <;> omega) dX10_peek_1 (by decide) (fun c1 => ?_) (fun c1 => ?_)
  · refine lv_iconst (v := iI (-1)) C0.1 C0.2.1 dX10_peek_11 rfl ?_
    refine lv_goto (tgt := 21) C0.1 C0.2.1 dX10_peek_12 (by decide) ?_
    subst hQ
    refine k_iret C0 S hAe hsz hr hlk dX10_peek_21 ?_
    exact ⟨congrArg iI (by unfold bAt; rw [if_neg (by omega)]), rfl⟩
  · refine lv_iload_n C0.1 C0.2.1 dX10_peek_4 rfl (lv_at hl 1 rfl) ?_
    refine lv_sipush (v := iI (2047)) C0.1 C0.2.1 dX10_peek_5 (by decide) ?_
    refine k_icmp_le (tgt := 15) C0 (by constructor <;> omega) ⟨by decide, by decide⟩ dX10_peek_8 (by decide) (fun c2 => ?_) (fun c2 => ?_)
    · refine lv_aload_n C0.1 C0.2.1 dX10_peek_15 rfl (lv_at hl 0 rfl) ?_
      refine k_get C0 S (C := RX10) (T := TX10) (N := 26) (ci := 10) (by decide +kernel) 0 rfl rfl 0 (by decide) (by decide +kernel) (v := .ref aD) rfl dX10_peek_16 ?_
      refine lv_iload_n C0.1 C0.2.1 dX10_peek_19 rfl (lv_at hl 1 rfl) ?_
      refine k_iald C0 S 1 0 rfl rfl (z := z) (by omega) (by omega) (by omega) dX10_peek_20 ?_
      refine k_topeq (v := iI (rd d (z))) rfl ?_
      have hb3 := By.rd hd (z)
      subst hQ
      refine k_iret C0 S hAe hsz hr hlk dX10_peek_21 ?_
      exact ⟨congrArg iI (by unfold bAt; rw [if_pos ⟨by omega, by omega⟩]), rfl⟩
    · refine lv_iconst (v := iI (-1)) C0.1 C0.2.1 dX10_peek_11 rfl ?_
      refine lv_goto (tgt := 21) C0.1 C0.2.1 dX10_peek_12 (by decide) ?_
      subst hQ
      refine k_iret C0 S hAe hsz hr hlk dX10_peek_21 ?_
      exact ⟨congrArg iI (by unfold bAt; rw [if_neg (by omega)]), rfl⟩
def rmX10_word : Room := { frames := 0, cells := 0, slots := 0, locals := 0 }
set_option maxHeartbeats 4000000 in
set_option maxRecDepth 100000 in
theorem c_X10_word (l : Launch) (D : va_G) (cA : Nat → ClassId) (hM aD aM aX aP aQ aK aO aA a1 a2 a3 : Nat) (st r3 r4 r5 r6 r7 r8 r9 r10 tl pn nc kl ol al : Int) (d : Nat → Int) (z : Int) (hd : By d) (hz1 : 0 ≤ z) (hz2 : z + 1 < 2048) : kCi l D vwCl (kTys cA) yX10_word wsX10_word rmX10_word [.ref hM, .int (iI (z))] [(hM, .inr (10, [.ref aD, .ref aM, .int (iI (st)), .int (iI (r3)), .int (iI (r4)), .int (iI (r5)), .int (iI (r6)), .int (iI (r7)), .int (iI (r8)), .int (iI (r9)), .int (iI (r10)), .ref aX, .int (iI (tl)), .ref aP, .int (iI (pn)), .ref aQ, .int (iI (nc)), .ref aK, .ref aO, .ref aA, .int (iI (kl)), .int (iI (ol)), .int (iI (al)), .ref a1, .ref a2, .ref a3])), (aD, .inl (cA 0, 2048, .inl (fun y_ => iI (d y_))))] (fun r u => r = iI (wrd d z) ∧ u = [(hM, .inr (10, [.ref aD, .ref aM, .int (iI (st)), .int (iI (r3)), .int (iI (r4)), .int (iI (r5)), .int (iI (r6)), .int (iI (r7)), .int (iI (r8)), .int (iI (r9)), .int (iI (r10)), .ref aX, .int (iI (tl)), .ref aP, .int (iI (pn)), .ref aQ, .int (iI (nc)), .ref aK, .ref aO, .ref aA, .int (iI (kl)), .int (iI (ol)), .int (iI (al)), .ref a1, .ref a2, .ref a3])), (aD, .inl (cA 0, 2048, .inl (fun y_ => iI (d y_))))]) := by
  intro sz
  refine kEntry (cc := cX10_word) (maxL := 2) (ret := (some .int)) (by decide) rfl (Nat.le_of_ble_eq_true rfl) ?_
  intro p e s m args below meth c A Q hAe hQ C0 hr hlk S hsz ls hl
  have hl : lv_has ls 2 [(0, .ref hM), (1, .int (iI (z)))] := hl
  refine lv_aload_n C0.1 C0.2.1 dX10_word_0 rfl (lv_at hl 0 rfl) ?_
  refine k_get C0 S (C := RX10) (T := TX10) (N := 26) (ci := 10) (by decide +kernel) 0 rfl rfl 0 (by decide) (by decide +kernel) (v := .ref aD) rfl dX10_word_1 ?_
  refine lv_iload_n C0.1 C0.2.1 dX10_word_4 rfl (lv_at hl 1 rfl) ?_
  refine k_iald C0 S 1 0 rfl rfl (z := z) (by omega) (by omega) (by omega) dX10_word_5 ?_
  refine k_topeq (v := iI (rd d (z))) rfl ?_
  have hb1 := By.rd hd (z)
  refine lv_sipush (v := iI (256)) C0.1 C0.2.1 dX10_word_6 (by decide) ?_
  refine lv_aload_n C0.1 C0.2.1 dX10_word_9 rfl (lv_at hl 0 rfl) ?_
  refine k_get C0 S (C := RX10) (T := TX10) (N := 26) (ci := 10) (by decide +kernel) 0 rfl rfl 0 (by decide) (by decide +kernel) (v := .ref aD) rfl dX10_word_10 ?_
  refine lv_iload_n C0.1 C0.2.1 dX10_word_13 rfl (lv_at hl 1 rfl) ?_
  refine lv_iconst (v := iI (1)) C0.1 C0.2.1 dX10_word_14 rfl ?_
  refine k_iadd C0 dX10_word_15 ?_
  refine k_iald C0 S 1 0 rfl rfl (z := z + 1) (by omega) (by omega) (by omega) dX10_word_16 ?_
  refine k_topeq (v := iI (rd d (z + 1))) rfl ?_
  have hb2 := By.rd hd (z + 1)
  refine k_imul C0 dX10_word_17 ?_
  refine k_iadd C0 dX10_word_18 ?_
  subst hQ
  refine k_iret C0 S hAe hsz hr hlk dX10_word_19 ?_
  exact ⟨rfl, rfl⟩
def rmX10_four : Room := { frames := 1, cells := 0, slots := 0, locals := 21 }
set_option maxHeartbeats 4000000 in
set_option maxRecDepth 100000 in
theorem c_X10_four (l : Launch) (D : va_G) (cA : Nat → ClassId) (hM aD aM aX aP aQ aK aO aA a1 a2 a3 : Nat) (st r3 r4 r5 r6 r7 r8 r9 r10 tl pn nc kl ol al : Int) (d : Nat → Int) (z : Int) (hd : By d) (hz1 : 0 ≤ z) (hz2 : z + 3 < 2048) : kCi l D vwCl (kTys cA) yX10_four wsX10_four rmX10_four [.ref hM, .int (iI (z))] [(hM, .inr (10, [.ref aD, .ref aM, .int (iI (st)), .int (iI (r3)), .int (iI (r4)), .int (iI (r5)), .int (iI (r6)), .int (iI (r7)), .int (iI (r8)), .int (iI (r9)), .int (iI (r10)), .ref aX, .int (iI (tl)), .ref aP, .int (iI (pn)), .ref aQ, .int (iI (nc)), .ref aK, .ref aO, .ref aA, .int (iI (kl)), .int (iI (ol)), .int (iI (al)), .ref a1, .ref a2, .ref a3])), (aD, .inl (cA 0, 2048, .inl (fun y_ => iI (d y_))))] (fun r u => r = iI (n4 d z) ∧ u = [(hM, .inr (10, [.ref aD, .ref aM, .int (iI (st)), .int (iI (r3)), .int (iI (r4)), .int (iI (r5)), .int (iI (r6)), .int (iI (r7)), .int (iI (r8)), .int (iI (r9)), .int (iI (r10)), .ref aX, .int (iI (tl)), .ref aP, .int (iI (pn)), .ref aQ, .int (iI (nc)), .ref aK, .ref aO, .ref aA, .int (iI (kl)), .int (iI (ol)), .int (iI (al)), .ref a1, .ref a2, .ref a3])), (aD, .inl (cA 0, 2048, .inl (fun y_ => iI (d y_))))]) := by
  intro sz
  refine kEntry (cc := cX10_four) (maxL := 2) (ret := (some .int)) (by decide) rfl (Nat.le_of_ble_eq_true rfl) ?_
  intro p e s m args below meth c A Q hAe hQ C0 hr hlk S hsz ls hl
  have hl : lv_has ls 2 [(0, .ref hM), (1, .int (iI (z)))] := hl
  refine lv_aload_n C0.1 C0.2.1 dX10_four_0 rfl (lv_at hl 0 rfl) ?_
  refine lv_iload_n C0.1 C0.2.1 dX10_four_1 rfl (lv_at hl 1 rfl) ?_
  refine k_calli (n := 1) (wr := []) C0 S (c_X10_word l D cA hM aD aM aX aP aQ aK aO aA a1 a2 a3 (st) (r3) (r4) (r5) (r6) (r7) (r8) (r9) (r10) (tl) (pn) (nc) (kl) (ol) (al) d (z) hd (by omega) (by omega)) gX10_four_X10_word rfl ⟨rfl, rfl⟩ (by decide +kernel) ⟨Nat.le_of_ble_eq_true rfl, Nat.le_of_ble_eq_true rfl⟩ [0, 1] [] rfl rfl rfl rfl (by decide) (ci := 10) (q0 := 0) rfl rfl (As := [.int (iI (z))]) rfl hl.1 rfl (Nat.le_of_ble_eq_true rfl) dX10_four_2 ⟨Nat.zero_le _, Nat.zero_le _⟩ (fun r u H locs hp S => ?_)
  obtain ⟨rfl, rfl⟩ := hp
  have S := S.sub (ws' := [(hM, .inr (10, [.ref aD, .ref aM, .int (iI (st)), .int (iI (r3)), .int (iI (r4)), .int (iI (r5)), .int (iI (r6)), .int (iI (r7)), .int (iI (r8)), .int (iI (r9)), .int (iI (r10)), .ref aX, .int (iI (tl)), .ref aP, .int (iI (pn)), .ref aQ, .int (iI (nc)), .ref aK, .ref aO, .ref aA, .int (iI (kl)), .int (iI (ol)), .int (iI (al)), .ref a1, .ref a2, .ref a3])), (aD, .inl (cA 0, 2048, .inl (fun y_ => iI (d y_))))]) [0, 1] rfl rfl
  have hb3 := By_wrd hd (z)
  refine lv_ldc (v := iI (65536)) C0.1 C0.2.1 C0.2.2.2.1 (C0.2.2.2.2 (.constant RX10 51 (iI (65536))) (by decide +kernel)) dX10_four_5 ?_
  refine lv_aload_n C0.1 C0.2.1 dX10_four_7 rfl (lv_at hl 0 rfl) ?_
  refine lv_iload_n C0.1 C0.2.1 dX10_four_8 rfl (lv_at hl 1 rfl) ?_
  refine lv_iconst (v := iI (2)) C0.1 C0.2.1 dX10_four_9 rfl ?_
  refine k_iadd C0 dX10_four_10 ?_
  refine k_calli (n := 1) (wr := []) C0 S (c_X10_word l D cA hM aD aM aX aP aQ aK aO aA a1 a2 a3 (st) (r3) (r4) (r5) (r6) (r7) (r8) (r9) (r10) (tl) (pn) (nc) (kl) (ol) (al) d (z + 2) hd (by omega) (by omega)) gX10_four_X10_word rfl ⟨rfl, rfl⟩ (by decide +kernel) ⟨Nat.le_of_ble_eq_true rfl, Nat.le_of_ble_eq_true rfl⟩ [0, 1] [] rfl rfl rfl rfl (by decide) (ci := 10) (q0 := 0) rfl rfl (As := [.int (iI (z + 2))]) rfl hl.1 rfl (Nat.le_of_ble_eq_true rfl) dX10_four_11 ⟨Nat.zero_le _, Nat.zero_le _⟩ (fun r u H locs hp S => ?_)
  obtain ⟨rfl, rfl⟩ := hp
  have S := S.sub (ws' := [(hM, .inr (10, [.ref aD, .ref aM, .int (iI (st)), .int (iI (r3)), .int (iI (r4)), .int (iI (r5)), .int (iI (r6)), .int (iI (r7)), .int (iI (r8)), .int (iI (r9)), .int (iI (r10)), .ref aX, .int (iI (tl)), .ref aP, .int (iI (pn)), .ref aQ, .int (iI (nc)), .ref aK, .ref aO, .ref aA, .int (iI (kl)), .int (iI (ol)), .int (iI (al)), .ref a1, .ref a2, .ref a3])), (aD, .inl (cA 0, 2048, .inl (fun y_ => iI (d y_))))]) [0, 1] rfl rfl
  have hb6 := By_wrd hd (z + 2)
  refine k_imul C0 dX10_four_14 ?_
  refine k_iadd C0 dX10_four_15 ?_
  subst hQ
  refine k_iret C0 S hAe hsz hr hlk dX10_four_16 ?_
  exact ⟨congrArg iI (by unfold wrd n4; rw [show z + 2 + 1 = z + 3 by omega]; omega), rfl⟩
def rmX10_isUsable : Room := { frames := 0, cells := 0, slots := 0, locals := 0 }
set_option maxHeartbeats 4000000 in
set_option maxRecDepth 100000 in
theorem c_X10_isUsable (l : Launch) (D : va_G) (cA : Nat → ClassId) (hM aD aM aX aP aQ aK aO aA a1 a2 a3 : Nat) (st r3 r4 r5 r6 r7 r8 r9 r10 tl pn nc kl ol al : Int) (d : Nat → Int) (z : Int) (hd : By d) (hz1 : 0 ≤ z) (hz2 : z ≤ 2) : kCi l D vwCl (kTys cA) yX10_isUsable wsX10_isUsable rmX10_isUsable [.ref hM, .int (iI (z))] [(hM, .inr (10, [.ref aD, .ref aM, .int (iI (st)), .int (iI (r3)), .int (iI (r4)), .int (iI (r5)), .int (iI (r6)), .int (iI (r7)), .int (iI (r8)), .int (iI (r9)), .int (iI (r10)), .ref aX, .int (iI (tl)), .ref aP, .int (iI (pn)), .ref aQ, .int (iI (nc)), .ref aK, .ref aO, .ref aA, .int (iI (kl)), .int (iI (ol)), .int (iI (al)), .ref a1, .ref a2, .ref a3])), (aD, .inl (cA 0, 2048, .inl (fun y_ => iI (d y_))))] (fun r u => r = iI (bz (us d z)) ∧ u = [(hM, .inr (10, [.ref aD, .ref aM, .int (iI (st)), .int (iI (r3)), .int (iI (r4)), .int (iI (r5)), .int (iI (r6)), .int (iI (r7)), .int (iI (r8)), .int (iI (r9)), .int (iI (r10)), .ref aX, .int (iI (tl)), .ref aP, .int (iI (pn)), .ref aQ, .int (iI (nc)), .ref aK, .ref aO, .ref aA, .int (iI (kl)), .int (iI (ol)), .int (iI (al)), .ref a1, .ref a2, .ref a3])), (aD, .inl (cA 0, 2048, .inl (fun y_ => iI (d y_))))]) := by
  intro sz
  refine kEntry (cc := cX10_isUsable) (maxL := 3) (ret := (some .boolean)) (by decide) rfl (Nat.le_of_ble_eq_true rfl) ?_
  intro p e s m args below meth c A Q hAe hQ C0 hr hlk S hsz ls hl
  have hl : lv_has ls 3 [(0, .ref hM), (1, .int (iI (z)))] := hl
  refine lv_bipush (v := iI (6)) C0.1 C0.2.1 dX10_isUsable_0 (by decide) ?_
  refine lv_bipush (v := iI (8)) C0.1 C0.2.1 dX10_isUsable_2 (by decide) ?_
  refine lv_iload_n C0.1 C0.2.1 dX10_isUsable_4 rfl (lv_at hl 1 rfl) ?_
  refine k_imul C0 dX10_isUsable_5 ?_
  refine k_iadd C0 dX10_isUsable_6 ?_
  refine lv_istore_n (lv' := [(2, .int (iI (6 + (8 * z)))), (0, .ref hM), (1, .int (iI (z)))]) C0.1 C0.2.1 dX10_isUsable_7 rfl hl (by decide) rfl (fun ls hl => ?_)
  refine lv_aload_n C0.1 C0.2.1 dX10_isUsable_8 rfl (lv_at hl 1 rfl) ?_
  refine k_get C0 S (C := RX10) (T := TX10) (N := 26) (ci := 10) (by decide +kernel) 0 rfl rfl 0 (by decide) (by decide +kernel) (v := .ref aD) rfl dX10_isUsable_9 ?_
  refine lv_iload_n C0.1 C0.2.1 dX10_isUsable_12 rfl (lv_at hl 0 rfl) ?_
  refine lv_iconst (v := iI (1)) C0.1 C0.2.1 dX10_isUsable_13 rfl ?_
  refine k_iadd C0 dX10_isUsable_14 ?_
  refine k_iald C0 S 1 0 rfl rfl (z := (6 + (8 * z)) + 1) (by omega) (by omega) (by omega) dX10_isUsable_15 ?_
  refine k_topeq (v := iI (rd d ((6 + (8 * z)) + 1))) rfl ?_
  have hb1 := By.rd hd ((6 + (8 * z)) + 1)
  refine lv_bipush (v := iI (12)) C0.1 C0.2.1 dX10_isUsable_16 (by decide) ?_
  refine k_icmp_ne (tgt := 71) C0 (by constructor <;> omega) ⟨by decide, by decide⟩ dX10_isUsable_18 (by decide) (fun c2 => ?_) (fun c2 => ?_)
  · refine lv_iconst (v := iI (0)) C0.1 C0.2.1 dX10_isUsable_71 rfl ?_
    subst hQ
    refine k_zret C0 S hAe hsz hr hlk (by rfl) dX10_isUsable_72 ?_
    exact ⟨congrArg iI (bz_f (by unfold us; omega)).symm, rfl⟩
  · refine lv_aload_n C0.1 C0.2.1 dX10_isUsable_21 rfl (lv_at hl 1 rfl) ?_
    refine k_get C0 S (C := RX10) (T := TX10) (N := 26) (ci := 10) (by decide +kernel) 0 rfl rfl 0 (by decide) (by decide +kernel) (v := .ref aD) rfl dX10_isUsable_22 ?_
    refine lv_iload_n C0.1 C0.2.1 dX10_isUsable_25 rfl (lv_at hl 0 rfl) ?_
    refine lv_iconst (v := iI (2)) C0.1 C0.2.1 dX10_isUsable_26 rfl ?_
    refine k_iadd C0 dX10_isUsable_27 ?_
    refine k_iald C0 S 1 0 rfl rfl (z := (6 + (8 * z)) + 2) (by omega) (by omega) (by omega) dX10_isUsable_28 ?_
    refine k_topeq (v := iI (rd d ((6 + (8 * z)) + 2))) rfl ?_
    have hb3 := By.rd hd ((6 + (8 * z)) + 2)
    refine lv_iconst (v := iI (1)) C0.1 C0.2.1 dX10_isUsable_29 rfl ?_
    refine k_icmp_lt (tgt := 71) C0 (by constructor <;> omega) ⟨by decide, by decide⟩ dX10_isUsable_30 (by decide) (fun c4 => ?_) (fun c4 => ?_)
    · refine lv_iconst (v := iI (0)) C0.1 C0.2.1 dX10_isUsable_71 rfl ?_
      subst hQ
      refine k_zret C0 S hAe hsz hr hlk (by rfl) dX10_isUsable_72 ?_
      exact ⟨congrArg iI (bz_f (by unfold us; omega)).symm, rfl⟩
    · refine lv_aload_n C0.1 C0.2.1 dX10_isUsable_33 rfl (lv_at hl 1 rfl) ?_
      refine k_get C0 S (C := RX10) (T := TX10) (N := 26) (ci := 10) (by decide +kernel) 0 rfl rfl 0 (by decide) (by decide +kernel) (v := .ref aD) rfl dX10_isUsable_34 ?_
      refine lv_iload_n C0.1 C0.2.1 dX10_isUsable_37 rfl (lv_at hl 0 rfl) ?_
      refine lv_iconst (v := iI (3)) C0.1 C0.2.1 dX10_isUsable_38 rfl ?_
      refine k_iadd C0 dX10_isUsable_39 ?_
      refine k_iald C0 S 1 0 rfl rfl (z := (6 + (8 * z)) + 3) (by omega) (by omega) (by omega) dX10_isUsable_40 ?_
      refine k_topeq (v := iI (rd d ((6 + (8 * z)) + 3))) rfl ?_
      have hb5 := By.rd hd ((6 + (8 * z)) + 3)
      refine lv_iconst (v := iI (1)) C0.1 C0.2.1 dX10_isUsable_41 rfl ?_
      refine k_icmp_lt (tgt := 71) C0 (by constructor <;> omega) ⟨by decide, by decide⟩ dX10_isUsable_42 (by decide) (fun c6 => ?_) (fun c6 => ?_)
      · refine lv_iconst (v := iI (0)) C0.1 C0.2.1 dX10_isUsable_71 rfl ?_
        subst hQ
        refine k_zret C0 S hAe hsz hr hlk (by rfl) dX10_isUsable_72 ?_
        exact ⟨congrArg iI (bz_f (by unfold us; omega)).symm, rfl⟩
      · refine lv_aload_n C0.1 C0.2.1 dX10_isUsable_45 rfl (lv_at hl 1 rfl) ?_
        refine k_get C0 S (C := RX10) (T := TX10) (N := 26) (ci := 10) (by decide +kernel) 0 rfl rfl 0 (by decide) (by decide +kernel) (v := .ref aD) rfl dX10_isUsable_46 ?_
        refine lv_iload_n C0.1 C0.2.1 dX10_isUsable_49 rfl (lv_at hl 0 rfl) ?_
        refine lv_iconst (v := iI (2)) C0.1 C0.2.1 dX10_isUsable_50 rfl ?_
        refine k_iadd C0 dX10_isUsable_51 ?_
        refine k_iald C0 S 1 0 rfl rfl (z := (6 + (8 * z)) + 2) (by omega) (by omega) (by omega) dX10_isUsable_52 ?_
        refine k_topeq (v := iI (rd d ((6 + (8 * z)) + 2))) rfl ?_
        have hb7 := By.rd hd ((6 + (8 * z)) + 2)
        refine lv_aload_n C0.1 C0.2.1 dX10_isUsable_53 rfl (lv_at hl 1 rfl) ?_
        refine k_get C0 S (C := RX10) (T := TX10) (N := 26) (ci := 10) (by decide +kernel) 0 rfl rfl 0 (by decide) (by decide +kernel) (v := .ref aD) rfl dX10_isUsable_54 ?_
        refine lv_iload_n C0.1 C0.2.1 dX10_isUsable_57 rfl (lv_at hl 0 rfl) ?_
        refine lv_iconst (v := iI (3)) C0.1 C0.2.1 dX10_isUsable_58 rfl ?_
        refine k_iadd C0 dX10_isUsable_59 ?_
        refine k_iald C0 S 1 0 rfl rfl (z := (6 + (8 * z)) + 3) (by omega) (by omega) (by omega) dX10_isUsable_60 ?_
        refine k_topeq (v := iI (rd d ((6 + (8 * z)) + 3))) rfl ?_
        have hb8 := By.rd hd ((6 + (8 * z)) + 3)
        refine k_iadd C0 dX10_isUsable_61 ?_
        refine lv_bipush (v := iI (64)) C0.1 C0.2.1 dX10_isUsable_62 (by decide) ?_
        refine k_icmp_gt (tgt := 71) C0 (by constructor <;> omega) ⟨by decide, by decide⟩ dX10_isUsable_64 (by decide) (fun c9 => ?_) (fun c9 => ?_)
        · refine lv_iconst (v := iI (0)) C0.1 C0.2.1 dX10_isUsable_71 rfl ?_
          subst hQ
          refine k_zret C0 S hAe hsz hr hlk (by rfl) dX10_isUsable_72 ?_
          exact ⟨congrArg iI (bz_f (by unfold us; omega)).symm, rfl⟩
        · refine lv_iconst (v := iI (1)) C0.1 C0.2.1 dX10_isUsable_67 rfl ?_
          refine lv_goto (tgt := 72) C0.1 C0.2.1 dX10_isUsable_68 (by decide) ?_
          subst hQ
          refine k_zret C0 S hAe hsz hr hlk (by rfl) dX10_isUsable_72 ?_
          exact ⟨congrArg iI (bz_t (by unfold us; omega)).symm, rfl⟩
def rmX10_choose : Room := { frames := 1, cells := 0, slots := 0, locals := 22 }
set_option maxHeartbeats 4000000 in
set_option maxRecDepth 100000 in
theorem c_X10_choose (l : Launch) (D : va_G) (cA : Nat → ClassId) (hM aD aM aX aP aQ aK aO aA a1 a2 a3 : Nat) (st r3 r4 r5 r6 r7 r8 r9 r10 tl pn nc kl ol al : Int) (d : Nat → Int) (hd : By d) : kCi l D vwCl (kTys cA) yX10_choose wsX10_choose rmX10_choose [.ref hM] [(hM, .inr (10, [.ref aD, .ref aM, .int (iI (st)), .int (iI (r3)), .int (iI (r4)), .int (iI (r5)), .int (iI (r6)), .int (iI (r7)), .int (iI (r8)), .int (iI (r9)), .int (iI (r10)), .ref aX, .int (iI (tl)), .ref aP, .int (iI (pn)), .ref aQ, .int (iI (nc)), .ref aK, .ref aO, .ref aA, .int (iI (kl)), .int (iI (ol)), .int (iI (al)), .ref a1, .ref a2, .ref a3])), (aD, .inl (cA 0, 2048, .inl (fun y_ => iI (d y_))))] (fun r u => r = iI (chs d) ∧ u = [(hM, .inr (10, [.ref aD, .ref aM, .int (iI (st)), .int (iI (r3)), .int (iI (r4)), .int (iI (r5)), .int (iI (r6)), .int (iI (r7)), .int (iI (r8)), .int (iI (r9)), .int (iI (r10)), .ref aX, .int (iI (tl)), .ref aP, .int (iI (pn)), .ref aQ, .int (iI (nc)), .ref aK, .ref aO, .ref aA, .int (iI (kl)), .int (iI (ol)), .int (iI (al)), .ref a1, .ref a2, .ref a3])), (aD, .inl (cA 0, 2048, .inl (fun y_ => iI (d y_))))]) := by
  intro sz
  refine kEntry (cc := cX10_choose) (maxL := 2) (ret := (some .int)) (by decide) rfl (Nat.le_of_ble_eq_true rfl) ?_
  intro p e s m args below meth c A Q hAe hQ C0 hr hlk S hsz ls hl
  have hl : lv_has ls 2 [(0, .ref hM)] := hl
  refine lv_iconst (v := iI (0)) C0.1 C0.2.1 dX10_choose_0 rfl ?_
  refine lv_istore_n (lv' := [(1, .int (iI (0))), (0, .ref hM)]) C0.1 C0.2.1 dX10_choose_1 rfl hl (by decide) rfl (fun ls hl => ?_)
  refine lv_iload_n C0.1 C0.2.1 dX10_choose_2 rfl (lv_at hl 0 rfl) ?_
  refine lv_iconst (v := iI (3)) C0.1 C0.2.1 dX10_choose_3 rfl ?_
  refine k_icmp_ge (tgt := 41) C0 ⟨by decide, by decide⟩ ⟨by decide, by decide⟩ dX10_choose_4 (by decide) (fun hc => absurd hc (by decide)) (fun _ => ?_)
  refine lv_aload_n C0.1 C0.2.1 dX10_choose_7 rfl (lv_at hl 1 rfl) ?_
  refine lv_iload_n C0.1 C0.2.1 dX10_choose_8 rfl (lv_at hl 0 rfl) ?_
  refine k_calli (n := 1) (wr := []) C0 S (c_X10_isUsable l D cA hM aD aM aX aP aQ aK aO aA a1 a2 a3 (st) (r3) (r4) (r5) (r6) (r7) (r8) (r9) (r10) (tl) (pn) (nc) (kl) (ol) (al) d (0) hd (by decide) (by decide)) gX10_choose_X10_isUsable rfl ⟨rfl, rfl⟩ (by decide +kernel) ⟨Nat.le_of_ble_eq_true rfl, Nat.le_of_ble_eq_true rfl⟩ [0, 1] [] rfl rfl rfl rfl (by decide) (ci := 10) (q0 := 0) rfl rfl (As := [.int (iI (0))]) rfl hl.1 rfl (Nat.le_of_ble_eq_true rfl) dX10_choose_9 ⟨Nat.zero_le _, Nat.zero_le _⟩ (fun r u H locs hp S => ?_)
  obtain ⟨rfl, rfl⟩ := hp
  have S := S.sub (ws' := [(hM, .inr (10, [.ref aD, .ref aM, .int (iI (st)), .int (iI (r3)), .int (iI (r4)), .int (iI (r5)), .int (iI (r6)), .int (iI (r7)), .int (iI (r8)), .int (iI (r9)), .int (iI (r10)), .ref aX, .int (iI (tl)), .ref aP, .int (iI (pn)), .ref aQ, .int (iI (nc)), .ref aK, .ref aO, .ref aA, .int (iI (kl)), .int (iI (ol)), .int (iI (al)), .ref a1, .ref a2, .ref a3])), (aD, .inl (cA 0, 2048, .inl (fun y_ => iI (d y_))))]) [0, 1] rfl rfl
  refine k_bz_eq (tgt := 35) C0 dX10_choose_12 (by decide) (fun c3 => ?_) (fun c3 => ?_)
  · refine lv_iinc (v := iI (1)) (lv' := [(1, .int (iI (1))), (0, .ref hM)]) C0.1 C0.2.1 dX10_choose_35 hl (k := 0) rfl (by decide) (by decide) rfl (fun ls hl => ?_)
    refine lv_goto (tgt := 2) C0.1 C0.2.1 dX10_choose_38 (by decide) ?_
    refine lv_iload_n C0.1 C0.2.1 dX10_choose_2 rfl (lv_at hl 0 rfl) ?_
    refine lv_iconst (v := iI (3)) C0.1 C0.2.1 dX10_choose_3 rfl ?_
    refine k_icmp_ge (tgt := 41) C0 ⟨by decide, by decide⟩ ⟨by decide, by decide⟩ dX10_choose_4 (by decide) (fun hc => absurd hc (by decide)) (fun _ => ?_)
    refine lv_aload_n C0.1 C0.2.1 dX10_choose_7 rfl (lv_at hl 1 rfl) ?_
    refine lv_iload_n C0.1 C0.2.1 dX10_choose_8 rfl (lv_at hl 0 rfl) ?_
    refine k_calli (n := 1) (wr := []) C0 S (c_X10_isUsable l D cA hM aD aM aX aP aQ aK aO aA a1 a2 a3 (st) (r3) (r4) (r5) (r6) (r7) (r8) (r9) (r10) (tl) (pn) (nc) (kl) (ol) (al) d (1) hd (by decide) (by decide)) gX10_choose_X10_isUsable rfl ⟨rfl, rfl⟩ (by decide +kernel) ⟨Nat.le_of_ble_eq_true rfl, Nat.le_of_ble_eq_true rfl⟩ [0, 1] [] rfl rfl rfl rfl (by decide) (ci := 10) (q0 := 0) rfl rfl (As := [.int (iI (1))]) rfl hl.1 rfl (Nat.le_of_ble_eq_true rfl) dX10_choose_9 ⟨Nat.zero_le _, Nat.zero_le _⟩ (fun r u H locs hp S => ?_)
    obtain ⟨rfl, rfl⟩ := hp
    have S := S.sub (ws' := [(hM, .inr (10, [.ref aD, .ref aM, .int (iI (st)), .int (iI (r3)), .int (iI (r4)), .int (iI (r5)), .int (iI (r6)), .int (iI (r7)), .int (iI (r8)), .int (iI (r9)), .int (iI (r10)), .ref aX, .int (iI (tl)), .ref aP, .int (iI (pn)), .ref aQ, .int (iI (nc)), .ref aK, .ref aO, .ref aA, .int (iI (kl)), .int (iI (ol)), .int (iI (al)), .ref a1, .ref a2, .ref a3])), (aD, .inl (cA 0, 2048, .inl (fun y_ => iI (d y_))))]) [0, 1] rfl rfl
    refine k_bz_eq (tgt := 35) C0 dX10_choose_12 (by decide) (fun c6 => ?_) (fun c6 => ?_)
    · refine lv_iinc (v := iI (2)) (lv' := [(1, .int (iI (2))), (0, .ref hM)]) C0.1 C0.2.1 dX10_choose_35 hl (k := 0) rfl (by decide) (by decide) rfl (fun ls hl => ?_)
      refine lv_goto (tgt := 2) C0.1 C0.2.1 dX10_choose_38 (by decide) ?_
      refine lv_iload_n C0.1 C0.2.1 dX10_choose_2 rfl (lv_at hl 0 rfl) ?_
      refine lv_iconst (v := iI (3)) C0.1 C0.2.1 dX10_choose_3 rfl ?_
      refine k_icmp_ge (tgt := 41) C0 ⟨by decide, by decide⟩ ⟨by decide, by decide⟩ dX10_choose_4 (by decide) (fun hc => absurd hc (by decide)) (fun _ => ?_)
      refine lv_aload_n C0.1 C0.2.1 dX10_choose_7 rfl (lv_at hl 1 rfl) ?_
      refine lv_iload_n C0.1 C0.2.1 dX10_choose_8 rfl (lv_at hl 0 rfl) ?_
      refine k_calli (n := 1) (wr := []) C0 S (c_X10_isUsable l D cA hM aD aM aX aP aQ aK aO aA a1 a2 a3 (st) (r3) (r4) (r5) (r6) (r7) (r8) (r9) (r10) (tl) (pn) (nc) (kl) (ol) (al) d (2) hd (by decide) (by decide)) gX10_choose_X10_isUsable rfl ⟨rfl, rfl⟩ (by decide +kernel) ⟨Nat.le_of_ble_eq_true rfl, Nat.le_of_ble_eq_true rfl⟩ [0, 1] [] rfl rfl rfl rfl (by decide) (ci := 10) (q0 := 0) rfl rfl (As := [.int (iI (2))]) rfl hl.1 rfl (Nat.le_of_ble_eq_true rfl) dX10_choose_9 ⟨Nat.zero_le _, Nat.zero_le _⟩ (fun r u H locs hp S => ?_)
      obtain ⟨rfl, rfl⟩ := hp
      have S := S.sub (ws' := [(hM, .inr (10, [.ref aD, .ref aM, .int (iI (st)), .int (iI (r3)), .int (iI (r4)), .int (iI (r5)), .int (iI (r6)), .int (iI (r7)), .int (iI (r8)), .int (iI (r9)), .int (iI (r10)), .ref aX, .int (iI (tl)), .ref aP, .int (iI (pn)), .ref aQ, .int (iI (nc)), .ref aK, .ref aO, .ref aA, .int (iI (kl)), .int (iI (ol)), .int (iI (al)), .ref a1, .ref a2, .ref a3])), (aD, .inl (cA 0, 2048, .inl (fun y_ => iI (d y_))))]) [0, 1] rfl rfl
      refine k_bz_eq (tgt := 35) C0 dX10_choose_12 (by decide) (fun c9 => ?_) (fun c9 => ?_)
      · refine lv_iinc (v := iI (3)) (lv' := [(1, .int (iI (3))), (0, .ref hM)]) C0.1 C0.2.1 dX10_choose_35 hl (k := 0) rfl (by decide) (by decide) rfl (fun ls hl => ?_)
        refine lv_goto (tgt := 2) C0.1 C0.2.1 dX10_choose_38 (by decide) ?_
        refine lv_iload_n C0.1 C0.2.1 dX10_choose_2 rfl (lv_at hl 0 rfl) ?_
        refine lv_iconst (v := iI (3)) C0.1 C0.2.1 dX10_choose_3 rfl ?_
        refine k_icmp_ge (tgt := 41) C0 ⟨by decide, by decide⟩ ⟨by decide, by decide⟩ dX10_choose_4 (by decide) (fun _ => ?_) (fun hc => absurd hc (by decide))
        refine lv_iconst (v := iI (0)) C0.1 C0.2.1 dX10_choose_41 rfl ?_
        refine lv_istore_n (lv' := [(1, .int (iI (0))), (0, .ref hM)]) C0.1 C0.2.1 dX10_choose_42 rfl hl (by decide) rfl (fun ls hl => ?_)
        refine lv_iload_n C0.1 C0.2.1 dX10_choose_43 rfl (lv_at hl 0 rfl) ?_
        refine lv_iconst (v := iI (3)) C0.1 C0.2.1 dX10_choose_44 rfl ?_
        refine k_icmp_ge (tgt := 64) C0 ⟨by decide, by decide⟩ ⟨by decide, by decide⟩ dX10_choose_45 (by decide) (fun hc => absurd hc (by decide)) (fun _ => ?_)
        refine lv_aload_n C0.1 C0.2.1 dX10_choose_48 rfl (lv_at hl 1 rfl) ?_
        refine lv_iload_n C0.1 C0.2.1 dX10_choose_49 rfl (lv_at hl 0 rfl) ?_
        refine k_calli (n := 1) (wr := []) C0 S (c_X10_isUsable l D cA hM aD aM aX aP aQ aK aO aA a1 a2 a3 (st) (r3) (r4) (r5) (r6) (r7) (r8) (r9) (r10) (tl) (pn) (nc) (kl) (ol) (al) d (0) hd (by decide) (by decide)) gX10_choose_X10_isUsable rfl ⟨rfl, rfl⟩ (by decide +kernel) ⟨Nat.le_of_ble_eq_true rfl, Nat.le_of_ble_eq_true rfl⟩ [0, 1] [] rfl rfl rfl rfl (by decide) (ci := 10) (q0 := 0) rfl rfl (As := [.int (iI (0))]) rfl hl.1 rfl (Nat.le_of_ble_eq_true rfl) dX10_choose_50 ⟨Nat.zero_le _, Nat.zero_le _⟩ (fun r u H locs hp S => ?_)
        obtain ⟨rfl, rfl⟩ := hp
        have S := S.sub (ws' := [(hM, .inr (10, [.ref aD, .ref aM, .int (iI (st)), .int (iI (r3)), .int (iI (r4)), .int (iI (r5)), .int (iI (r6)), .int (iI (r7)), .int (iI (r8)), .int (iI (r9)), .int (iI (r10)), .ref aX, .int (iI (tl)), .ref aP, .int (iI (pn)), .ref aQ, .int (iI (nc)), .ref aK, .ref aO, .ref aA, .int (iI (kl)), .int (iI (ol)), .int (iI (al)), .ref a1, .ref a2, .ref a3])), (aD, .inl (cA 0, 2048, .inl (fun y_ => iI (d y_))))]) [0, 1] rfl rfl
        refine k_bz_eq (tgt := 58) C0 dX10_choose_53 (by decide) (fun c12 => ?_) (fun c12 => ?_)
        · refine lv_iinc (v := iI (1)) (lv' := [(1, .int (iI (1))), (0, .ref hM)]) C0.1 C0.2.1 dX10_choose_58 hl (k := 0) rfl (by decide) (by decide) rfl (fun ls hl => ?_)
          refine lv_goto (tgt := 43) C0.1 C0.2.1 dX10_choose_61 (by decide) ?_
          refine lv_iload_n C0.1 C0.2.1 dX10_choose_43 rfl (lv_at hl 0 rfl) ?_
          refine lv_iconst (v := iI (3)) C0.1 C0.2.1 dX10_choose_44 rfl ?_
          refine k_icmp_ge (tgt := 64) C0 ⟨by decide, by decide⟩ ⟨by decide, by decide⟩ dX10_choose_45 (by decide) (fun hc => absurd hc (by decide)) (fun _ => ?_)
          refine lv_aload_n C0.1 C0.2.1 dX10_choose_48 rfl (lv_at hl 1 rfl) ?_
          refine lv_iload_n C0.1 C0.2.1 dX10_choose_49 rfl (lv_at hl 0 rfl) ?_
          refine k_calli (n := 1) (wr := []) C0 S (c_X10_isUsable l D cA hM aD aM aX aP aQ aK aO aA a1 a2 a3 (st) (r3) (r4) (r5) (r6) (r7) (r8) (r9) (r10) (tl) (pn) (nc) (kl) (ol) (al) d (1) hd (by decide) (by decide)) gX10_choose_X10_isUsable rfl ⟨rfl, rfl⟩ (by decide +kernel) ⟨Nat.le_of_ble_eq_true rfl, Nat.le_of_ble_eq_true rfl⟩ [0, 1] [] rfl rfl rfl rfl (by decide) (ci := 10) (q0 := 0) rfl rfl (As := [.int (iI (1))]) rfl hl.1 rfl (Nat.le_of_ble_eq_true rfl) dX10_choose_50 ⟨Nat.zero_le _, Nat.zero_le _⟩ (fun r u H locs hp S => ?_)
          obtain ⟨rfl, rfl⟩ := hp
          have S := S.sub (ws' := [(hM, .inr (10, [.ref aD, .ref aM, .int (iI (st)), .int (iI (r3)), .int (iI (r4)), .int (iI (r5)), .int (iI (r6)), .int (iI (r7)), .int (iI (r8)), .int (iI (r9)), .int (iI (r10)), .ref aX, .int (iI (tl)), .ref aP, .int (iI (pn)), .ref aQ, .int (iI (nc)), .ref aK, .ref aO, .ref aA, .int (iI (kl)), .int (iI (ol)), .int (iI (al)), .ref a1, .ref a2, .ref a3])), (aD, .inl (cA 0, 2048, .inl (fun y_ => iI (d y_))))]) [0, 1] rfl rfl
          refine k_bz_eq (tgt := 58) C0 dX10_choose_53 (by decide) (fun c15 => ?_) (fun c15 => ?_)
          · refine lv_iinc (v := iI (2)) (lv' := [(1, .int (iI (2))), (0, .ref hM)]) C0.1 C0.2.1 dX10_choose_58 hl (k := 0) rfl (by decide) (by decide) rfl (fun ls hl => ?_)
            refine lv_goto (tgt := 43) C0.1 C0.2.1 dX10_choose_61 (by decide) ?_
            refine lv_iload_n C0.1 C0.2.1 dX10_choose_43 rfl (lv_at hl 0 rfl) ?_
            refine lv_iconst (v := iI (3)) C0.1 C0.2.1 dX10_choose_44 rfl ?_
            refine k_icmp_ge (tgt := 64) C0 ⟨by decide, by decide⟩ ⟨by decide, by decide⟩ dX10_choose_45 (by decide) (fun hc => absurd hc (by decide)) (fun _ => ?_)
            refine lv_aload_n C0.1 C0.2.1 dX10_choose_48 rfl (lv_at hl 1 rfl) ?_
            refine lv_iload_n C0.1 C0.2.1 dX10_choose_49 rfl (lv_at hl 0 rfl) ?_
            refine k_calli (n := 1) (wr := []) C0 S (c_X10_isUsable l D cA hM aD aM aX aP aQ aK aO aA a1 a2 a3 (st) (r3) (r4) (r5) (r6) (r7) (r8) (r9) (r10) (tl) (pn) (nc) (kl) (ol) (al) d (2) hd (by decide) (by decide)) gX10_choose_X10_isUsable rfl ⟨rfl, rfl⟩ (by decide +kernel) ⟨Nat.le_of_ble_eq_true rfl, Nat.le_of_ble_eq_true rfl⟩ [0, 1] [] rfl rfl rfl rfl (by decide) (ci := 10) (q0 := 0) rfl rfl (As := [.int (iI (2))]) rfl hl.1 rfl (Nat.le_of_ble_eq_true rfl) dX10_choose_50 ⟨Nat.zero_le _, Nat.zero_le _⟩ (fun r u H locs hp S => ?_)
            obtain ⟨rfl, rfl⟩ := hp
            have S := S.sub (ws' := [(hM, .inr (10, [.ref aD, .ref aM, .int (iI (st)), .int (iI (r3)), .int (iI (r4)), .int (iI (r5)), .int (iI (r6)), .int (iI (r7)), .int (iI (r8)), .int (iI (r9)), .int (iI (r10)), .ref aX, .int (iI (tl)), .ref aP, .int (iI (pn)), .ref aQ, .int (iI (nc)), .ref aK, .ref aO, .ref aA, .int (iI (kl)), .int (iI (ol)), .int (iI (al)), .ref a1, .ref a2, .ref a3])), (aD, .inl (cA 0, 2048, .inl (fun y_ => iI (d y_))))]) [0, 1] rfl rfl
            refine k_bz_eq (tgt := 58) C0 dX10_choose_53 (by decide) (fun c18 => ?_) (fun c18 => ?_)
            · refine lv_iinc (v := iI (3)) (lv' := [(1, .int (iI (3))), (0, .ref hM)]) C0.1 C0.2.1 dX10_choose_58 hl (k := 0) rfl (by decide) (by decide) rfl (fun ls hl => ?_)
              refine lv_goto (tgt := 43) C0.1 C0.2.1 dX10_choose_61 (by decide) ?_
              refine lv_iload_n C0.1 C0.2.1 dX10_choose_43 rfl (lv_at hl 0 rfl) ?_
              refine lv_iconst (v := iI (3)) C0.1 C0.2.1 dX10_choose_44 rfl ?_
              refine k_icmp_ge (tgt := 64) C0 ⟨by decide, by decide⟩ ⟨by decide, by decide⟩ dX10_choose_45 (by decide) (fun _ => ?_) (fun hc => absurd hc (by decide))
              refine lv_iconst (v := iI (-1)) C0.1 C0.2.1 dX10_choose_64 rfl ?_
              subst hQ
              refine k_iret C0 S hAe hsz hr hlk dX10_choose_65 ?_
              refine ⟨congrArg iI ?_, rfl⟩
              classical
              have e0 : ac d 0 = (rd d 6 = 128) := rfl
              have e1 : ac d 1 = (rd d 14 = 128) := rfl
              have e2 : ac d 2 = (rd d 22 = 128) := rfl
              unfold chs
              first | contradiction | simp only [e0, e1, e2, c3, c6, c9, c12, c15, c18, and_true, true_and, and_false, false_and, and_self, if_true, if_false, not_true, not_false_iff, ite_self]
            · refine lv_iload_n C0.1 C0.2.1 dX10_choose_56 rfl (lv_at hl 0 rfl) ?_
              subst hQ
              refine k_iret C0 S hAe hsz hr hlk dX10_choose_57 ?_
              refine ⟨congrArg iI ?_, rfl⟩
              classical
              have e0 : ac d 0 = (rd d 6 = 128) := rfl
              have e1 : ac d 1 = (rd d 14 = 128) := rfl
              have e2 : ac d 2 = (rd d 22 = 128) := rfl
              unfold chs
              first | contradiction | simp only [e0, e1, e2, c3, c6, c9, c12, c15, c18, and_true, true_and, and_false, false_and, and_self, if_true, if_false, not_true, not_false_iff, ite_self]
          · refine lv_iload_n C0.1 C0.2.1 dX10_choose_56 rfl (lv_at hl 0 rfl) ?_
            subst hQ
            refine k_iret C0 S hAe hsz hr hlk dX10_choose_57 ?_
            refine ⟨congrArg iI ?_, rfl⟩
            classical
            have e0 : ac d 0 = (rd d 6 = 128) := rfl
            have e1 : ac d 1 = (rd d 14 = 128) := rfl
            have e2 : ac d 2 = (rd d 22 = 128) := rfl
            unfold chs
            first | contradiction | simp only [e0, e1, e2, c3, c6, c9, c12, c15, and_true, true_and, and_false, false_and, and_self, if_true, if_false, not_true, not_false_iff, ite_self]
        · refine lv_iload_n C0.1 C0.2.1 dX10_choose_56 rfl (lv_at hl 0 rfl) ?_
          subst hQ
          refine k_iret C0 S hAe hsz hr hlk dX10_choose_57 ?_
          refine ⟨congrArg iI ?_, rfl⟩
          classical
          have e0 : ac d 0 = (rd d 6 = 128) := rfl
          have e1 : ac d 1 = (rd d 14 = 128) := rfl
          have e2 : ac d 2 = (rd d 22 = 128) := rfl
          unfold chs
          first | contradiction | simp only [e0, e1, e2, c3, c6, c9, c12, and_true, true_and, and_false, false_and, and_self, if_true, if_false, not_true, not_false_iff, ite_self]
      · refine lv_aload_n C0.1 C0.2.1 dX10_choose_15 rfl (lv_at hl 1 rfl) ?_
        refine k_get C0 S (C := RX10) (T := TX10) (N := 26) (ci := 10) (by decide +kernel) 0 rfl rfl 0 (by decide) (by decide +kernel) (v := .ref aD) rfl dX10_choose_16 ?_
        refine lv_bipush (v := iI (6)) C0.1 C0.2.1 dX10_choose_19 (by decide) ?_
        refine lv_bipush (v := iI (8)) C0.1 C0.2.1 dX10_choose_21 (by decide) ?_
        refine lv_iload_n C0.1 C0.2.1 dX10_choose_23 rfl (lv_at hl 0 rfl) ?_
        refine k_imul C0 dX10_choose_24 ?_
        refine k_topeq (v := iI (16)) (congrArg iI (by decide)) ?_
        refine k_iadd C0 dX10_choose_25 ?_
        refine k_topeq (v := iI (22)) (congrArg iI (by decide)) ?_
        refine k_iald C0 S 1 0 rfl rfl (z := 22) (by omega) (by omega) (by omega) dX10_choose_26 ?_
        refine k_topeq (v := iI (rd d (22))) rfl ?_
        have hb19 := By.rd hd (22)
        refine lv_sipush (v := iI (128)) C0.1 C0.2.1 dX10_choose_27 (by decide) ?_
        refine k_icmp_ne (tgt := 35) C0 (by constructor <;> omega) ⟨by decide, by decide⟩ dX10_choose_30 (by decide) (fun c20 => ?_) (fun c20 => ?_)
        · refine lv_iinc (v := iI (3)) (lv' := [(1, .int (iI (3))), (0, .ref hM)]) C0.1 C0.2.1 dX10_choose_35 hl (k := 0) rfl (by decide) (by decide) rfl (fun ls hl => ?_)
          refine lv_goto (tgt := 2) C0.1 C0.2.1 dX10_choose_38 (by decide) ?_
          refine lv_iload_n C0.1 C0.2.1 dX10_choose_2 rfl (lv_at hl 0 rfl) ?_
          refine lv_iconst (v := iI (3)) C0.1 C0.2.1 dX10_choose_3 rfl ?_
          refine k_icmp_ge (tgt := 41) C0 ⟨by decide, by decide⟩ ⟨by decide, by decide⟩ dX10_choose_4 (by decide) (fun _ => ?_) (fun hc => absurd hc (by decide))
          refine lv_iconst (v := iI (0)) C0.1 C0.2.1 dX10_choose_41 rfl ?_
          refine lv_istore_n (lv' := [(1, .int (iI (0))), (0, .ref hM)]) C0.1 C0.2.1 dX10_choose_42 rfl hl (by decide) rfl (fun ls hl => ?_)
          refine lv_iload_n C0.1 C0.2.1 dX10_choose_43 rfl (lv_at hl 0 rfl) ?_
          refine lv_iconst (v := iI (3)) C0.1 C0.2.1 dX10_choose_44 rfl ?_
          refine k_icmp_ge (tgt := 64) C0 ⟨by decide, by decide⟩ ⟨by decide, by decide⟩ dX10_choose_45 (by decide) (fun hc => absurd hc (by decide)) (fun _ => ?_)
          refine lv_aload_n C0.1 C0.2.1 dX10_choose_48 rfl (lv_at hl 1 rfl) ?_
          refine lv_iload_n C0.1 C0.2.1 dX10_choose_49 rfl (lv_at hl 0 rfl) ?_
          refine k_calli (n := 1) (wr := []) C0 S (c_X10_isUsable l D cA hM aD aM aX aP aQ aK aO aA a1 a2 a3 (st) (r3) (r4) (r5) (r6) (r7) (r8) (r9) (r10) (tl) (pn) (nc) (kl) (ol) (al) d (0) hd (by decide) (by decide)) gX10_choose_X10_isUsable rfl ⟨rfl, rfl⟩ (by decide +kernel) ⟨Nat.le_of_ble_eq_true rfl, Nat.le_of_ble_eq_true rfl⟩ [0, 1] [] rfl rfl rfl rfl (by decide) (ci := 10) (q0 := 0) rfl rfl (As := [.int (iI (0))]) rfl hl.1 rfl (Nat.le_of_ble_eq_true rfl) dX10_choose_50 ⟨Nat.zero_le _, Nat.zero_le _⟩ (fun r u H locs hp S => ?_)
          obtain ⟨rfl, rfl⟩ := hp
          have S := S.sub (ws' := [(hM, .inr (10, [.ref aD, .ref aM, .int (iI (st)), .int (iI (r3)), .int (iI (r4)), .int (iI (r5)), .int (iI (r6)), .int (iI (r7)), .int (iI (r8)), .int (iI (r9)), .int (iI (r10)), .ref aX, .int (iI (tl)), .ref aP, .int (iI (pn)), .ref aQ, .int (iI (nc)), .ref aK, .ref aO, .ref aA, .int (iI (kl)), .int (iI (ol)), .int (iI (al)), .ref a1, .ref a2, .ref a3])), (aD, .inl (cA 0, 2048, .inl (fun y_ => iI (d y_))))]) [0, 1] rfl rfl
          refine k_bz_eq (tgt := 58) C0 dX10_choose_53 (by decide) (fun c23 => ?_) (fun c23 => ?_)
          · refine lv_iinc (v := iI (1)) (lv' := [(1, .int (iI (1))), (0, .ref hM)]) C0.1 C0.2.1 dX10_choose_58 hl (k := 0) rfl (by decide) (by decide) rfl (fun ls hl => ?_)
            refine lv_goto (tgt := 43) C0.1 C0.2.1 dX10_choose_61 (by decide) ?_
            refine lv_iload_n C0.1 C0.2.1 dX10_choose_43 rfl (lv_at hl 0 rfl) ?_
            refine lv_iconst (v := iI (3)) C0.1 C0.2.1 dX10_choose_44 rfl ?_
            refine k_icmp_ge (tgt := 64) C0 ⟨by decide, by decide⟩ ⟨by decide, by decide⟩ dX10_choose_45 (by decide) (fun hc => absurd hc (by decide)) (fun _ => ?_)
            refine lv_aload_n C0.1 C0.2.1 dX10_choose_48 rfl (lv_at hl 1 rfl) ?_
            refine lv_iload_n C0.1 C0.2.1 dX10_choose_49 rfl (lv_at hl 0 rfl) ?_
            refine k_calli (n := 1) (wr := []) C0 S (c_X10_isUsable l D cA hM aD aM aX aP aQ aK aO aA a1 a2 a3 (st) (r3) (r4) (r5) (r6) (r7) (r8) (r9) (r10) (tl) (pn) (nc) (kl) (ol) (al) d (1) hd (by decide) (by decide)) gX10_choose_X10_isUsable rfl ⟨rfl, rfl⟩ (by decide +kernel) ⟨Nat.le_of_ble_eq_true rfl, Nat.le_of_ble_eq_true rfl⟩ [0, 1] [] rfl rfl rfl rfl (by decide) (ci := 10) (q0 := 0) rfl rfl (As := [.int (iI (1))]) rfl hl.1 rfl (Nat.le_of_ble_eq_true rfl) dX10_choose_50 ⟨Nat.zero_le _, Nat.zero_le _⟩ (fun r u H locs hp S => ?_)
            obtain ⟨rfl, rfl⟩ := hp
            have S := S.sub (ws' := [(hM, .inr (10, [.ref aD, .ref aM, .int (iI (st)), .int (iI (r3)), .int (iI (r4)), .int (iI (r5)), .int (iI (r6)), .int (iI (r7)), .int (iI (r8)), .int (iI (r9)), .int (iI (r10)), .ref aX, .int (iI (tl)), .ref aP, .int (iI (pn)), .ref aQ, .int (iI (nc)), .ref aK, .ref aO, .ref aA, .int (iI (kl)), .int (iI (ol)), .int (iI (al)), .ref a1, .ref a2, .ref a3])), (aD, .inl (cA 0, 2048, .inl (fun y_ => iI (d y_))))]) [0, 1] rfl rfl
            refine k_bz_eq (tgt := 58) C0 dX10_choose_53 (by decide) (fun c26 => ?_) (fun c26 => ?_)
            · refine lv_iinc (v := iI (2)) (lv' := [(1, .int (iI (2))), (0, .ref hM)]) C0.1 C0.2.1 dX10_choose_58 hl (k := 0) rfl (by decide) (by decide) rfl (fun ls hl => ?_)
              refine lv_goto (tgt := 43) C0.1 C0.2.1 dX10_choose_61 (by decide) ?_
              refine lv_iload_n C0.1 C0.2.1 dX10_choose_43 rfl (lv_at hl 0 rfl) ?_
              refine lv_iconst (v := iI (3)) C0.1 C0.2.1 dX10_choose_44 rfl ?_
              refine k_icmp_ge (tgt := 64) C0 ⟨by decide, by decide⟩ ⟨by decide, by decide⟩ dX10_choose_45 (by decide) (fun hc => absurd hc (by decide)) (fun _ => ?_)
              refine lv_aload_n C0.1 C0.2.1 dX10_choose_48 rfl (lv_at hl 1 rfl) ?_
              refine lv_iload_n C0.1 C0.2.1 dX10_choose_49 rfl (lv_at hl 0 rfl) ?_
              refine k_calli (n := 1) (wr := []) C0 S (c_X10_isUsable l D cA hM aD aM aX aP aQ aK aO aA a1 a2 a3 (st) (r3) (r4) (r5) (r6) (r7) (r8) (r9) (r10) (tl) (pn) (nc) (kl) (ol) (al) d (2) hd (by decide) (by decide)) gX10_choose_X10_isUsable rfl ⟨rfl, rfl⟩ (by decide +kernel) ⟨Nat.le_of_ble_eq_true rfl, Nat.le_of_ble_eq_true rfl⟩ [0, 1] [] rfl rfl rfl rfl (by decide) (ci := 10) (q0 := 0) rfl rfl (As := [.int (iI (2))]) rfl hl.1 rfl (Nat.le_of_ble_eq_true rfl) dX10_choose_50 ⟨Nat.zero_le _, Nat.zero_le _⟩ (fun r u H locs hp S => ?_)
              obtain ⟨rfl, rfl⟩ := hp
              have S := S.sub (ws' := [(hM, .inr (10, [.ref aD, .ref aM, .int (iI (st)), .int (iI (r3)), .int (iI (r4)), .int (iI (r5)), .int (iI (r6)), .int (iI (r7)), .int (iI (r8)), .int (iI (r9)), .int (iI (r10)), .ref aX, .int (iI (tl)), .ref aP, .int (iI (pn)), .ref aQ, .int (iI (nc)), .ref aK, .ref aO, .ref aA, .int (iI (kl)), .int (iI (ol)), .int (iI (al)), .ref a1, .ref a2, .ref a3])), (aD, .inl (cA 0, 2048, .inl (fun y_ => iI (d y_))))]) [0, 1] rfl rfl
              refine k_bz_eq (tgt := 58) C0 dX10_choose_53 (by decide) (fun c29 => ?_) (fun c29 => ?_)
              · refine lv_iinc (v := iI (3)) (lv' := [(1, .int (iI (3))), (0, .ref hM)]) C0.1 C0.2.1 dX10_choose_58 hl (k := 0) rfl (by decide) (by decide) rfl (fun ls hl => ?_)
                refine lv_goto (tgt := 43) C0.1 C0.2.1 dX10_choose_61 (by decide) ?_
                refine lv_iload_n C0.1 C0.2.1 dX10_choose_43 rfl (lv_at hl 0 rfl) ?_
                refine lv_iconst (v := iI (3)) C0.1 C0.2.1 dX10_choose_44 rfl ?_
                refine k_icmp_ge (tgt := 64) C0 ⟨by decide, by decide⟩ ⟨by decide, by decide⟩ dX10_choose_45 (by decide) (fun _ => ?_) (fun hc => absurd hc (by decide))
                refine lv_iconst (v := iI (-1)) C0.1 C0.2.1 dX10_choose_64 rfl ?_
                subst hQ
                refine k_iret C0 S hAe hsz hr hlk dX10_choose_65 ?_
                refine ⟨congrArg iI ?_, rfl⟩
                classical
                have e0 : ac d 0 = (rd d 6 = 128) := rfl
                have e1 : ac d 1 = (rd d 14 = 128) := rfl
                have e2 : ac d 2 = (rd d 22 = 128) := rfl
                unfold chs
                first | contradiction | simp only [e0, e1, e2, c3, c6, c9, c20, c23, c26, c29, and_true, true_and, and_false, false_and, and_self, if_true, if_false, not_true, not_false_iff, ite_self]
              · refine lv_iload_n C0.1 C0.2.1 dX10_choose_56 rfl (lv_at hl 0 rfl) ?_
                subst hQ
                refine k_iret C0 S hAe hsz hr hlk dX10_choose_57 ?_
                refine ⟨congrArg iI ?_, rfl⟩
                classical
                have e0 : ac d 0 = (rd d 6 = 128) := rfl
                have e1 : ac d 1 = (rd d 14 = 128) := rfl
                have e2 : ac d 2 = (rd d 22 = 128) := rfl
                unfold chs
                first | contradiction | simp only [e0, e1, e2, c3, c6, c9, c20, c23, c26, c29, and_true, true_and, and_false, false_and, and_self, if_true, if_false, not_true, not_false_iff, ite_self]
            · refine lv_iload_n C0.1 C0.2.1 dX10_choose_56 rfl (lv_at hl 0 rfl) ?_
              subst hQ
              refine k_iret C0 S hAe hsz hr hlk dX10_choose_57 ?_
              refine ⟨congrArg iI ?_, rfl⟩
              classical
              have e0 : ac d 0 = (rd d 6 = 128) := rfl
              have e1 : ac d 1 = (rd d 14 = 128) := rfl
              have e2 : ac d 2 = (rd d 22 = 128) := rfl
              unfold chs
              first | contradiction | simp only [e0, e1, e2, c3, c6, c9, c20, c23, c26, and_true, true_and, and_false, false_and, and_self, if_true, if_false, not_true, not_false_iff, ite_self]
          · refine lv_iload_n C0.1 C0.2.1 dX10_choose_56 rfl (lv_at hl 0 rfl) ?_
            subst hQ
            refine k_iret C0 S hAe hsz hr hlk dX10_choose_57 ?_
            refine ⟨congrArg iI ?_, rfl⟩
            classical
            have e0 : ac d 0 = (rd d 6 = 128) := rfl
            have e1 : ac d 1 = (rd d 14 = 128) := rfl
            have e2 : ac d 2 = (rd d 22 = 128) := rfl
            unfold chs
            first | contradiction | simp only [e0, e1, e2, c3, c6, c9, c20, c23, and_true, true_and, and_false, false_and, and_self, if_true, if_false, not_true, not_false_iff, ite_self]
        · refine lv_iload_n C0.1 C0.2.1 dX10_choose_33 rfl (lv_at hl 0 rfl) ?_
          subst hQ
          refine k_iret C0 S hAe hsz hr hlk dX10_choose_34 ?_
          refine ⟨congrArg iI ?_, rfl⟩
          classical
          have e0 : ac d 0 = (rd d 6 = 128) := rfl
          have e1 : ac d 1 = (rd d 14 = 128) := rfl
          have e2 : ac d 2 = (rd d 22 = 128) := rfl
          unfold chs
          first | contradiction | simp only [e0, e1, e2, c3, c6, c9, c20, and_true, true_and, and_false, false_and, and_self, if_true, if_false, not_true, not_false_iff, ite_self]
    · refine lv_aload_n C0.1 C0.2.1 dX10_choose_15 rfl (lv_at hl 1 rfl) ?_
      refine k_get C0 S (C := RX10) (T := TX10) (N := 26) (ci := 10) (by decide +kernel) 0 rfl rfl 0 (by decide) (by decide +kernel) (v := .ref aD) rfl dX10_choose_16 ?_
      refine lv_bipush (v := iI (6)) C0.1 C0.2.1 dX10_choose_19 (by decide) ?_
      refine lv_bipush (v := iI (8)) C0.1 C0.2.1 dX10_choose_21 (by decide) ?_
      refine lv_iload_n C0.1 C0.2.1 dX10_choose_23 rfl (lv_at hl 0 rfl) ?_
      refine k_imul C0 dX10_choose_24 ?_
      refine k_topeq (v := iI (8)) (congrArg iI (by decide)) ?_
      refine k_iadd C0 dX10_choose_25 ?_
      refine k_topeq (v := iI (14)) (congrArg iI (by decide)) ?_
      refine k_iald C0 S 1 0 rfl rfl (z := 14) (by omega) (by omega) (by omega) dX10_choose_26 ?_
      refine k_topeq (v := iI (rd d (14))) rfl ?_
      have hb30 := By.rd hd (14)
      refine lv_sipush (v := iI (128)) C0.1 C0.2.1 dX10_choose_27 (by decide) ?_
      refine k_icmp_ne (tgt := 35) C0 (by constructor <;> omega) ⟨by decide, by decide⟩ dX10_choose_30 (by decide) (fun c31 => ?_) (fun c31 => ?_)
      · refine lv_iinc (v := iI (2)) (lv' := [(1, .int (iI (2))), (0, .ref hM)]) C0.1 C0.2.1 dX10_choose_35 hl (k := 0) rfl (by decide) (by decide) rfl (fun ls hl => ?_)
        refine lv_goto (tgt := 2) C0.1 C0.2.1 dX10_choose_38 (by decide) ?_
        refine lv_iload_n C0.1 C0.2.1 dX10_choose_2 rfl (lv_at hl 0 rfl) ?_
        refine lv_iconst (v := iI (3)) C0.1 C0.2.1 dX10_choose_3 rfl ?_
        refine k_icmp_ge (tgt := 41) C0 ⟨by decide, by decide⟩ ⟨by decide, by decide⟩ dX10_choose_4 (by decide) (fun hc => absurd hc (by decide)) (fun _ => ?_)
        refine lv_aload_n C0.1 C0.2.1 dX10_choose_7 rfl (lv_at hl 1 rfl) ?_
        refine lv_iload_n C0.1 C0.2.1 dX10_choose_8 rfl (lv_at hl 0 rfl) ?_
        refine k_calli (n := 1) (wr := []) C0 S (c_X10_isUsable l D cA hM aD aM aX aP aQ aK aO aA a1 a2 a3 (st) (r3) (r4) (r5) (r6) (r7) (r8) (r9) (r10) (tl) (pn) (nc) (kl) (ol) (al) d (2) hd (by decide) (by decide)) gX10_choose_X10_isUsable rfl ⟨rfl, rfl⟩ (by decide +kernel) ⟨Nat.le_of_ble_eq_true rfl, Nat.le_of_ble_eq_true rfl⟩ [0, 1] [] rfl rfl rfl rfl (by decide) (ci := 10) (q0 := 0) rfl rfl (As := [.int (iI (2))]) rfl hl.1 rfl (Nat.le_of_ble_eq_true rfl) dX10_choose_9 ⟨Nat.zero_le _, Nat.zero_le _⟩ (fun r u H locs hp S => ?_)
        obtain ⟨rfl, rfl⟩ := hp
        have S := S.sub (ws' := [(hM, .inr (10, [.ref aD, .ref aM, .int (iI (st)), .int (iI (r3)), .int (iI (r4)), .int (iI (r5)), .int (iI (r6)), .int (iI (r7)), .int (iI (r8)), .int (iI (r9)), .int (iI (r10)), .ref aX, .int (iI (tl)), .ref aP, .int (iI (pn)), .ref aQ, .int (iI (nc)), .ref aK, .ref aO, .ref aA, .int (iI (kl)), .int (iI (ol)), .int (iI (al)), .ref a1, .ref a2, .ref a3])), (aD, .inl (cA 0, 2048, .inl (fun y_ => iI (d y_))))]) [0, 1] rfl rfl
        refine k_bz_eq (tgt := 35) C0 dX10_choose_12 (by decide) (fun c34 => ?_) (fun c34 => ?_)
        · refine lv_iinc (v := iI (3)) (lv' := [(1, .int (iI (3))), (0, .ref hM)]) C0.1 C0.2.1 dX10_choose_35 hl (k := 0) rfl (by decide) (by decide) rfl (fun ls hl => ?_)
          refine lv_goto (tgt := 2) C0.1 C0.2.1 dX10_choose_38 (by decide) ?_
          refine lv_iload_n C0.1 C0.2.1 dX10_choose_2 rfl (lv_at hl 0 rfl) ?_
          refine lv_iconst (v := iI (3)) C0.1 C0.2.1 dX10_choose_3 rfl ?_
          refine k_icmp_ge (tgt := 41) C0 ⟨by decide, by decide⟩ ⟨by decide, by decide⟩ dX10_choose_4 (by decide) (fun _ => ?_) (fun hc => absurd hc (by decide))
          refine lv_iconst (v := iI (0)) C0.1 C0.2.1 dX10_choose_41 rfl ?_
          refine lv_istore_n (lv' := [(1, .int (iI (0))), (0, .ref hM)]) C0.1 C0.2.1 dX10_choose_42 rfl hl (by decide) rfl (fun ls hl => ?_)
          refine lv_iload_n C0.1 C0.2.1 dX10_choose_43 rfl (lv_at hl 0 rfl) ?_
          refine lv_iconst (v := iI (3)) C0.1 C0.2.1 dX10_choose_44 rfl ?_
          refine k_icmp_ge (tgt := 64) C0 ⟨by decide, by decide⟩ ⟨by decide, by decide⟩ dX10_choose_45 (by decide) (fun hc => absurd hc (by decide)) (fun _ => ?_)
          refine lv_aload_n C0.1 C0.2.1 dX10_choose_48 rfl (lv_at hl 1 rfl) ?_
          refine lv_iload_n C0.1 C0.2.1 dX10_choose_49 rfl (lv_at hl 0 rfl) ?_
          refine k_calli (n := 1) (wr := []) C0 S (c_X10_isUsable l D cA hM aD aM aX aP aQ aK aO aA a1 a2 a3 (st) (r3) (r4) (r5) (r6) (r7) (r8) (r9) (r10) (tl) (pn) (nc) (kl) (ol) (al) d (0) hd (by decide) (by decide)) gX10_choose_X10_isUsable rfl ⟨rfl, rfl⟩ (by decide +kernel) ⟨Nat.le_of_ble_eq_true rfl, Nat.le_of_ble_eq_true rfl⟩ [0, 1] [] rfl rfl rfl rfl (by decide) (ci := 10) (q0 := 0) rfl rfl (As := [.int (iI (0))]) rfl hl.1 rfl (Nat.le_of_ble_eq_true rfl) dX10_choose_50 ⟨Nat.zero_le _, Nat.zero_le _⟩ (fun r u H locs hp S => ?_)
          obtain ⟨rfl, rfl⟩ := hp
          have S := S.sub (ws' := [(hM, .inr (10, [.ref aD, .ref aM, .int (iI (st)), .int (iI (r3)), .int (iI (r4)), .int (iI (r5)), .int (iI (r6)), .int (iI (r7)), .int (iI (r8)), .int (iI (r9)), .int (iI (r10)), .ref aX, .int (iI (tl)), .ref aP, .int (iI (pn)), .ref aQ, .int (iI (nc)), .ref aK, .ref aO, .ref aA, .int (iI (kl)), .int (iI (ol)), .int (iI (al)), .ref a1, .ref a2, .ref a3])), (aD, .inl (cA 0, 2048, .inl (fun y_ => iI (d y_))))]) [0, 1] rfl rfl
          refine k_bz_eq (tgt := 58) C0 dX10_choose_53 (by decide) (fun c37 => ?_) (fun c37 => ?_)
          · refine lv_iinc (v := iI (1)) (lv' := [(1, .int (iI (1))), (0, .ref hM)]) C0.1 C0.2.1 dX10_choose_58 hl (k := 0) rfl (by decide) (by decide) rfl (fun ls hl => ?_)
            refine lv_goto (tgt := 43) C0.1 C0.2.1 dX10_choose_61 (by decide) ?_
            refine lv_iload_n C0.1 C0.2.1 dX10_choose_43 rfl (lv_at hl 0 rfl) ?_
            refine lv_iconst (v := iI (3)) C0.1 C0.2.1 dX10_choose_44 rfl ?_
            refine k_icmp_ge (tgt := 64) C0 ⟨by decide, by decide⟩ ⟨by decide, by decide⟩ dX10_choose_45 (by decide) (fun hc => absurd hc (by decide)) (fun _ => ?_)
            refine lv_aload_n C0.1 C0.2.1 dX10_choose_48 rfl (lv_at hl 1 rfl) ?_
            refine lv_iload_n C0.1 C0.2.1 dX10_choose_49 rfl (lv_at hl 0 rfl) ?_
            refine k_calli (n := 1) (wr := []) C0 S (c_X10_isUsable l D cA hM aD aM aX aP aQ aK aO aA a1 a2 a3 (st) (r3) (r4) (r5) (r6) (r7) (r8) (r9) (r10) (tl) (pn) (nc) (kl) (ol) (al) d (1) hd (by decide) (by decide)) gX10_choose_X10_isUsable rfl ⟨rfl, rfl⟩ (by decide +kernel) ⟨Nat.le_of_ble_eq_true rfl, Nat.le_of_ble_eq_true rfl⟩ [0, 1] [] rfl rfl rfl rfl (by decide) (ci := 10) (q0 := 0) rfl rfl (As := [.int (iI (1))]) rfl hl.1 rfl (Nat.le_of_ble_eq_true rfl) dX10_choose_50 ⟨Nat.zero_le _, Nat.zero_le _⟩ (fun r u H locs hp S => ?_)
            obtain ⟨rfl, rfl⟩ := hp
            have S := S.sub (ws' := [(hM, .inr (10, [.ref aD, .ref aM, .int (iI (st)), .int (iI (r3)), .int (iI (r4)), .int (iI (r5)), .int (iI (r6)), .int (iI (r7)), .int (iI (r8)), .int (iI (r9)), .int (iI (r10)), .ref aX, .int (iI (tl)), .ref aP, .int (iI (pn)), .ref aQ, .int (iI (nc)), .ref aK, .ref aO, .ref aA, .int (iI (kl)), .int (iI (ol)), .int (iI (al)), .ref a1, .ref a2, .ref a3])), (aD, .inl (cA 0, 2048, .inl (fun y_ => iI (d y_))))]) [0, 1] rfl rfl
            refine k_bz_eq (tgt := 58) C0 dX10_choose_53 (by decide) (fun c40 => ?_) (fun c40 => ?_)
            · refine lv_iinc (v := iI (2)) (lv' := [(1, .int (iI (2))), (0, .ref hM)]) C0.1 C0.2.1 dX10_choose_58 hl (k := 0) rfl (by decide) (by decide) rfl (fun ls hl => ?_)
              refine lv_goto (tgt := 43) C0.1 C0.2.1 dX10_choose_61 (by decide) ?_
              refine lv_iload_n C0.1 C0.2.1 dX10_choose_43 rfl (lv_at hl 0 rfl) ?_
              refine lv_iconst (v := iI (3)) C0.1 C0.2.1 dX10_choose_44 rfl ?_
              refine k_icmp_ge (tgt := 64) C0 ⟨by decide, by decide⟩ ⟨by decide, by decide⟩ dX10_choose_45 (by decide) (fun hc => absurd hc (by decide)) (fun _ => ?_)
              refine lv_aload_n C0.1 C0.2.1 dX10_choose_48 rfl (lv_at hl 1 rfl) ?_
              refine lv_iload_n C0.1 C0.2.1 dX10_choose_49 rfl (lv_at hl 0 rfl) ?_
              refine k_calli (n := 1) (wr := []) C0 S (c_X10_isUsable l D cA hM aD aM aX aP aQ aK aO aA a1 a2 a3 (st) (r3) (r4) (r5) (r6) (r7) (r8) (r9) (r10) (tl) (pn) (nc) (kl) (ol) (al) d (2) hd (by decide) (by decide)) gX10_choose_X10_isUsable rfl ⟨rfl, rfl⟩ (by decide +kernel) ⟨Nat.le_of_ble_eq_true rfl, Nat.le_of_ble_eq_true rfl⟩ [0, 1] [] rfl rfl rfl rfl (by decide) (ci := 10) (q0 := 0) rfl rfl (As := [.int (iI (2))]) rfl hl.1 rfl (Nat.le_of_ble_eq_true rfl) dX10_choose_50 ⟨Nat.zero_le _, Nat.zero_le _⟩ (fun r u H locs hp S => ?_)
              obtain ⟨rfl, rfl⟩ := hp
              have S := S.sub (ws' := [(hM, .inr (10, [.ref aD, .ref aM, .int (iI (st)), .int (iI (r3)), .int (iI (r4)), .int (iI (r5)), .int (iI (r6)), .int (iI (r7)), .int (iI (r8)), .int (iI (r9)), .int (iI (r10)), .ref aX, .int (iI (tl)), .ref aP, .int (iI (pn)), .ref aQ, .int (iI (nc)), .ref aK, .ref aO, .ref aA, .int (iI (kl)), .int (iI (ol)), .int (iI (al)), .ref a1, .ref a2, .ref a3])), (aD, .inl (cA 0, 2048, .inl (fun y_ => iI (d y_))))]) [0, 1] rfl rfl
              refine k_bz_eq (tgt := 58) C0 dX10_choose_53 (by decide) (fun c43 => ?_) (fun c43 => ?_)
              · refine lv_iinc (v := iI (3)) (lv' := [(1, .int (iI (3))), (0, .ref hM)]) C0.1 C0.2.1 dX10_choose_58 hl (k := 0) rfl (by decide) (by decide) rfl (fun ls hl => ?_)
                refine lv_goto (tgt := 43) C0.1 C0.2.1 dX10_choose_61 (by decide) ?_
                refine lv_iload_n C0.1 C0.2.1 dX10_choose_43 rfl (lv_at hl 0 rfl) ?_
                refine lv_iconst (v := iI (3)) C0.1 C0.2.1 dX10_choose_44 rfl ?_
                refine k_icmp_ge (tgt := 64) C0 ⟨by decide, by decide⟩ ⟨by decide, by decide⟩ dX10_choose_45 (by decide) (fun _ => ?_) (fun hc => absurd hc (by decide))
                refine lv_iconst (v := iI (-1)) C0.1 C0.2.1 dX10_choose_64 rfl ?_
                subst hQ
                refine k_iret C0 S hAe hsz hr hlk dX10_choose_65 ?_
                refine ⟨congrArg iI ?_, rfl⟩
                classical
                have e0 : ac d 0 = (rd d 6 = 128) := rfl
                have e1 : ac d 1 = (rd d 14 = 128) := rfl
                have e2 : ac d 2 = (rd d 22 = 128) := rfl
                unfold chs
                first | contradiction | simp only [e0, e1, e2, c3, c6, c31, c34, c37, c40, c43, and_true, true_and, and_false, false_and, and_self, if_true, if_false, not_true, not_false_iff, ite_self]
              · refine lv_iload_n C0.1 C0.2.1 dX10_choose_56 rfl (lv_at hl 0 rfl) ?_
                subst hQ
                refine k_iret C0 S hAe hsz hr hlk dX10_choose_57 ?_
                refine ⟨congrArg iI ?_, rfl⟩
                classical
                have e0 : ac d 0 = (rd d 6 = 128) := rfl
                have e1 : ac d 1 = (rd d 14 = 128) := rfl
                have e2 : ac d 2 = (rd d 22 = 128) := rfl
                unfold chs
                first | contradiction | simp only [e0, e1, e2, c3, c6, c31, c34, c37, c40, c43, and_true, true_and, and_false, false_and, and_self, if_true, if_false, not_true, not_false_iff, ite_self]
            · refine lv_iload_n C0.1 C0.2.1 dX10_choose_56 rfl (lv_at hl 0 rfl) ?_
              subst hQ
              refine k_iret C0 S hAe hsz hr hlk dX10_choose_57 ?_
              refine ⟨congrArg iI ?_, rfl⟩
              classical
              have e0 : ac d 0 = (rd d 6 = 128) := rfl
              have e1 : ac d 1 = (rd d 14 = 128) := rfl
              have e2 : ac d 2 = (rd d 22 = 128) := rfl
              unfold chs
              first | contradiction | simp only [e0, e1, e2, c3, c6, c31, c34, c37, c40, and_true, true_and, and_false, false_and, and_self, if_true, if_false, not_true, not_false_iff, ite_self]
          · refine lv_iload_n C0.1 C0.2.1 dX10_choose_56 rfl (lv_at hl 0 rfl) ?_
            subst hQ
            refine k_iret C0 S hAe hsz hr hlk dX10_choose_57 ?_
            refine ⟨congrArg iI ?_, rfl⟩
            classical
            have e0 : ac d 0 = (rd d 6 = 128) := rfl
            have e1 : ac d 1 = (rd d 14 = 128) := rfl
            have e2 : ac d 2 = (rd d 22 = 128) := rfl
            unfold chs
            first | contradiction | simp only [e0, e1, e2, c3, c6, c31, c34, c37, and_true, true_and, and_false, false_and, and_self, if_true, if_false, not_true, not_false_iff, ite_self]
        · refine lv_aload_n C0.1 C0.2.1 dX10_choose_15 rfl (lv_at hl 1 rfl) ?_
          refine k_get C0 S (C := RX10) (T := TX10) (N := 26) (ci := 10) (by decide +kernel) 0 rfl rfl 0 (by decide) (by decide +kernel) (v := .ref aD) rfl dX10_choose_16 ?_
          refine lv_bipush (v := iI (6)) C0.1 C0.2.1 dX10_choose_19 (by decide) ?_
          refine lv_bipush (v := iI (8)) C0.1 C0.2.1 dX10_choose_21 (by decide) ?_
          refine lv_iload_n C0.1 C0.2.1 dX10_choose_23 rfl (lv_at hl 0 rfl) ?_
          refine k_imul C0 dX10_choose_24 ?_
          refine k_topeq (v := iI (16)) (congrArg iI (by decide)) ?_
          refine k_iadd C0 dX10_choose_25 ?_
          refine k_topeq (v := iI (22)) (congrArg iI (by decide)) ?_
          refine k_iald C0 S 1 0 rfl rfl (z := 22) (by omega) (by omega) (by omega) dX10_choose_26 ?_
          refine k_topeq (v := iI (rd d (22))) rfl ?_
          have hb44 := By.rd hd (22)
          refine lv_sipush (v := iI (128)) C0.1 C0.2.1 dX10_choose_27 (by decide) ?_
          refine k_icmp_ne (tgt := 35) C0 (by constructor <;> omega) ⟨by decide, by decide⟩ dX10_choose_30 (by decide) (fun c45 => ?_) (fun c45 => ?_)
          · refine lv_iinc (v := iI (3)) (lv' := [(1, .int (iI (3))), (0, .ref hM)]) C0.1 C0.2.1 dX10_choose_35 hl (k := 0) rfl (by decide) (by decide) rfl (fun ls hl => ?_)
            refine lv_goto (tgt := 2) C0.1 C0.2.1 dX10_choose_38 (by decide) ?_
            refine lv_iload_n C0.1 C0.2.1 dX10_choose_2 rfl (lv_at hl 0 rfl) ?_
            refine lv_iconst (v := iI (3)) C0.1 C0.2.1 dX10_choose_3 rfl ?_
            refine k_icmp_ge (tgt := 41) C0 ⟨by decide, by decide⟩ ⟨by decide, by decide⟩ dX10_choose_4 (by decide) (fun _ => ?_) (fun hc => absurd hc (by decide))
            refine lv_iconst (v := iI (0)) C0.1 C0.2.1 dX10_choose_41 rfl ?_
            refine lv_istore_n (lv' := [(1, .int (iI (0))), (0, .ref hM)]) C0.1 C0.2.1 dX10_choose_42 rfl hl (by decide) rfl (fun ls hl => ?_)
            refine lv_iload_n C0.1 C0.2.1 dX10_choose_43 rfl (lv_at hl 0 rfl) ?_
            refine lv_iconst (v := iI (3)) C0.1 C0.2.1 dX10_choose_44 rfl ?_
            refine k_icmp_ge (tgt := 64) C0 ⟨by decide, by decide⟩ ⟨by decide, by decide⟩ dX10_choose_45 (by decide) (fun hc => absurd hc (by decide)) (fun _ => ?_)
            refine lv_aload_n C0.1 C0.2.1 dX10_choose_48 rfl (lv_at hl 1 rfl) ?_
            refine lv_iload_n C0.1 C0.2.1 dX10_choose_49 rfl (lv_at hl 0 rfl) ?_
            refine k_calli (n := 1) (wr := []) C0 S (c_X10_isUsable l D cA hM aD aM aX aP aQ aK aO aA a1 a2 a3 (st) (r3) (r4) (r5) (r6) (r7) (r8) (r9) (r10) (tl) (pn) (nc) (kl) (ol) (al) d (0) hd (by decide) (by decide)) gX10_choose_X10_isUsable rfl ⟨rfl, rfl⟩ (by decide +kernel) ⟨Nat.le_of_ble_eq_true rfl, Nat.le_of_ble_eq_true rfl⟩ [0, 1] [] rfl rfl rfl rfl (by decide) (ci := 10) (q0 := 0) rfl rfl (As := [.int (iI (0))]) rfl hl.1 rfl (Nat.le_of_ble_eq_true rfl) dX10_choose_50 ⟨Nat.zero_le _, Nat.zero_le _⟩ (fun r u H locs hp S => ?_)
            obtain ⟨rfl, rfl⟩ := hp
            have S := S.sub (ws' := [(hM, .inr (10, [.ref aD, .ref aM, .int (iI (st)), .int (iI (r3)), .int (iI (r4)), .int (iI (r5)), .int (iI (r6)), .int (iI (r7)), .int (iI (r8)), .int (iI (r9)), .int (iI (r10)), .ref aX, .int (iI (tl)), .ref aP, .int (iI (pn)), .ref aQ, .int (iI (nc)), .ref aK, .ref aO, .ref aA, .int (iI (kl)), .int (iI (ol)), .int (iI (al)), .ref a1, .ref a2, .ref a3])), (aD, .inl (cA 0, 2048, .inl (fun y_ => iI (d y_))))]) [0, 1] rfl rfl
            refine k_bz_eq (tgt := 58) C0 dX10_choose_53 (by decide) (fun c48 => ?_) (fun c48 => ?_)
            · refine lv_iinc (v := iI (1)) (lv' := [(1, .int (iI (1))), (0, .ref hM)]) C0.1 C0.2.1 dX10_choose_58 hl (k := 0) rfl (by decide) (by decide) rfl (fun ls hl => ?_)
              refine lv_goto (tgt := 43) C0.1 C0.2.1 dX10_choose_61 (by decide) ?_
              refine lv_iload_n C0.1 C0.2.1 dX10_choose_43 rfl (lv_at hl 0 rfl) ?_
              refine lv_iconst (v := iI (3)) C0.1 C0.2.1 dX10_choose_44 rfl ?_
              refine k_icmp_ge (tgt := 64) C0 ⟨by decide, by decide⟩ ⟨by decide, by decide⟩ dX10_choose_45 (by decide) (fun hc => absurd hc (by decide)) (fun _ => ?_)
              refine lv_aload_n C0.1 C0.2.1 dX10_choose_48 rfl (lv_at hl 1 rfl) ?_
              refine lv_iload_n C0.1 C0.2.1 dX10_choose_49 rfl (lv_at hl 0 rfl) ?_
              refine k_calli (n := 1) (wr := []) C0 S (c_X10_isUsable l D cA hM aD aM aX aP aQ aK aO aA a1 a2 a3 (st) (r3) (r4) (r5) (r6) (r7) (r8) (r9) (r10) (tl) (pn) (nc) (kl) (ol) (al) d (1) hd (by decide) (by decide)) gX10_choose_X10_isUsable rfl ⟨rfl, rfl⟩ (by decide +kernel) ⟨Nat.le_of_ble_eq_true rfl, Nat.le_of_ble_eq_true rfl⟩ [0, 1] [] rfl rfl rfl rfl (by decide) (ci := 10) (q0 := 0) rfl rfl (As := [.int (iI (1))]) rfl hl.1 rfl (Nat.le_of_ble_eq_true rfl) dX10_choose_50 ⟨Nat.zero_le _, Nat.zero_le _⟩ (fun r u H locs hp S => ?_)
              obtain ⟨rfl, rfl⟩ := hp
              have S := S.sub (ws' := [(hM, .inr (10, [.ref aD, .ref aM, .int (iI (st)), .int (iI (r3)), .int (iI (r4)), .int (iI (r5)), .int (iI (r6)), .int (iI (r7)), .int (iI (r8)), .int (iI (r9)), .int (iI (r10)), .ref aX, .int (iI (tl)), .ref aP, .int (iI (pn)), .ref aQ, .int (iI (nc)), .ref aK, .ref aO, .ref aA, .int (iI (kl)), .int (iI (ol)), .int (iI (al)), .ref a1, .ref a2, .ref a3])), (aD, .inl (cA 0, 2048, .inl (fun y_ => iI (d y_))))]) [0, 1] rfl rfl
              refine k_bz_eq (tgt := 58) C0 dX10_choose_53 (by decide) (fun c51 => ?_) (fun c51 => ?_)
              · refine lv_iinc (v := iI (2)) (lv' := [(1, .int (iI (2))), (0, .ref hM)]) C0.1 C0.2.1 dX10_choose_58 hl (k := 0) rfl (by decide) (by decide) rfl (fun ls hl => ?_)
                refine lv_goto (tgt := 43) C0.1 C0.2.1 dX10_choose_61 (by decide) ?_
                refine lv_iload_n C0.1 C0.2.1 dX10_choose_43 rfl (lv_at hl 0 rfl) ?_
                refine lv_iconst (v := iI (3)) C0.1 C0.2.1 dX10_choose_44 rfl ?_
                refine k_icmp_ge (tgt := 64) C0 ⟨by decide, by decide⟩ ⟨by decide, by decide⟩ dX10_choose_45 (by decide) (fun hc => absurd hc (by decide)) (fun _ => ?_)
                refine lv_aload_n C0.1 C0.2.1 dX10_choose_48 rfl (lv_at hl 1 rfl) ?_
                refine lv_iload_n C0.1 C0.2.1 dX10_choose_49 rfl (lv_at hl 0 rfl) ?_
                refine k_calli (n := 1) (wr := []) C0 S (c_X10_isUsable l D cA hM aD aM aX aP aQ aK aO aA a1 a2 a3 (st) (r3) (r4) (r5) (r6) (r7) (r8) (r9) (r10) (tl) (pn) (nc) (kl) (ol) (al) d (2) hd (by decide) (by decide)) gX10_choose_X10_isUsable rfl ⟨rfl, rfl⟩ (by decide +kernel) ⟨Nat.le_of_ble_eq_true rfl, Nat.le_of_ble_eq_true rfl⟩ [0, 1] [] rfl rfl rfl rfl (by decide) (ci := 10) (q0 := 0) rfl rfl (As := [.int (iI (2))]) rfl hl.1 rfl (Nat.le_of_ble_eq_true rfl) dX10_choose_50 ⟨Nat.zero_le _, Nat.zero_le _⟩ (fun r u H locs hp S => ?_)
                obtain ⟨rfl, rfl⟩ := hp
                have S := S.sub (ws' := [(hM, .inr (10, [.ref aD, .ref aM, .int (iI (st)), .int (iI (r3)), .int (iI (r4)), .int (iI (r5)), .int (iI (r6)), .int (iI (r7)), .int (iI (r8)), .int (iI (r9)), .int (iI (r10)), .ref aX, .int (iI (tl)), .ref aP, .int (iI (pn)), .ref aQ, .int (iI (nc)), .ref aK, .ref aO, .ref aA, .int (iI (kl)), .int (iI (ol)), .int (iI (al)), .ref a1, .ref a2, .ref a3])), (aD, .inl (cA 0, 2048, .inl (fun y_ => iI (d y_))))]) [0, 1] rfl rfl
                refine k_bz_eq (tgt := 58) C0 dX10_choose_53 (by decide) (fun c54 => ?_) (fun c54 => ?_)
                · refine lv_iinc (v := iI (3)) (lv' := [(1, .int (iI (3))), (0, .ref hM)]) C0.1 C0.2.1 dX10_choose_58 hl (k := 0) rfl (by decide) (by decide) rfl (fun ls hl => ?_)
                  refine lv_goto (tgt := 43) C0.1 C0.2.1 dX10_choose_61 (by decide) ?_
                  refine lv_iload_n C0.1 C0.2.1 dX10_choose_43 rfl (lv_at hl 0 rfl) ?_
                  refine lv_iconst (v := iI (3)) C0.1 C0.2.1 dX10_choose_44 rfl ?_
                  refine k_icmp_ge (tgt := 64) C0 ⟨by decide, by decide⟩ ⟨by decide, by decide⟩ dX10_choose_45 (by decide) (fun _ => ?_) (fun hc => absurd hc (by decide))
                  refine lv_iconst (v := iI (-1)) C0.1 C0.2.1 dX10_choose_64 rfl ?_
                  subst hQ
                  refine k_iret C0 S hAe hsz hr hlk dX10_choose_65 ?_
                  refine ⟨congrArg iI ?_, rfl⟩
                  classical
                  have e0 : ac d 0 = (rd d 6 = 128) := rfl
                  have e1 : ac d 1 = (rd d 14 = 128) := rfl
                  have e2 : ac d 2 = (rd d 22 = 128) := rfl
                  unfold chs
                  first | contradiction | simp only [e0, e1, e2, c3, c6, c31, c34, c45, c48, c51, c54, and_true, true_and, and_false, false_and, and_self, if_true, if_false, not_true, not_false_iff, ite_self]
                · refine lv_iload_n C0.1 C0.2.1 dX10_choose_56 rfl (lv_at hl 0 rfl) ?_
                  subst hQ
                  refine k_iret C0 S hAe hsz hr hlk dX10_choose_57 ?_
                  refine ⟨congrArg iI ?_, rfl⟩
                  classical
                  have e0 : ac d 0 = (rd d 6 = 128) := rfl
                  have e1 : ac d 1 = (rd d 14 = 128) := rfl
                  have e2 : ac d 2 = (rd d 22 = 128) := rfl
                  unfold chs
                  first | contradiction | simp only [e0, e1, e2, c3, c6, c31, c34, c45, c48, c51, c54, and_true, true_and, and_false, false_and, and_self, if_true, if_false, not_true, not_false_iff, ite_self]
              · refine lv_iload_n C0.1 C0.2.1 dX10_choose_56 rfl (lv_at hl 0 rfl) ?_
                subst hQ
                refine k_iret C0 S hAe hsz hr hlk dX10_choose_57 ?_
                refine ⟨congrArg iI ?_, rfl⟩
                classical
                have e0 : ac d 0 = (rd d 6 = 128) := rfl
                have e1 : ac d 1 = (rd d 14 = 128) := rfl
                have e2 : ac d 2 = (rd d 22 = 128) := rfl
                unfold chs
                first | contradiction | simp only [e0, e1, e2, c3, c6, c31, c34, c45, c48, c51, and_true, true_and, and_false, false_and, and_self, if_true, if_false, not_true, not_false_iff, ite_self]
            · refine lv_iload_n C0.1 C0.2.1 dX10_choose_56 rfl (lv_at hl 0 rfl) ?_
              subst hQ
              refine k_iret C0 S hAe hsz hr hlk dX10_choose_57 ?_
              refine ⟨congrArg iI ?_, rfl⟩
              classical
              have e0 : ac d 0 = (rd d 6 = 128) := rfl
              have e1 : ac d 1 = (rd d 14 = 128) := rfl
              have e2 : ac d 2 = (rd d 22 = 128) := rfl
              unfold chs
              first | contradiction | simp only [e0, e1, e2, c3, c6, c31, c34, c45, c48, and_true, true_and, and_false, false_and, and_self, if_true, if_false, not_true, not_false_iff, ite_self]
          · refine lv_iload_n C0.1 C0.2.1 dX10_choose_33 rfl (lv_at hl 0 rfl) ?_
            subst hQ
            refine k_iret C0 S hAe hsz hr hlk dX10_choose_34 ?_
            refine ⟨congrArg iI ?_, rfl⟩
            classical
            have e0 : ac d 0 = (rd d 6 = 128) := rfl
            have e1 : ac d 1 = (rd d 14 = 128) := rfl
            have e2 : ac d 2 = (rd d 22 = 128) := rfl
            unfold chs
            first | contradiction | simp only [e0, e1, e2, c3, c6, c31, c34, c45, and_true, true_and, and_false, false_and, and_self, if_true, if_false, not_true, not_false_iff, ite_self]
      · refine lv_iload_n C0.1 C0.2.1 dX10_choose_33 rfl (lv_at hl 0 rfl) ?_
        subst hQ
        refine k_iret C0 S hAe hsz hr hlk dX10_choose_34 ?_
        refine ⟨congrArg iI ?_, rfl⟩
        classical
        have e0 : ac d 0 = (rd d 6 = 128) := rfl
        have e1 : ac d 1 = (rd d 14 = 128) := rfl
        have e2 : ac d 2 = (rd d 22 = 128) := rfl
        unfold chs
        first | contradiction | simp only [e0, e1, e2, c3, c6, c31, and_true, true_and, and_false, false_and, and_self, if_true, if_false, not_true, not_false_iff, ite_self]
  · refine lv_aload_n C0.1 C0.2.1 dX10_choose_15 rfl (lv_at hl 1 rfl) ?_
    refine k_get C0 S (C := RX10) (T := TX10) (N := 26) (ci := 10) (by decide +kernel) 0 rfl rfl 0 (by decide) (by decide +kernel) (v := .ref aD) rfl dX10_choose_16 ?_
    refine lv_bipush (v := iI (6)) C0.1 C0.2.1 dX10_choose_19 (by decide) ?_
    refine lv_bipush (v := iI (8)) C0.1 C0.2.1 dX10_choose_21 (by decide) ?_
    refine lv_iload_n C0.1 C0.2.1 dX10_choose_23 rfl (lv_at hl 0 rfl) ?_
    refine k_imul C0 dX10_choose_24 ?_
    refine k_topeq (v := iI (0)) (congrArg iI (by decide)) ?_
    refine k_iadd C0 dX10_choose_25 ?_
    refine k_topeq (v := iI (6)) (congrArg iI (by decide)) ?_
    refine k_iald C0 S 1 0 rfl rfl (z := 6) (by omega) (by omega) (by omega) dX10_choose_26 ?_
    refine k_topeq (v := iI (rd d (6))) rfl ?_
    have hb55 := By.rd hd (6)
    refine lv_sipush (v := iI (128)) C0.1 C0.2.1 dX10_choose_27 (by decide) ?_
    refine k_icmp_ne (tgt := 35) C0 (by constructor <;> omega) ⟨by decide, by decide⟩ dX10_choose_30 (by decide) (fun c56 => ?_) (fun c56 => ?_)
    · refine lv_iinc (v := iI (1)) (lv' := [(1, .int (iI (1))), (0, .ref hM)]) C0.1 C0.2.1 dX10_choose_35 hl (k := 0) rfl (by decide) (by decide) rfl (fun ls hl => ?_)
      refine lv_goto (tgt := 2) C0.1 C0.2.1 dX10_choose_38 (by decide) ?_
      refine lv_iload_n C0.1 C0.2.1 dX10_choose_2 rfl (lv_at hl 0 rfl) ?_
      refine lv_iconst (v := iI (3)) C0.1 C0.2.1 dX10_choose_3 rfl ?_
      refine k_icmp_ge (tgt := 41) C0 ⟨by decide, by decide⟩ ⟨by decide, by decide⟩ dX10_choose_4 (by decide) (fun hc => absurd hc (by decide)) (fun _ => ?_)
      refine lv_aload_n C0.1 C0.2.1 dX10_choose_7 rfl (lv_at hl 1 rfl) ?_
      refine lv_iload_n C0.1 C0.2.1 dX10_choose_8 rfl (lv_at hl 0 rfl) ?_
      refine k_calli (n := 1) (wr := []) C0 S (c_X10_isUsable l D cA hM aD aM aX aP aQ aK aO aA a1 a2 a3 (st) (r3) (r4) (r5) (r6) (r7) (r8) (r9) (r10) (tl) (pn) (nc) (kl) (ol) (al) d (1) hd (by decide) (by decide)) gX10_choose_X10_isUsable rfl ⟨rfl, rfl⟩ (by decide +kernel) ⟨Nat.le_of_ble_eq_true rfl, Nat.le_of_ble_eq_true rfl⟩ [0, 1] [] rfl rfl rfl rfl (by decide) (ci := 10) (q0 := 0) rfl rfl (As := [.int (iI (1))]) rfl hl.1 rfl (Nat.le_of_ble_eq_true rfl) dX10_choose_9 ⟨Nat.zero_le _, Nat.zero_le _⟩ (fun r u H locs hp S => ?_)
      obtain ⟨rfl, rfl⟩ := hp
      have S := S.sub (ws' := [(hM, .inr (10, [.ref aD, .ref aM, .int (iI (st)), .int (iI (r3)), .int (iI (r4)), .int (iI (r5)), .int (iI (r6)), .int (iI (r7)), .int (iI (r8)), .int (iI (r9)), .int (iI (r10)), .ref aX, .int (iI (tl)), .ref aP, .int (iI (pn)), .ref aQ, .int (iI (nc)), .ref aK, .ref aO, .ref aA, .int (iI (kl)), .int (iI (ol)), .int (iI (al)), .ref a1, .ref a2, .ref a3])), (aD, .inl (cA 0, 2048, .inl (fun y_ => iI (d y_))))]) [0, 1] rfl rfl
      refine k_bz_eq (tgt := 35) C0 dX10_choose_12 (by decide) (fun c59 => ?_) (fun c59 => ?_)
      · refine lv_iinc (v := iI (2)) (lv' := [(1, .int (iI (2))), (0, .ref hM)]) C0.1 C0.2.1 dX10_choose_35 hl (k := 0) rfl (by decide) (by decide) rfl (fun ls hl => ?_)
        refine lv_goto (tgt := 2) C0.1 C0.2.1 dX10_choose_38 (by decide) ?_
        refine lv_iload_n C0.1 C0.2.1 dX10_choose_2 rfl (lv_at hl 0 rfl) ?_
        refine lv_iconst (v := iI (3)) C0.1 C0.2.1 dX10_choose_3 rfl ?_
        refine k_icmp_ge (tgt := 41) C0 ⟨by decide, by decide⟩ ⟨by decide, by decide⟩ dX10_choose_4 (by decide) (fun hc => absurd hc (by decide)) (fun _ => ?_)
        refine lv_aload_n C0.1 C0.2.1 dX10_choose_7 rfl (lv_at hl 1 rfl) ?_
        refine lv_iload_n C0.1 C0.2.1 dX10_choose_8 rfl (lv_at hl 0 rfl) ?_
        refine k_calli (n := 1) (wr := []) C0 S (c_X10_isUsable l D cA hM aD aM aX aP aQ aK aO aA a1 a2 a3 (st) (r3) (r4) (r5) (r6) (r7) (r8) (r9) (r10) (tl) (pn) (nc) (kl) (ol) (al) d (2) hd (by decide) (by decide)) gX10_choose_X10_isUsable rfl ⟨rfl, rfl⟩ (by decide +kernel) ⟨Nat.le_of_ble_eq_true rfl, Nat.le_of_ble_eq_true rfl⟩ [0, 1] [] rfl rfl rfl rfl (by decide) (ci := 10) (q0 := 0) rfl rfl (As := [.int (iI (2))]) rfl hl.1 rfl (Nat.le_of_ble_eq_true rfl) dX10_choose_9 ⟨Nat.zero_le _, Nat.zero_le _⟩ (fun r u H locs hp S => ?_)
        obtain ⟨rfl, rfl⟩ := hp
        have S := S.sub (ws' := [(hM, .inr (10, [.ref aD, .ref aM, .int (iI (st)), .int (iI (r3)), .int (iI (r4)), .int (iI (r5)), .int (iI (r6)), .int (iI (r7)), .int (iI (r8)), .int (iI (r9)), .int (iI (r10)), .ref aX, .int (iI (tl)), .ref aP, .int (iI (pn)), .ref aQ, .int (iI (nc)), .ref aK, .ref aO, .ref aA, .int (iI (kl)), .int (iI (ol)), .int (iI (al)), .ref a1, .ref a2, .ref a3])), (aD, .inl (cA 0, 2048, .inl (fun y_ => iI (d y_))))]) [0, 1] rfl rfl
        refine k_bz_eq (tgt := 35) C0 dX10_choose_12 (by decide) (fun c62 => ?_) (fun c62 => ?_)
        · refine lv_iinc (v := iI (3)) (lv' := [(1, .int (iI (3))), (0, .ref hM)]) C0.1 C0.2.1 dX10_choose_35 hl (k := 0) rfl (by decide) (by decide) rfl (fun ls hl => ?_)
          refine lv_goto (tgt := 2) C0.1 C0.2.1 dX10_choose_38 (by decide) ?_
          refine lv_iload_n C0.1 C0.2.1 dX10_choose_2 rfl (lv_at hl 0 rfl) ?_
          refine lv_iconst (v := iI (3)) C0.1 C0.2.1 dX10_choose_3 rfl ?_
          refine k_icmp_ge (tgt := 41) C0 ⟨by decide, by decide⟩ ⟨by decide, by decide⟩ dX10_choose_4 (by decide) (fun _ => ?_) (fun hc => absurd hc (by decide))
          refine lv_iconst (v := iI (0)) C0.1 C0.2.1 dX10_choose_41 rfl ?_
          refine lv_istore_n (lv' := [(1, .int (iI (0))), (0, .ref hM)]) C0.1 C0.2.1 dX10_choose_42 rfl hl (by decide) rfl (fun ls hl => ?_)
          refine lv_iload_n C0.1 C0.2.1 dX10_choose_43 rfl (lv_at hl 0 rfl) ?_
          refine lv_iconst (v := iI (3)) C0.1 C0.2.1 dX10_choose_44 rfl ?_
          refine k_icmp_ge (tgt := 64) C0 ⟨by decide, by decide⟩ ⟨by decide, by decide⟩ dX10_choose_45 (by decide) (fun hc => absurd hc (by decide)) (fun _ => ?_)
          refine lv_aload_n C0.1 C0.2.1 dX10_choose_48 rfl (lv_at hl 1 rfl) ?_
          refine lv_iload_n C0.1 C0.2.1 dX10_choose_49 rfl (lv_at hl 0 rfl) ?_
          refine k_calli (n := 1) (wr := []) C0 S (c_X10_isUsable l D cA hM aD aM aX aP aQ aK aO aA a1 a2 a3 (st) (r3) (r4) (r5) (r6) (r7) (r8) (r9) (r10) (tl) (pn) (nc) (kl) (ol) (al) d (0) hd (by decide) (by decide)) gX10_choose_X10_isUsable rfl ⟨rfl, rfl⟩ (by decide +kernel) ⟨Nat.le_of_ble_eq_true rfl, Nat.le_of_ble_eq_true rfl⟩ [0, 1] [] rfl rfl rfl rfl (by decide) (ci := 10) (q0 := 0) rfl rfl (As := [.int (iI (0))]) rfl hl.1 rfl (Nat.le_of_ble_eq_true rfl) dX10_choose_50 ⟨Nat.zero_le _, Nat.zero_le _⟩ (fun r u H locs hp S => ?_)
          obtain ⟨rfl, rfl⟩ := hp
          have S := S.sub (ws' := [(hM, .inr (10, [.ref aD, .ref aM, .int (iI (st)), .int (iI (r3)), .int (iI (r4)), .int (iI (r5)), .int (iI (r6)), .int (iI (r7)), .int (iI (r8)), .int (iI (r9)), .int (iI (r10)), .ref aX, .int (iI (tl)), .ref aP, .int (iI (pn)), .ref aQ, .int (iI (nc)), .ref aK, .ref aO, .ref aA, .int (iI (kl)), .int (iI (ol)), .int (iI (al)), .ref a1, .ref a2, .ref a3])), (aD, .inl (cA 0, 2048, .inl (fun y_ => iI (d y_))))]) [0, 1] rfl rfl
          refine k_bz_eq (tgt := 58) C0 dX10_choose_53 (by decide) (fun c65 => ?_) (fun c65 => ?_)
          · refine lv_iinc (v := iI (1)) (lv' := [(1, .int (iI (1))), (0, .ref hM)]) C0.1 C0.2.1 dX10_choose_58 hl (k := 0) rfl (by decide) (by decide) rfl (fun ls hl => ?_)
            refine lv_goto (tgt := 43) C0.1 C0.2.1 dX10_choose_61 (by decide) ?_
            refine lv_iload_n C0.1 C0.2.1 dX10_choose_43 rfl (lv_at hl 0 rfl) ?_
            refine lv_iconst (v := iI (3)) C0.1 C0.2.1 dX10_choose_44 rfl ?_
            refine k_icmp_ge (tgt := 64) C0 ⟨by decide, by decide⟩ ⟨by decide, by decide⟩ dX10_choose_45 (by decide) (fun hc => absurd hc (by decide)) (fun _ => ?_)
            refine lv_aload_n C0.1 C0.2.1 dX10_choose_48 rfl (lv_at hl 1 rfl) ?_
            refine lv_iload_n C0.1 C0.2.1 dX10_choose_49 rfl (lv_at hl 0 rfl) ?_
            refine k_calli (n := 1) (wr := []) C0 S (c_X10_isUsable l D cA hM aD aM aX aP aQ aK aO aA a1 a2 a3 (st) (r3) (r4) (r5) (r6) (r7) (r8) (r9) (r10) (tl) (pn) (nc) (kl) (ol) (al) d (1) hd (by decide) (by decide)) gX10_choose_X10_isUsable rfl ⟨rfl, rfl⟩ (by decide +kernel) ⟨Nat.le_of_ble_eq_true rfl, Nat.le_of_ble_eq_true rfl⟩ [0, 1] [] rfl rfl rfl rfl (by decide) (ci := 10) (q0 := 0) rfl rfl (As := [.int (iI (1))]) rfl hl.1 rfl (Nat.le_of_ble_eq_true rfl) dX10_choose_50 ⟨Nat.zero_le _, Nat.zero_le _⟩ (fun r u H locs hp S => ?_)
            obtain ⟨rfl, rfl⟩ := hp
            have S := S.sub (ws' := [(hM, .inr (10, [.ref aD, .ref aM, .int (iI (st)), .int (iI (r3)), .int (iI (r4)), .int (iI (r5)), .int (iI (r6)), .int (iI (r7)), .int (iI (r8)), .int (iI (r9)), .int (iI (r10)), .ref aX, .int (iI (tl)), .ref aP, .int (iI (pn)), .ref aQ, .int (iI (nc)), .ref aK, .ref aO, .ref aA, .int (iI (kl)), .int (iI (ol)), .int (iI (al)), .ref a1, .ref a2, .ref a3])), (aD, .inl (cA 0, 2048, .inl (fun y_ => iI (d y_))))]) [0, 1] rfl rfl
            refine k_bz_eq (tgt := 58) C0 dX10_choose_53 (by decide) (fun c68 => ?_) (fun c68 => ?_)
            · refine lv_iinc (v := iI (2)) (lv' := [(1, .int (iI (2))), (0, .ref hM)]) C0.1 C0.2.1 dX10_choose_58 hl (k := 0) rfl (by decide) (by decide) rfl (fun ls hl => ?_)
              refine lv_goto (tgt := 43) C0.1 C0.2.1 dX10_choose_61 (by decide) ?_
              refine lv_iload_n C0.1 C0.2.1 dX10_choose_43 rfl (lv_at hl 0 rfl) ?_
              refine lv_iconst (v := iI (3)) C0.1 C0.2.1 dX10_choose_44 rfl ?_
              refine k_icmp_ge (tgt := 64) C0 ⟨by decide, by decide⟩ ⟨by decide, by decide⟩ dX10_choose_45 (by decide) (fun hc => absurd hc (by decide)) (fun _ => ?_)
              refine lv_aload_n C0.1 C0.2.1 dX10_choose_48 rfl (lv_at hl 1 rfl) ?_
              refine lv_iload_n C0.1 C0.2.1 dX10_choose_49 rfl (lv_at hl 0 rfl) ?_
              refine k_calli (n := 1) (wr := []) C0 S (c_X10_isUsable l D cA hM aD aM aX aP aQ aK aO aA a1 a2 a3 (st) (r3) (r4) (r5) (r6) (r7) (r8) (r9) (r10) (tl) (pn) (nc) (kl) (ol) (al) d (2) hd (by decide) (by decide)) gX10_choose_X10_isUsable rfl ⟨rfl, rfl⟩ (by decide +kernel) ⟨Nat.le_of_ble_eq_true rfl, Nat.le_of_ble_eq_true rfl⟩ [0, 1] [] rfl rfl rfl rfl (by decide) (ci := 10) (q0 := 0) rfl rfl (As := [.int (iI (2))]) rfl hl.1 rfl (Nat.le_of_ble_eq_true rfl) dX10_choose_50 ⟨Nat.zero_le _, Nat.zero_le _⟩ (fun r u H locs hp S => ?_)
              obtain ⟨rfl, rfl⟩ := hp
              have S := S.sub (ws' := [(hM, .inr (10, [.ref aD, .ref aM, .int (iI (st)), .int (iI (r3)), .int (iI (r4)), .int (iI (r5)), .int (iI (r6)), .int (iI (r7)), .int (iI (r8)), .int (iI (r9)), .int (iI (r10)), .ref aX, .int (iI (tl)), .ref aP, .int (iI (pn)), .ref aQ, .int (iI (nc)), .ref aK, .ref aO, .ref aA, .int (iI (kl)), .int (iI (ol)), .int (iI (al)), .ref a1, .ref a2, .ref a3])), (aD, .inl (cA 0, 2048, .inl (fun y_ => iI (d y_))))]) [0, 1] rfl rfl
              refine k_bz_eq (tgt := 58) C0 dX10_choose_53 (by decide) (fun c71 => ?_) (fun c71 => ?_)
              · refine lv_iinc (v := iI (3)) (lv' := [(1, .int (iI (3))), (0, .ref hM)]) C0.1 C0.2.1 dX10_choose_58 hl (k := 0) rfl (by decide) (by decide) rfl (fun ls hl => ?_)
                refine lv_goto (tgt := 43) C0.1 C0.2.1 dX10_choose_61 (by decide) ?_
                refine lv_iload_n C0.1 C0.2.1 dX10_choose_43 rfl (lv_at hl 0 rfl) ?_
                refine lv_iconst (v := iI (3)) C0.1 C0.2.1 dX10_choose_44 rfl ?_
                refine k_icmp_ge (tgt := 64) C0 ⟨by decide, by decide⟩ ⟨by decide, by decide⟩ dX10_choose_45 (by decide) (fun _ => ?_) (fun hc => absurd hc (by decide))
                refine lv_iconst (v := iI (-1)) C0.1 C0.2.1 dX10_choose_64 rfl ?_
                subst hQ
                refine k_iret C0 S hAe hsz hr hlk dX10_choose_65 ?_
                refine ⟨congrArg iI ?_, rfl⟩
                classical
                have e0 : ac d 0 = (rd d 6 = 128) := rfl
                have e1 : ac d 1 = (rd d 14 = 128) := rfl
                have e2 : ac d 2 = (rd d 22 = 128) := rfl
                unfold chs
                first | contradiction | simp only [e0, e1, e2, c3, c56, c59, c62, c65, c68, c71, and_true, true_and, and_false, false_and, and_self, if_true, if_false, not_true, not_false_iff, ite_self]
              · refine lv_iload_n C0.1 C0.2.1 dX10_choose_56 rfl (lv_at hl 0 rfl) ?_
                subst hQ
                refine k_iret C0 S hAe hsz hr hlk dX10_choose_57 ?_
                refine ⟨congrArg iI ?_, rfl⟩
                classical
                have e0 : ac d 0 = (rd d 6 = 128) := rfl
                have e1 : ac d 1 = (rd d 14 = 128) := rfl
                have e2 : ac d 2 = (rd d 22 = 128) := rfl
                unfold chs
                first | contradiction | simp only [e0, e1, e2, c3, c56, c59, c62, c65, c68, c71, and_true, true_and, and_false, false_and, and_self, if_true, if_false, not_true, not_false_iff, ite_self]
            · refine lv_iload_n C0.1 C0.2.1 dX10_choose_56 rfl (lv_at hl 0 rfl) ?_
              subst hQ
              refine k_iret C0 S hAe hsz hr hlk dX10_choose_57 ?_
              refine ⟨congrArg iI ?_, rfl⟩
              classical
              have e0 : ac d 0 = (rd d 6 = 128) := rfl
              have e1 : ac d 1 = (rd d 14 = 128) := rfl
              have e2 : ac d 2 = (rd d 22 = 128) := rfl
              unfold chs
              first | contradiction | simp only [e0, e1, e2, c3, c56, c59, c62, c65, c68, and_true, true_and, and_false, false_and, and_self, if_true, if_false, not_true, not_false_iff, ite_self]
          · refine lv_iload_n C0.1 C0.2.1 dX10_choose_56 rfl (lv_at hl 0 rfl) ?_
            subst hQ
            refine k_iret C0 S hAe hsz hr hlk dX10_choose_57 ?_
            refine ⟨congrArg iI ?_, rfl⟩
            classical
            have e0 : ac d 0 = (rd d 6 = 128) := rfl
            have e1 : ac d 1 = (rd d 14 = 128) := rfl
            have e2 : ac d 2 = (rd d 22 = 128) := rfl
            unfold chs
            first | contradiction | simp only [e0, e1, e2, c3, c56, c59, c62, c65, and_true, true_and, and_false, false_and, and_self, if_true, if_false, not_true, not_false_iff, ite_self]
        · refine lv_aload_n C0.1 C0.2.1 dX10_choose_15 rfl (lv_at hl 1 rfl) ?_
          refine k_get C0 S (C := RX10) (T := TX10) (N := 26) (ci := 10) (by decide +kernel) 0 rfl rfl 0 (by decide) (by decide +kernel) (v := .ref aD) rfl dX10_choose_16 ?_
          refine lv_bipush (v := iI (6)) C0.1 C0.2.1 dX10_choose_19 (by decide) ?_
          refine lv_bipush (v := iI (8)) C0.1 C0.2.1 dX10_choose_21 (by decide) ?_
          refine lv_iload_n C0.1 C0.2.1 dX10_choose_23 rfl (lv_at hl 0 rfl) ?_
          refine k_imul C0 dX10_choose_24 ?_
          refine k_topeq (v := iI (16)) (congrArg iI (by decide)) ?_
          refine k_iadd C0 dX10_choose_25 ?_
          refine k_topeq (v := iI (22)) (congrArg iI (by decide)) ?_
          refine k_iald C0 S 1 0 rfl rfl (z := 22) (by omega) (by omega) (by omega) dX10_choose_26 ?_
          refine k_topeq (v := iI (rd d (22))) rfl ?_
          have hb72 := By.rd hd (22)
          refine lv_sipush (v := iI (128)) C0.1 C0.2.1 dX10_choose_27 (by decide) ?_
          refine k_icmp_ne (tgt := 35) C0 (by constructor <;> omega) ⟨by decide, by decide⟩ dX10_choose_30 (by decide) (fun c73 => ?_) (fun c73 => ?_)
          · refine lv_iinc (v := iI (3)) (lv' := [(1, .int (iI (3))), (0, .ref hM)]) C0.1 C0.2.1 dX10_choose_35 hl (k := 0) rfl (by decide) (by decide) rfl (fun ls hl => ?_)
            refine lv_goto (tgt := 2) C0.1 C0.2.1 dX10_choose_38 (by decide) ?_
            refine lv_iload_n C0.1 C0.2.1 dX10_choose_2 rfl (lv_at hl 0 rfl) ?_
            refine lv_iconst (v := iI (3)) C0.1 C0.2.1 dX10_choose_3 rfl ?_
            refine k_icmp_ge (tgt := 41) C0 ⟨by decide, by decide⟩ ⟨by decide, by decide⟩ dX10_choose_4 (by decide) (fun _ => ?_) (fun hc => absurd hc (by decide))
            refine lv_iconst (v := iI (0)) C0.1 C0.2.1 dX10_choose_41 rfl ?_
            refine lv_istore_n (lv' := [(1, .int (iI (0))), (0, .ref hM)]) C0.1 C0.2.1 dX10_choose_42 rfl hl (by decide) rfl (fun ls hl => ?_)
            refine lv_iload_n C0.1 C0.2.1 dX10_choose_43 rfl (lv_at hl 0 rfl) ?_
            refine lv_iconst (v := iI (3)) C0.1 C0.2.1 dX10_choose_44 rfl ?_
            refine k_icmp_ge (tgt := 64) C0 ⟨by decide, by decide⟩ ⟨by decide, by decide⟩ dX10_choose_45 (by decide) (fun hc => absurd hc (by decide)) (fun _ => ?_)
            refine lv_aload_n C0.1 C0.2.1 dX10_choose_48 rfl (lv_at hl 1 rfl) ?_
            refine lv_iload_n C0.1 C0.2.1 dX10_choose_49 rfl (lv_at hl 0 rfl) ?_
            refine k_calli (n := 1) (wr := []) C0 S (c_X10_isUsable l D cA hM aD aM aX aP aQ aK aO aA a1 a2 a3 (st) (r3) (r4) (r5) (r6) (r7) (r8) (r9) (r10) (tl) (pn) (nc) (kl) (ol) (al) d (0) hd (by decide) (by decide)) gX10_choose_X10_isUsable rfl ⟨rfl, rfl⟩ (by decide +kernel) ⟨Nat.le_of_ble_eq_true rfl, Nat.le_of_ble_eq_true rfl⟩ [0, 1] [] rfl rfl rfl rfl (by decide) (ci := 10) (q0 := 0) rfl rfl (As := [.int (iI (0))]) rfl hl.1 rfl (Nat.le_of_ble_eq_true rfl) dX10_choose_50 ⟨Nat.zero_le _, Nat.zero_le _⟩ (fun r u H locs hp S => ?_)
            obtain ⟨rfl, rfl⟩ := hp
            have S := S.sub (ws' := [(hM, .inr (10, [.ref aD, .ref aM, .int (iI (st)), .int (iI (r3)), .int (iI (r4)), .int (iI (r5)), .int (iI (r6)), .int (iI (r7)), .int (iI (r8)), .int (iI (r9)), .int (iI (r10)), .ref aX, .int (iI (tl)), .ref aP, .int (iI (pn)), .ref aQ, .int (iI (nc)), .ref aK, .ref aO, .ref aA, .int (iI (kl)), .int (iI (ol)), .int (iI (al)), .ref a1, .ref a2, .ref a3])), (aD, .inl (cA 0, 2048, .inl (fun y_ => iI (d y_))))]) [0, 1] rfl rfl
            refine k_bz_eq (tgt := 58) C0 dX10_choose_53 (by decide) (fun c76 => ?_) (fun c76 => ?_)
            · refine lv_iinc (v := iI (1)) (lv' := [(1, .int (iI (1))), (0, .ref hM)]) C0.1 C0.2.1 dX10_choose_58 hl (k := 0) rfl (by decide) (by decide) rfl (fun ls hl => ?_)
              refine lv_goto (tgt := 43) C0.1 C0.2.1 dX10_choose_61 (by decide) ?_
              refine lv_iload_n C0.1 C0.2.1 dX10_choose_43 rfl (lv_at hl 0 rfl) ?_
              refine lv_iconst (v := iI (3)) C0.1 C0.2.1 dX10_choose_44 rfl ?_
              refine k_icmp_ge (tgt := 64) C0 ⟨by decide, by decide⟩ ⟨by decide, by decide⟩ dX10_choose_45 (by decide) (fun hc => absurd hc (by decide)) (fun _ => ?_)
              refine lv_aload_n C0.1 C0.2.1 dX10_choose_48 rfl (lv_at hl 1 rfl) ?_
              refine lv_iload_n C0.1 C0.2.1 dX10_choose_49 rfl (lv_at hl 0 rfl) ?_
              refine k_calli (n := 1) (wr := []) C0 S (c_X10_isUsable l D cA hM aD aM aX aP aQ aK aO aA a1 a2 a3 (st) (r3) (r4) (r5) (r6) (r7) (r8) (r9) (r10) (tl) (pn) (nc) (kl) (ol) (al) d (1) hd (by decide) (by decide)) gX10_choose_X10_isUsable rfl ⟨rfl, rfl⟩ (by decide +kernel) ⟨Nat.le_of_ble_eq_true rfl, Nat.le_of_ble_eq_true rfl⟩ [0, 1] [] rfl rfl rfl rfl (by decide) (ci := 10) (q0 := 0) rfl rfl (As := [.int (iI (1))]) rfl hl.1 rfl (Nat.le_of_ble_eq_true rfl) dX10_choose_50 ⟨Nat.zero_le _, Nat.zero_le _⟩ (fun r u H locs hp S => ?_)
              obtain ⟨rfl, rfl⟩ := hp
              have S := S.sub (ws' := [(hM, .inr (10, [.ref aD, .ref aM, .int (iI (st)), .int (iI (r3)), .int (iI (r4)), .int (iI (r5)), .int (iI (r6)), .int (iI (r7)), .int (iI (r8)), .int (iI (r9)), .int (iI (r10)), .ref aX, .int (iI (tl)), .ref aP, .int (iI (pn)), .ref aQ, .int (iI (nc)), .ref aK, .ref aO, .ref aA, .int (iI (kl)), .int (iI (ol)), .int (iI (al)), .ref a1, .ref a2, .ref a3])), (aD, .inl (cA 0, 2048, .inl (fun y_ => iI (d y_))))]) [0, 1] rfl rfl
              refine k_bz_eq (tgt := 58) C0 dX10_choose_53 (by decide) (fun c79 => ?_) (fun c79 => ?_)
              · refine lv_iinc (v := iI (2)) (lv' := [(1, .int (iI (2))), (0, .ref hM)]) C0.1 C0.2.1 dX10_choose_58 hl (k := 0) rfl (by decide) (by decide) rfl (fun ls hl => ?_)
                refine lv_goto (tgt := 43) C0.1 C0.2.1 dX10_choose_61 (by decide) ?_
                refine lv_iload_n C0.1 C0.2.1 dX10_choose_43 rfl (lv_at hl 0 rfl) ?_
                refine lv_iconst (v := iI (3)) C0.1 C0.2.1 dX10_choose_44 rfl ?_
                refine k_icmp_ge (tgt := 64) C0 ⟨by decide, by decide⟩ ⟨by decide, by decide⟩ dX10_choose_45 (by decide) (fun hc => absurd hc (by decide)) (fun _ => ?_)
                refine lv_aload_n C0.1 C0.2.1 dX10_choose_48 rfl (lv_at hl 1 rfl) ?_
                refine lv_iload_n C0.1 C0.2.1 dX10_choose_49 rfl (lv_at hl 0 rfl) ?_
                refine k_calli (n := 1) (wr := []) C0 S (c_X10_isUsable l D cA hM aD aM aX aP aQ aK aO aA a1 a2 a3 (st) (r3) (r4) (r5) (r6) (r7) (r8) (r9) (r10) (tl) (pn) (nc) (kl) (ol) (al) d (2) hd (by decide) (by decide)) gX10_choose_X10_isUsable rfl ⟨rfl, rfl⟩ (by decide +kernel) ⟨Nat.le_of_ble_eq_true rfl, Nat.le_of_ble_eq_true rfl⟩ [0, 1] [] rfl rfl rfl rfl (by decide) (ci := 10) (q0 := 0) rfl rfl (As := [.int (iI (2))]) rfl hl.1 rfl (Nat.le_of_ble_eq_true rfl) dX10_choose_50 ⟨Nat.zero_le _, Nat.zero_le _⟩ (fun r u H locs hp S => ?_)
                obtain ⟨rfl, rfl⟩ := hp
                have S := S.sub (ws' := [(hM, .inr (10, [.ref aD, .ref aM, .int (iI (st)), .int (iI (r3)), .int (iI (r4)), .int (iI (r5)), .int (iI (r6)), .int (iI (r7)), .int (iI (r8)), .int (iI (r9)), .int (iI (r10)), .ref aX, .int (iI (tl)), .ref aP, .int (iI (pn)), .ref aQ, .int (iI (nc)), .ref aK, .ref aO, .ref aA, .int (iI (kl)), .int (iI (ol)), .int (iI (al)), .ref a1, .ref a2, .ref a3])), (aD, .inl (cA 0, 2048, .inl (fun y_ => iI (d y_))))]) [0, 1] rfl rfl
                refine k_bz_eq (tgt := 58) C0 dX10_choose_53 (by decide) (fun c82 => ?_) (fun c82 => ?_)
                · refine lv_iinc (v := iI (3)) (lv' := [(1, .int (iI (3))), (0, .ref hM)]) C0.1 C0.2.1 dX10_choose_58 hl (k := 0) rfl (by decide) (by decide) rfl (fun ls hl => ?_)
                  refine lv_goto (tgt := 43) C0.1 C0.2.1 dX10_choose_61 (by decide) ?_
                  refine lv_iload_n C0.1 C0.2.1 dX10_choose_43 rfl (lv_at hl 0 rfl) ?_
                  refine lv_iconst (v := iI (3)) C0.1 C0.2.1 dX10_choose_44 rfl ?_
                  refine k_icmp_ge (tgt := 64) C0 ⟨by decide, by decide⟩ ⟨by decide, by decide⟩ dX10_choose_45 (by decide) (fun _ => ?_) (fun hc => absurd hc (by decide))
                  refine lv_iconst (v := iI (-1)) C0.1 C0.2.1 dX10_choose_64 rfl ?_
                  subst hQ
                  refine k_iret C0 S hAe hsz hr hlk dX10_choose_65 ?_
                  refine ⟨congrArg iI ?_, rfl⟩
                  classical
                  have e0 : ac d 0 = (rd d 6 = 128) := rfl
                  have e1 : ac d 1 = (rd d 14 = 128) := rfl
                  have e2 : ac d 2 = (rd d 22 = 128) := rfl
                  unfold chs
                  first | contradiction | simp only [e0, e1, e2, c3, c56, c59, c62, c73, c76, c79, c82, and_true, true_and, and_false, false_and, and_self, if_true, if_false, not_true, not_false_iff, ite_self]
                · refine lv_iload_n C0.1 C0.2.1 dX10_choose_56 rfl (lv_at hl 0 rfl) ?_
                  subst hQ
                  refine k_iret C0 S hAe hsz hr hlk dX10_choose_57 ?_
                  refine ⟨congrArg iI ?_, rfl⟩
                  classical
                  have e0 : ac d 0 = (rd d 6 = 128) := rfl
                  have e1 : ac d 1 = (rd d 14 = 128) := rfl
                  have e2 : ac d 2 = (rd d 22 = 128) := rfl
                  unfold chs
                  first | contradiction | simp only [e0, e1, e2, c3, c56, c59, c62, c73, c76, c79, c82, and_true, true_and, and_false, false_and, and_self, if_true, if_false, not_true, not_false_iff, ite_self]
              · refine lv_iload_n C0.1 C0.2.1 dX10_choose_56 rfl (lv_at hl 0 rfl) ?_
                subst hQ
                refine k_iret C0 S hAe hsz hr hlk dX10_choose_57 ?_
                refine ⟨congrArg iI ?_, rfl⟩
                classical
                have e0 : ac d 0 = (rd d 6 = 128) := rfl
                have e1 : ac d 1 = (rd d 14 = 128) := rfl
                have e2 : ac d 2 = (rd d 22 = 128) := rfl
                unfold chs
                first | contradiction | simp only [e0, e1, e2, c3, c56, c59, c62, c73, c76, c79, and_true, true_and, and_false, false_and, and_self, if_true, if_false, not_true, not_false_iff, ite_self]
            · refine lv_iload_n C0.1 C0.2.1 dX10_choose_56 rfl (lv_at hl 0 rfl) ?_
              subst hQ
              refine k_iret C0 S hAe hsz hr hlk dX10_choose_57 ?_
              refine ⟨congrArg iI ?_, rfl⟩
              classical
              have e0 : ac d 0 = (rd d 6 = 128) := rfl
              have e1 : ac d 1 = (rd d 14 = 128) := rfl
              have e2 : ac d 2 = (rd d 22 = 128) := rfl
              unfold chs
              first | contradiction | simp only [e0, e1, e2, c3, c56, c59, c62, c73, c76, and_true, true_and, and_false, false_and, and_self, if_true, if_false, not_true, not_false_iff, ite_self]
          · refine lv_iload_n C0.1 C0.2.1 dX10_choose_33 rfl (lv_at hl 0 rfl) ?_
            subst hQ
            refine k_iret C0 S hAe hsz hr hlk dX10_choose_34 ?_
            refine ⟨congrArg iI ?_, rfl⟩
            classical
            have e0 : ac d 0 = (rd d 6 = 128) := rfl
            have e1 : ac d 1 = (rd d 14 = 128) := rfl
            have e2 : ac d 2 = (rd d 22 = 128) := rfl
            unfold chs
            first | contradiction | simp only [e0, e1, e2, c3, c56, c59, c62, c73, and_true, true_and, and_false, false_and, and_self, if_true, if_false, not_true, not_false_iff, ite_self]
      · refine lv_aload_n C0.1 C0.2.1 dX10_choose_15 rfl (lv_at hl 1 rfl) ?_
        refine k_get C0 S (C := RX10) (T := TX10) (N := 26) (ci := 10) (by decide +kernel) 0 rfl rfl 0 (by decide) (by decide +kernel) (v := .ref aD) rfl dX10_choose_16 ?_
        refine lv_bipush (v := iI (6)) C0.1 C0.2.1 dX10_choose_19 (by decide) ?_
        refine lv_bipush (v := iI (8)) C0.1 C0.2.1 dX10_choose_21 (by decide) ?_
        refine lv_iload_n C0.1 C0.2.1 dX10_choose_23 rfl (lv_at hl 0 rfl) ?_
        refine k_imul C0 dX10_choose_24 ?_
        refine k_topeq (v := iI (8)) (congrArg iI (by decide)) ?_
        refine k_iadd C0 dX10_choose_25 ?_
        refine k_topeq (v := iI (14)) (congrArg iI (by decide)) ?_
        refine k_iald C0 S 1 0 rfl rfl (z := 14) (by omega) (by omega) (by omega) dX10_choose_26 ?_
        refine k_topeq (v := iI (rd d (14))) rfl ?_
        have hb83 := By.rd hd (14)
        refine lv_sipush (v := iI (128)) C0.1 C0.2.1 dX10_choose_27 (by decide) ?_
        refine k_icmp_ne (tgt := 35) C0 (by constructor <;> omega) ⟨by decide, by decide⟩ dX10_choose_30 (by decide) (fun c84 => ?_) (fun c84 => ?_)
        · refine lv_iinc (v := iI (2)) (lv' := [(1, .int (iI (2))), (0, .ref hM)]) C0.1 C0.2.1 dX10_choose_35 hl (k := 0) rfl (by decide) (by decide) rfl (fun ls hl => ?_)
          refine lv_goto (tgt := 2) C0.1 C0.2.1 dX10_choose_38 (by decide) ?_
          refine lv_iload_n C0.1 C0.2.1 dX10_choose_2 rfl (lv_at hl 0 rfl) ?_
          refine lv_iconst (v := iI (3)) C0.1 C0.2.1 dX10_choose_3 rfl ?_
          refine k_icmp_ge (tgt := 41) C0 ⟨by decide, by decide⟩ ⟨by decide, by decide⟩ dX10_choose_4 (by decide) (fun hc => absurd hc (by decide)) (fun _ => ?_)
          refine lv_aload_n C0.1 C0.2.1 dX10_choose_7 rfl (lv_at hl 1 rfl) ?_
          refine lv_iload_n C0.1 C0.2.1 dX10_choose_8 rfl (lv_at hl 0 rfl) ?_
          refine k_calli (n := 1) (wr := []) C0 S (c_X10_isUsable l D cA hM aD aM aX aP aQ aK aO aA a1 a2 a3 (st) (r3) (r4) (r5) (r6) (r7) (r8) (r9) (r10) (tl) (pn) (nc) (kl) (ol) (al) d (2) hd (by decide) (by decide)) gX10_choose_X10_isUsable rfl ⟨rfl, rfl⟩ (by decide +kernel) ⟨Nat.le_of_ble_eq_true rfl, Nat.le_of_ble_eq_true rfl⟩ [0, 1] [] rfl rfl rfl rfl (by decide) (ci := 10) (q0 := 0) rfl rfl (As := [.int (iI (2))]) rfl hl.1 rfl (Nat.le_of_ble_eq_true rfl) dX10_choose_9 ⟨Nat.zero_le _, Nat.zero_le _⟩ (fun r u H locs hp S => ?_)
          obtain ⟨rfl, rfl⟩ := hp
          have S := S.sub (ws' := [(hM, .inr (10, [.ref aD, .ref aM, .int (iI (st)), .int (iI (r3)), .int (iI (r4)), .int (iI (r5)), .int (iI (r6)), .int (iI (r7)), .int (iI (r8)), .int (iI (r9)), .int (iI (r10)), .ref aX, .int (iI (tl)), .ref aP, .int (iI (pn)), .ref aQ, .int (iI (nc)), .ref aK, .ref aO, .ref aA, .int (iI (kl)), .int (iI (ol)), .int (iI (al)), .ref a1, .ref a2, .ref a3])), (aD, .inl (cA 0, 2048, .inl (fun y_ => iI (d y_))))]) [0, 1] rfl rfl
          refine k_bz_eq (tgt := 35) C0 dX10_choose_12 (by decide) (fun c87 => ?_) (fun c87 => ?_)
          · refine lv_iinc (v := iI (3)) (lv' := [(1, .int (iI (3))), (0, .ref hM)]) C0.1 C0.2.1 dX10_choose_35 hl (k := 0) rfl (by decide) (by decide) rfl (fun ls hl => ?_)
            refine lv_goto (tgt := 2) C0.1 C0.2.1 dX10_choose_38 (by decide) ?_
            refine lv_iload_n C0.1 C0.2.1 dX10_choose_2 rfl (lv_at hl 0 rfl) ?_
            refine lv_iconst (v := iI (3)) C0.1 C0.2.1 dX10_choose_3 rfl ?_
            refine k_icmp_ge (tgt := 41) C0 ⟨by decide, by decide⟩ ⟨by decide, by decide⟩ dX10_choose_4 (by decide) (fun _ => ?_) (fun hc => absurd hc (by decide))
            refine lv_iconst (v := iI (0)) C0.1 C0.2.1 dX10_choose_41 rfl ?_
            refine lv_istore_n (lv' := [(1, .int (iI (0))), (0, .ref hM)]) C0.1 C0.2.1 dX10_choose_42 rfl hl (by decide) rfl (fun ls hl => ?_)
            refine lv_iload_n C0.1 C0.2.1 dX10_choose_43 rfl (lv_at hl 0 rfl) ?_
            refine lv_iconst (v := iI (3)) C0.1 C0.2.1 dX10_choose_44 rfl ?_
            refine k_icmp_ge (tgt := 64) C0 ⟨by decide, by decide⟩ ⟨by decide, by decide⟩ dX10_choose_45 (by decide) (fun hc => absurd hc (by decide)) (fun _ => ?_)
            refine lv_aload_n C0.1 C0.2.1 dX10_choose_48 rfl (lv_at hl 1 rfl) ?_
            refine lv_iload_n C0.1 C0.2.1 dX10_choose_49 rfl (lv_at hl 0 rfl) ?_
            refine k_calli (n := 1) (wr := []) C0 S (c_X10_isUsable l D cA hM aD aM aX aP aQ aK aO aA a1 a2 a3 (st) (r3) (r4) (r5) (r6) (r7) (r8) (r9) (r10) (tl) (pn) (nc) (kl) (ol) (al) d (0) hd (by decide) (by decide)) gX10_choose_X10_isUsable rfl ⟨rfl, rfl⟩ (by decide +kernel) ⟨Nat.le_of_ble_eq_true rfl, Nat.le_of_ble_eq_true rfl⟩ [0, 1] [] rfl rfl rfl rfl (by decide) (ci := 10) (q0 := 0) rfl rfl (As := [.int (iI (0))]) rfl hl.1 rfl (Nat.le_of_ble_eq_true rfl) dX10_choose_50 ⟨Nat.zero_le _, Nat.zero_le _⟩ (fun r u H locs hp S => ?_)
            obtain ⟨rfl, rfl⟩ := hp
            have S := S.sub (ws' := [(hM, .inr (10, [.ref aD, .ref aM, .int (iI (st)), .int (iI (r3)), .int (iI (r4)), .int (iI (r5)), .int (iI (r6)), .int (iI (r7)), .int (iI (r8)), .int (iI (r9)), .int (iI (r10)), .ref aX, .int (iI (tl)), .ref aP, .int (iI (pn)), .ref aQ, .int (iI (nc)), .ref aK, .ref aO, .ref aA, .int (iI (kl)), .int (iI (ol)), .int (iI (al)), .ref a1, .ref a2, .ref a3])), (aD, .inl (cA 0, 2048, .inl (fun y_ => iI (d y_))))]) [0, 1] rfl rfl
            refine k_bz_eq (tgt := 58) C0 dX10_choose_53 (by decide) (fun c90 => ?_) (fun c90 => ?_)
            · refine lv_iinc (v := iI (1)) (lv' := [(1, .int (iI (1))), (0, .ref hM)]) C0.1 C0.2.1 dX10_choose_58 hl (k := 0) rfl (by decide) (by decide) rfl (fun ls hl => ?_)
              refine lv_goto (tgt := 43) C0.1 C0.2.1 dX10_choose_61 (by decide) ?_
              refine lv_iload_n C0.1 C0.2.1 dX10_choose_43 rfl (lv_at hl 0 rfl) ?_
              refine lv_iconst (v := iI (3)) C0.1 C0.2.1 dX10_choose_44 rfl ?_
              refine k_icmp_ge (tgt := 64) C0 ⟨by decide, by decide⟩ ⟨by decide, by decide⟩ dX10_choose_45 (by decide) (fun hc => absurd hc (by decide)) (fun _ => ?_)
              refine lv_aload_n C0.1 C0.2.1 dX10_choose_48 rfl (lv_at hl 1 rfl) ?_
              refine lv_iload_n C0.1 C0.2.1 dX10_choose_49 rfl (lv_at hl 0 rfl) ?_
              refine k_calli (n := 1) (wr := []) C0 S (c_X10_isUsable l D cA hM aD aM aX aP aQ aK aO aA a1 a2 a3 (st) (r3) (r4) (r5) (r6) (r7) (r8) (r9) (r10) (tl) (pn) (nc) (kl) (ol) (al) d (1) hd (by decide) (by decide)) gX10_choose_X10_isUsable rfl ⟨rfl, rfl⟩ (by decide +kernel) ⟨Nat.le_of_ble_eq_true rfl, Nat.le_of_ble_eq_true rfl⟩ [0, 1] [] rfl rfl rfl rfl (by decide) (ci := 10) (q0 := 0) rfl rfl (As := [.int (iI (1))]) rfl hl.1 rfl (Nat.le_of_ble_eq_true rfl) dX10_choose_50 ⟨Nat.zero_le _, Nat.zero_le _⟩ (fun r u H locs hp S => ?_)
              obtain ⟨rfl, rfl⟩ := hp
              have S := S.sub (ws' := [(hM, .inr (10, [.ref aD, .ref aM, .int (iI (st)), .int (iI (r3)), .int (iI (r4)), .int (iI (r5)), .int (iI (r6)), .int (iI (r7)), .int (iI (r8)), .int (iI (r9)), .int (iI (r10)), .ref aX, .int (iI (tl)), .ref aP, .int (iI (pn)), .ref aQ, .int (iI (nc)), .ref aK, .ref aO, .ref aA, .int (iI (kl)), .int (iI (ol)), .int (iI (al)), .ref a1, .ref a2, .ref a3])), (aD, .inl (cA 0, 2048, .inl (fun y_ => iI (d y_))))]) [0, 1] rfl rfl
              refine k_bz_eq (tgt := 58) C0 dX10_choose_53 (by decide) (fun c93 => ?_) (fun c93 => ?_)
              · refine lv_iinc (v := iI (2)) (lv' := [(1, .int (iI (2))), (0, .ref hM)]) C0.1 C0.2.1 dX10_choose_58 hl (k := 0) rfl (by decide) (by decide) rfl (fun ls hl => ?_)
                refine lv_goto (tgt := 43) C0.1 C0.2.1 dX10_choose_61 (by decide) ?_
                refine lv_iload_n C0.1 C0.2.1 dX10_choose_43 rfl (lv_at hl 0 rfl) ?_
                refine lv_iconst (v := iI (3)) C0.1 C0.2.1 dX10_choose_44 rfl ?_
                refine k_icmp_ge (tgt := 64) C0 ⟨by decide, by decide⟩ ⟨by decide, by decide⟩ dX10_choose_45 (by decide) (fun hc => absurd hc (by decide)) (fun _ => ?_)
                refine lv_aload_n C0.1 C0.2.1 dX10_choose_48 rfl (lv_at hl 1 rfl) ?_
                refine lv_iload_n C0.1 C0.2.1 dX10_choose_49 rfl (lv_at hl 0 rfl) ?_
                refine k_calli (n := 1) (wr := []) C0 S (c_X10_isUsable l D cA hM aD aM aX aP aQ aK aO aA a1 a2 a3 (st) (r3) (r4) (r5) (r6) (r7) (r8) (r9) (r10) (tl) (pn) (nc) (kl) (ol) (al) d (2) hd (by decide) (by decide)) gX10_choose_X10_isUsable rfl ⟨rfl, rfl⟩ (by decide +kernel) ⟨Nat.le_of_ble_eq_true rfl, Nat.le_of_ble_eq_true rfl⟩ [0, 1] [] rfl rfl rfl rfl (by decide) (ci := 10) (q0 := 0) rfl rfl (As := [.int (iI (2))]) rfl hl.1 rfl (Nat.le_of_ble_eq_true rfl) dX10_choose_50 ⟨Nat.zero_le _, Nat.zero_le _⟩ (fun r u H locs hp S => ?_)
                obtain ⟨rfl, rfl⟩ := hp
                have S := S.sub (ws' := [(hM, .inr (10, [.ref aD, .ref aM, .int (iI (st)), .int (iI (r3)), .int (iI (r4)), .int (iI (r5)), .int (iI (r6)), .int (iI (r7)), .int (iI (r8)), .int (iI (r9)), .int (iI (r10)), .ref aX, .int (iI (tl)), .ref aP, .int (iI (pn)), .ref aQ, .int (iI (nc)), .ref aK, .ref aO, .ref aA, .int (iI (kl)), .int (iI (ol)), .int (iI (al)), .ref a1, .ref a2, .ref a3])), (aD, .inl (cA 0, 2048, .inl (fun y_ => iI (d y_))))]) [0, 1] rfl rfl
                refine k_bz_eq (tgt := 58) C0 dX10_choose_53 (by decide) (fun c96 => ?_) (fun c96 => ?_)
                · refine lv_iinc (v := iI (3)) (lv' := [(1, .int (iI (3))), (0, .ref hM)]) C0.1 C0.2.1 dX10_choose_58 hl (k := 0) rfl (by decide) (by decide) rfl (fun ls hl => ?_)
                  refine lv_goto (tgt := 43) C0.1 C0.2.1 dX10_choose_61 (by decide) ?_
                  refine lv_iload_n C0.1 C0.2.1 dX10_choose_43 rfl (lv_at hl 0 rfl) ?_
                  refine lv_iconst (v := iI (3)) C0.1 C0.2.1 dX10_choose_44 rfl ?_
                  refine k_icmp_ge (tgt := 64) C0 ⟨by decide, by decide⟩ ⟨by decide, by decide⟩ dX10_choose_45 (by decide) (fun _ => ?_) (fun hc => absurd hc (by decide))
                  refine lv_iconst (v := iI (-1)) C0.1 C0.2.1 dX10_choose_64 rfl ?_
                  subst hQ
                  refine k_iret C0 S hAe hsz hr hlk dX10_choose_65 ?_
                  refine ⟨congrArg iI ?_, rfl⟩
                  classical
                  have e0 : ac d 0 = (rd d 6 = 128) := rfl
                  have e1 : ac d 1 = (rd d 14 = 128) := rfl
                  have e2 : ac d 2 = (rd d 22 = 128) := rfl
                  unfold chs
                  first | contradiction | simp only [e0, e1, e2, c3, c56, c59, c84, c87, c90, c93, c96, and_true, true_and, and_false, false_and, and_self, if_true, if_false, not_true, not_false_iff, ite_self]
                · refine lv_iload_n C0.1 C0.2.1 dX10_choose_56 rfl (lv_at hl 0 rfl) ?_
                  subst hQ
                  refine k_iret C0 S hAe hsz hr hlk dX10_choose_57 ?_
                  refine ⟨congrArg iI ?_, rfl⟩
                  classical
                  have e0 : ac d 0 = (rd d 6 = 128) := rfl
                  have e1 : ac d 1 = (rd d 14 = 128) := rfl
                  have e2 : ac d 2 = (rd d 22 = 128) := rfl
                  unfold chs
                  first | contradiction | simp only [e0, e1, e2, c3, c56, c59, c84, c87, c90, c93, c96, and_true, true_and, and_false, false_and, and_self, if_true, if_false, not_true, not_false_iff, ite_self]
              · refine lv_iload_n C0.1 C0.2.1 dX10_choose_56 rfl (lv_at hl 0 rfl) ?_
                subst hQ
                refine k_iret C0 S hAe hsz hr hlk dX10_choose_57 ?_
                refine ⟨congrArg iI ?_, rfl⟩
                classical
                have e0 : ac d 0 = (rd d 6 = 128) := rfl
                have e1 : ac d 1 = (rd d 14 = 128) := rfl
                have e2 : ac d 2 = (rd d 22 = 128) := rfl
                unfold chs
                first | contradiction | simp only [e0, e1, e2, c3, c56, c59, c84, c87, c90, c93, and_true, true_and, and_false, false_and, and_self, if_true, if_false, not_true, not_false_iff, ite_self]
            · refine lv_iload_n C0.1 C0.2.1 dX10_choose_56 rfl (lv_at hl 0 rfl) ?_
              subst hQ
              refine k_iret C0 S hAe hsz hr hlk dX10_choose_57 ?_
              refine ⟨congrArg iI ?_, rfl⟩
              classical
              have e0 : ac d 0 = (rd d 6 = 128) := rfl
              have e1 : ac d 1 = (rd d 14 = 128) := rfl
              have e2 : ac d 2 = (rd d 22 = 128) := rfl
              unfold chs
              first | contradiction | simp only [e0, e1, e2, c3, c56, c59, c84, c87, c90, and_true, true_and, and_false, false_and, and_self, if_true, if_false, not_true, not_false_iff, ite_self]
          · refine lv_aload_n C0.1 C0.2.1 dX10_choose_15 rfl (lv_at hl 1 rfl) ?_
            refine k_get C0 S (C := RX10) (T := TX10) (N := 26) (ci := 10) (by decide +kernel) 0 rfl rfl 0 (by decide) (by decide +kernel) (v := .ref aD) rfl dX10_choose_16 ?_
            refine lv_bipush (v := iI (6)) C0.1 C0.2.1 dX10_choose_19 (by decide) ?_
            refine lv_bipush (v := iI (8)) C0.1 C0.2.1 dX10_choose_21 (by decide) ?_
            refine lv_iload_n C0.1 C0.2.1 dX10_choose_23 rfl (lv_at hl 0 rfl) ?_
            refine k_imul C0 dX10_choose_24 ?_
            refine k_topeq (v := iI (16)) (congrArg iI (by decide)) ?_
            refine k_iadd C0 dX10_choose_25 ?_
            refine k_topeq (v := iI (22)) (congrArg iI (by decide)) ?_
            refine k_iald C0 S 1 0 rfl rfl (z := 22) (by omega) (by omega) (by omega) dX10_choose_26 ?_
            refine k_topeq (v := iI (rd d (22))) rfl ?_
            have hb97 := By.rd hd (22)
            refine lv_sipush (v := iI (128)) C0.1 C0.2.1 dX10_choose_27 (by decide) ?_
            refine k_icmp_ne (tgt := 35) C0 (by constructor <;> omega) ⟨by decide, by decide⟩ dX10_choose_30 (by decide) (fun c98 => ?_) (fun c98 => ?_)
            · refine lv_iinc (v := iI (3)) (lv' := [(1, .int (iI (3))), (0, .ref hM)]) C0.1 C0.2.1 dX10_choose_35 hl (k := 0) rfl (by decide) (by decide) rfl (fun ls hl => ?_)
              refine lv_goto (tgt := 2) C0.1 C0.2.1 dX10_choose_38 (by decide) ?_
              refine lv_iload_n C0.1 C0.2.1 dX10_choose_2 rfl (lv_at hl 0 rfl) ?_
              refine lv_iconst (v := iI (3)) C0.1 C0.2.1 dX10_choose_3 rfl ?_
              refine k_icmp_ge (tgt := 41) C0 ⟨by decide, by decide⟩ ⟨by decide, by decide⟩ dX10_choose_4 (by decide) (fun _ => ?_) (fun hc => absurd hc (by decide))
              refine lv_iconst (v := iI (0)) C0.1 C0.2.1 dX10_choose_41 rfl ?_
              refine lv_istore_n (lv' := [(1, .int (iI (0))), (0, .ref hM)]) C0.1 C0.2.1 dX10_choose_42 rfl hl (by decide) rfl (fun ls hl => ?_)
              refine lv_iload_n C0.1 C0.2.1 dX10_choose_43 rfl (lv_at hl 0 rfl) ?_
              refine lv_iconst (v := iI (3)) C0.1 C0.2.1 dX10_choose_44 rfl ?_
              refine k_icmp_ge (tgt := 64) C0 ⟨by decide, by decide⟩ ⟨by decide, by decide⟩ dX10_choose_45 (by decide) (fun hc => absurd hc (by decide)) (fun _ => ?_)
              refine lv_aload_n C0.1 C0.2.1 dX10_choose_48 rfl (lv_at hl 1 rfl) ?_
              refine lv_iload_n C0.1 C0.2.1 dX10_choose_49 rfl (lv_at hl 0 rfl) ?_
              refine k_calli (n := 1) (wr := []) C0 S (c_X10_isUsable l D cA hM aD aM aX aP aQ aK aO aA a1 a2 a3 (st) (r3) (r4) (r5) (r6) (r7) (r8) (r9) (r10) (tl) (pn) (nc) (kl) (ol) (al) d (0) hd (by decide) (by decide)) gX10_choose_X10_isUsable rfl ⟨rfl, rfl⟩ (by decide +kernel) ⟨Nat.le_of_ble_eq_true rfl, Nat.le_of_ble_eq_true rfl⟩ [0, 1] [] rfl rfl rfl rfl (by decide) (ci := 10) (q0 := 0) rfl rfl (As := [.int (iI (0))]) rfl hl.1 rfl (Nat.le_of_ble_eq_true rfl) dX10_choose_50 ⟨Nat.zero_le _, Nat.zero_le _⟩ (fun r u H locs hp S => ?_)
              obtain ⟨rfl, rfl⟩ := hp
              have S := S.sub (ws' := [(hM, .inr (10, [.ref aD, .ref aM, .int (iI (st)), .int (iI (r3)), .int (iI (r4)), .int (iI (r5)), .int (iI (r6)), .int (iI (r7)), .int (iI (r8)), .int (iI (r9)), .int (iI (r10)), .ref aX, .int (iI (tl)), .ref aP, .int (iI (pn)), .ref aQ, .int (iI (nc)), .ref aK, .ref aO, .ref aA, .int (iI (kl)), .int (iI (ol)), .int (iI (al)), .ref a1, .ref a2, .ref a3])), (aD, .inl (cA 0, 2048, .inl (fun y_ => iI (d y_))))]) [0, 1] rfl rfl
              refine k_bz_eq (tgt := 58) C0 dX10_choose_53 (by decide) (fun c101 => ?_) (fun c101 => ?_)
              · refine lv_iinc (v := iI (1)) (lv' := [(1, .int (iI (1))), (0, .ref hM)]) C0.1 C0.2.1 dX10_choose_58 hl (k := 0) rfl (by decide) (by decide) rfl (fun ls hl => ?_)
                refine lv_goto (tgt := 43) C0.1 C0.2.1 dX10_choose_61 (by decide) ?_
                refine lv_iload_n C0.1 C0.2.1 dX10_choose_43 rfl (lv_at hl 0 rfl) ?_
                refine lv_iconst (v := iI (3)) C0.1 C0.2.1 dX10_choose_44 rfl ?_
                refine k_icmp_ge (tgt := 64) C0 ⟨by decide, by decide⟩ ⟨by decide, by decide⟩ dX10_choose_45 (by decide) (fun hc => absurd hc (by decide)) (fun _ => ?_)
                refine lv_aload_n C0.1 C0.2.1 dX10_choose_48 rfl (lv_at hl 1 rfl) ?_
                refine lv_iload_n C0.1 C0.2.1 dX10_choose_49 rfl (lv_at hl 0 rfl) ?_
                refine k_calli (n := 1) (wr := []) C0 S (c_X10_isUsable l D cA hM aD aM aX aP aQ aK aO aA a1 a2 a3 (st) (r3) (r4) (r5) (r6) (r7) (r8) (r9) (r10) (tl) (pn) (nc) (kl) (ol) (al) d (1) hd (by decide) (by decide)) gX10_choose_X10_isUsable rfl ⟨rfl, rfl⟩ (by decide +kernel) ⟨Nat.le_of_ble_eq_true rfl, Nat.le_of_ble_eq_true rfl⟩ [0, 1] [] rfl rfl rfl rfl (by decide) (ci := 10) (q0 := 0) rfl rfl (As := [.int (iI (1))]) rfl hl.1 rfl (Nat.le_of_ble_eq_true rfl) dX10_choose_50 ⟨Nat.zero_le _, Nat.zero_le _⟩ (fun r u H locs hp S => ?_)
                obtain ⟨rfl, rfl⟩ := hp
                have S := S.sub (ws' := [(hM, .inr (10, [.ref aD, .ref aM, .int (iI (st)), .int (iI (r3)), .int (iI (r4)), .int (iI (r5)), .int (iI (r6)), .int (iI (r7)), .int (iI (r8)), .int (iI (r9)), .int (iI (r10)), .ref aX, .int (iI (tl)), .ref aP, .int (iI (pn)), .ref aQ, .int (iI (nc)), .ref aK, .ref aO, .ref aA, .int (iI (kl)), .int (iI (ol)), .int (iI (al)), .ref a1, .ref a2, .ref a3])), (aD, .inl (cA 0, 2048, .inl (fun y_ => iI (d y_))))]) [0, 1] rfl rfl
                refine k_bz_eq (tgt := 58) C0 dX10_choose_53 (by decide) (fun c104 => ?_) (fun c104 => ?_)
                · refine lv_iinc (v := iI (2)) (lv' := [(1, .int (iI (2))), (0, .ref hM)]) C0.1 C0.2.1 dX10_choose_58 hl (k := 0) rfl (by decide) (by decide) rfl (fun ls hl => ?_)
                  refine lv_goto (tgt := 43) C0.1 C0.2.1 dX10_choose_61 (by decide) ?_
                  refine lv_iload_n C0.1 C0.2.1 dX10_choose_43 rfl (lv_at hl 0 rfl) ?_
                  refine lv_iconst (v := iI (3)) C0.1 C0.2.1 dX10_choose_44 rfl ?_
                  refine k_icmp_ge (tgt := 64) C0 ⟨by decide, by decide⟩ ⟨by decide, by decide⟩ dX10_choose_45 (by decide) (fun hc => absurd hc (by decide)) (fun _ => ?_)
                  refine lv_aload_n C0.1 C0.2.1 dX10_choose_48 rfl (lv_at hl 1 rfl) ?_
                  refine lv_iload_n C0.1 C0.2.1 dX10_choose_49 rfl (lv_at hl 0 rfl) ?_
                  refine k_calli (n := 1) (wr := []) C0 S (c_X10_isUsable l D cA hM aD aM aX aP aQ aK aO aA a1 a2 a3 (st) (r3) (r4) (r5) (r6) (r7) (r8) (r9) (r10) (tl) (pn) (nc) (kl) (ol) (al) d (2) hd (by decide) (by decide)) gX10_choose_X10_isUsable rfl ⟨rfl, rfl⟩ (by decide +kernel) ⟨Nat.le_of_ble_eq_true rfl, Nat.le_of_ble_eq_true rfl⟩ [0, 1] [] rfl rfl rfl rfl (by decide) (ci := 10) (q0 := 0) rfl rfl (As := [.int (iI (2))]) rfl hl.1 rfl (Nat.le_of_ble_eq_true rfl) dX10_choose_50 ⟨Nat.zero_le _, Nat.zero_le _⟩ (fun r u H locs hp S => ?_)
                  obtain ⟨rfl, rfl⟩ := hp
                  have S := S.sub (ws' := [(hM, .inr (10, [.ref aD, .ref aM, .int (iI (st)), .int (iI (r3)), .int (iI (r4)), .int (iI (r5)), .int (iI (r6)), .int (iI (r7)), .int (iI (r8)), .int (iI (r9)), .int (iI (r10)), .ref aX, .int (iI (tl)), .ref aP, .int (iI (pn)), .ref aQ, .int (iI (nc)), .ref aK, .ref aO, .ref aA, .int (iI (kl)), .int (iI (ol)), .int (iI (al)), .ref a1, .ref a2, .ref a3])), (aD, .inl (cA 0, 2048, .inl (fun y_ => iI (d y_))))]) [0, 1] rfl rfl
                  refine k_bz_eq (tgt := 58) C0 dX10_choose_53 (by decide) (fun c107 => ?_) (fun c107 => ?_)
                  · refine lv_iinc (v := iI (3)) (lv' := [(1, .int (iI (3))), (0, .ref hM)]) C0.1 C0.2.1 dX10_choose_58 hl (k := 0) rfl (by decide) (by decide) rfl (fun ls hl => ?_)
                    refine lv_goto (tgt := 43) C0.1 C0.2.1 dX10_choose_61 (by decide) ?_
                    refine lv_iload_n C0.1 C0.2.1 dX10_choose_43 rfl (lv_at hl 0 rfl) ?_
                    refine lv_iconst (v := iI (3)) C0.1 C0.2.1 dX10_choose_44 rfl ?_
                    refine k_icmp_ge (tgt := 64) C0 ⟨by decide, by decide⟩ ⟨by decide, by decide⟩ dX10_choose_45 (by decide) (fun _ => ?_) (fun hc => absurd hc (by decide))
                    refine lv_iconst (v := iI (-1)) C0.1 C0.2.1 dX10_choose_64 rfl ?_
                    subst hQ
                    refine k_iret C0 S hAe hsz hr hlk dX10_choose_65 ?_
                    refine ⟨congrArg iI ?_, rfl⟩
                    classical
                    have e0 : ac d 0 = (rd d 6 = 128) := rfl
                    have e1 : ac d 1 = (rd d 14 = 128) := rfl
                    have e2 : ac d 2 = (rd d 22 = 128) := rfl
                    unfold chs
                    first | contradiction | simp only [e0, e1, e2, c3, c56, c59, c84, c87, c98, c101, c104, c107, and_true, true_and, and_false, false_and, and_self, if_true, if_false, not_true, not_false_iff, ite_self]
                  · refine lv_iload_n C0.1 C0.2.1 dX10_choose_56 rfl (lv_at hl 0 rfl) ?_
                    subst hQ
                    refine k_iret C0 S hAe hsz hr hlk dX10_choose_57 ?_
                    refine ⟨congrArg iI ?_, rfl⟩
                    classical
                    have e0 : ac d 0 = (rd d 6 = 128) := rfl
                    have e1 : ac d 1 = (rd d 14 = 128) := rfl
                    have e2 : ac d 2 = (rd d 22 = 128) := rfl
                    unfold chs
                    first | contradiction | simp only [e0, e1, e2, c3, c56, c59, c84, c87, c98, c101, c104, c107, and_true, true_and, and_false, false_and, and_self, if_true, if_false, not_true, not_false_iff, ite_self]
                · refine lv_iload_n C0.1 C0.2.1 dX10_choose_56 rfl (lv_at hl 0 rfl) ?_
                  subst hQ
                  refine k_iret C0 S hAe hsz hr hlk dX10_choose_57 ?_
                  refine ⟨congrArg iI ?_, rfl⟩
                  classical
                  have e0 : ac d 0 = (rd d 6 = 128) := rfl
                  have e1 : ac d 1 = (rd d 14 = 128) := rfl
                  have e2 : ac d 2 = (rd d 22 = 128) := rfl
                  unfold chs
                  first | contradiction | simp only [e0, e1, e2, c3, c56, c59, c84, c87, c98, c101, c104, and_true, true_and, and_false, false_and, and_self, if_true, if_false, not_true, not_false_iff, ite_self]
              · refine lv_iload_n C0.1 C0.2.1 dX10_choose_56 rfl (lv_at hl 0 rfl) ?_
                subst hQ
                refine k_iret C0 S hAe hsz hr hlk dX10_choose_57 ?_
                refine ⟨congrArg iI ?_, rfl⟩
                classical
                have e0 : ac d 0 = (rd d 6 = 128) := rfl
                have e1 : ac d 1 = (rd d 14 = 128) := rfl
                have e2 : ac d 2 = (rd d 22 = 128) := rfl
                unfold chs
                first | contradiction | simp only [e0, e1, e2, c3, c56, c59, c84, c87, c98, c101, and_true, true_and, and_false, false_and, and_self, if_true, if_false, not_true, not_false_iff, ite_self]
            · refine lv_iload_n C0.1 C0.2.1 dX10_choose_33 rfl (lv_at hl 0 rfl) ?_
              subst hQ
              refine k_iret C0 S hAe hsz hr hlk dX10_choose_34 ?_
              refine ⟨congrArg iI ?_, rfl⟩
              classical
              have e0 : ac d 0 = (rd d 6 = 128) := rfl
              have e1 : ac d 1 = (rd d 14 = 128) := rfl
              have e2 : ac d 2 = (rd d 22 = 128) := rfl
              unfold chs
              first | contradiction | simp only [e0, e1, e2, c3, c56, c59, c84, c87, c98, and_true, true_and, and_false, false_and, and_self, if_true, if_false, not_true, not_false_iff, ite_self]
        · refine lv_iload_n C0.1 C0.2.1 dX10_choose_33 rfl (lv_at hl 0 rfl) ?_
          subst hQ
          refine k_iret C0 S hAe hsz hr hlk dX10_choose_34 ?_
          refine ⟨congrArg iI ?_, rfl⟩
          classical
          have e0 : ac d 0 = (rd d 6 = 128) := rfl
          have e1 : ac d 1 = (rd d 14 = 128) := rfl
          have e2 : ac d 2 = (rd d 22 = 128) := rfl
          unfold chs
          first | contradiction | simp only [e0, e1, e2, c3, c56, c59, c84, and_true, true_and, and_false, false_and, and_self, if_true, if_false, not_true, not_false_iff, ite_self]
    · refine lv_iload_n C0.1 C0.2.1 dX10_choose_33 rfl (lv_at hl 0 rfl) ?_
      subst hQ
      refine k_iret C0 S hAe hsz hr hlk dX10_choose_34 ?_
      refine ⟨congrArg iI ?_, rfl⟩
      classical
      have e0 : ac d 0 = (rd d 6 = 128) := rfl
      have e1 : ac d 1 = (rd d 14 = 128) := rfl
      have e2 : ac d 2 = (rd d 22 = 128) := rfl
      unfold chs
      first | contradiction | simp only [e0, e1, e2, c3, c56, and_true, true_and, and_false, false_and, and_self, if_true, if_false, not_true, not_false_iff, ite_self]
theorem gN_neg {d : Nat → Int} (h : gLeft d < 0) (hc : 0 < gCS d) : gN d ≤ 0 := by
  have e : gN d = (gLeft d).tdiv (gCS d) := rfl
  have h6 : (-gLeft d).tdiv (gCS d) = -((gLeft d).tdiv (gCS d)) := Int.neg_tdiv _ _
  have h0 := Int.tdiv_nonneg (show (0:Int) ≤ -gLeft d by omega) (show (0:Int) ≤ gCS d by omega)
  omega
theorem gTA_m {d : Nat → Int} : 32 * (rd d (6 + 8 * chs d + 2) + gBef d) = gTA d := by
  have e1 : gP d = rd d (6 + 8 * chs d + 2) * 32 := rfl
  have e5 : gTA d = gP d + gBef d * 32 := rfl
  omega
theorem gCA_m {d : Nat → Int} : gTA d + 32 * gT d * gTS d = gCA d := by
  have e5 : gTA d = gP d + gBef d * 32 := rfl
  have e7 : gCA d = gP d + (gBef d + gT d * gTS d) * 32 := rfl
  rw [Int.mul_assoc]
  omega
theorem gSz_m {d : Nat → Int} : 32 * gCS d = gSz d := by
  have e8 : gSz d = gCS d * 32 := rfl
  omega
def rmX10_volume : Room := { frames := 2, cells := 0, slots := 0, locals := 43 }
set_option maxHeartbeats 4000000 in
set_option maxRecDepth 100000 in
theorem c_X10_volume (l : Launch) (D : va_G) (cA : Nat → ClassId) (hM aD aM aX aP aQ aK aO aA a1 a2 a3 : Nat) (st r3 r4 r5 r6 r7 r8 r9 r10 tl pn nc kl ol al : Int) (d : Nat → Int) (hd : By d) : kCi l D vwCl (kTys cA) yX10_volume wsX10_volume rmX10_volume [.ref hM] [(hM, .inr (10, [.ref aD, .ref aM, .int (iI (st)), .int (iI (r3)), .int (iI (r4)), .int (iI (r5)), .int (iI (r6)), .int (iI (r7)), .int (iI (r8)), .int (iI (r9)), .int (iI (r10)), .ref aX, .int (iI (tl)), .ref aP, .int (iI (pn)), .ref aQ, .int (iI (nc)), .ref aK, .ref aO, .ref aA, .int (iI (kl)), .int (iI (ol)), .int (iI (al)), .ref a1, .ref a2, .ref a3])), (aD, .inl (cA 0, 2048, .inl (fun y_ => iI (d y_))))] (fun r u => ∃ x1 x2 x3 x4 x5 x6 x7 x8 : Int, r = iI (vol d) ∧ u = [(hM, .inr (10, [.ref aD, .ref aM, .int (iI (st)), .int (iI (x1)), .int (iI (x2)), .int (iI (x3)), .int (iI (x4)), .int (iI (x5)), .int (iI (x6)), .int (iI (x7)), .int (iI (x8)), .ref aX, .int (iI (tl)), .ref aP, .int (iI (pn)), .ref aQ, .int (iI (nc)), .ref aK, .ref aO, .ref aA, .int (iI (kl)), .int (iI (ol)), .int (iI (al)), .ref a1, .ref a2, .ref a3])), (aD, .inl (cA 0, 2048, .inl (fun y_ => iI (d y_))))] ∧ (0 ≤ vol d → x1 = chs d ∧ x2 = gTA d ∧ x3 = gT d ∧ x4 = gTS d ∧ x5 = gCS d ∧ x6 = gCA d ∧ x7 = gN d ∧ x8 = gRoot d)) := by
  intro sz
  refine kEntry (cc := cX10_volume) (maxL := 7) (ret := (some .int)) (by decide) rfl (Nat.le_of_ble_eq_true rfl) ?_
  intro p e s m args below meth c A Q hAe hQ C0 hr hlk S hsz ls hl
  have hl : lv_has ls 7 [(0, .ref hM)] := hl
  refine lv_aload_n C0.1 C0.2.1 dX10_volume_0 rfl (lv_at hl 0 rfl) ?_
  refine k_get C0 S (C := RX10) (T := TX10) (N := 26) (ci := 10) (by decide +kernel) 0 rfl rfl 0 (by decide) (by decide +kernel) (v := .ref aD) rfl dX10_volume_1 ?_
  refine lv_bipush (v := iI (30)) C0.1 C0.2.1 dX10_volume_4 (by decide) ?_
  refine k_iald C0 S 1 0 rfl rfl (z := 30) (by omega) (by omega) (by omega) dX10_volume_6 ?_
  refine k_topeq (v := iI (rd d (30))) rfl ?_
  have hb1 := By.rd hd (30)
  refine lv_bipush (v := iI (85)) C0.1 C0.2.1 dX10_volume_7 (by decide) ?_
  refine k_icmp_ne (tgt := 25) C0 (by constructor <;> omega) ⟨by decide, by decide⟩ dX10_volume_9 (by decide) (fun c2 => ?_) (fun c2 => ?_)
  · refine lv_bipush (v := iI (-2)) C0.1 C0.2.1 dX10_volume_25 (by decide) ?_
    subst hQ
    refine k_iret C0 S hAe hsz hr hlk dX10_volume_27 ?_
    have hq : vol d = _ := vol_2 (by unfold gSig; omega)
    exact ⟨_, _, _, _, _, _, _, _, congrArg iI hq.symm, rfl, fun h => absurd h (by omega)⟩
  · refine lv_aload_n C0.1 C0.2.1 dX10_volume_12 rfl (lv_at hl 0 rfl) ?_
    refine k_get C0 S (C := RX10) (T := TX10) (N := 26) (ci := 10) (by decide +kernel) 0 rfl rfl 0 (by decide) (by decide +kernel) (v := .ref aD) rfl dX10_volume_13 ?_
    refine lv_bipush (v := iI (31)) C0.1 C0.2.1 dX10_volume_16 (by decide) ?_
    refine k_iald C0 S 1 0 rfl rfl (z := 31) (by omega) (by omega) (by omega) dX10_volume_18 ?_
    refine k_topeq (v := iI (rd d (31))) rfl ?_
    have hb3 := By.rd hd (31)
    refine lv_sipush (v := iI (170)) C0.1 C0.2.1 dX10_volume_19 (by decide) ?_
    refine k_icmp_eq (tgt := 28) C0 (by constructor <;> omega) ⟨by decide, by decide⟩ dX10_volume_22 (by decide) (fun c4 => ?_) (fun c4 => ?_)
    · refine lv_aload_n C0.1 C0.2.1 dX10_volume_28 rfl (lv_at hl 0 rfl) ?_
      refine lv_aload_n C0.1 C0.2.1 dX10_volume_29 rfl (lv_at hl 0 rfl) ?_
      refine k_calli (n := 0) (wr := []) C0 S (c_X10_choose l D cA hM aD aM aX aP aQ aK aO aA a1 a2 a3 (st) (r3) (r4) (r5) (r6) (r7) (r8) (r9) (r10) (tl) (pn) (nc) (kl) (ol) (al) d hd) gX10_volume_X10_choose rfl ⟨rfl, rfl⟩ (by decide +kernel) ⟨Nat.le_of_ble_eq_true rfl, Nat.le_of_ble_eq_true rfl⟩ [0, 1] [] rfl rfl rfl rfl (by decide) (ci := 10) (q0 := 0) rfl rfl (As := []) rfl hl.1 rfl (Nat.le_of_ble_eq_true rfl) dX10_volume_30 ⟨Nat.zero_le _, Nat.zero_le _⟩ (fun r u H locs hp S => ?_)
      obtain ⟨rfl, rfl⟩ := hp
      have S := S.sub (ws' := [(hM, .inr (10, [.ref aD, .ref aM, .int (iI (st)), .int (iI (r3)), .int (iI (r4)), .int (iI (r5)), .int (iI (r6)), .int (iI (r7)), .int (iI (r8)), .int (iI (r9)), .int (iI (r10)), .ref aX, .int (iI (tl)), .ref aP, .int (iI (pn)), .ref aQ, .int (iI (nc)), .ref aK, .ref aO, .ref aA, .int (iI (kl)), .int (iI (ol)), .int (iI (al)), .ref a1, .ref a2, .ref a3])), (aD, .inl (cA 0, 2048, .inl (fun y_ => iI (d y_))))]) [0, 1] rfl rfl
      have hcc := chs_cases d
      refine k_put (ws' := [(hM, .inr (10, [.ref aD, .ref aM, .int (iI (st)), .int (iI (chs d)), .int (iI (r4)), .int (iI (r5)), .int (iI (r6)), .int (iI (r7)), .int (iI (r8)), .int (iI (r9)), .int (iI (r10)), .ref aX, .int (iI (tl)), .ref aP, .int (iI (pn)), .ref aQ, .int (iI (nc)), .ref aK, .ref aO, .ref aA, .int (iI (kl)), .int (iI (ol)), .int (iI (al)), .ref a1, .ref a2, .ref a3])), (aD, .inl (cA 0, 2048, .inl (fun y_ => iI (d y_))))]) C0 S (C := RX10) (T := TX10) (N := 26) (ci := 10) (by decide +kernel) tyX10 tyX10_ok nmX10 0 rfl rfl 3 (by decide) (by decide +kernel) rfl (v := .int (iI (chs d))) rfl rfl (Nat.le_of_ble_eq_true rfl) dX10_volume_33 rfl (fun H locs S => ?_)
      refine lv_aload_n C0.1 C0.2.1 dX10_volume_36 rfl (lv_at hl 0 rfl) ?_
      refine k_get C0 S (C := RX10) (T := TX10) (N := 26) (ci := 10) (by decide +kernel) 0 rfl rfl 3 (by decide) (by decide +kernel) (v := .int (iI (chs d))) rfl dX10_volume_37 ?_
      refine k_if_ge (tgt := 46) C0 (by constructor <;> omega) dX10_volume_40 (by decide) (fun c8 => ?_) (fun c8 => ?_)
      · obtain ⟨⟨hp1, hp2⟩, hp3⟩ := gP_bound hd (by omega)
        refine lv_aload_n C0.1 C0.2.1 dX10_volume_46 rfl (lv_at hl 0 rfl) ?_
        refine k_get C0 S (C := RX10) (T := TX10) (N := 26) (ci := 10) (by decide +kernel) 0 rfl rfl 0 (by decide) (by decide +kernel) (v := .ref aD) rfl dX10_volume_47 ?_
        refine lv_bipush (v := iI (8)) C0.1 C0.2.1 dX10_volume_50 (by decide) ?_
        refine lv_bipush (v := iI (8)) C0.1 C0.2.1 dX10_volume_52 (by decide) ?_
        refine lv_aload_n C0.1 C0.2.1 dX10_volume_54 rfl (lv_at hl 0 rfl) ?_
        refine k_get C0 S (C := RX10) (T := TX10) (N := 26) (ci := 10) (by decide +kernel) 0 rfl rfl 3 (by decide) (by decide +kernel) (v := .int (iI (chs d))) rfl dX10_volume_55 ?_
        refine k_imul C0 dX10_volume_58 ?_
        refine k_iadd C0 dX10_volume_59 ?_
        refine k_iald C0 S 1 0 rfl rfl (z := 8 + (8 * (chs d))) (by omega) (by omega) (by omega) dX10_volume_60 ?_
        refine k_topeq (v := iI (rd d (8 + (8 * (chs d))))) rfl ?_
        have hb9 := By.rd hd (8 + (8 * (chs d)))
        refine k_topeq (v := iI (rd d (6 + 8 * chs d + 2))) (congrArg (fun q => iI (rd d q)) (by omega)) ?_
        have q0 : 0 ≤ rd d (6 + 8 * chs d + 2) ∧ rd d (6 + 8 * chs d + 2) < 256 := By.rd hd _
        refine lv_istore_n (lv' := [(1, .int (iI (rd d (6 + 8 * chs d + 2)))), (0, .ref hM)]) C0.1 C0.2.1 dX10_volume_61 rfl hl (by decide) rfl (fun ls hl => ?_)
        refine lv_aload_n C0.1 C0.2.1 dX10_volume_62 rfl (lv_at hl 1 rfl) ?_
        refine k_get C0 S (C := RX10) (T := TX10) (N := 26) (ci := 10) (by decide +kernel) 0 rfl rfl 0 (by decide) (by decide +kernel) (v := .ref aD) rfl dX10_volume_63 ?_
        refine lv_bipush (v := iI (9)) C0.1 C0.2.1 dX10_volume_66 (by decide) ?_
        refine lv_bipush (v := iI (8)) C0.1 C0.2.1 dX10_volume_68 (by decide) ?_
        refine lv_aload_n C0.1 C0.2.1 dX10_volume_70 rfl (lv_at hl 1 rfl) ?_
        refine k_get C0 S (C := RX10) (T := TX10) (N := 26) (ci := 10) (by decide +kernel) 0 rfl rfl 3 (by decide) (by decide +kernel) (v := .int (iI (chs d))) rfl dX10_volume_71 ?_
        refine k_imul C0 dX10_volume_74 ?_
        refine k_iadd C0 dX10_volume_75 ?_
        refine k_iald C0 S 1 0 rfl rfl (z := 9 + (8 * (chs d))) (by omega) (by omega) (by omega) dX10_volume_76 ?_
        refine k_topeq (v := iI (rd d (9 + (8 * (chs d))))) rfl ?_
        have hb10 := By.rd hd (9 + (8 * (chs d)))
        refine k_topeq (v := iI (gMany d)) (congrArg (fun q => iI (rd d q)) (show 9 + 8 * chs d = 6 + 8 * chs d + 3 by omega)) ?_
        have q9 : 0 ≤ gMany d ∧ gMany d < 256 := By.rd hd _
        refine lv_istore_n (lv' := [(2, .int (iI (gMany d))), (1, .int (iI (rd d (6 + 8 * chs d + 2)))), (0, .ref hM)]) C0.1 C0.2.1 dX10_volume_77 rfl hl (by decide) rfl (fun ls hl => ?_)
        refine lv_bipush (v := iI (32)) C0.1 C0.2.1 dX10_volume_78 (by decide) ?_
        refine lv_iload_n C0.1 C0.2.1 dX10_volume_80 rfl (lv_at hl 1 rfl) ?_
        refine k_imul C0 dX10_volume_81 ?_
        refine k_topeq (v := iI (gP d)) (congrArg iI (Int.mul_comm _ _)) ?_
        refine lv_istore_n (lv' := [(3, .int (iI (gP d))), (2, .int (iI (gMany d))), (1, .int (iI (rd d (6 + 8 * chs d + 2)))), (0, .ref hM)]) C0.1 C0.2.1 dX10_volume_82 rfl hl (by decide) rfl (fun ls hl => ?_)
        refine lv_aload_n C0.1 C0.2.1 dX10_volume_83 rfl (lv_at hl 3 rfl) ?_
        refine lv_aload_n C0.1 C0.2.1 dX10_volume_84 rfl (lv_at hl 3 rfl) ?_
        refine k_get C0 S (C := RX10) (T := TX10) (N := 26) (ci := 10) (by decide +kernel) 0 rfl rfl 0 (by decide) (by decide +kernel) (v := .ref aD) rfl dX10_volume_85 ?_
        refine lv_iload_n C0.1 C0.2.1 dX10_volume_88 rfl (lv_at hl 0 rfl) ?_
        refine lv_iconst (v := iI (1)) C0.1 C0.2.1 dX10_volume_89 rfl ?_
        refine k_iadd C0 dX10_volume_90 ?_
        refine k_iald C0 S 1 0 rfl rfl (z := (gP d) + 1) (by omega) (by omega) (by omega) dX10_volume_91 ?_
        refine k_topeq (v := iI (rd d ((gP d) + 1))) rfl ?_
        have hb11 := By.rd hd ((gP d) + 1)
        refine k_topeq (v := iI (gCS d)) (rfl) ?_
        have q1 : 0 ≤ gCS d ∧ gCS d < 256 := By.rd hd _
        refine k_put (ws' := [(hM, .inr (10, [.ref aD, .ref aM, .int (iI (st)), .int (iI (chs d)), .int (iI (r4)), .int (iI (r5)), .int (iI (r6)), .int (iI (gCS d)), .int (iI (r8)), .int (iI (r9)), .int (iI (r10)), .ref aX, .int (iI (tl)), .ref aP, .int (iI (pn)), .ref aQ, .int (iI (nc)), .ref aK, .ref aO, .ref aA, .int (iI (kl)), .int (iI (ol)), .int (iI (al)), .ref a1, .ref a2, .ref a3])), (aD, .inl (cA 0, 2048, .inl (fun y_ => iI (d y_))))]) C0 S (C := RX10) (T := TX10) (N := 26) (ci := 10) (by decide +kernel) tyX10 tyX10_ok nmX10 0 rfl rfl 7 (by decide) (by decide +kernel) rfl (v := .int (iI (gCS d))) rfl rfl (Nat.le_of_ble_eq_true rfl) dX10_volume_92 rfl (fun H locs S => ?_)
        refine lv_aload_n C0.1 C0.2.1 dX10_volume_95 rfl (lv_at hl 3 rfl) ?_
        refine k_get C0 S (C := RX10) (T := TX10) (N := 26) (ci := 10) (by decide +kernel) 0 rfl rfl 0 (by decide) (by decide +kernel) (v := .ref aD) rfl dX10_volume_96 ?_
        refine lv_iload_n C0.1 C0.2.1 dX10_volume_99 rfl (lv_at hl 0 rfl) ?_
        refine lv_iconst (v := iI (2)) C0.1 C0.2.1 dX10_volume_100 rfl ?_
        refine k_iadd C0 dX10_volume_101 ?_
        refine k_iald C0 S 1 0 rfl rfl (z := (gP d) + 2) (by omega) (by omega) (by omega) dX10_volume_102 ?_
        refine k_topeq (v := iI (rd d ((gP d) + 2))) rfl ?_
        have hb12 := By.rd hd ((gP d) + 2)
        refine k_topeq (v := iI (gBef d)) (rfl) ?_
        have q2 : 0 ≤ gBef d ∧ gBef d < 256 := By.rd hd _
        refine lv_istore (lv' := [(4, .int (iI (gBef d))), (3, .int (iI (gP d))), (2, .int (iI (gMany d))), (1, .int (iI (rd d (6 + 8 * chs d + 2)))), (0, .ref hM)]) C0.1 C0.2.1 dX10_volume_103 hl (by decide) rfl (fun ls hl => ?_)
        refine lv_aload_n C0.1 C0.2.1 dX10_volume_105 rfl (lv_at hl 4 rfl) ?_
        refine lv_aload_n C0.1 C0.2.1 dX10_volume_106 rfl (lv_at hl 4 rfl) ?_
        refine k_get C0 S (C := RX10) (T := TX10) (N := 26) (ci := 10) (by decide +kernel) 0 rfl rfl 0 (by decide) (by decide +kernel) (v := .ref aD) rfl dX10_volume_107 ?_
        refine lv_iload_n C0.1 C0.2.1 dX10_volume_110 rfl (lv_at hl 1 rfl) ?_
        refine lv_iconst (v := iI (3)) C0.1 C0.2.1 dX10_volume_111 rfl ?_
        refine k_iadd C0 dX10_volume_112 ?_
        refine k_iald C0 S 1 0 rfl rfl (z := (gP d) + 3) (by omega) (by omega) (by omega) dX10_volume_113 ?_
        refine k_topeq (v := iI (rd d ((gP d) + 3))) rfl ?_
        have hb13 := By.rd hd ((gP d) + 3)
        refine k_topeq (v := iI (gT d)) (rfl) ?_
        have q3 : 0 ≤ gT d ∧ gT d < 256 := By.rd hd _
        refine k_put (ws' := [(hM, .inr (10, [.ref aD, .ref aM, .int (iI (st)), .int (iI (chs d)), .int (iI (r4)), .int (iI (gT d)), .int (iI (r6)), .int (iI (gCS d)), .int (iI (r8)), .int (iI (r9)), .int (iI (r10)), .ref aX, .int (iI (tl)), .ref aP, .int (iI (pn)), .ref aQ, .int (iI (nc)), .ref aK, .ref aO, .ref aA, .int (iI (kl)), .int (iI (ol)), .int (iI (al)), .ref a1, .ref a2, .ref a3])), (aD, .inl (cA 0, 2048, .inl (fun y_ => iI (d y_))))]) C0 S (C := RX10) (T := TX10) (N := 26) (ci := 10) (by decide +kernel) tyX10 tyX10_ok nmX10 0 rfl rfl 5 (by decide) (by decide +kernel) rfl (v := .int (iI (gT d))) rfl rfl (Nat.le_of_ble_eq_true rfl) dX10_volume_114 rfl (fun H locs S => ?_)
        refine lv_aload_n C0.1 C0.2.1 dX10_volume_117 rfl (lv_at hl 4 rfl) ?_
        refine lv_aload_n C0.1 C0.2.1 dX10_volume_118 rfl (lv_at hl 4 rfl) ?_
        refine k_get C0 S (C := RX10) (T := TX10) (N := 26) (ci := 10) (by decide +kernel) 0 rfl rfl 0 (by decide) (by decide +kernel) (v := .ref aD) rfl dX10_volume_119 ?_
        refine lv_iload_n C0.1 C0.2.1 dX10_volume_122 rfl (lv_at hl 1 rfl) ?_
        refine lv_iconst (v := iI (4)) C0.1 C0.2.1 dX10_volume_123 rfl ?_
        refine k_iadd C0 dX10_volume_124 ?_
        refine k_iald C0 S 1 0 rfl rfl (z := (gP d) + 4) (by omega) (by omega) (by omega) dX10_volume_125 ?_
        refine k_topeq (v := iI (rd d ((gP d) + 4))) rfl ?_
        have hb14 := By.rd hd ((gP d) + 4)
        refine k_topeq (v := iI (gTS d)) (rfl) ?_
        have q4 : 0 ≤ gTS d ∧ gTS d < 256 := By.rd hd _
        refine k_put (ws' := [(hM, .inr (10, [.ref aD, .ref aM, .int (iI (st)), .int (iI (chs d)), .int (iI (r4)), .int (iI (gT d)), .int (iI (gTS d)), .int (iI (gCS d)), .int (iI (r8)), .int (iI (r9)), .int (iI (r10)), .ref aX, .int (iI (tl)), .ref aP, .int (iI (pn)), .ref aQ, .int (iI (nc)), .ref aK, .ref aO, .ref aA, .int (iI (kl)), .int (iI (ol)), .int (iI (al)), .ref a1, .ref a2, .ref a3])), (aD, .inl (cA 0, 2048, .inl (fun y_ => iI (d y_))))]) C0 S (C := RX10) (T := TX10) (N := 26) (ci := 10) (by decide +kernel) tyX10 tyX10_ok nmX10 0 rfl rfl 6 (by decide) (by decide +kernel) rfl (v := .int (iI (gTS d))) rfl rfl (Nat.le_of_ble_eq_true rfl) dX10_volume_126 rfl (fun H locs S => ?_)
        refine lv_aload_n C0.1 C0.2.1 dX10_volume_129 rfl (lv_at hl 4 rfl) ?_
        refine lv_aload_n C0.1 C0.2.1 dX10_volume_130 rfl (lv_at hl 4 rfl) ?_
        refine k_get C0 S (C := RX10) (T := TX10) (N := 26) (ci := 10) (by decide +kernel) 0 rfl rfl 0 (by decide) (by decide +kernel) (v := .ref aD) rfl dX10_volume_131 ?_
        refine lv_iload_n C0.1 C0.2.1 dX10_volume_134 rfl (lv_at hl 1 rfl) ?_
        refine lv_iconst (v := iI (5)) C0.1 C0.2.1 dX10_volume_135 rfl ?_
        refine k_iadd C0 dX10_volume_136 ?_
        refine k_iald C0 S 1 0 rfl rfl (z := (gP d) + 5) (by omega) (by omega) (by omega) dX10_volume_137 ?_
        refine k_topeq (v := iI (rd d ((gP d) + 5))) rfl ?_
        have hb15 := By.rd hd ((gP d) + 5)
        refine k_topeq (v := iI (gRoot d)) (rfl) ?_
        have q5 : 0 ≤ gRoot d ∧ gRoot d < 256 := By.rd hd _
        refine k_put (ws' := [(hM, .inr (10, [.ref aD, .ref aM, .int (iI (st)), .int (iI (chs d)), .int (iI (r4)), .int (iI (gT d)), .int (iI (gTS d)), .int (iI (gCS d)), .int (iI (r8)), .int (iI (r9)), .int (iI (gRoot d)), .ref aX, .int (iI (tl)), .ref aP, .int (iI (pn)), .ref aQ, .int (iI (nc)), .ref aK, .ref aO, .ref aA, .int (iI (kl)), .int (iI (ol)), .int (iI (al)), .ref a1, .ref a2, .ref a3])), (aD, .inl (cA 0, 2048, .inl (fun y_ => iI (d y_))))]) C0 S (C := RX10) (T := TX10) (N := 26) (ci := 10) (by decide +kernel) tyX10 tyX10_ok nmX10 0 rfl rfl 10 (by decide) (by decide +kernel) rfl (v := .int (iI (gRoot d))) rfl rfl (Nat.le_of_ble_eq_true rfl) dX10_volume_138 rfl (fun H locs S => ?_)
        refine lv_aload_n C0.1 C0.2.1 dX10_volume_141 rfl (lv_at hl 4 rfl) ?_
        refine k_get C0 S (C := RX10) (T := TX10) (N := 26) (ci := 10) (by decide +kernel) 0 rfl rfl 0 (by decide) (by decide +kernel) (v := .ref aD) rfl dX10_volume_142 ?_
        refine lv_iload_n C0.1 C0.2.1 dX10_volume_145 rfl (lv_at hl 1 rfl) ?_
        refine k_iald C0 S 1 0 rfl rfl (z := gP d) (by omega) (by omega) (by omega) dX10_volume_146 ?_
        refine k_topeq (v := iI (rd d (gP d))) rfl ?_
        have hb16 := By.rd hd (gP d)
        refine lv_sipush (v := iI (235)) C0.1 C0.2.1 dX10_volume_147 (by decide) ?_
        refine k_icmp_ne (tgt := 210) C0 (by constructor <;> omega) ⟨by decide, by decide⟩ dX10_volume_150 (by decide) (fun c17 => ?_) (fun c17 => ?_)
        · refine lv_iconst (v := iI (0)) C0.1 C0.2.1 dX10_volume_210 rfl ?_
          refine lv_istore (lv' := [(5, .int (iI (0))), (4, .int (iI (gBef d))), (3, .int (iI (gP d))), (2, .int (iI (gMany d))), (1, .int (iI (rd d (6 + 8 * chs d + 2)))), (0, .ref hM)]) C0.1 C0.2.1 dX10_volume_211 hl (by decide) rfl (fun ls hl => ?_)
          refine lv_iload C0.1 C0.2.1 dX10_volume_213 (lv_at hl 0 rfl) ?_
          refine k_if_eq (tgt := 248) C0 ⟨by decide, by decide⟩ dX10_volume_215 (by decide) (fun _ => ?_) (fun hc => absurd hc (by decide))
          refine lv_bipush (v := iI (-4)) C0.1 C0.2.1 dX10_volume_248 (by decide) ?_
          subst hQ
          refine k_iret C0 S hAe hsz hr hlk dX10_volume_250 ?_
          have hq : vol d = _ := vol_4 (by unfold gSig; omega) (by omega) (by unfold gOk1 gOk2; omega)
          exact ⟨_, _, _, _, _, _, _, _, congrArg iI hq.symm, rfl, fun h => absurd h (by omega)⟩
        · refine lv_aload_n C0.1 C0.2.1 dX10_volume_153 rfl (lv_at hl 4 rfl) ?_
          refine k_get C0 S (C := RX10) (T := TX10) (N := 26) (ci := 10) (by decide +kernel) 0 rfl rfl 0 (by decide) (by decide +kernel) (v := .ref aD) rfl dX10_volume_154 ?_
          refine lv_iload_n C0.1 C0.2.1 dX10_volume_157 rfl (lv_at hl 1 rfl) ?_
          refine lv_bipush (v := iI (30)) C0.1 C0.2.1 dX10_volume_158 (by decide) ?_
          refine k_iadd C0 dX10_volume_160 ?_
          refine k_iald C0 S 1 0 rfl rfl (z := (gP d) + 30) (by omega) (by omega) (by omega) dX10_volume_161 ?_
          refine k_topeq (v := iI (rd d ((gP d) + 30))) rfl ?_
          have hb18 := By.rd hd ((gP d) + 30)
          refine lv_bipush (v := iI (85)) C0.1 C0.2.1 dX10_volume_162 (by decide) ?_
          refine k_icmp_ne (tgt := 210) C0 (by constructor <;> omega) ⟨by decide, by decide⟩ dX10_volume_164 (by decide) (fun c19 => ?_) (fun c19 => ?_)
          · refine lv_iconst (v := iI (0)) C0.1 C0.2.1 dX10_volume_210 rfl ?_
            refine lv_istore (lv' := [(5, .int (iI (0))), (4, .int (iI (gBef d))), (3, .int (iI (gP d))), (2, .int (iI (gMany d))), (1, .int (iI (rd d (6 + 8 * chs d + 2)))), (0, .ref hM)]) C0.1 C0.2.1 dX10_volume_211 hl (by decide) rfl (fun ls hl => ?_)
            refine lv_iload C0.1 C0.2.1 dX10_volume_213 (lv_at hl 0 rfl) ?_
            refine k_if_eq (tgt := 248) C0 ⟨by decide, by decide⟩ dX10_volume_215 (by decide) (fun _ => ?_) (fun hc => absurd hc (by decide))
            refine lv_bipush (v := iI (-4)) C0.1 C0.2.1 dX10_volume_248 (by decide) ?_
            subst hQ
            refine k_iret C0 S hAe hsz hr hlk dX10_volume_250 ?_
            have hq : vol d = _ := vol_4 (by unfold gSig; omega) (by omega) (by unfold gOk1 gOk2; omega)
            exact ⟨_, _, _, _, _, _, _, _, congrArg iI hq.symm, rfl, fun h => absurd h (by omega)⟩
          · refine lv_aload_n C0.1 C0.2.1 dX10_volume_167 rfl (lv_at hl 4 rfl) ?_
            refine k_get C0 S (C := RX10) (T := TX10) (N := 26) (ci := 10) (by decide +kernel) 0 rfl rfl 0 (by decide) (by decide +kernel) (v := .ref aD) rfl dX10_volume_168 ?_
            refine lv_iload_n C0.1 C0.2.1 dX10_volume_171 rfl (lv_at hl 1 rfl) ?_
            refine lv_bipush (v := iI (31)) C0.1 C0.2.1 dX10_volume_172 (by decide) ?_
            refine k_iadd C0 dX10_volume_174 ?_
            refine k_iald C0 S 1 0 rfl rfl (z := (gP d) + 31) (by omega) (by omega) (by omega) dX10_volume_175 ?_
            refine k_topeq (v := iI (rd d ((gP d) + 31))) rfl ?_
            have hb20 := By.rd hd ((gP d) + 31)
            refine lv_sipush (v := iI (170)) C0.1 C0.2.1 dX10_volume_176 (by decide) ?_
            refine k_icmp_ne (tgt := 210) C0 (by constructor <;> omega) ⟨by decide, by decide⟩ dX10_volume_179 (by decide) (fun c21 => ?_) (fun c21 => ?_)
            · refine lv_iconst (v := iI (0)) C0.1 C0.2.1 dX10_volume_210 rfl ?_
              refine lv_istore (lv' := [(5, .int (iI (0))), (4, .int (iI (gBef d))), (3, .int (iI (gP d))), (2, .int (iI (gMany d))), (1, .int (iI (rd d (6 + 8 * chs d + 2)))), (0, .ref hM)]) C0.1 C0.2.1 dX10_volume_211 hl (by decide) rfl (fun ls hl => ?_)
              refine lv_iload C0.1 C0.2.1 dX10_volume_213 (lv_at hl 0 rfl) ?_
              refine k_if_eq (tgt := 248) C0 ⟨by decide, by decide⟩ dX10_volume_215 (by decide) (fun _ => ?_) (fun hc => absurd hc (by decide))
              refine lv_bipush (v := iI (-4)) C0.1 C0.2.1 dX10_volume_248 (by decide) ?_
              subst hQ
              refine k_iret C0 S hAe hsz hr hlk dX10_volume_250 ?_
              have hq : vol d = _ := vol_4 (by unfold gSig; omega) (by omega) (by unfold gOk1 gOk2; omega)
              exact ⟨_, _, _, _, _, _, _, _, congrArg iI hq.symm, rfl, fun h => absurd h (by omega)⟩
            · refine lv_aload_n C0.1 C0.2.1 dX10_volume_182 rfl (lv_at hl 4 rfl) ?_
              refine k_get C0 S (C := RX10) (T := TX10) (N := 26) (ci := 10) (by decide +kernel) 0 rfl rfl 7 (by decide) (by decide +kernel) (v := .int (iI (gCS d))) rfl dX10_volume_183 ?_
              refine lv_iconst (v := iI (1)) C0.1 C0.2.1 dX10_volume_186 rfl ?_
              refine k_icmp_eq (tgt := 206) C0 (by constructor <;> omega) ⟨by decide, by decide⟩ dX10_volume_187 (by decide) (fun c22 => ?_) (fun c22 => ?_)
              · refine lv_iconst (v := iI (1)) C0.1 C0.2.1 dX10_volume_206 rfl ?_
                refine lv_goto (tgt := 211) C0.1 C0.2.1 dX10_volume_207 (by decide) ?_
                refine lv_istore (lv' := [(5, .int (iI (1))), (4, .int (iI (gBef d))), (3, .int (iI (gP d))), (2, .int (iI (gMany d))), (1, .int (iI (rd d (6 + 8 * chs d + 2)))), (0, .ref hM)]) C0.1 C0.2.1 dX10_volume_211 hl (by decide) rfl (fun ls hl => ?_)
                refine lv_iload C0.1 C0.2.1 dX10_volume_213 (lv_at hl 0 rfl) ?_
                refine k_if_eq (tgt := 248) C0 ⟨by decide, by decide⟩ dX10_volume_215 (by decide) (fun hc => absurd hc (by decide)) (fun _ => ?_)
                refine lv_iload C0.1 C0.2.1 dX10_volume_218 (lv_at hl 1 rfl) ?_
                refine lv_iconst (v := iI (1)) C0.1 C0.2.1 dX10_volume_220 rfl ?_
                refine k_icmp_lt (tgt := 248) C0 (by constructor <;> omega) ⟨by decide, by decide⟩ dX10_volume_221 (by decide) (fun c23 => ?_) (fun c23 => ?_)
                · refine lv_bipush (v := iI (-4)) C0.1 C0.2.1 dX10_volume_248 (by decide) ?_
                  subst hQ
                  refine k_iret C0 S hAe hsz hr hlk dX10_volume_250 ?_
                  have hq : vol d = _ := vol_4 (by unfold gSig; omega) (by omega) (by unfold gOk1 gOk2; omega)
                  exact ⟨_, _, _, _, _, _, _, _, congrArg iI hq.symm, rfl, fun h => absurd h (by omega)⟩
                · refine lv_aload_n C0.1 C0.2.1 dX10_volume_224 rfl (lv_at hl 5 rfl) ?_
                  refine k_get C0 S (C := RX10) (T := TX10) (N := 26) (ci := 10) (by decide +kernel) 0 rfl rfl 5 (by decide) (by decide +kernel) (v := .int (iI (gT d))) rfl dX10_volume_225 ?_
                  refine lv_iconst (v := iI (1)) C0.1 C0.2.1 dX10_volume_228 rfl ?_
                  refine k_icmp_lt (tgt := 248) C0 (by constructor <;> omega) ⟨by decide, by decide⟩ dX10_volume_229 (by decide) (fun c24 => ?_) (fun c24 => ?_)
                  · refine lv_bipush (v := iI (-4)) C0.1 C0.2.1 dX10_volume_248 (by decide) ?_
                    subst hQ
                    refine k_iret C0 S hAe hsz hr hlk dX10_volume_250 ?_
                    have hq : vol d = _ := vol_4 (by unfold gSig; omega) (by omega) (by unfold gOk1 gOk2; omega)
                    exact ⟨_, _, _, _, _, _, _, _, congrArg iI hq.symm, rfl, fun h => absurd h (by omega)⟩
                  · refine lv_aload_n C0.1 C0.2.1 dX10_volume_232 rfl (lv_at hl 5 rfl) ?_
                    refine k_get C0 S (C := RX10) (T := TX10) (N := 26) (ci := 10) (by decide +kernel) 0 rfl rfl 5 (by decide) (by decide +kernel) (v := .int (iI (gT d))) rfl dX10_volume_233 ?_
                    refine lv_iconst (v := iI (2)) C0.1 C0.2.1 dX10_volume_236 rfl ?_
                    refine k_icmp_gt (tgt := 248) C0 (by constructor <;> omega) ⟨by decide, by decide⟩ dX10_volume_237 (by decide) (fun c25 => ?_) (fun c25 => ?_)
                    · refine lv_bipush (v := iI (-4)) C0.1 C0.2.1 dX10_volume_248 (by decide) ?_
                      subst hQ
                      refine k_iret C0 S hAe hsz hr hlk dX10_volume_250 ?_
                      have hq : vol d = _ := vol_4 (by unfold gSig; omega) (by omega) (by unfold gOk1 gOk2; omega)
                      exact ⟨_, _, _, _, _, _, _, _, congrArg iI hq.symm, rfl, fun h => absurd h (by omega)⟩
                    · refine lv_aload_n C0.1 C0.2.1 dX10_volume_240 rfl (lv_at hl 5 rfl) ?_
                      refine k_get C0 S (C := RX10) (T := TX10) (N := 26) (ci := 10) (by decide +kernel) 0 rfl rfl 6 (by decide) (by decide +kernel) (v := .int (iI (gTS d))) rfl dX10_volume_241 ?_
                      refine lv_iconst (v := iI (1)) C0.1 C0.2.1 dX10_volume_244 rfl ?_
                      refine k_icmp_ge (tgt := 251) C0 (by constructor <;> omega) ⟨by decide, by decide⟩ dX10_volume_245 (by decide) (fun c26 => ?_) (fun c26 => ?_)
                      · obtain ⟨qN, qM⟩ := gN_range hd (by omega) (by omega) (by omega)
                        have eL : gLeft d = gMany d - (gBef d + gT d * gTS d) := rfl
                        refine lv_iload_n C0.1 C0.2.1 dX10_volume_251 rfl (lv_at hl 3 rfl) ?_
                        refine lv_iload C0.1 C0.2.1 dX10_volume_252 (lv_at hl 1 rfl) ?_
                        refine k_isub C0 dX10_volume_254 ?_
                        refine lv_aload_n C0.1 C0.2.1 dX10_volume_255 rfl (lv_at hl 5 rfl) ?_
                        refine k_get C0 S (C := RX10) (T := TX10) (N := 26) (ci := 10) (by decide +kernel) 0 rfl rfl 5 (by decide) (by decide +kernel) (v := .int (iI (gT d))) rfl dX10_volume_256 ?_
                        refine lv_aload_n C0.1 C0.2.1 dX10_volume_259 rfl (lv_at hl 5 rfl) ?_
                        refine k_get C0 S (C := RX10) (T := TX10) (N := 26) (ci := 10) (by decide +kernel) 0 rfl rfl 6 (by decide) (by decide +kernel) (v := .int (iI (gTS d))) rfl dX10_volume_260 ?_
                        refine k_imul C0 dX10_volume_263 ?_
                        refine k_isub C0 dX10_volume_264 ?_
                        refine k_topeq (v := iI (gLeft d)) (congrArg iI (by omega)) ?_
                        refine lv_istore (lv' := [(6, .int (iI (gLeft d))), (5, .int (iI (1))), (4, .int (iI (gBef d))), (3, .int (iI (gP d))), (2, .int (iI (gMany d))), (1, .int (iI (rd d (6 + 8 * chs d + 2)))), (0, .ref hM)]) C0.1 C0.2.1 dX10_volume_265 hl (by decide) rfl (fun ls hl => ?_)
                        refine lv_aload_n C0.1 C0.2.1 dX10_volume_267 rfl (lv_at hl 6 rfl) ?_
                        refine lv_iload C0.1 C0.2.1 dX10_volume_268 (lv_at hl 0 rfl) ?_
                        refine k_if_ge (tgt := 277) C0 (by constructor <;> omega) dX10_volume_270 (by decide) (fun c27 => ?_) (fun c27 => ?_)
                        · refine lv_iload C0.1 C0.2.1 dX10_volume_277 (lv_at hl 0 rfl) ?_
                          refine lv_aload_n C0.1 C0.2.1 dX10_volume_279 rfl (lv_at hl 6 rfl) ?_
                          refine k_get C0 S (C := RX10) (T := TX10) (N := 26) (ci := 10) (by decide +kernel) 0 rfl rfl 7 (by decide) (by decide +kernel) (v := .int (iI (gCS d))) rfl dX10_volume_280 ?_
                          refine k_idiv C0 (by constructor <;> omega) (by omega) (by omega) dX10_volume_283 ?_
                          refine k_topeq (v := iI (gN d)) (rfl) ?_
                          refine k_put (ws' := [(hM, .inr (10, [.ref aD, .ref aM, .int (iI (st)), .int (iI (chs d)), .int (iI (r4)), .int (iI (gT d)), .int (iI (gTS d)), .int (iI (gCS d)), .int (iI (r8)), .int (iI (gN d)), .int (iI (gRoot d)), .ref aX, .int (iI (tl)), .ref aP, .int (iI (pn)), .ref aQ, .int (iI (nc)), .ref aK, .ref aO, .ref aA, .int (iI (kl)), .int (iI (ol)), .int (iI (al)), .ref a1, .ref a2, .ref a3])), (aD, .inl (cA 0, 2048, .inl (fun y_ => iI (d y_))))]) C0 S (C := RX10) (T := TX10) (N := 26) (ci := 10) (by decide +kernel) tyX10 tyX10_ok nmX10 0 rfl rfl 9 (by decide) (by decide +kernel) rfl (v := .int (iI (gN d))) rfl rfl (Nat.le_of_ble_eq_true rfl) dX10_volume_284 rfl (fun H locs S => ?_)
                          refine lv_aload_n C0.1 C0.2.1 dX10_volume_287 rfl (lv_at hl 6 rfl) ?_
                          refine lv_bipush (v := iI (32)) C0.1 C0.2.1 dX10_volume_288 (by decide) ?_
                          refine lv_iload_n C0.1 C0.2.1 dX10_volume_290 rfl (lv_at hl 5 rfl) ?_
                          refine lv_iload C0.1 C0.2.1 dX10_volume_291 (lv_at hl 2 rfl) ?_
                          refine k_iadd C0 dX10_volume_293 ?_
                          refine k_imul C0 dX10_volume_294 ?_
                          refine k_topeq (v := iI (gTA d)) (congrArg iI gTA_m) ?_
                          refine k_put (ws' := [(hM, .inr (10, [.ref aD, .ref aM, .int (iI (st)), .int (iI (chs d)), .int (iI (gTA d)), .int (iI (gT d)), .int (iI (gTS d)), .int (iI (gCS d)), .int (iI (r8)), .int (iI (gN d)), .int (iI (gRoot d)), .ref aX, .int (iI (tl)), .ref aP, .int (iI (pn)), .ref aQ, .int (iI (nc)), .ref aK, .ref aO, .ref aA, .int (iI (kl)), .int (iI (ol)), .int (iI (al)), .ref a1, .ref a2, .ref a3])), (aD, .inl (cA 0, 2048, .inl (fun y_ => iI (d y_))))]) C0 S (C := RX10) (T := TX10) (N := 26) (ci := 10) (by decide +kernel) tyX10 tyX10_ok nmX10 0 rfl rfl 4 (by decide) (by decide +kernel) rfl (v := .int (iI (gTA d))) rfl rfl (Nat.le_of_ble_eq_true rfl) dX10_volume_295 rfl (fun H locs S => ?_)
                          refine lv_aload_n C0.1 C0.2.1 dX10_volume_298 rfl (lv_at hl 6 rfl) ?_
                          refine lv_aload_n C0.1 C0.2.1 dX10_volume_299 rfl (lv_at hl 6 rfl) ?_
                          refine k_get C0 S (C := RX10) (T := TX10) (N := 26) (ci := 10) (by decide +kernel) 0 rfl rfl 4 (by decide) (by decide +kernel) (v := .int (iI (gTA d))) rfl dX10_volume_300 ?_
                          refine lv_bipush (v := iI (32)) C0.1 C0.2.1 dX10_volume_303 (by decide) ?_
                          refine lv_aload_n C0.1 C0.2.1 dX10_volume_305 rfl (lv_at hl 6 rfl) ?_
                          refine k_get C0 S (C := RX10) (T := TX10) (N := 26) (ci := 10) (by decide +kernel) 0 rfl rfl 5 (by decide) (by decide +kernel) (v := .int (iI (gT d))) rfl dX10_volume_306 ?_
                          refine k_imul C0 dX10_volume_309 ?_
                          refine lv_aload_n C0.1 C0.2.1 dX10_volume_310 rfl (lv_at hl 6 rfl) ?_
                          refine k_get C0 S (C := RX10) (T := TX10) (N := 26) (ci := 10) (by decide +kernel) 0 rfl rfl 6 (by decide) (by decide +kernel) (v := .int (iI (gTS d))) rfl dX10_volume_311 ?_
                          refine k_imul C0 dX10_volume_314 ?_
                          refine k_iadd C0 dX10_volume_315 ?_
                          refine k_topeq (v := iI (gCA d)) (congrArg iI gCA_m) ?_
                          refine k_put (ws' := [(hM, .inr (10, [.ref aD, .ref aM, .int (iI (st)), .int (iI (chs d)), .int (iI (gTA d)), .int (iI (gT d)), .int (iI (gTS d)), .int (iI (gCS d)), .int (iI (gCA d)), .int (iI (gN d)), .int (iI (gRoot d)), .ref aX, .int (iI (tl)), .ref aP, .int (iI (pn)), .ref aQ, .int (iI (nc)), .ref aK, .ref aO, .ref aA, .int (iI (kl)), .int (iI (ol)), .int (iI (al)), .ref a1, .ref a2, .ref a3])), (aD, .inl (cA 0, 2048, .inl (fun y_ => iI (d y_))))]) C0 S (C := RX10) (T := TX10) (N := 26) (ci := 10) (by decide +kernel) tyX10 tyX10_ok nmX10 0 rfl rfl 8 (by decide) (by decide +kernel) rfl (v := .int (iI (gCA d))) rfl rfl (Nat.le_of_ble_eq_true rfl) dX10_volume_316 rfl (fun H locs S => ?_)
                          have e6 : gTB d = gTS d * 32 := rfl
                          refine lv_aload_n C0.1 C0.2.1 dX10_volume_319 rfl (lv_at hl 6 rfl) ?_
                          refine k_get C0 S (C := RX10) (T := TX10) (N := 26) (ci := 10) (by decide +kernel) 0 rfl rfl 9 (by decide) (by decide +kernel) (v := .int (iI (gN d))) rfl dX10_volume_320 ?_
                          refine lv_iconst (v := iI (1)) C0.1 C0.2.1 dX10_volume_323 rfl ?_
                          refine k_icmp_lt (tgt := 364) C0 (by constructor <;> omega) ⟨by decide, by decide⟩ dX10_volume_324 (by decide) (fun c28 => ?_) (fun c28 => ?_)
                          · refine lv_bipush (v := iI (-4)) C0.1 C0.2.1 dX10_volume_364 (by decide) ?_
                            subst hQ
                            refine k_iret C0 S hAe hsz hr hlk dX10_volume_366 ?_
                            have hq : vol d = _ := vol_4 (by unfold gSig; omega) (by omega) (by unfold gOk1 gOk2; omega)
                            exact ⟨_, _, _, _, _, _, _, _, congrArg iI hq.symm, rfl, fun h => absurd h (by omega)⟩
                          · refine lv_bipush (v := iI (16)) C0.1 C0.2.1 dX10_volume_327 (by decide) ?_
                            refine lv_aload_n C0.1 C0.2.1 dX10_volume_329 rfl (lv_at hl 6 rfl) ?_
                            refine k_get C0 S (C := RX10) (T := TX10) (N := 26) (ci := 10) (by decide +kernel) 0 rfl rfl 6 (by decide) (by decide +kernel) (v := .int (iI (gTS d))) rfl dX10_volume_330 ?_
                            refine k_imul C0 dX10_volume_333 ?_
                            refine lv_aload_n C0.1 C0.2.1 dX10_volume_334 rfl (lv_at hl 6 rfl) ?_
                            refine k_get C0 S (C := RX10) (T := TX10) (N := 26) (ci := 10) (by decide +kernel) 0 rfl rfl 9 (by decide) (by decide +kernel) (v := .int (iI (gN d))) rfl dX10_volume_335 ?_
                            refine lv_iconst (v := iI (2)) C0.1 C0.2.1 dX10_volume_338 rfl ?_
                            refine k_iadd C0 dX10_volume_339 ?_
                            refine k_icmp_lt (tgt := 364) C0 (by constructor <;> omega) (by constructor <;> omega) dX10_volume_340 (by decide) (fun c29 => ?_) (fun c29 => ?_)
                            · refine lv_bipush (v := iI (-4)) C0.1 C0.2.1 dX10_volume_364 (by decide) ?_
                              subst hQ
                              refine k_iret C0 S hAe hsz hr hlk dX10_volume_366 ?_
                              have hq : vol d = _ := vol_4 (by unfold gSig; omega) (by omega) (by unfold gOk1 gOk2; omega)
                              exact ⟨_, _, _, _, _, _, _, _, congrArg iI hq.symm, rfl, fun h => absurd h (by omega)⟩
                            · refine lv_aload_n C0.1 C0.2.1 dX10_volume_343 rfl (lv_at hl 6 rfl) ?_
                              refine k_get C0 S (C := RX10) (T := TX10) (N := 26) (ci := 10) (by decide +kernel) 0 rfl rfl 10 (by decide) (by decide +kernel) (v := .int (iI (gRoot d))) rfl dX10_volume_344 ?_
                              refine lv_iconst (v := iI (2)) C0.1 C0.2.1 dX10_volume_347 rfl ?_
                              refine k_icmp_lt (tgt := 364) C0 (by constructor <;> omega) ⟨by decide, by decide⟩ dX10_volume_348 (by decide) (fun c30 => ?_) (fun c30 => ?_)
                              · refine lv_bipush (v := iI (-4)) C0.1 C0.2.1 dX10_volume_364 (by decide) ?_
                                subst hQ
                                refine k_iret C0 S hAe hsz hr hlk dX10_volume_366 ?_
                                have hq : vol d = _ := vol_4 (by unfold gSig; omega) (by omega) (by unfold gOk1 gOk2; omega)
                                exact ⟨_, _, _, _, _, _, _, _, congrArg iI hq.symm, rfl, fun h => absurd h (by omega)⟩
                              · refine lv_aload_n C0.1 C0.2.1 dX10_volume_351 rfl (lv_at hl 6 rfl) ?_
                                refine k_get C0 S (C := RX10) (T := TX10) (N := 26) (ci := 10) (by decide +kernel) 0 rfl rfl 10 (by decide) (by decide +kernel) (v := .int (iI (gRoot d))) rfl dX10_volume_352 ?_
                                refine lv_aload_n C0.1 C0.2.1 dX10_volume_355 rfl (lv_at hl 6 rfl) ?_
                                refine k_get C0 S (C := RX10) (T := TX10) (N := 26) (ci := 10) (by decide +kernel) 0 rfl rfl 9 (by decide) (by decide +kernel) (v := .int (iI (gN d))) rfl dX10_volume_356 ?_
                                refine lv_iconst (v := iI (1)) C0.1 C0.2.1 dX10_volume_359 rfl ?_
                                refine k_iadd C0 dX10_volume_360 ?_
                                refine k_icmp_le (tgt := 367) C0 (by constructor <;> omega) (by constructor <;> omega) dX10_volume_361 (by decide) (fun c31 => ?_) (fun c31 => ?_)
                                · refine lv_aload_n C0.1 C0.2.1 dX10_volume_367 rfl (lv_at hl 6 rfl) ?_
                                  refine k_get C0 S (C := RX10) (T := TX10) (N := 26) (ci := 10) (by decide +kernel) 0 rfl rfl 9 (by decide) (by decide +kernel) (v := .int (iI (gN d))) rfl dX10_volume_368 ?_
                                  subst hQ
                                  refine k_iret C0 S hAe hsz hr hlk dX10_volume_371 ?_
                                  have hN2 : gOk1 d ∧ gOk2 d := by unfold gOk1 gOk2; omega
                                  have hG : Good d := ⟨by unfold gSig; omega, by omega, hN2.1, hN2.2⟩
                                  exact ⟨_, _, _, _, _, _, _, _, congrArg iI (vol_of_good hG).symm, rfl, fun _ => ⟨rfl, rfl, rfl, rfl, rfl, rfl, rfl, rfl⟩⟩
                                · refine lv_bipush (v := iI (-4)) C0.1 C0.2.1 dX10_volume_364 (by decide) ?_
                                  subst hQ
                                  refine k_iret C0 S hAe hsz hr hlk dX10_volume_366 ?_
                                  have hq : vol d = _ := vol_4 (by unfold gSig; omega) (by omega) (by unfold gOk1 gOk2; omega)
                                  exact ⟨_, _, _, _, _, _, _, _, congrArg iI hq.symm, rfl, fun h => absurd h (by omega)⟩
                        · have hng := gN_neg (d := d) (by omega) (by omega)
                          refine lv_iconst (v := iI (0)) C0.1 C0.2.1 dX10_volume_273 rfl ?_
                          refine lv_goto (tgt := 284) C0.1 C0.2.1 dX10_volume_274 (by decide) ?_
                          refine k_put (ws' := [(hM, .inr (10, [.ref aD, .ref aM, .int (iI (st)), .int (iI (chs d)), .int (iI (r4)), .int (iI (gT d)), .int (iI (gTS d)), .int (iI (gCS d)), .int (iI (r8)), .int (iI (0)), .int (iI (gRoot d)), .ref aX, .int (iI (tl)), .ref aP, .int (iI (pn)), .ref aQ, .int (iI (nc)), .ref aK, .ref aO, .ref aA, .int (iI (kl)), .int (iI (ol)), .int (iI (al)), .ref a1, .ref a2, .ref a3])), (aD, .inl (cA 0, 2048, .inl (fun y_ => iI (d y_))))]) C0 S (C := RX10) (T := TX10) (N := 26) (ci := 10) (by decide +kernel) tyX10 tyX10_ok nmX10 0 rfl rfl 9 (by decide) (by decide +kernel) rfl (v := .int (iI (0))) rfl rfl (Nat.le_of_ble_eq_true rfl) dX10_volume_284 rfl (fun H locs S => ?_)
                          refine lv_aload_n C0.1 C0.2.1 dX10_volume_287 rfl (lv_at hl 6 rfl) ?_
                          refine lv_bipush (v := iI (32)) C0.1 C0.2.1 dX10_volume_288 (by decide) ?_
                          refine lv_iload_n C0.1 C0.2.1 dX10_volume_290 rfl (lv_at hl 5 rfl) ?_
                          refine lv_iload C0.1 C0.2.1 dX10_volume_291 (lv_at hl 2 rfl) ?_
                          refine k_iadd C0 dX10_volume_293 ?_
                          refine k_imul C0 dX10_volume_294 ?_
                          refine k_topeq (v := iI (gTA d)) (congrArg iI gTA_m) ?_
                          refine k_put (ws' := [(hM, .inr (10, [.ref aD, .ref aM, .int (iI (st)), .int (iI (chs d)), .int (iI (gTA d)), .int (iI (gT d)), .int (iI (gTS d)), .int (iI (gCS d)), .int (iI (r8)), .int (iI (0)), .int (iI (gRoot d)), .ref aX, .int (iI (tl)), .ref aP, .int (iI (pn)), .ref aQ, .int (iI (nc)), .ref aK, .ref aO, .ref aA, .int (iI (kl)), .int (iI (ol)), .int (iI (al)), .ref a1, .ref a2, .ref a3])), (aD, .inl (cA 0, 2048, .inl (fun y_ => iI (d y_))))]) C0 S (C := RX10) (T := TX10) (N := 26) (ci := 10) (by decide +kernel) tyX10 tyX10_ok nmX10 0 rfl rfl 4 (by decide) (by decide +kernel) rfl (v := .int (iI (gTA d))) rfl rfl (Nat.le_of_ble_eq_true rfl) dX10_volume_295 rfl (fun H locs S => ?_)
                          refine lv_aload_n C0.1 C0.2.1 dX10_volume_298 rfl (lv_at hl 6 rfl) ?_
                          refine lv_aload_n C0.1 C0.2.1 dX10_volume_299 rfl (lv_at hl 6 rfl) ?_
                          refine k_get C0 S (C := RX10) (T := TX10) (N := 26) (ci := 10) (by decide +kernel) 0 rfl rfl 4 (by decide) (by decide +kernel) (v := .int (iI (gTA d))) rfl dX10_volume_300 ?_
                          refine lv_bipush (v := iI (32)) C0.1 C0.2.1 dX10_volume_303 (by decide) ?_
                          refine lv_aload_n C0.1 C0.2.1 dX10_volume_305 rfl (lv_at hl 6 rfl) ?_
                          refine k_get C0 S (C := RX10) (T := TX10) (N := 26) (ci := 10) (by decide +kernel) 0 rfl rfl 5 (by decide) (by decide +kernel) (v := .int (iI (gT d))) rfl dX10_volume_306 ?_
                          refine k_imul C0 dX10_volume_309 ?_
                          refine lv_aload_n C0.1 C0.2.1 dX10_volume_310 rfl (lv_at hl 6 rfl) ?_
                          refine k_get C0 S (C := RX10) (T := TX10) (N := 26) (ci := 10) (by decide +kernel) 0 rfl rfl 6 (by decide) (by decide +kernel) (v := .int (iI (gTS d))) rfl dX10_volume_311 ?_
                          refine k_imul C0 dX10_volume_314 ?_
                          refine k_iadd C0 dX10_volume_315 ?_
                          refine k_topeq (v := iI (gCA d)) (congrArg iI gCA_m) ?_
                          refine k_put (ws' := [(hM, .inr (10, [.ref aD, .ref aM, .int (iI (st)), .int (iI (chs d)), .int (iI (gTA d)), .int (iI (gT d)), .int (iI (gTS d)), .int (iI (gCS d)), .int (iI (gCA d)), .int (iI (0)), .int (iI (gRoot d)), .ref aX, .int (iI (tl)), .ref aP, .int (iI (pn)), .ref aQ, .int (iI (nc)), .ref aK, .ref aO, .ref aA, .int (iI (kl)), .int (iI (ol)), .int (iI (al)), .ref a1, .ref a2, .ref a3])), (aD, .inl (cA 0, 2048, .inl (fun y_ => iI (d y_))))]) C0 S (C := RX10) (T := TX10) (N := 26) (ci := 10) (by decide +kernel) tyX10 tyX10_ok nmX10 0 rfl rfl 8 (by decide) (by decide +kernel) rfl (v := .int (iI (gCA d))) rfl rfl (Nat.le_of_ble_eq_true rfl) dX10_volume_316 rfl (fun H locs S => ?_)
                          have e6 : gTB d = gTS d * 32 := rfl
                          refine lv_aload_n C0.1 C0.2.1 dX10_volume_319 rfl (lv_at hl 6 rfl) ?_
                          refine k_get C0 S (C := RX10) (T := TX10) (N := 26) (ci := 10) (by decide +kernel) 0 rfl rfl 9 (by decide) (by decide +kernel) (v := .int (iI (0))) rfl dX10_volume_320 ?_
                          refine lv_iconst (v := iI (1)) C0.1 C0.2.1 dX10_volume_323 rfl ?_
                          refine k_icmp_lt (tgt := 364) C0 ⟨by decide, by decide⟩ ⟨by decide, by decide⟩ dX10_volume_324 (by decide) (fun _ => ?_) (fun hc => absurd hc (by decide))
                          refine lv_bipush (v := iI (-4)) C0.1 C0.2.1 dX10_volume_364 (by decide) ?_
                          subst hQ
                          refine k_iret C0 S hAe hsz hr hlk dX10_volume_366 ?_
                          have hq : vol d = _ := vol_4 (by unfold gSig; omega) (by omega) (by unfold gOk1 gOk2; omega)
                          exact ⟨_, _, _, _, _, _, _, _, congrArg iI hq.symm, rfl, fun h => absurd h (by omega)⟩
                      · refine lv_bipush (v := iI (-4)) C0.1 C0.2.1 dX10_volume_248 (by decide) ?_
                        subst hQ
                        refine k_iret C0 S hAe hsz hr hlk dX10_volume_250 ?_
                        have hq : vol d = _ := vol_4 (by unfold gSig; omega) (by omega) (by unfold gOk1 gOk2; omega)
                        exact ⟨_, _, _, _, _, _, _, _, congrArg iI hq.symm, rfl, fun h => absurd h (by omega)⟩
              · refine lv_aload_n C0.1 C0.2.1 dX10_volume_190 rfl (lv_at hl 4 rfl) ?_
                refine k_get C0 S (C := RX10) (T := TX10) (N := 26) (ci := 10) (by decide +kernel) 0 rfl rfl 7 (by decide) (by decide +kernel) (v := .int (iI (gCS d))) rfl dX10_volume_191 ?_
                refine lv_iconst (v := iI (2)) C0.1 C0.2.1 dX10_volume_194 rfl ?_
                refine k_icmp_eq (tgt := 206) C0 (by constructor <;> omega) ⟨by decide, by decide⟩ dX10_volume_195 (by decide) (fun c32 => ?_) (fun c32 => ?_)
                · refine lv_iconst (v := iI (1)) C0.1 C0.2.1 dX10_volume_206 rfl ?_
                  refine lv_goto (tgt := 211) C0.1 C0.2.1 dX10_volume_207 (by decide) ?_
                  refine lv_istore (lv' := [(5, .int (iI (1))), (4, .int (iI (gBef d))), (3, .int (iI (gP d))), (2, .int (iI (gMany d))), (1, .int (iI (rd d (6 + 8 * chs d + 2)))), (0, .ref hM)]) C0.1 C0.2.1 dX10_volume_211 hl (by decide) rfl (fun ls hl => ?_)
                  refine lv_iload C0.1 C0.2.1 dX10_volume_213 (lv_at hl 0 rfl) ?_
                  refine k_if_eq (tgt := 248) C0 ⟨by decide, by decide⟩ dX10_volume_215 (by decide) (fun hc => absurd hc (by decide)) (fun _ => ?_)
                  refine lv_iload C0.1 C0.2.1 dX10_volume_218 (lv_at hl 1 rfl) ?_
                  refine lv_iconst (v := iI (1)) C0.1 C0.2.1 dX10_volume_220 rfl ?_
                  refine k_icmp_lt (tgt := 248) C0 (by constructor <;> omega) ⟨by decide, by decide⟩ dX10_volume_221 (by decide) (fun c33 => ?_) (fun c33 => ?_)
                  · refine lv_bipush (v := iI (-4)) C0.1 C0.2.1 dX10_volume_248 (by decide) ?_
                    subst hQ
                    refine k_iret C0 S hAe hsz hr hlk dX10_volume_250 ?_
                    have hq : vol d = _ := vol_4 (by unfold gSig; omega) (by omega) (by unfold gOk1 gOk2; omega)
                    exact ⟨_, _, _, _, _, _, _, _, congrArg iI hq.symm, rfl, fun h => absurd h (by omega)⟩
                  · refine lv_aload_n C0.1 C0.2.1 dX10_volume_224 rfl (lv_at hl 5 rfl) ?_
                    refine k_get C0 S (C := RX10) (T := TX10) (N := 26) (ci := 10) (by decide +kernel) 0 rfl rfl 5 (by decide) (by decide +kernel) (v := .int (iI (gT d))) rfl dX10_volume_225 ?_
                    refine lv_iconst (v := iI (1)) C0.1 C0.2.1 dX10_volume_228 rfl ?_
                    refine k_icmp_lt (tgt := 248) C0 (by constructor <;> omega) ⟨by decide, by decide⟩ dX10_volume_229 (by decide) (fun c34 => ?_) (fun c34 => ?_)
                    · refine lv_bipush (v := iI (-4)) C0.1 C0.2.1 dX10_volume_248 (by decide) ?_
                      subst hQ
                      refine k_iret C0 S hAe hsz hr hlk dX10_volume_250 ?_
                      have hq : vol d = _ := vol_4 (by unfold gSig; omega) (by omega) (by unfold gOk1 gOk2; omega)
                      exact ⟨_, _, _, _, _, _, _, _, congrArg iI hq.symm, rfl, fun h => absurd h (by omega)⟩
                    · refine lv_aload_n C0.1 C0.2.1 dX10_volume_232 rfl (lv_at hl 5 rfl) ?_
                      refine k_get C0 S (C := RX10) (T := TX10) (N := 26) (ci := 10) (by decide +kernel) 0 rfl rfl 5 (by decide) (by decide +kernel) (v := .int (iI (gT d))) rfl dX10_volume_233 ?_
                      refine lv_iconst (v := iI (2)) C0.1 C0.2.1 dX10_volume_236 rfl ?_
                      refine k_icmp_gt (tgt := 248) C0 (by constructor <;> omega) ⟨by decide, by decide⟩ dX10_volume_237 (by decide) (fun c35 => ?_) (fun c35 => ?_)
                      · refine lv_bipush (v := iI (-4)) C0.1 C0.2.1 dX10_volume_248 (by decide) ?_
                        subst hQ
                        refine k_iret C0 S hAe hsz hr hlk dX10_volume_250 ?_
                        have hq : vol d = _ := vol_4 (by unfold gSig; omega) (by omega) (by unfold gOk1 gOk2; omega)
                        exact ⟨_, _, _, _, _, _, _, _, congrArg iI hq.symm, rfl, fun h => absurd h (by omega)⟩
                      · refine lv_aload_n C0.1 C0.2.1 dX10_volume_240 rfl (lv_at hl 5 rfl) ?_
                        refine k_get C0 S (C := RX10) (T := TX10) (N := 26) (ci := 10) (by decide +kernel) 0 rfl rfl 6 (by decide) (by decide +kernel) (v := .int (iI (gTS d))) rfl dX10_volume_241 ?_
                        refine lv_iconst (v := iI (1)) C0.1 C0.2.1 dX10_volume_244 rfl ?_
                        refine k_icmp_ge (tgt := 251) C0 (by constructor <;> omega) ⟨by decide, by decide⟩ dX10_volume_245 (by decide) (fun c36 => ?_) (fun c36 => ?_)
                        · obtain ⟨qN, qM⟩ := gN_range hd (by omega) (by omega) (by omega)
                          have eL : gLeft d = gMany d - (gBef d + gT d * gTS d) := rfl
                          refine lv_iload_n C0.1 C0.2.1 dX10_volume_251 rfl (lv_at hl 3 rfl) ?_
                          refine lv_iload C0.1 C0.2.1 dX10_volume_252 (lv_at hl 1 rfl) ?_
                          refine k_isub C0 dX10_volume_254 ?_
                          refine lv_aload_n C0.1 C0.2.1 dX10_volume_255 rfl (lv_at hl 5 rfl) ?_
                          refine k_get C0 S (C := RX10) (T := TX10) (N := 26) (ci := 10) (by decide +kernel) 0 rfl rfl 5 (by decide) (by decide +kernel) (v := .int (iI (gT d))) rfl dX10_volume_256 ?_
                          refine lv_aload_n C0.1 C0.2.1 dX10_volume_259 rfl (lv_at hl 5 rfl) ?_
                          refine k_get C0 S (C := RX10) (T := TX10) (N := 26) (ci := 10) (by decide +kernel) 0 rfl rfl 6 (by decide) (by decide +kernel) (v := .int (iI (gTS d))) rfl dX10_volume_260 ?_
                          refine k_imul C0 dX10_volume_263 ?_
                          refine k_isub C0 dX10_volume_264 ?_
                          refine k_topeq (v := iI (gLeft d)) (congrArg iI (by omega)) ?_
                          refine lv_istore (lv' := [(6, .int (iI (gLeft d))), (5, .int (iI (1))), (4, .int (iI (gBef d))), (3, .int (iI (gP d))), (2, .int (iI (gMany d))), (1, .int (iI (rd d (6 + 8 * chs d + 2)))), (0, .ref hM)]) C0.1 C0.2.1 dX10_volume_265 hl (by decide) rfl (fun ls hl => ?_)
                          refine lv_aload_n C0.1 C0.2.1 dX10_volume_267 rfl (lv_at hl 6 rfl) ?_
                          refine lv_iload C0.1 C0.2.1 dX10_volume_268 (lv_at hl 0 rfl) ?_
                          refine k_if_ge (tgt := 277) C0 (by constructor <;> omega) dX10_volume_270 (by decide) (fun c37 => ?_) (fun c37 => ?_)
                          · refine lv_iload C0.1 C0.2.1 dX10_volume_277 (lv_at hl 0 rfl) ?_
                            refine lv_aload_n C0.1 C0.2.1 dX10_volume_279 rfl (lv_at hl 6 rfl) ?_
                            refine k_get C0 S (C := RX10) (T := TX10) (N := 26) (ci := 10) (by decide +kernel) 0 rfl rfl 7 (by decide) (by decide +kernel) (v := .int (iI (gCS d))) rfl dX10_volume_280 ?_
                            refine k_idiv C0 (by constructor <;> omega) (by omega) (by omega) dX10_volume_283 ?_
                            refine k_topeq (v := iI (gN d)) (rfl) ?_
                            refine k_put (ws' := [(hM, .inr (10, [.ref aD, .ref aM, .int (iI (st)), .int (iI (chs d)), .int (iI (r4)), .int (iI (gT d)), .int (iI (gTS d)), .int (iI (gCS d)), .int (iI (r8)), .int (iI (gN d)), .int (iI (gRoot d)), .ref aX, .int (iI (tl)), .ref aP, .int (iI (pn)), .ref aQ, .int (iI (nc)), .ref aK, .ref aO, .ref aA, .int (iI (kl)), .int (iI (ol)), .int (iI (al)), .ref a1, .ref a2, .ref a3])), (aD, .inl (cA 0, 2048, .inl (fun y_ => iI (d y_))))]) C0 S (C := RX10) (T := TX10) (N := 26) (ci := 10) (by decide +kernel) tyX10 tyX10_ok nmX10 0 rfl rfl 9 (by decide) (by decide +kernel) rfl (v := .int (iI (gN d))) rfl rfl (Nat.le_of_ble_eq_true rfl) dX10_volume_284 rfl (fun H locs S => ?_)
                            refine lv_aload_n C0.1 C0.2.1 dX10_volume_287 rfl (lv_at hl 6 rfl) ?_
                            refine lv_bipush (v := iI (32)) C0.1 C0.2.1 dX10_volume_288 (by decide) ?_
                            refine lv_iload_n C0.1 C0.2.1 dX10_volume_290 rfl (lv_at hl 5 rfl) ?_
                            refine lv_iload C0.1 C0.2.1 dX10_volume_291 (lv_at hl 2 rfl) ?_
                            refine k_iadd C0 dX10_volume_293 ?_
                            refine k_imul C0 dX10_volume_294 ?_
                            refine k_topeq (v := iI (gTA d)) (congrArg iI gTA_m) ?_
                            refine k_put (ws' := [(hM, .inr (10, [.ref aD, .ref aM, .int (iI (st)), .int (iI (chs d)), .int (iI (gTA d)), .int (iI (gT d)), .int (iI (gTS d)), .int (iI (gCS d)), .int (iI (r8)), .int (iI (gN d)), .int (iI (gRoot d)), .ref aX, .int (iI (tl)), .ref aP, .int (iI (pn)), .ref aQ, .int (iI (nc)), .ref aK, .ref aO, .ref aA, .int (iI (kl)), .int (iI (ol)), .int (iI (al)), .ref a1, .ref a2, .ref a3])), (aD, .inl (cA 0, 2048, .inl (fun y_ => iI (d y_))))]) C0 S (C := RX10) (T := TX10) (N := 26) (ci := 10) (by decide +kernel) tyX10 tyX10_ok nmX10 0 rfl rfl 4 (by decide) (by decide +kernel) rfl (v := .int (iI (gTA d))) rfl rfl (Nat.le_of_ble_eq_true rfl) dX10_volume_295 rfl (fun H locs S => ?_)
                            refine lv_aload_n C0.1 C0.2.1 dX10_volume_298 rfl (lv_at hl 6 rfl) ?_
                            refine lv_aload_n C0.1 C0.2.1 dX10_volume_299 rfl (lv_at hl 6 rfl) ?_
                            refine k_get C0 S (C := RX10) (T := TX10) (N := 26) (ci := 10) (by decide +kernel) 0 rfl rfl 4 (by decide) (by decide +kernel) (v := .int (iI (gTA d))) rfl dX10_volume_300 ?_
                            refine lv_bipush (v := iI (32)) C0.1 C0.2.1 dX10_volume_303 (by decide) ?_
                            refine lv_aload_n C0.1 C0.2.1 dX10_volume_305 rfl (lv_at hl 6 rfl) ?_
                            refine k_get C0 S (C := RX10) (T := TX10) (N := 26) (ci := 10) (by decide +kernel) 0 rfl rfl 5 (by decide) (by decide +kernel) (v := .int (iI (gT d))) rfl dX10_volume_306 ?_
                            refine k_imul C0 dX10_volume_309 ?_
                            refine lv_aload_n C0.1 C0.2.1 dX10_volume_310 rfl (lv_at hl 6 rfl) ?_
                            refine k_get C0 S (C := RX10) (T := TX10) (N := 26) (ci := 10) (by decide +kernel) 0 rfl rfl 6 (by decide) (by decide +kernel) (v := .int (iI (gTS d))) rfl dX10_volume_311 ?_
                            refine k_imul C0 dX10_volume_314 ?_
                            refine k_iadd C0 dX10_volume_315 ?_
                            refine k_topeq (v := iI (gCA d)) (congrArg iI gCA_m) ?_
                            refine k_put (ws' := [(hM, .inr (10, [.ref aD, .ref aM, .int (iI (st)), .int (iI (chs d)), .int (iI (gTA d)), .int (iI (gT d)), .int (iI (gTS d)), .int (iI (gCS d)), .int (iI (gCA d)), .int (iI (gN d)), .int (iI (gRoot d)), .ref aX, .int (iI (tl)), .ref aP, .int (iI (pn)), .ref aQ, .int (iI (nc)), .ref aK, .ref aO, .ref aA, .int (iI (kl)), .int (iI (ol)), .int (iI (al)), .ref a1, .ref a2, .ref a3])), (aD, .inl (cA 0, 2048, .inl (fun y_ => iI (d y_))))]) C0 S (C := RX10) (T := TX10) (N := 26) (ci := 10) (by decide +kernel) tyX10 tyX10_ok nmX10 0 rfl rfl 8 (by decide) (by decide +kernel) rfl (v := .int (iI (gCA d))) rfl rfl (Nat.le_of_ble_eq_true rfl) dX10_volume_316 rfl (fun H locs S => ?_)
                            have e6 : gTB d = gTS d * 32 := rfl
                            refine lv_aload_n C0.1 C0.2.1 dX10_volume_319 rfl (lv_at hl 6 rfl) ?_
                            refine k_get C0 S (C := RX10) (T := TX10) (N := 26) (ci := 10) (by decide +kernel) 0 rfl rfl 9 (by decide) (by decide +kernel) (v := .int (iI (gN d))) rfl dX10_volume_320 ?_
                            refine lv_iconst (v := iI (1)) C0.1 C0.2.1 dX10_volume_323 rfl ?_
                            refine k_icmp_lt (tgt := 364) C0 (by constructor <;> omega) ⟨by decide, by decide⟩ dX10_volume_324 (by decide) (fun c38 => ?_) (fun c38 => ?_)
                            · refine lv_bipush (v := iI (-4)) C0.1 C0.2.1 dX10_volume_364 (by decide) ?_
                              subst hQ
                              refine k_iret C0 S hAe hsz hr hlk dX10_volume_366 ?_
                              have hq : vol d = _ := vol_4 (by unfold gSig; omega) (by omega) (by unfold gOk1 gOk2; omega)
                              exact ⟨_, _, _, _, _, _, _, _, congrArg iI hq.symm, rfl, fun h => absurd h (by omega)⟩
                            · refine lv_bipush (v := iI (16)) C0.1 C0.2.1 dX10_volume_327 (by decide) ?_
                              refine lv_aload_n C0.1 C0.2.1 dX10_volume_329 rfl (lv_at hl 6 rfl) ?_
                              refine k_get C0 S (C := RX10) (T := TX10) (N := 26) (ci := 10) (by decide +kernel) 0 rfl rfl 6 (by decide) (by decide +kernel) (v := .int (iI (gTS d))) rfl dX10_volume_330 ?_
                              refine k_imul C0 dX10_volume_333 ?_
                              refine lv_aload_n C0.1 C0.2.1 dX10_volume_334 rfl (lv_at hl 6 rfl) ?_
                              refine k_get C0 S (C := RX10) (T := TX10) (N := 26) (ci := 10) (by decide +kernel) 0 rfl rfl 9 (by decide) (by decide +kernel) (v := .int (iI (gN d))) rfl dX10_volume_335 ?_
                              refine lv_iconst (v := iI (2)) C0.1 C0.2.1 dX10_volume_338 rfl ?_
                              refine k_iadd C0 dX10_volume_339 ?_
                              refine k_icmp_lt (tgt := 364) C0 (by constructor <;> omega) (by constructor <;> omega) dX10_volume_340 (by decide) (fun c39 => ?_) (fun c39 => ?_)
                              · refine lv_bipush (v := iI (-4)) C0.1 C0.2.1 dX10_volume_364 (by decide) ?_
                                subst hQ
                                refine k_iret C0 S hAe hsz hr hlk dX10_volume_366 ?_
                                have hq : vol d = _ := vol_4 (by unfold gSig; omega) (by omega) (by unfold gOk1 gOk2; omega)
                                exact ⟨_, _, _, _, _, _, _, _, congrArg iI hq.symm, rfl, fun h => absurd h (by omega)⟩
                              · refine lv_aload_n C0.1 C0.2.1 dX10_volume_343 rfl (lv_at hl 6 rfl) ?_
                                refine k_get C0 S (C := RX10) (T := TX10) (N := 26) (ci := 10) (by decide +kernel) 0 rfl rfl 10 (by decide) (by decide +kernel) (v := .int (iI (gRoot d))) rfl dX10_volume_344 ?_
                                refine lv_iconst (v := iI (2)) C0.1 C0.2.1 dX10_volume_347 rfl ?_
                                refine k_icmp_lt (tgt := 364) C0 (by constructor <;> omega) ⟨by decide, by decide⟩ dX10_volume_348 (by decide) (fun c40 => ?_) (fun c40 => ?_)
                                · refine lv_bipush (v := iI (-4)) C0.1 C0.2.1 dX10_volume_364 (by decide) ?_
                                  subst hQ
                                  refine k_iret C0 S hAe hsz hr hlk dX10_volume_366 ?_
                                  have hq : vol d = _ := vol_4 (by unfold gSig; omega) (by omega) (by unfold gOk1 gOk2; omega)
                                  exact ⟨_, _, _, _, _, _, _, _, congrArg iI hq.symm, rfl, fun h => absurd h (by omega)⟩
                                · refine lv_aload_n C0.1 C0.2.1 dX10_volume_351 rfl (lv_at hl 6 rfl) ?_
                                  refine k_get C0 S (C := RX10) (T := TX10) (N := 26) (ci := 10) (by decide +kernel) 0 rfl rfl 10 (by decide) (by decide +kernel) (v := .int (iI (gRoot d))) rfl dX10_volume_352 ?_
                                  refine lv_aload_n C0.1 C0.2.1 dX10_volume_355 rfl (lv_at hl 6 rfl) ?_
                                  refine k_get C0 S (C := RX10) (T := TX10) (N := 26) (ci := 10) (by decide +kernel) 0 rfl rfl 9 (by decide) (by decide +kernel) (v := .int (iI (gN d))) rfl dX10_volume_356 ?_
                                  refine lv_iconst (v := iI (1)) C0.1 C0.2.1 dX10_volume_359 rfl ?_
                                  refine k_iadd C0 dX10_volume_360 ?_
                                  refine k_icmp_le (tgt := 367) C0 (by constructor <;> omega) (by constructor <;> omega) dX10_volume_361 (by decide) (fun c41 => ?_) (fun c41 => ?_)
                                  · refine lv_aload_n C0.1 C0.2.1 dX10_volume_367 rfl (lv_at hl 6 rfl) ?_
                                    refine k_get C0 S (C := RX10) (T := TX10) (N := 26) (ci := 10) (by decide +kernel) 0 rfl rfl 9 (by decide) (by decide +kernel) (v := .int (iI (gN d))) rfl dX10_volume_368 ?_
                                    subst hQ
                                    refine k_iret C0 S hAe hsz hr hlk dX10_volume_371 ?_
                                    have hN2 : gOk1 d ∧ gOk2 d := by unfold gOk1 gOk2; omega
                                    have hG : Good d := ⟨by unfold gSig; omega, by omega, hN2.1, hN2.2⟩
                                    exact ⟨_, _, _, _, _, _, _, _, congrArg iI (vol_of_good hG).symm, rfl, fun _ => ⟨rfl, rfl, rfl, rfl, rfl, rfl, rfl, rfl⟩⟩
                                  · refine lv_bipush (v := iI (-4)) C0.1 C0.2.1 dX10_volume_364 (by decide) ?_
                                    subst hQ
                                    refine k_iret C0 S hAe hsz hr hlk dX10_volume_366 ?_
                                    have hq : vol d = _ := vol_4 (by unfold gSig; omega) (by omega) (by unfold gOk1 gOk2; omega)
                                    exact ⟨_, _, _, _, _, _, _, _, congrArg iI hq.symm, rfl, fun h => absurd h (by omega)⟩
                          · have hng := gN_neg (d := d) (by omega) (by omega)
                            refine lv_iconst (v := iI (0)) C0.1 C0.2.1 dX10_volume_273 rfl ?_
                            refine lv_goto (tgt := 284) C0.1 C0.2.1 dX10_volume_274 (by decide) ?_
                            refine k_put (ws' := [(hM, .inr (10, [.ref aD, .ref aM, .int (iI (st)), .int (iI (chs d)), .int (iI (r4)), .int (iI (gT d)), .int (iI (gTS d)), .int (iI (gCS d)), .int (iI (r8)), .int (iI (0)), .int (iI (gRoot d)), .ref aX, .int (iI (tl)), .ref aP, .int (iI (pn)), .ref aQ, .int (iI (nc)), .ref aK, .ref aO, .ref aA, .int (iI (kl)), .int (iI (ol)), .int (iI (al)), .ref a1, .ref a2, .ref a3])), (aD, .inl (cA 0, 2048, .inl (fun y_ => iI (d y_))))]) C0 S (C := RX10) (T := TX10) (N := 26) (ci := 10) (by decide +kernel) tyX10 tyX10_ok nmX10 0 rfl rfl 9 (by decide) (by decide +kernel) rfl (v := .int (iI (0))) rfl rfl (Nat.le_of_ble_eq_true rfl) dX10_volume_284 rfl (fun H locs S => ?_)
                            refine lv_aload_n C0.1 C0.2.1 dX10_volume_287 rfl (lv_at hl 6 rfl) ?_
                            refine lv_bipush (v := iI (32)) C0.1 C0.2.1 dX10_volume_288 (by decide) ?_
                            refine lv_iload_n C0.1 C0.2.1 dX10_volume_290 rfl (lv_at hl 5 rfl) ?_
                            refine lv_iload C0.1 C0.2.1 dX10_volume_291 (lv_at hl 2 rfl) ?_
                            refine k_iadd C0 dX10_volume_293 ?_
                            refine k_imul C0 dX10_volume_294 ?_
                            refine k_topeq (v := iI (gTA d)) (congrArg iI gTA_m) ?_
                            refine k_put (ws' := [(hM, .inr (10, [.ref aD, .ref aM, .int (iI (st)), .int (iI (chs d)), .int (iI (gTA d)), .int (iI (gT d)), .int (iI (gTS d)), .int (iI (gCS d)), .int (iI (r8)), .int (iI (0)), .int (iI (gRoot d)), .ref aX, .int (iI (tl)), .ref aP, .int (iI (pn)), .ref aQ, .int (iI (nc)), .ref aK, .ref aO, .ref aA, .int (iI (kl)), .int (iI (ol)), .int (iI (al)), .ref a1, .ref a2, .ref a3])), (aD, .inl (cA 0, 2048, .inl (fun y_ => iI (d y_))))]) C0 S (C := RX10) (T := TX10) (N := 26) (ci := 10) (by decide +kernel) tyX10 tyX10_ok nmX10 0 rfl rfl 4 (by decide) (by decide +kernel) rfl (v := .int (iI (gTA d))) rfl rfl (Nat.le_of_ble_eq_true rfl) dX10_volume_295 rfl (fun H locs S => ?_)
                            refine lv_aload_n C0.1 C0.2.1 dX10_volume_298 rfl (lv_at hl 6 rfl) ?_
                            refine lv_aload_n C0.1 C0.2.1 dX10_volume_299 rfl (lv_at hl 6 rfl) ?_
                            refine k_get C0 S (C := RX10) (T := TX10) (N := 26) (ci := 10) (by decide +kernel) 0 rfl rfl 4 (by decide) (by decide +kernel) (v := .int (iI (gTA d))) rfl dX10_volume_300 ?_
                            refine lv_bipush (v := iI (32)) C0.1 C0.2.1 dX10_volume_303 (by decide) ?_
                            refine lv_aload_n C0.1 C0.2.1 dX10_volume_305 rfl (lv_at hl 6 rfl) ?_
                            refine k_get C0 S (C := RX10) (T := TX10) (N := 26) (ci := 10) (by decide +kernel) 0 rfl rfl 5 (by decide) (by decide +kernel) (v := .int (iI (gT d))) rfl dX10_volume_306 ?_
                            refine k_imul C0 dX10_volume_309 ?_
                            refine lv_aload_n C0.1 C0.2.1 dX10_volume_310 rfl (lv_at hl 6 rfl) ?_
                            refine k_get C0 S (C := RX10) (T := TX10) (N := 26) (ci := 10) (by decide +kernel) 0 rfl rfl 6 (by decide) (by decide +kernel) (v := .int (iI (gTS d))) rfl dX10_volume_311 ?_
                            refine k_imul C0 dX10_volume_314 ?_
                            refine k_iadd C0 dX10_volume_315 ?_
                            refine k_topeq (v := iI (gCA d)) (congrArg iI gCA_m) ?_
                            refine k_put (ws' := [(hM, .inr (10, [.ref aD, .ref aM, .int (iI (st)), .int (iI (chs d)), .int (iI (gTA d)), .int (iI (gT d)), .int (iI (gTS d)), .int (iI (gCS d)), .int (iI (gCA d)), .int (iI (0)), .int (iI (gRoot d)), .ref aX, .int (iI (tl)), .ref aP, .int (iI (pn)), .ref aQ, .int (iI (nc)), .ref aK, .ref aO, .ref aA, .int (iI (kl)), .int (iI (ol)), .int (iI (al)), .ref a1, .ref a2, .ref a3])), (aD, .inl (cA 0, 2048, .inl (fun y_ => iI (d y_))))]) C0 S (C := RX10) (T := TX10) (N := 26) (ci := 10) (by decide +kernel) tyX10 tyX10_ok nmX10 0 rfl rfl 8 (by decide) (by decide +kernel) rfl (v := .int (iI (gCA d))) rfl rfl (Nat.le_of_ble_eq_true rfl) dX10_volume_316 rfl (fun H locs S => ?_)
                            have e6 : gTB d = gTS d * 32 := rfl
                            refine lv_aload_n C0.1 C0.2.1 dX10_volume_319 rfl (lv_at hl 6 rfl) ?_
                            refine k_get C0 S (C := RX10) (T := TX10) (N := 26) (ci := 10) (by decide +kernel) 0 rfl rfl 9 (by decide) (by decide +kernel) (v := .int (iI (0))) rfl dX10_volume_320 ?_
                            refine lv_iconst (v := iI (1)) C0.1 C0.2.1 dX10_volume_323 rfl ?_
                            refine k_icmp_lt (tgt := 364) C0 ⟨by decide, by decide⟩ ⟨by decide, by decide⟩ dX10_volume_324 (by decide) (fun _ => ?_) (fun hc => absurd hc (by decide))
                            refine lv_bipush (v := iI (-4)) C0.1 C0.2.1 dX10_volume_364 (by decide) ?_
                            subst hQ
                            refine k_iret C0 S hAe hsz hr hlk dX10_volume_366 ?_
                            have hq : vol d = _ := vol_4 (by unfold gSig; omega) (by omega) (by unfold gOk1 gOk2; omega)
                            exact ⟨_, _, _, _, _, _, _, _, congrArg iI hq.symm, rfl, fun h => absurd h (by omega)⟩
                        · refine lv_bipush (v := iI (-4)) C0.1 C0.2.1 dX10_volume_248 (by decide) ?_
                          subst hQ
                          refine k_iret C0 S hAe hsz hr hlk dX10_volume_250 ?_
                          have hq : vol d = _ := vol_4 (by unfold gSig; omega) (by omega) (by unfold gOk1 gOk2; omega)
                          exact ⟨_, _, _, _, _, _, _, _, congrArg iI hq.symm, rfl, fun h => absurd h (by omega)⟩
                · refine lv_aload_n C0.1 C0.2.1 dX10_volume_198 rfl (lv_at hl 4 rfl) ?_
                  refine k_get C0 S (C := RX10) (T := TX10) (N := 26) (ci := 10) (by decide +kernel) 0 rfl rfl 7 (by decide) (by decide +kernel) (v := .int (iI (gCS d))) rfl dX10_volume_199 ?_
                  refine lv_iconst (v := iI (4)) C0.1 C0.2.1 dX10_volume_202 rfl ?_
                  refine k_icmp_ne (tgt := 210) C0 (by constructor <;> omega) ⟨by decide, by decide⟩ dX10_volume_203 (by decide) (fun c42 => ?_) (fun c42 => ?_)
                  · refine lv_iconst (v := iI (0)) C0.1 C0.2.1 dX10_volume_210 rfl ?_
                    refine lv_istore (lv' := [(5, .int (iI (0))), (4, .int (iI (gBef d))), (3, .int (iI (gP d))), (2, .int (iI (gMany d))), (1, .int (iI (rd d (6 + 8 * chs d + 2)))), (0, .ref hM)]) C0.1 C0.2.1 dX10_volume_211 hl (by decide) rfl (fun ls hl => ?_)
                    refine lv_iload C0.1 C0.2.1 dX10_volume_213 (lv_at hl 0 rfl) ?_
                    refine k_if_eq (tgt := 248) C0 ⟨by decide, by decide⟩ dX10_volume_215 (by decide) (fun _ => ?_) (fun hc => absurd hc (by decide))
                    refine lv_bipush (v := iI (-4)) C0.1 C0.2.1 dX10_volume_248 (by decide) ?_
                    subst hQ
                    refine k_iret C0 S hAe hsz hr hlk dX10_volume_250 ?_
                    have hq : vol d = _ := vol_4 (by unfold gSig; omega) (by omega) (by unfold gOk1 gOk2; omega)
                    exact ⟨_, _, _, _, _, _, _, _, congrArg iI hq.symm, rfl, fun h => absurd h (by omega)⟩
                  · refine lv_iconst (v := iI (1)) C0.1 C0.2.1 dX10_volume_206 rfl ?_
                    refine lv_goto (tgt := 211) C0.1 C0.2.1 dX10_volume_207 (by decide) ?_
                    refine lv_istore (lv' := [(5, .int (iI (1))), (4, .int (iI (gBef d))), (3, .int (iI (gP d))), (2, .int (iI (gMany d))), (1, .int (iI (rd d (6 + 8 * chs d + 2)))), (0, .ref hM)]) C0.1 C0.2.1 dX10_volume_211 hl (by decide) rfl (fun ls hl => ?_)
                    refine lv_iload C0.1 C0.2.1 dX10_volume_213 (lv_at hl 0 rfl) ?_
                    refine k_if_eq (tgt := 248) C0 ⟨by decide, by decide⟩ dX10_volume_215 (by decide) (fun hc => absurd hc (by decide)) (fun _ => ?_)
                    refine lv_iload C0.1 C0.2.1 dX10_volume_218 (lv_at hl 1 rfl) ?_
                    refine lv_iconst (v := iI (1)) C0.1 C0.2.1 dX10_volume_220 rfl ?_
                    refine k_icmp_lt (tgt := 248) C0 (by constructor <;> omega) ⟨by decide, by decide⟩ dX10_volume_221 (by decide) (fun c43 => ?_) (fun c43 => ?_)
                    · refine lv_bipush (v := iI (-4)) C0.1 C0.2.1 dX10_volume_248 (by decide) ?_
                      subst hQ
                      refine k_iret C0 S hAe hsz hr hlk dX10_volume_250 ?_
                      have hq : vol d = _ := vol_4 (by unfold gSig; omega) (by omega) (by unfold gOk1 gOk2; omega)
                      exact ⟨_, _, _, _, _, _, _, _, congrArg iI hq.symm, rfl, fun h => absurd h (by omega)⟩
                    · refine lv_aload_n C0.1 C0.2.1 dX10_volume_224 rfl (lv_at hl 5 rfl) ?_
                      refine k_get C0 S (C := RX10) (T := TX10) (N := 26) (ci := 10) (by decide +kernel) 0 rfl rfl 5 (by decide) (by decide +kernel) (v := .int (iI (gT d))) rfl dX10_volume_225 ?_
                      refine lv_iconst (v := iI (1)) C0.1 C0.2.1 dX10_volume_228 rfl ?_
                      refine k_icmp_lt (tgt := 248) C0 (by constructor <;> omega) ⟨by decide, by decide⟩ dX10_volume_229 (by decide) (fun c44 => ?_) (fun c44 => ?_)
                      · refine lv_bipush (v := iI (-4)) C0.1 C0.2.1 dX10_volume_248 (by decide) ?_
                        subst hQ
                        refine k_iret C0 S hAe hsz hr hlk dX10_volume_250 ?_
                        have hq : vol d = _ := vol_4 (by unfold gSig; omega) (by omega) (by unfold gOk1 gOk2; omega)
                        exact ⟨_, _, _, _, _, _, _, _, congrArg iI hq.symm, rfl, fun h => absurd h (by omega)⟩
                      · refine lv_aload_n C0.1 C0.2.1 dX10_volume_232 rfl (lv_at hl 5 rfl) ?_
                        refine k_get C0 S (C := RX10) (T := TX10) (N := 26) (ci := 10) (by decide +kernel) 0 rfl rfl 5 (by decide) (by decide +kernel) (v := .int (iI (gT d))) rfl dX10_volume_233 ?_
                        refine lv_iconst (v := iI (2)) C0.1 C0.2.1 dX10_volume_236 rfl ?_
                        refine k_icmp_gt (tgt := 248) C0 (by constructor <;> omega) ⟨by decide, by decide⟩ dX10_volume_237 (by decide) (fun c45 => ?_) (fun c45 => ?_)
                        · refine lv_bipush (v := iI (-4)) C0.1 C0.2.1 dX10_volume_248 (by decide) ?_
                          subst hQ
                          refine k_iret C0 S hAe hsz hr hlk dX10_volume_250 ?_
                          have hq : vol d = _ := vol_4 (by unfold gSig; omega) (by omega) (by unfold gOk1 gOk2; omega)
                          exact ⟨_, _, _, _, _, _, _, _, congrArg iI hq.symm, rfl, fun h => absurd h (by omega)⟩
                        · refine lv_aload_n C0.1 C0.2.1 dX10_volume_240 rfl (lv_at hl 5 rfl) ?_
                          refine k_get C0 S (C := RX10) (T := TX10) (N := 26) (ci := 10) (by decide +kernel) 0 rfl rfl 6 (by decide) (by decide +kernel) (v := .int (iI (gTS d))) rfl dX10_volume_241 ?_
                          refine lv_iconst (v := iI (1)) C0.1 C0.2.1 dX10_volume_244 rfl ?_
                          refine k_icmp_ge (tgt := 251) C0 (by constructor <;> omega) ⟨by decide, by decide⟩ dX10_volume_245 (by decide) (fun c46 => ?_) (fun c46 => ?_)
                          · obtain ⟨qN, qM⟩ := gN_range hd (by omega) (by omega) (by omega)
                            have eL : gLeft d = gMany d - (gBef d + gT d * gTS d) := rfl
                            refine lv_iload_n C0.1 C0.2.1 dX10_volume_251 rfl (lv_at hl 3 rfl) ?_
                            refine lv_iload C0.1 C0.2.1 dX10_volume_252 (lv_at hl 1 rfl) ?_
                            refine k_isub C0 dX10_volume_254 ?_
                            refine lv_aload_n C0.1 C0.2.1 dX10_volume_255 rfl (lv_at hl 5 rfl) ?_
                            refine k_get C0 S (C := RX10) (T := TX10) (N := 26) (ci := 10) (by decide +kernel) 0 rfl rfl 5 (by decide) (by decide +kernel) (v := .int (iI (gT d))) rfl dX10_volume_256 ?_
                            refine lv_aload_n C0.1 C0.2.1 dX10_volume_259 rfl (lv_at hl 5 rfl) ?_
                            refine k_get C0 S (C := RX10) (T := TX10) (N := 26) (ci := 10) (by decide +kernel) 0 rfl rfl 6 (by decide) (by decide +kernel) (v := .int (iI (gTS d))) rfl dX10_volume_260 ?_
                            refine k_imul C0 dX10_volume_263 ?_
                            refine k_isub C0 dX10_volume_264 ?_
                            refine k_topeq (v := iI (gLeft d)) (congrArg iI (by omega)) ?_
                            refine lv_istore (lv' := [(6, .int (iI (gLeft d))), (5, .int (iI (1))), (4, .int (iI (gBef d))), (3, .int (iI (gP d))), (2, .int (iI (gMany d))), (1, .int (iI (rd d (6 + 8 * chs d + 2)))), (0, .ref hM)]) C0.1 C0.2.1 dX10_volume_265 hl (by decide) rfl (fun ls hl => ?_)
                            refine lv_aload_n C0.1 C0.2.1 dX10_volume_267 rfl (lv_at hl 6 rfl) ?_
                            refine lv_iload C0.1 C0.2.1 dX10_volume_268 (lv_at hl 0 rfl) ?_
                            refine k_if_ge (tgt := 277) C0 (by constructor <;> omega) dX10_volume_270 (by decide) (fun c47 => ?_) (fun c47 => ?_)
                            · refine lv_iload C0.1 C0.2.1 dX10_volume_277 (lv_at hl 0 rfl) ?_
                              refine lv_aload_n C0.1 C0.2.1 dX10_volume_279 rfl (lv_at hl 6 rfl) ?_
                              refine k_get C0 S (C := RX10) (T := TX10) (N := 26) (ci := 10) (by decide +kernel) 0 rfl rfl 7 (by decide) (by decide +kernel) (v := .int (iI (gCS d))) rfl dX10_volume_280 ?_
                              refine k_idiv C0 (by constructor <;> omega) (by omega) (by omega) dX10_volume_283 ?_
                              refine k_topeq (v := iI (gN d)) (rfl) ?_
                              refine k_put (ws' := [(hM, .inr (10, [.ref aD, .ref aM, .int (iI (st)), .int (iI (chs d)), .int (iI (r4)), .int (iI (gT d)), .int (iI (gTS d)), .int (iI (gCS d)), .int (iI (r8)), .int (iI (gN d)), .int (iI (gRoot d)), .ref aX, .int (iI (tl)), .ref aP, .int (iI (pn)), .ref aQ, .int (iI (nc)), .ref aK, .ref aO, .ref aA, .int (iI (kl)), .int (iI (ol)), .int (iI (al)), .ref a1, .ref a2, .ref a3])), (aD, .inl (cA 0, 2048, .inl (fun y_ => iI (d y_))))]) C0 S (C := RX10) (T := TX10) (N := 26) (ci := 10) (by decide +kernel) tyX10 tyX10_ok nmX10 0 rfl rfl 9 (by decide) (by decide +kernel) rfl (v := .int (iI (gN d))) rfl rfl (Nat.le_of_ble_eq_true rfl) dX10_volume_284 rfl (fun H locs S => ?_)
                              refine lv_aload_n C0.1 C0.2.1 dX10_volume_287 rfl (lv_at hl 6 rfl) ?_
                              refine lv_bipush (v := iI (32)) C0.1 C0.2.1 dX10_volume_288 (by decide) ?_
                              refine lv_iload_n C0.1 C0.2.1 dX10_volume_290 rfl (lv_at hl 5 rfl) ?_
                              refine lv_iload C0.1 C0.2.1 dX10_volume_291 (lv_at hl 2 rfl) ?_
                              refine k_iadd C0 dX10_volume_293 ?_
                              refine k_imul C0 dX10_volume_294 ?_
                              refine k_topeq (v := iI (gTA d)) (congrArg iI gTA_m) ?_
                              refine k_put (ws' := [(hM, .inr (10, [.ref aD, .ref aM, .int (iI (st)), .int (iI (chs d)), .int (iI (gTA d)), .int (iI (gT d)), .int (iI (gTS d)), .int (iI (gCS d)), .int (iI (r8)), .int (iI (gN d)), .int (iI (gRoot d)), .ref aX, .int (iI (tl)), .ref aP, .int (iI (pn)), .ref aQ, .int (iI (nc)), .ref aK, .ref aO, .ref aA, .int (iI (kl)), .int (iI (ol)), .int (iI (al)), .ref a1, .ref a2, .ref a3])), (aD, .inl (cA 0, 2048, .inl (fun y_ => iI (d y_))))]) C0 S (C := RX10) (T := TX10) (N := 26) (ci := 10) (by decide +kernel) tyX10 tyX10_ok nmX10 0 rfl rfl 4 (by decide) (by decide +kernel) rfl (v := .int (iI (gTA d))) rfl rfl (Nat.le_of_ble_eq_true rfl) dX10_volume_295 rfl (fun H locs S => ?_)
                              refine lv_aload_n C0.1 C0.2.1 dX10_volume_298 rfl (lv_at hl 6 rfl) ?_
                              refine lv_aload_n C0.1 C0.2.1 dX10_volume_299 rfl (lv_at hl 6 rfl) ?_
                              refine k_get C0 S (C := RX10) (T := TX10) (N := 26) (ci := 10) (by decide +kernel) 0 rfl rfl 4 (by decide) (by decide +kernel) (v := .int (iI (gTA d))) rfl dX10_volume_300 ?_
                              refine lv_bipush (v := iI (32)) C0.1 C0.2.1 dX10_volume_303 (by decide) ?_
                              refine lv_aload_n C0.1 C0.2.1 dX10_volume_305 rfl (lv_at hl 6 rfl) ?_
                              refine k_get C0 S (C := RX10) (T := TX10) (N := 26) (ci := 10) (by decide +kernel) 0 rfl rfl 5 (by decide) (by decide +kernel) (v := .int (iI (gT d))) rfl dX10_volume_306 ?_
                              refine k_imul C0 dX10_volume_309 ?_
                              refine lv_aload_n C0.1 C0.2.1 dX10_volume_310 rfl (lv_at hl 6 rfl) ?_
                              refine k_get C0 S (C := RX10) (T := TX10) (N := 26) (ci := 10) (by decide +kernel) 0 rfl rfl 6 (by decide) (by decide +kernel) (v := .int (iI (gTS d))) rfl dX10_volume_311 ?_
                              refine k_imul C0 dX10_volume_314 ?_
                              refine k_iadd C0 dX10_volume_315 ?_
                              refine k_topeq (v := iI (gCA d)) (congrArg iI gCA_m) ?_
                              refine k_put (ws' := [(hM, .inr (10, [.ref aD, .ref aM, .int (iI (st)), .int (iI (chs d)), .int (iI (gTA d)), .int (iI (gT d)), .int (iI (gTS d)), .int (iI (gCS d)), .int (iI (gCA d)), .int (iI (gN d)), .int (iI (gRoot d)), .ref aX, .int (iI (tl)), .ref aP, .int (iI (pn)), .ref aQ, .int (iI (nc)), .ref aK, .ref aO, .ref aA, .int (iI (kl)), .int (iI (ol)), .int (iI (al)), .ref a1, .ref a2, .ref a3])), (aD, .inl (cA 0, 2048, .inl (fun y_ => iI (d y_))))]) C0 S (C := RX10) (T := TX10) (N := 26) (ci := 10) (by decide +kernel) tyX10 tyX10_ok nmX10 0 rfl rfl 8 (by decide) (by decide +kernel) rfl (v := .int (iI (gCA d))) rfl rfl (Nat.le_of_ble_eq_true rfl) dX10_volume_316 rfl (fun H locs S => ?_)
                              have e6 : gTB d = gTS d * 32 := rfl
                              refine lv_aload_n C0.1 C0.2.1 dX10_volume_319 rfl (lv_at hl 6 rfl) ?_
                              refine k_get C0 S (C := RX10) (T := TX10) (N := 26) (ci := 10) (by decide +kernel) 0 rfl rfl 9 (by decide) (by decide +kernel) (v := .int (iI (gN d))) rfl dX10_volume_320 ?_
                              refine lv_iconst (v := iI (1)) C0.1 C0.2.1 dX10_volume_323 rfl ?_
                              refine k_icmp_lt (tgt := 364) C0 (by constructor <;> omega) ⟨by decide, by decide⟩ dX10_volume_324 (by decide) (fun c48 => ?_) (fun c48 => ?_)
                              · refine lv_bipush (v := iI (-4)) C0.1 C0.2.1 dX10_volume_364 (by decide) ?_
                                subst hQ
                                refine k_iret C0 S hAe hsz hr hlk dX10_volume_366 ?_
                                have hq : vol d = _ := vol_4 (by unfold gSig; omega) (by omega) (by unfold gOk1 gOk2; omega)
                                exact ⟨_, _, _, _, _, _, _, _, congrArg iI hq.symm, rfl, fun h => absurd h (by omega)⟩
                              · refine lv_bipush (v := iI (16)) C0.1 C0.2.1 dX10_volume_327 (by decide) ?_
                                refine lv_aload_n C0.1 C0.2.1 dX10_volume_329 rfl (lv_at hl 6 rfl) ?_
                                refine k_get C0 S (C := RX10) (T := TX10) (N := 26) (ci := 10) (by decide +kernel) 0 rfl rfl 6 (by decide) (by decide +kernel) (v := .int (iI (gTS d))) rfl dX10_volume_330 ?_
                                refine k_imul C0 dX10_volume_333 ?_
                                refine lv_aload_n C0.1 C0.2.1 dX10_volume_334 rfl (lv_at hl 6 rfl) ?_
                                refine k_get C0 S (C := RX10) (T := TX10) (N := 26) (ci := 10) (by decide +kernel) 0 rfl rfl 9 (by decide) (by decide +kernel) (v := .int (iI (gN d))) rfl dX10_volume_335 ?_
                                refine lv_iconst (v := iI (2)) C0.1 C0.2.1 dX10_volume_338 rfl ?_
                                refine k_iadd C0 dX10_volume_339 ?_
                                refine k_icmp_lt (tgt := 364) C0 (by constructor <;> omega) (by constructor <;> omega) dX10_volume_340 (by decide) (fun c49 => ?_) (fun c49 => ?_)
                                · refine lv_bipush (v := iI (-4)) C0.1 C0.2.1 dX10_volume_364 (by decide) ?_
                                  subst hQ
                                  refine k_iret C0 S hAe hsz hr hlk dX10_volume_366 ?_
                                  have hq : vol d = _ := vol_4 (by unfold gSig; omega) (by omega) (by unfold gOk1 gOk2; omega)
                                  exact ⟨_, _, _, _, _, _, _, _, congrArg iI hq.symm, rfl, fun h => absurd h (by omega)⟩
                                · refine lv_aload_n C0.1 C0.2.1 dX10_volume_343 rfl (lv_at hl 6 rfl) ?_
                                  refine k_get C0 S (C := RX10) (T := TX10) (N := 26) (ci := 10) (by decide +kernel) 0 rfl rfl 10 (by decide) (by decide +kernel) (v := .int (iI (gRoot d))) rfl dX10_volume_344 ?_
                                  refine lv_iconst (v := iI (2)) C0.1 C0.2.1 dX10_volume_347 rfl ?_
                                  refine k_icmp_lt (tgt := 364) C0 (by constructor <;> omega) ⟨by decide, by decide⟩ dX10_volume_348 (by decide) (fun c50 => ?_) (fun c50 => ?_)
                                  · refine lv_bipush (v := iI (-4)) C0.1 C0.2.1 dX10_volume_364 (by decide) ?_
                                    subst hQ
                                    refine k_iret C0 S hAe hsz hr hlk dX10_volume_366 ?_
                                    have hq : vol d = _ := vol_4 (by unfold gSig; omega) (by omega) (by unfold gOk1 gOk2; omega)
                                    exact ⟨_, _, _, _, _, _, _, _, congrArg iI hq.symm, rfl, fun h => absurd h (by omega)⟩
                                  · refine lv_aload_n C0.1 C0.2.1 dX10_volume_351 rfl (lv_at hl 6 rfl) ?_
                                    refine k_get C0 S (C := RX10) (T := TX10) (N := 26) (ci := 10) (by decide +kernel) 0 rfl rfl 10 (by decide) (by decide +kernel) (v := .int (iI (gRoot d))) rfl dX10_volume_352 ?_
                                    refine lv_aload_n C0.1 C0.2.1 dX10_volume_355 rfl (lv_at hl 6 rfl) ?_
                                    refine k_get C0 S (C := RX10) (T := TX10) (N := 26) (ci := 10) (by decide +kernel) 0 rfl rfl 9 (by decide) (by decide +kernel) (v := .int (iI (gN d))) rfl dX10_volume_356 ?_
                                    refine lv_iconst (v := iI (1)) C0.1 C0.2.1 dX10_volume_359 rfl ?_
                                    refine k_iadd C0 dX10_volume_360 ?_
                                    refine k_icmp_le (tgt := 367) C0 (by constructor <;> omega) (by constructor <;> omega) dX10_volume_361 (by decide) (fun c51 => ?_) (fun c51 => ?_)
                                    · refine lv_aload_n C0.1 C0.2.1 dX10_volume_367 rfl (lv_at hl 6 rfl) ?_
                                      refine k_get C0 S (C := RX10) (T := TX10) (N := 26) (ci := 10) (by decide +kernel) 0 rfl rfl 9 (by decide) (by decide +kernel) (v := .int (iI (gN d))) rfl dX10_volume_368 ?_
                                      subst hQ
                                      refine k_iret C0 S hAe hsz hr hlk dX10_volume_371 ?_
                                      have hN2 : gOk1 d ∧ gOk2 d := by unfold gOk1 gOk2; omega
                                      have hG : Good d := ⟨by unfold gSig; omega, by omega, hN2.1, hN2.2⟩
                                      exact ⟨_, _, _, _, _, _, _, _, congrArg iI (vol_of_good hG).symm, rfl, fun _ => ⟨rfl, rfl, rfl, rfl, rfl, rfl, rfl, rfl⟩⟩
                                    · refine lv_bipush (v := iI (-4)) C0.1 C0.2.1 dX10_volume_364 (by decide) ?_
                                      subst hQ
                                      refine k_iret C0 S hAe hsz hr hlk dX10_volume_366 ?_
                                      have hq : vol d = _ := vol_4 (by unfold gSig; omega) (by omega) (by unfold gOk1 gOk2; omega)
                                      exact ⟨_, _, _, _, _, _, _, _, congrArg iI hq.symm, rfl, fun h => absurd h (by omega)⟩
                            · have hng := gN_neg (d := d) (by omega) (by omega)
                              refine lv_iconst (v := iI (0)) C0.1 C0.2.1 dX10_volume_273 rfl ?_
                              refine lv_goto (tgt := 284) C0.1 C0.2.1 dX10_volume_274 (by decide) ?_
                              refine k_put (ws' := [(hM, .inr (10, [.ref aD, .ref aM, .int (iI (st)), .int (iI (chs d)), .int (iI (r4)), .int (iI (gT d)), .int (iI (gTS d)), .int (iI (gCS d)), .int (iI (r8)), .int (iI (0)), .int (iI (gRoot d)), .ref aX, .int (iI (tl)), .ref aP, .int (iI (pn)), .ref aQ, .int (iI (nc)), .ref aK, .ref aO, .ref aA, .int (iI (kl)), .int (iI (ol)), .int (iI (al)), .ref a1, .ref a2, .ref a3])), (aD, .inl (cA 0, 2048, .inl (fun y_ => iI (d y_))))]) C0 S (C := RX10) (T := TX10) (N := 26) (ci := 10) (by decide +kernel) tyX10 tyX10_ok nmX10 0 rfl rfl 9 (by decide) (by decide +kernel) rfl (v := .int (iI (0))) rfl rfl (Nat.le_of_ble_eq_true rfl) dX10_volume_284 rfl (fun H locs S => ?_)
                              refine lv_aload_n C0.1 C0.2.1 dX10_volume_287 rfl (lv_at hl 6 rfl) ?_
                              refine lv_bipush (v := iI (32)) C0.1 C0.2.1 dX10_volume_288 (by decide) ?_
                              refine lv_iload_n C0.1 C0.2.1 dX10_volume_290 rfl (lv_at hl 5 rfl) ?_
                              refine lv_iload C0.1 C0.2.1 dX10_volume_291 (lv_at hl 2 rfl) ?_
                              refine k_iadd C0 dX10_volume_293 ?_
                              refine k_imul C0 dX10_volume_294 ?_
                              refine k_topeq (v := iI (gTA d)) (congrArg iI gTA_m) ?_
                              refine k_put (ws' := [(hM, .inr (10, [.ref aD, .ref aM, .int (iI (st)), .int (iI (chs d)), .int (iI (gTA d)), .int (iI (gT d)), .int (iI (gTS d)), .int (iI (gCS d)), .int (iI (r8)), .int (iI (0)), .int (iI (gRoot d)), .ref aX, .int (iI (tl)), .ref aP, .int (iI (pn)), .ref aQ, .int (iI (nc)), .ref aK, .ref aO, .ref aA, .int (iI (kl)), .int (iI (ol)), .int (iI (al)), .ref a1, .ref a2, .ref a3])), (aD, .inl (cA 0, 2048, .inl (fun y_ => iI (d y_))))]) C0 S (C := RX10) (T := TX10) (N := 26) (ci := 10) (by decide +kernel) tyX10 tyX10_ok nmX10 0 rfl rfl 4 (by decide) (by decide +kernel) rfl (v := .int (iI (gTA d))) rfl rfl (Nat.le_of_ble_eq_true rfl) dX10_volume_295 rfl (fun H locs S => ?_)
                              refine lv_aload_n C0.1 C0.2.1 dX10_volume_298 rfl (lv_at hl 6 rfl) ?_
                              refine lv_aload_n C0.1 C0.2.1 dX10_volume_299 rfl (lv_at hl 6 rfl) ?_
                              refine k_get C0 S (C := RX10) (T := TX10) (N := 26) (ci := 10) (by decide +kernel) 0 rfl rfl 4 (by decide) (by decide +kernel) (v := .int (iI (gTA d))) rfl dX10_volume_300 ?_
                              refine lv_bipush (v := iI (32)) C0.1 C0.2.1 dX10_volume_303 (by decide) ?_
                              refine lv_aload_n C0.1 C0.2.1 dX10_volume_305 rfl (lv_at hl 6 rfl) ?_
                              refine k_get C0 S (C := RX10) (T := TX10) (N := 26) (ci := 10) (by decide +kernel) 0 rfl rfl 5 (by decide) (by decide +kernel) (v := .int (iI (gT d))) rfl dX10_volume_306 ?_
                              refine k_imul C0 dX10_volume_309 ?_
                              refine lv_aload_n C0.1 C0.2.1 dX10_volume_310 rfl (lv_at hl 6 rfl) ?_
                              refine k_get C0 S (C := RX10) (T := TX10) (N := 26) (ci := 10) (by decide +kernel) 0 rfl rfl 6 (by decide) (by decide +kernel) (v := .int (iI (gTS d))) rfl dX10_volume_311 ?_
                              refine k_imul C0 dX10_volume_314 ?_
                              refine k_iadd C0 dX10_volume_315 ?_
                              refine k_topeq (v := iI (gCA d)) (congrArg iI gCA_m) ?_
                              refine k_put (ws' := [(hM, .inr (10, [.ref aD, .ref aM, .int (iI (st)), .int (iI (chs d)), .int (iI (gTA d)), .int (iI (gT d)), .int (iI (gTS d)), .int (iI (gCS d)), .int (iI (gCA d)), .int (iI (0)), .int (iI (gRoot d)), .ref aX, .int (iI (tl)), .ref aP, .int (iI (pn)), .ref aQ, .int (iI (nc)), .ref aK, .ref aO, .ref aA, .int (iI (kl)), .int (iI (ol)), .int (iI (al)), .ref a1, .ref a2, .ref a3])), (aD, .inl (cA 0, 2048, .inl (fun y_ => iI (d y_))))]) C0 S (C := RX10) (T := TX10) (N := 26) (ci := 10) (by decide +kernel) tyX10 tyX10_ok nmX10 0 rfl rfl 8 (by decide) (by decide +kernel) rfl (v := .int (iI (gCA d))) rfl rfl (Nat.le_of_ble_eq_true rfl) dX10_volume_316 rfl (fun H locs S => ?_)
                              have e6 : gTB d = gTS d * 32 := rfl
                              refine lv_aload_n C0.1 C0.2.1 dX10_volume_319 rfl (lv_at hl 6 rfl) ?_
                              refine k_get C0 S (C := RX10) (T := TX10) (N := 26) (ci := 10) (by decide +kernel) 0 rfl rfl 9 (by decide) (by decide +kernel) (v := .int (iI (0))) rfl dX10_volume_320 ?_
                              refine lv_iconst (v := iI (1)) C0.1 C0.2.1 dX10_volume_323 rfl ?_
                              refine k_icmp_lt (tgt := 364) C0 ⟨by decide, by decide⟩ ⟨by decide, by decide⟩ dX10_volume_324 (by decide) (fun _ => ?_) (fun hc => absurd hc (by decide))
                              refine lv_bipush (v := iI (-4)) C0.1 C0.2.1 dX10_volume_364 (by decide) ?_
                              subst hQ
                              refine k_iret C0 S hAe hsz hr hlk dX10_volume_366 ?_
                              have hq : vol d = _ := vol_4 (by unfold gSig; omega) (by omega) (by unfold gOk1 gOk2; omega)
                              exact ⟨_, _, _, _, _, _, _, _, congrArg iI hq.symm, rfl, fun h => absurd h (by omega)⟩
                          · refine lv_bipush (v := iI (-4)) C0.1 C0.2.1 dX10_volume_248 (by decide) ?_
                            subst hQ
                            refine k_iret C0 S hAe hsz hr hlk dX10_volume_250 ?_
                            have hq : vol d = _ := vol_4 (by unfold gSig; omega) (by omega) (by unfold gOk1 gOk2; omega)
                            exact ⟨_, _, _, _, _, _, _, _, congrArg iI hq.symm, rfl, fun h => absurd h (by omega)⟩
      · refine lv_bipush (v := iI (-3)) C0.1 C0.2.1 dX10_volume_43 (by decide) ?_
        subst hQ
        refine k_iret C0 S hAe hsz hr hlk dX10_volume_45 ?_
        have hq : vol d = _ := vol_3 (by unfold gSig; omega) (by omega)
        exact ⟨_, _, _, _, _, _, _, _, congrArg iI hq.symm, rfl, fun h => absurd h (by omega)⟩
    · refine lv_bipush (v := iI (-2)) C0.1 C0.2.1 dX10_volume_25 (by decide) ?_
      subst hQ
      refine k_iret C0 S hAe hsz hr hlk dX10_volume_27 ?_
      have hq : vol d = _ := vol_2 (by unfold gSig; omega)
      exact ⟨_, _, _, _, _, _, _, _, congrArg iI hq.symm, rfl, fun h => absurd h (by omega)⟩
def rmX10_isCluster : Room := { frames := 0, cells := 0, slots := 0, locals := 0 }
set_option maxHeartbeats 4000000 in
set_option maxRecDepth 100000 in
theorem c_X10_isCluster (l : Launch) (D : va_G) (cA : Nat → ClassId) (hM aD aM aX aP aQ aK aO aA a1 a2 a3 : Nat) (st r3 r4 r5 r6 r7 r8 r9 r10 tl pn nc kl ol al : Int) (d : Nat → Int) (z : Int) (hz : ir z) (hN1 : -100000 ≤ r9) (hN2 : r9 ≤ 100000) : kCi l D vwCl (kTys cA) yX10_isCluster wsX10_isCluster rmX10_isCluster [.ref hM, .int (iI (z))] [(hM, .inr (10, [.ref aD, .ref aM, .int (iI (st)), .int (iI (r3)), .int (iI (r4)), .int (iI (r5)), .int (iI (r6)), .int (iI (r7)), .int (iI (r8)), .int (iI (r9)), .int (iI (r10)), .ref aX, .int (iI (tl)), .ref aP, .int (iI (pn)), .ref aQ, .int (iI (nc)), .ref aK, .ref aO, .ref aA, .int (iI (kl)), .int (iI (ol)), .int (iI (al)), .ref a1, .ref a2, .ref a3])), (aD, .inl (cA 0, 2048, .inl (fun y_ => iI (d y_))))] (fun r u => r = iI (bz (2 ≤ z ∧ z ≤ r9 + 1)) ∧ u = [(hM, .inr (10, [.ref aD, .ref aM, .int (iI (st)), .int (iI (r3)), .int (iI (r4)), .int (iI (r5)), .int (iI (r6)), .int (iI (r7)), .int (iI (r8)), .int (iI (r9)), .int (iI (r10)), .ref aX, .int (iI (tl)), .ref aP, .int (iI (pn)), .ref aQ, .int (iI (nc)), .ref aK, .ref aO, .ref aA, .int (iI (kl)), .int (iI (ol)), .int (iI (al)), .ref a1, .ref a2, .ref a3])), (aD, .inl (cA 0, 2048, .inl (fun y_ => iI (d y_))))]) := by
  intro sz
  refine kEntry (cc := cX10_isCluster) (maxL := 2) (ret := (some .boolean)) (by decide) rfl (Nat.le_of_ble_eq_true rfl) ?_
  intro p e s m args below meth c A Q hAe hQ C0 hr hlk S hsz ls hl
  have hl : lv_has ls 2 [(0, .ref hM), (1, .int (iI (z)))] := hl
  obtain ⟨hz1, hz2⟩ := hz
  refine lv_iload_n C0.1 C0.2.1 dX10_isCluster_0 rfl (lv_at hl 1 rfl) ?_
  refine lv_iconst (v := iI (2)) C0.1 C0.2.1 dX10_isCluster_1 rfl ?_
  refine k_icmp_lt (tgt := 19) C0 (by constructor <;> omega) ⟨by decide, by decide⟩ dX10_isCluster_2 (by decide) (fun c1 => ?_) (fun c1 => ?_)
  · refine lv_iconst (v := iI (0)) C0.1 C0.2.1 dX10_isCluster_19 rfl ?_
    subst hQ
    refine k_zret C0 S hAe hsz hr hlk (by rfl) dX10_isCluster_20 ?_
    exact ⟨congrArg iI (bz_f (by omega)).symm, rfl⟩
  · refine lv_iload_n C0.1 C0.2.1 dX10_isCluster_5 rfl (lv_at hl 1 rfl) ?_
    refine lv_aload_n C0.1 C0.2.1 dX10_isCluster_6 rfl (lv_at hl 0 rfl) ?_
    refine k_get C0 S (C := RX10) (T := TX10) (N := 26) (ci := 10) (by decide +kernel) 0 rfl rfl 9 (by decide) (by decide +kernel) (v := .int (iI (r9))) rfl dX10_isCluster_7 ?_
    refine lv_iconst (v := iI (1)) C0.1 C0.2.1 dX10_isCluster_10 rfl ?_
    refine k_iadd C0 dX10_isCluster_11 ?_
    refine k_icmp_gt (tgt := 19) C0 (by constructor <;> omega) (by constructor <;> omega) dX10_isCluster_12 (by decide) (fun c2 => ?_) (fun c2 => ?_)
    · refine lv_iconst (v := iI (0)) C0.1 C0.2.1 dX10_isCluster_19 rfl ?_
      subst hQ
      refine k_zret C0 S hAe hsz hr hlk (by rfl) dX10_isCluster_20 ?_
      exact ⟨congrArg iI (bz_f (by omega)).symm, rfl⟩
    · refine lv_iconst (v := iI (1)) C0.1 C0.2.1 dX10_isCluster_15 rfl ?_
      refine lv_goto (tgt := 20) C0.1 C0.2.1 dX10_isCluster_16 (by decide) ?_
      subst hQ
      refine k_zret C0 S hAe hsz hr hlk (by rfl) dX10_isCluster_20 ?_
      exact ⟨congrArg iI (bz_t (by omega)).symm, rfl⟩
def rmX10_behind : Room := { frames := 1, cells := 0, slots := 0, locals := 21 }
set_option maxHeartbeats 4000000 in
set_option maxRecDepth 100000 in
theorem c_X10_behind (l : Launch) (D : va_G) (cA : Nat → ClassId) (hM aD aM aX aP aQ aK aO aA a1 a2 a3 : Nat) (st tl pn nc kl ol al : Int) (d : Nat → Int) (z : Int) (hd : By d) (hB2 : gB d) (hz1 : 2 ≤ z) (hz2 : z ≤ gN d + 1) : kCi l D vwCl (kTys cA) yX10_behind wsX10_behind rmX10_behind [.ref hM, .int (iI (z))] [(hM, .inr (10, [.ref aD, .ref aM, .int (iI (st)), .int (iI (chs d)), .int (iI (gTA d)), .int (iI (gT d)), .int (iI (gTS d)), .int (iI (gCS d)), .int (iI (gCA d)), .int (iI (gN d)), .int (iI (gRoot d)), .ref aX, .int (iI (tl)), .ref aP, .int (iI (pn)), .ref aQ, .int (iI (nc)), .ref aK, .ref aO, .ref aA, .int (iI (kl)), .int (iI (ol)), .int (iI (al)), .ref a1, .ref a2, .ref a3])), (aD, .inl (cA 0, 2048, .inl (fun y_ => iI (d y_))))] (fun r u => r = iI (beh d z) ∧ u = [(hM, .inr (10, [.ref aD, .ref aM, .int (iI (st)), .int (iI (chs d)), .int (iI (gTA d)), .int (iI (gT d)), .int (iI (gTS d)), .int (iI (gCS d)), .int (iI (gCA d)), .int (iI (gN d)), .int (iI (gRoot d)), .ref aX, .int (iI (tl)), .ref aP, .int (iI (pn)), .ref aQ, .int (iI (nc)), .ref aK, .ref aO, .ref aA, .int (iI (kl)), .int (iI (ol)), .int (iI (al)), .ref a1, .ref a2, .ref a3])), (aD, .inl (cA 0, 2048, .inl (fun y_ => iI (d y_))))]) := by
  intro sz
  refine kEntry (cc := cX10_behind) (maxL := 3) (ret := (some .int)) (by decide) rfl (Nat.le_of_ble_eq_true rfl) ?_
  intro p e s m args below meth c A Q hAe hQ C0 hr hlk S hsz ls hl
  have hl : lv_has ls 3 [(0, .ref hM), (1, .int (iI (z)))] := hl
  have hlin := hB2.lin
  have e6 : gTB d = gTS d * 32 := rfl
  refine lv_aload_n C0.1 C0.2.1 dX10_behind_0 rfl (lv_at hl 0 rfl) ?_
  refine lv_aload_n C0.1 C0.2.1 dX10_behind_1 rfl (lv_at hl 0 rfl) ?_
  refine k_get C0 S (C := RX10) (T := TX10) (N := 26) (ci := 10) (by decide +kernel) 0 rfl rfl 4 (by decide) (by decide +kernel) (v := .int (iI (gTA d))) rfl dX10_behind_2 ?_
  refine lv_iconst (v := iI (2)) C0.1 C0.2.1 dX10_behind_5 rfl ?_
  refine lv_iload_n C0.1 C0.2.1 dX10_behind_6 rfl (lv_at hl 1 rfl) ?_
  refine k_imul C0 dX10_behind_7 ?_
  refine k_iadd C0 dX10_behind_8 ?_
  refine k_calli (n := 1) (wr := []) C0 S (c_X10_word l D cA hM aD aM aX aP aQ aK aO aA a1 a2 a3 (st) (chs d) (gTA d) (gT d) (gTS d) (gCS d) (gCA d) (gN d) (gRoot d) (tl) (pn) (nc) (kl) (ol) (al) d ((gTA d) + (2 * z)) hd (by omega) (by omega)) gX10_behind_X10_word rfl ⟨rfl, rfl⟩ (by decide +kernel) ⟨Nat.le_of_ble_eq_true rfl, Nat.le_of_ble_eq_true rfl⟩ [0, 1] [] rfl rfl rfl rfl (by decide) (ci := 10) (q0 := 0) rfl rfl (As := [.int (iI ((gTA d) + (2 * z)))]) rfl hl.1 rfl (Nat.le_of_ble_eq_true rfl) dX10_behind_9 ⟨Nat.zero_le _, Nat.zero_le _⟩ (fun r u H locs hp S => ?_)
  obtain ⟨rfl, rfl⟩ := hp
  have S := S.sub (ws' := [(hM, .inr (10, [.ref aD, .ref aM, .int (iI (st)), .int (iI (chs d)), .int (iI (gTA d)), .int (iI (gT d)), .int (iI (gTS d)), .int (iI (gCS d)), .int (iI (gCA d)), .int (iI (gN d)), .int (iI (gRoot d)), .ref aX, .int (iI (tl)), .ref aP, .int (iI (pn)), .ref aQ, .int (iI (nc)), .ref aK, .ref aO, .ref aA, .int (iI (kl)), .int (iI (ol)), .int (iI (al)), .ref a1, .ref a2, .ref a3])), (aD, .inl (cA 0, 2048, .inl (fun y_ => iI (d y_))))]) [0, 1] rfl rfl
  have hb3 := By_wrd hd ((gTA d) + (2 * z))
  refine lv_sipush (v := iI (4095)) C0.1 C0.2.1 dX10_behind_12 (by decide) ?_
  refine lv_iand C0.1 C0.2.1 dX10_behind_15 ?_
  refine k_topeq (v := iI (wrd d (gTA d + (2 * z)) % 4096)) (iI_and4095 (By_wrd hd _).1) ?_
  refine lv_istore_n (lv' := [(2, .int (iI (wrd d (gTA d + (2 * z)) % 4096))), (0, .ref hM), (1, .int (iI (z)))]) C0.1 C0.2.1 dX10_behind_16 rfl hl (by decide) rfl (fun ls hl => ?_)
  refine lv_aload_n C0.1 C0.2.1 dX10_behind_17 rfl (lv_at hl 1 rfl) ?_
  refine lv_iload_n C0.1 C0.2.1 dX10_behind_18 rfl (lv_at hl 0 rfl) ?_
  refine k_calli (n := 1) (wr := []) C0 S (c_X10_isCluster l D cA hM aD aM aX aP aQ aK aO aA a1 a2 a3 (st) (chs d) (gTA d) (gT d) (gTS d) (gCS d) (gCA d) (gN d) (gRoot d) (tl) (pn) (nc) (kl) (ol) (al) d (wrd d (gTA d + (2 * z)) % 4096) (by constructor <;> omega) (by omega) (by omega)) gX10_behind_X10_isCluster rfl ⟨rfl, rfl⟩ (by decide +kernel) ⟨Nat.le_of_ble_eq_true rfl, Nat.le_of_ble_eq_true rfl⟩ [0, 1] [] rfl rfl rfl rfl (by decide) (ci := 10) (q0 := 0) rfl rfl (As := [.int (iI (wrd d (gTA d + (2 * z)) % 4096))]) rfl hl.1 rfl (Nat.le_of_ble_eq_true rfl) dX10_behind_19 ⟨Nat.zero_le _, Nat.zero_le _⟩ (fun r u H locs hp S => ?_)
  obtain ⟨rfl, rfl⟩ := hp
  have S := S.sub (ws' := [(hM, .inr (10, [.ref aD, .ref aM, .int (iI (st)), .int (iI (chs d)), .int (iI (gTA d)), .int (iI (gT d)), .int (iI (gTS d)), .int (iI (gCS d)), .int (iI (gCA d)), .int (iI (gN d)), .int (iI (gRoot d)), .ref aX, .int (iI (tl)), .ref aP, .int (iI (pn)), .ref aQ, .int (iI (nc)), .ref aK, .ref aO, .ref aA, .int (iI (kl)), .int (iI (ol)), .int (iI (al)), .ref a1, .ref a2, .ref a3])), (aD, .inl (cA 0, 2048, .inl (fun y_ => iI (d y_))))]) [0, 1] rfl rfl
  refine k_bz_ne (tgt := 40) C0 dX10_behind_22 (by decide) (fun c6 => ?_) (fun c6 => ?_)
  · refine lv_iload_n C0.1 C0.2.1 dX10_behind_40 rfl (lv_at hl 0 rfl) ?_
    subst hQ
    refine k_iret C0 S hAe hsz hr hlk dX10_behind_41 ?_
    exact ⟨congrArg iI (beh_1 (Or.inl c6)).symm, rfl⟩
  · refine lv_iload_n C0.1 C0.2.1 dX10_behind_25 rfl (lv_at hl 0 rfl) ?_
    refine lv_sipush (v := iI (4088)) C0.1 C0.2.1 dX10_behind_26 (by decide) ?_
    refine k_icmp_ge (tgt := 40) C0 (by constructor <;> omega) ⟨by decide, by decide⟩ dX10_behind_29 (by decide) (fun c7 => ?_) (fun c7 => ?_)
    · refine lv_iload_n C0.1 C0.2.1 dX10_behind_40 rfl (lv_at hl 0 rfl) ?_
      subst hQ
      refine k_iret C0 S hAe hsz hr hlk dX10_behind_41 ?_
      exact ⟨congrArg iI (beh_1 (Or.inr (Or.inl c7))).symm, rfl⟩
    · refine lv_aload_n C0.1 C0.2.1 dX10_behind_32 rfl (lv_at hl 1 rfl) ?_
      refine k_get C0 S (C := RX10) (T := TX10) (N := 26) (ci := 10) (by decide +kernel) 0 rfl rfl 5 (by decide) (by decide +kernel) (v := .int (iI (gT d))) rfl dX10_behind_33 ?_
      refine lv_iconst (v := iI (1)) C0.1 C0.2.1 dX10_behind_36 rfl ?_
      refine k_icmp_ne (tgt := 42) C0 (by constructor <;> omega) ⟨by decide, by decide⟩ dX10_behind_37 (by decide) (fun c8 => ?_) (fun c8 => ?_)
      · refine lv_aload_n C0.1 C0.2.1 dX10_behind_42 rfl (lv_at hl 1 rfl) ?_
        refine lv_aload_n C0.1 C0.2.1 dX10_behind_43 rfl (lv_at hl 1 rfl) ?_
        refine k_get C0 S (C := RX10) (T := TX10) (N := 26) (ci := 10) (by decide +kernel) 0 rfl rfl 4 (by decide) (by decide +kernel) (v := .int (iI (gTA d))) rfl dX10_behind_44 ?_
        refine lv_bipush (v := iI (32)) C0.1 C0.2.1 dX10_behind_47 (by decide) ?_
        refine lv_aload_n C0.1 C0.2.1 dX10_behind_49 rfl (lv_at hl 1 rfl) ?_
        refine k_get C0 S (C := RX10) (T := TX10) (N := 26) (ci := 10) (by decide +kernel) 0 rfl rfl 6 (by decide) (by decide +kernel) (v := .int (iI (gTS d))) rfl dX10_behind_50 ?_
        refine k_imul C0 dX10_behind_53 ?_
        refine k_iadd C0 dX10_behind_54 ?_
        refine lv_iconst (v := iI (2)) C0.1 C0.2.1 dX10_behind_55 rfl ?_
        refine lv_iload_n C0.1 C0.2.1 dX10_behind_56 rfl (lv_at hl 2 rfl) ?_
        refine k_imul C0 dX10_behind_57 ?_
        refine k_iadd C0 dX10_behind_58 ?_
        refine k_calli (n := 1) (wr := []) C0 S (c_X10_word l D cA hM aD aM aX aP aQ aK aO aA a1 a2 a3 (st) (chs d) (gTA d) (gT d) (gTS d) (gCS d) (gCA d) (gN d) (gRoot d) (tl) (pn) (nc) (kl) (ol) (al) d (((gTA d) + (32 * (gTS d))) + (2 * z)) hd (by omega) (by omega)) gX10_behind_X10_word rfl ⟨rfl, rfl⟩ (by decide +kernel) ⟨Nat.le_of_ble_eq_true rfl, Nat.le_of_ble_eq_true rfl⟩ [0, 1] [] rfl rfl rfl rfl (by decide) (ci := 10) (q0 := 0) rfl rfl (As := [.int (iI (((gTA d) + (32 * (gTS d))) + (2 * z)))]) rfl hl.1 rfl (Nat.le_of_ble_eq_true rfl) dX10_behind_59 ⟨Nat.zero_le _, Nat.zero_le _⟩ (fun r u H locs hp S => ?_)
        obtain ⟨rfl, rfl⟩ := hp
        have S := S.sub (ws' := [(hM, .inr (10, [.ref aD, .ref aM, .int (iI (st)), .int (iI (chs d)), .int (iI (gTA d)), .int (iI (gT d)), .int (iI (gTS d)), .int (iI (gCS d)), .int (iI (gCA d)), .int (iI (gN d)), .int (iI (gRoot d)), .ref aX, .int (iI (tl)), .ref aP, .int (iI (pn)), .ref aQ, .int (iI (nc)), .ref aK, .ref aO, .ref aA, .int (iI (kl)), .int (iI (ol)), .int (iI (al)), .ref a1, .ref a2, .ref a3])), (aD, .inl (cA 0, 2048, .inl (fun y_ => iI (d y_))))]) [0, 1] rfl rfl
        have hb11 := By_wrd hd (((gTA d) + (32 * (gTS d))) + (2 * z))
        refine k_topeq (v := iI (wrd d (gTA d + 2 * z + gTB d))) (congrArg (fun q => iI (wrd d q)) (by omega)) ?_
        refine lv_sipush (v := iI (4095)) C0.1 C0.2.1 dX10_behind_62 (by decide) ?_
        refine lv_iand C0.1 C0.2.1 dX10_behind_65 ?_
        refine k_topeq (v := iI (wrd d (gTA d + 2 * z + gTB d) % 4096)) (iI_and4095 (By_wrd hd _).1) ?_
        subst hQ
        refine k_iret C0 S hAe hsz hr hlk dX10_behind_66 ?_
        exact ⟨congrArg iI (beh_2 c6 c7 c8).symm, rfl⟩
      · refine lv_iload_n C0.1 C0.2.1 dX10_behind_40 rfl (lv_at hl 0 rfl) ?_
        subst hQ
        refine k_iret C0 S hAe hsz hr hlk dX10_behind_41 ?_
        exact ⟨congrArg iI (beh_1 (Or.inr (Or.inr c8))).symm, rfl⟩
def rmX10_chain : Room := { frames := 2, cells := 0, slots := 0, locals := 43 }
set_option maxHeartbeats 4000000 in
set_option maxRecDepth 100000 in
theorem c_X10_chain (l : Launch) (D : va_G) (cA : Nat → ClassId) (hM aD aM aX aP aQ aK aO aA a1 a2 a3 : Nat) (st tl pn nc kl ol al : Int) (d : Nat → Int) (first : Int) (hd : By d) (hB2 : gB d) (hf1 : 0 ≤ first) (hf2 : first < 256) : kCi l D vwCl (kTys cA) yX10_chain wsX10_chain rmX10_chain [.ref hM, .int (iI (first))] [(hM, .inr (10, [.ref aD, .ref aM, .int (iI (st)), .int (iI (chs d)), .int (iI (gTA d)), .int (iI (gT d)), .int (iI (gTS d)), .int (iI (gCS d)), .int (iI (gCA d)), .int (iI (gN d)), .int (iI (gRoot d)), .ref aX, .int (iI (tl)), .ref aP, .int (iI (pn)), .ref aQ, .int (iI (nc)), .ref aK, .ref aO, .ref aA, .int (iI (kl)), .int (iI (ol)), .int (iI (al)), .ref a1, .ref a2, .ref a3])), (aD, .inl (cA 0, 2048, .inl (fun y_ => iI (d y_))))] (fun r u => r = iI (chn d first) ∧ u = [(hM, .inr (10, [.ref aD, .ref aM, .int (iI (st)), .int (iI (chs d)), .int (iI (gTA d)), .int (iI (gT d)), .int (iI (gTS d)), .int (iI (gCS d)), .int (iI (gCA d)), .int (iI (gN d)), .int (iI (gRoot d)), .ref aX, .int (iI (tl)), .ref aP, .int (iI (pn)), .ref aQ, .int (iI (nc)), .ref aK, .ref aO, .ref aA, .int (iI (kl)), .int (iI (ol)), .int (iI (al)), .ref a1, .ref a2, .ref a3])), (aD, .inl (cA 0, 2048, .inl (fun y_ => iI (d y_))))]) := by
  intro sz
  refine kEntry (cc := cX10_chain) (maxL := 4) (ret := (some .int)) (by decide) rfl (Nat.le_of_ble_eq_true rfl) ?_
  intro p e s m args below meth c A Q hAe hQ C0 hr hlk S hsz ls hl
  have hl : lv_has ls 4 [(0, .ref hM), (1, .int (iI (first)))] := hl
  have hlin := hB2.lin
  refine lv_iload_n C0.1 C0.2.1 dX10_chain_0 rfl (lv_at hl 1 rfl) ?_
  refine lv_istore_n (lv' := [(2, .int (iI (first))), (0, .ref hM), (1, .int (iI (first)))]) C0.1 C0.2.1 dX10_chain_1 rfl hl (by decide) rfl (fun ls hl => ?_)
  refine lv_iconst (v := iI (0)) C0.1 C0.2.1 dX10_chain_2 rfl ?_
  refine lv_istore_n (lv' := [(3, .int (iI (0))), (2, .int (iI (first))), (0, .ref hM), (1, .int (iI (first)))]) C0.1 C0.2.1 dX10_chain_3 rfl hl (by decide) rfl (fun ls hl => ?_)
  have L4 : ∀ (n_ : Nat) (m2 : Nat) (k : Int), ((m2 : Int) ≤ gN d + 1) → (chn d first = chnF d ((gN d).toNat + 1 - m2) m2 k) → (0 ≤ k ∧ k < 4096) → ((gN d).toNat + 1 - m2 < n_) → ∀ (H : Heap) (locs : List Loc), kS D vwCl (kTys cA) A s [(hM, .inr (10, [.ref aD, .ref aM, .int (iI (st)), .int (iI (chs d)), .int (iI (gTA d)), .int (iI (gT d)), .int (iI (gTS d)), .int (iI (gCS d)), .int (iI (gCA d)), .int (iI (gN d)), .int (iI (gRoot d)), .ref aX, .int (iI (tl)), .ref aP, .int (iI (pn)), .ref aQ, .int (iI (nc)), .ref aK, .ref aO, .ref aA, .int (iI (kl)), .int (iI (ol)), .int (iI (al)), .ref a1, .ref a2, .ref a3])), (aD, .inl (cA 0, 2048, .inl (fun y_ => iI (d y_))))] H locs → ∀ ls : Array Slot, lv_has ls 4 [(3, .int (iI ((m2 : Int)))), (2, .int (iI (k))), (0, .ref hM), (1, .int (iI (first)))] → W p l e rmX10_chain s m args below meth c H locs 0 0 Q (F0 m 4 ls []) := by
    intro n_
    induction n_ with
    | zero => intro m2 k hi4_0 hi4_1 hi4_2 hm; exact absurd hm (Nat.not_lt_zero _)
    | succ n_ ih4 =>
      intro m2 k hi4_0 hi4_1 hi4_2 hm H locs S ls hl
      refine lv_iload_n C0.1 C0.2.1 dX10_chain_4 rfl (lv_at hl 0 rfl) ?_
      refine lv_aload_n C0.1 C0.2.1 dX10_chain_5 rfl (lv_at hl 2 rfl) ?_
      refine k_get C0 S (C := RX10) (T := TX10) (N := 26) (ci := 10) (by decide +kernel) 0 rfl rfl 9 (by decide) (by decide +kernel) (v := .int (iI (gN d))) rfl dX10_chain_6 ?_
      refine k_icmp_gt (tgt := 49) C0 (by constructor <;> omega) (by constructor <;> omega) dX10_chain_9 (by decide) (fun c9 => ?_) (fun c9 => ?_)
      · refine lv_iconst (v := iI (-1)) C0.1 C0.2.1 dX10_chain_49 rfl ?_
        subst hQ
        refine k_iret C0 S hAe hsz hr hlk dX10_chain_50 ?_
        exact ⟨congrArg iI (by rw [hi4_1, show (gN d).toNat + 1 - m2 = 0 by omega]; rfl), rfl⟩
      · refine lv_aload_n C0.1 C0.2.1 dX10_chain_12 rfl (lv_at hl 2 rfl) ?_
        refine lv_iload_n C0.1 C0.2.1 dX10_chain_13 rfl (lv_at hl 1 rfl) ?_
        refine k_calli (n := 1) (wr := []) C0 S (c_X10_isCluster l D cA hM aD aM aX aP aQ aK aO aA a1 a2 a3 (st) (chs d) (gTA d) (gT d) (gTS d) (gCS d) (gCA d) (gN d) (gRoot d) (tl) (pn) (nc) (kl) (ol) (al) d (k) (by constructor <;> omega) (by omega) (by omega)) gX10_chain_X10_isCluster rfl ⟨rfl, rfl⟩ (by decide +kernel) ⟨Nat.le_of_ble_eq_true rfl, Nat.le_of_ble_eq_true rfl⟩ [0, 1] [] rfl rfl rfl rfl (by decide) (ci := 10) (q0 := 0) rfl rfl (As := [.int (iI (k))]) rfl hl.1 rfl (Nat.le_of_ble_eq_true rfl) dX10_chain_14 ⟨Nat.zero_le _, Nat.zero_le _⟩ (fun r u H locs hp S => ?_)
        obtain ⟨rfl, rfl⟩ := hp
        have S := S.sub (ws' := [(hM, .inr (10, [.ref aD, .ref aM, .int (iI (st)), .int (iI (chs d)), .int (iI (gTA d)), .int (iI (gT d)), .int (iI (gTS d)), .int (iI (gCS d)), .int (iI (gCA d)), .int (iI (gN d)), .int (iI (gRoot d)), .ref aX, .int (iI (tl)), .ref aP, .int (iI (pn)), .ref aQ, .int (iI (nc)), .ref aK, .ref aO, .ref aA, .int (iI (kl)), .int (iI (ol)), .int (iI (al)), .ref a1, .ref a2, .ref a3])), (aD, .inl (cA 0, 2048, .inl (fun y_ => iI (d y_))))]) [0, 1] rfl rfl
        refine k_bz_ne (tgt := 37) C0 dX10_chain_17 (by decide) (fun c17 => ?_) (fun c17 => ?_)
        · refine lv_aload_n C0.1 C0.2.1 dX10_chain_37 rfl (lv_at hl 2 rfl) ?_
          refine lv_iload_n C0.1 C0.2.1 dX10_chain_38 rfl (lv_at hl 1 rfl) ?_
          refine k_calli (n := 1) (wr := []) C0 S (c_X10_behind l D cA hM aD aM aX aP aQ aK aO aA a1 a2 a3 (st) (tl) (pn) (nc) (kl) (ol) (al) d (k) hd hB2 (by omega) (by omega)) gX10_chain_X10_behind rfl ⟨rfl, rfl⟩ (by decide +kernel) ⟨Nat.le_of_ble_eq_true rfl, Nat.le_of_ble_eq_true rfl⟩ [0, 1] [] rfl rfl rfl rfl (by decide) (ci := 10) (q0 := 0) rfl rfl (As := [.int (iI (k))]) rfl hl.1 rfl (Nat.le_of_ble_eq_true rfl) dX10_chain_39 ⟨Nat.zero_le _, Nat.zero_le _⟩ (fun r u H locs hp S => ?_)
          obtain ⟨rfl, rfl⟩ := hp
          have S := S.sub (ws' := [(hM, .inr (10, [.ref aD, .ref aM, .int (iI (st)), .int (iI (chs d)), .int (iI (gTA d)), .int (iI (gT d)), .int (iI (gTS d)), .int (iI (gCS d)), .int (iI (gCA d)), .int (iI (gN d)), .int (iI (gRoot d)), .ref aX, .int (iI (tl)), .ref aP, .int (iI (pn)), .ref aQ, .int (iI (nc)), .ref aK, .ref aO, .ref aA, .int (iI (kl)), .int (iI (ol)), .int (iI (al)), .ref a1, .ref a2, .ref a3])), (aD, .inl (cA 0, 2048, .inl (fun y_ => iI (d y_))))]) [0, 1] rfl rfl
          have hb5 := beh_range (d := d) (k)
          refine lv_istore_n (lv' := [(2, .int (iI (beh d (k)))), (3, .int (iI ((m2 : Int)))), (0, .ref hM), (1, .int (iI (first)))]) C0.1 C0.2.1 dX10_chain_42 rfl hl (by decide) rfl (fun ls hl => ?_)
          refine lv_iinc (v := iI ((m2 : Int) + 1)) (lv' := [(3, .int (iI ((m2 : Int) + 1))), (2, .int (iI (beh d (k)))), (0, .ref hM), (1, .int (iI (first)))]) C0.1 C0.2.1 dX10_chain_43 hl (k := 1) rfl (iI_add _ _) (by decide) rfl (fun ls hl => ?_)
          refine lv_goto (tgt := 4) C0.1 C0.2.1 dX10_chain_46 (by decide) ?_
          exact ih4 (m2 + 1) (beh d k) (by omega) (by rw [hi4_1, show (gN d).toNat + 1 - m2 = ((gN d).toNat + 1 - (m2 + 1)) + 1 by omega, chnF_cl c17]; rfl) ⟨by omega, by omega⟩ (by omega) _ _ S _ (lv_sub hl [0, 1, 2, 3] rfl)
        · refine lv_iload_n C0.1 C0.2.1 dX10_chain_20 rfl (lv_at hl 0 rfl) ?_
          refine k_if_le (tgt := 35) C0 (by constructor <;> omega) dX10_chain_21 (by decide) (fun c21 => ?_) (fun c21 => ?_)
          · refine lv_iconst (v := iI (-1)) C0.1 C0.2.1 dX10_chain_35 rfl ?_
            subst hQ
            refine k_iret C0 S hAe hsz hr hlk dX10_chain_36 ?_
            exact ⟨congrArg iI (by rw [hi4_1, show (gN d).toNat + 1 - m2 = ((gN d).toNat - m2) + 1 by omega]; exact (chnF_bad c17 (by omega)).symm), rfl⟩
          · refine lv_iload_n C0.1 C0.2.1 dX10_chain_24 rfl (lv_at hl 1 rfl) ?_
            refine lv_sipush (v := iI (4088)) C0.1 C0.2.1 dX10_chain_25 (by decide) ?_
            refine k_icmp_lt (tgt := 35) C0 (by constructor <;> omega) ⟨by decide, by decide⟩ dX10_chain_28 (by decide) (fun c28 => ?_) (fun c28 => ?_)
            · refine lv_iconst (v := iI (-1)) C0.1 C0.2.1 dX10_chain_35 rfl ?_
              subst hQ
              refine k_iret C0 S hAe hsz hr hlk dX10_chain_36 ?_
              exact ⟨congrArg iI (by rw [hi4_1, show (gN d).toNat + 1 - m2 = ((gN d).toNat - m2) + 1 by omega]; exact (chnF_bad c17 (by omega)).symm), rfl⟩
            · refine lv_iload_n C0.1 C0.2.1 dX10_chain_31 rfl (lv_at hl 0 rfl) ?_
              refine lv_goto (tgt := 36) C0.1 C0.2.1 dX10_chain_32 (by decide) ?_
              subst hQ
              refine k_iret C0 S hAe hsz hr hlk dX10_chain_36 ?_
              exact ⟨congrArg iI (by rw [hi4_1, show (gN d).toNat + 1 - m2 = ((gN d).toNat - m2) + 1 by omega]; exact (chnF_end c17 (by omega) (by omega)).symm), rfl⟩
  exact L4 ((gN d).toNat + 2) (0) (first) (by omega) rfl ⟨by omega, by omega⟩ (by omega) _ _ S _ (lv_sub hl [0, 1, 2, 3] rfl)
theorem chnF_ge (d : Nat → Int) : ∀ (f : Nat) (m k : Int), 0 ≤ m → -1 ≤ chnF d f m k := by
  intro f
  induction f with
  | zero => intro m k _; exact Int.le_refl _
  | succ f ih =>
    intro m k hm
    by_cases h : isCl d k
    · rw [chnF_cl h]; exact ih _ _ (by omega)
    · by_cases h2 : 0 < m ∧ 4088 ≤ k
      · rw [chnF_end h h2.1 h2.2]; omega
      · rw [chnF_bad h h2]; decide
theorem chn_ge (d : Nat → Int) (first : Int) : -1 ≤ chn d first := chnF_ge d _ _ _ (by decide)
def rmX10_place : Room := { frames := 2, cells := 0, slots := 0, locals := 43 }
set_option maxHeartbeats 4000000 in
set_option maxRecDepth 100000 in
theorem c_X10_place (l : Launch) (D : va_G) (cA : Nat → ClassId) (hM aD aM aX aP aQ aK aO aA a1 a2 a3 : Nat) (st tl pn nc kl ol al : Int) (d : Nat → Int) (first z : Int) (hd : By d) (hB2 : gB d) (hf1 : 0 ≤ first) (hf2 : first < 4096) (hc : 0 ≤ chn d first) (hz1 : 0 ≤ z) (hz2 : z < chn d first * gSz d) : kCi l D vwCl (kTys cA) yX10_place wsX10_place rmX10_place [.ref hM, .int (iI (first)), .int (iI (z))] [(hM, .inr (10, [.ref aD, .ref aM, .int (iI (st)), .int (iI (chs d)), .int (iI (gTA d)), .int (iI (gT d)), .int (iI (gTS d)), .int (iI (gCS d)), .int (iI (gCA d)), .int (iI (gN d)), .int (iI (gRoot d)), .ref aX, .int (iI (tl)), .ref aP, .int (iI (pn)), .ref aQ, .int (iI (nc)), .ref aK, .ref aO, .ref aA, .int (iI (kl)), .int (iI (ol)), .int (iI (al)), .ref a1, .ref a2, .ref a3])), (aD, .inl (cA 0, 2048, .inl (fun y_ => iI (d y_))))] (fun r u => r = iI (plc d first z) ∧ u = [(hM, .inr (10, [.ref aD, .ref aM, .int (iI (st)), .int (iI (chs d)), .int (iI (gTA d)), .int (iI (gT d)), .int (iI (gTS d)), .int (iI (gCS d)), .int (iI (gCA d)), .int (iI (gN d)), .int (iI (gRoot d)), .ref aX, .int (iI (tl)), .ref aP, .int (iI (pn)), .ref aQ, .int (iI (nc)), .ref aK, .ref aO, .ref aA, .int (iI (kl)), .int (iI (ol)), .int (iI (al)), .ref a1, .ref a2, .ref a3])), (aD, .inl (cA 0, 2048, .inl (fun y_ => iI (d y_))))]) := by
  intro sz
  refine kEntry (cc := cX10_place) (maxL := 6) (ret := (some .int)) (by decide) rfl (Nat.le_of_ble_eq_true rfl) ?_
  intro p e s m args below meth c A Q hAe hQ C0 hr hlk S hsz ls hl
  have hl : lv_has ls 6 [(0, .ref hM), (1, .int (iI (first))), (2, .int (iI (z)))] := hl
  have hlin := hB2.lin
  obtain ⟨ha, hall⟩ := chn_all hB2 hc
  obtain ⟨hp, ⟨hq1, hq2⟩, -⟩ := plc_range hB2 hc hz1 hz2
  have hz3 : z < 16384 := by rcases hlin.2.2.2.2.2.2.1 with e | e | e <;> rw [e] at hz2 <;> omega
  refine lv_bipush (v := iI (32)) C0.1 C0.2.1 dX10_place_0 (by decide) ?_
  refine lv_aload_n C0.1 C0.2.1 dX10_place_2 rfl (lv_at hl 0 rfl) ?_
  refine k_get C0 S (C := RX10) (T := TX10) (N := 26) (ci := 10) (by decide +kernel) 0 rfl rfl 7 (by decide) (by decide +kernel) (v := .int (iI (gCS d))) rfl dX10_place_3 ?_
  refine k_imul C0 dX10_place_6 ?_
  refine k_topeq (v := iI (gSz d)) (congrArg iI gSz_m) ?_
  refine lv_istore_n (lv' := [(3, .int (iI (gSz d))), (0, .ref hM), (1, .int (iI (first))), (2, .int (iI (z)))]) C0.1 C0.2.1 dX10_place_7 rfl hl (by decide) rfl (fun ls hl => ?_)
  refine lv_iload_n C0.1 C0.2.1 dX10_place_8 rfl (lv_at hl 2 rfl) ?_
  refine lv_istore (lv' := [(4, .int (iI (first))), (3, .int (iI (gSz d))), (0, .ref hM), (1, .int (iI (first))), (2, .int (iI (z)))]) C0.1 C0.2.1 dX10_place_9 hl (by decide) rfl (fun ls hl => ?_)
  refine lv_iload_n C0.1 C0.2.1 dX10_place_11 rfl (lv_at hl 4 rfl) ?_
  refine lv_iload_n C0.1 C0.2.1 dX10_place_12 rfl (lv_at hl 1 rfl) ?_
  refine k_idiv C0 (by constructor <;> omega) (by omega) (by omega) dX10_place_13 ?_
  refine k_topeq (v := iI (z / gSz d)) (congrArg iI (Int.tdiv_eq_ediv_of_nonneg hz1)) ?_
  refine lv_istore (lv' := [(5, .int (iI (z / gSz d))), (4, .int (iI (first))), (3, .int (iI (gSz d))), (0, .ref hM), (1, .int (iI (first))), (2, .int (iI (z)))]) C0.1 C0.2.1 dX10_place_14 hl (by decide) rfl (fun ls hl => ?_)
  have L16 : ∀ (n_ : Nat) (j : Nat) (x : Int), (x = z / gSz d - (j : Int)) → (0 ≤ x) → (x.toNat < n_) → ∀ (H : Heap) (locs : List Loc), kS D vwCl (kTys cA) A s [(hM, .inr (10, [.ref aD, .ref aM, .int (iI (st)), .int (iI (chs d)), .int (iI (gTA d)), .int (iI (gT d)), .int (iI (gTS d)), .int (iI (gCS d)), .int (iI (gCA d)), .int (iI (gN d)), .int (iI (gRoot d)), .ref aX, .int (iI (tl)), .ref aP, .int (iI (pn)), .ref aQ, .int (iI (nc)), .ref aK, .ref aO, .ref aA, .int (iI (kl)), .int (iI (ol)), .int (iI (al)), .ref a1, .ref a2, .ref a3])), (aD, .inl (cA 0, 2048, .inl (fun y_ => iI (d y_))))] H locs → ∀ ls : Array Slot, lv_has ls 6 [(5, .int (iI (x))), (4, .int (iI (kth d first j))), (3, .int (iI (gSz d))), (0, .ref hM), (1, .int (iI (first))), (2, .int (iI (z)))] → W p l e rmX10_place s m args below meth c H locs 0 0 Q (F0 m 16 ls []) := by
    intro n_
    induction n_ with
    | zero => intro j x hi16_0 hi16_1 hm; exact absurd hm (Nat.not_lt_zero _)
    | succ n_ ih16 =>
      intro j x hi16_0 hi16_1 hm H locs S ls hl
      refine lv_iload C0.1 C0.2.1 dX10_place_16 (lv_at hl 0 rfl) ?_
      refine k_if_le (tgt := 35) C0 (by constructor <;> omega) dX10_place_18 (by decide) (fun c18 => ?_) (fun c18 => ?_)
      · refine lv_aload_n C0.1 C0.2.1 dX10_place_35 rfl (lv_at hl 3 rfl) ?_
        refine k_get C0 S (C := RX10) (T := TX10) (N := 26) (ci := 10) (by decide +kernel) 0 rfl rfl 8 (by decide) (by decide +kernel) (v := .int (iI (gCA d))) rfl dX10_place_36 ?_
        refine lv_iload C0.1 C0.2.1 dX10_place_39 (lv_at hl 1 rfl) ?_
        refine lv_iconst (v := iI (2)) C0.1 C0.2.1 dX10_place_41 rfl ?_
        refine k_isub C0 dX10_place_42 ?_
        refine lv_iload_n C0.1 C0.2.1 dX10_place_43 rfl (lv_at hl 2 rfl) ?_
        refine k_imul C0 dX10_place_44 ?_
        refine k_iadd C0 dX10_place_45 ?_
        refine lv_iload_n C0.1 C0.2.1 dX10_place_46 rfl (lv_at hl 5 rfl) ?_
        refine lv_iload_n C0.1 C0.2.1 dX10_place_47 rfl (lv_at hl 2 rfl) ?_
        refine k_irem C0 (by constructor <;> omega) (by omega) (by omega) dX10_place_48 ?_
        refine k_topeq (v := iI (z % gSz d)) (congrArg iI (by rw [Int.tdiv_eq_ediv_of_nonneg hz1, Int.emod_def, Int.mul_comm])) ?_
        refine k_iadd C0 dX10_place_49 ?_
        subst hQ
        refine k_iret C0 S hAe hsz hr hlk dX10_place_50 ?_
        exact ⟨congrArg iI (by rw [show j = (z / gSz d).toNat by omega]; rfl), rfl⟩
      · obtain ⟨hk1, hk2⟩ := hall j (by omega)
        refine lv_aload_n C0.1 C0.2.1 dX10_place_21 rfl (lv_at hl 3 rfl) ?_
        refine lv_iload C0.1 C0.2.1 dX10_place_22 (lv_at hl 1 rfl) ?_
        refine k_calli (n := 1) (wr := []) C0 S (c_X10_behind l D cA hM aD aM aX aP aQ aK aO aA a1 a2 a3 (st) (tl) (pn) (nc) (kl) (ol) (al) d (kth d first j) hd hB2 (by omega) (by omega)) gX10_place_X10_behind rfl ⟨rfl, rfl⟩ (by decide +kernel) ⟨Nat.le_of_ble_eq_true rfl, Nat.le_of_ble_eq_true rfl⟩ [0, 1] [] rfl rfl rfl rfl (by decide) (ci := 10) (q0 := 0) rfl rfl (As := [.int (iI (kth d first j))]) rfl hl.1 rfl (Nat.le_of_ble_eq_true rfl) dX10_place_24 ⟨Nat.zero_le _, Nat.zero_le _⟩ (fun r u H locs hp S => ?_)
        obtain ⟨rfl, rfl⟩ := hp
        have S := S.sub (ws' := [(hM, .inr (10, [.ref aD, .ref aM, .int (iI (st)), .int (iI (chs d)), .int (iI (gTA d)), .int (iI (gT d)), .int (iI (gTS d)), .int (iI (gCS d)), .int (iI (gCA d)), .int (iI (gN d)), .int (iI (gRoot d)), .ref aX, .int (iI (tl)), .ref aP, .int (iI (pn)), .ref aQ, .int (iI (nc)), .ref aK, .ref aO, .ref aA, .int (iI (kl)), .int (iI (ol)), .int (iI (al)), .ref a1, .ref a2, .ref a3])), (aD, .inl (cA 0, 2048, .inl (fun y_ => iI (d y_))))]) [0, 1] rfl rfl
        have hb3 := beh_range (d := d) (kth d first j)
        refine lv_istore (lv' := [(4, .int (iI (beh d (kth d first j)))), (5, .int (iI (x))), (3, .int (iI (gSz d))), (0, .ref hM), (1, .int (iI (first))), (2, .int (iI (z)))]) C0.1 C0.2.1 dX10_place_27 hl (by decide) rfl (fun ls hl => ?_)
        refine lv_iinc (v := iI (x - 1)) (lv' := [(5, .int (iI (x - 1))), (4, .int (iI (beh d (kth d first j)))), (3, .int (iI (gSz d))), (0, .ref hM), (1, .int (iI (first))), (2, .int (iI (z)))]) C0.1 C0.2.1 dX10_place_29 hl (k := 1) rfl (iI_addn _ _) (by decide) rfl (fun ls hl => ?_)
        refine lv_goto (tgt := 16) C0.1 C0.2.1 dX10_place_32 (by decide) ?_
        exact ih16 (j + 1) (x - 1) (by omega) (by omega) (by omega) _ _ S _ (lv_sub hl [0, 1, 2, 3, 4, 5] rfl)
  exact L16 ((z / gSz d).toNat + 1) (0) (z / gSz d) (by omega) (by omega) (by omega) _ _ S _ (lv_sub hl [0, 1, 2, 3, 4, 5] rfl)
def rmX10_isPassed : Room := { frames := 0, cells := 0, slots := 0, locals := 0 }
set_option maxHeartbeats 4000000 in
set_option maxRecDepth 100000 in
theorem c_X10_isPassed (l : Launch) (D : va_G) (cA : Nat → ClassId) (hM aD aM aX aP aQ aK aO aA a1 a2 a3 : Nat) (st r3 r4 r5 r6 r7 r8 r9 r10 tl pn nc kl ol al : Int) (d : Nat → Int) (z : Int) (hd : By d) (hz1 : 0 ≤ z) (hz2 : z + 8 ≤ 2048) : kCi l D vwCl (kTys cA) yX10_isPassed wsX10_isPassed rmX10_isPassed [.ref hM, .int (iI (z))] [(hM, .inr (10, [.ref aD, .ref aM, .int (iI (st)), .int (iI (r3)), .int (iI (r4)), .int (iI (r5)), .int (iI (r6)), .int (iI (r7)), .int (iI (r8)), .int (iI (r9)), .int (iI (r10)), .ref aX, .int (iI (tl)), .ref aP, .int (iI (pn)), .ref aQ, .int (iI (nc)), .ref aK, .ref aO, .ref aA, .int (iI (kl)), .int (iI (ol)), .int (iI (al)), .ref a1, .ref a2, .ref a3])), (aD, .inl (cA 0, 2048, .inl (fun y_ => iI (d y_))))] (fun r u => r = iI (bz (pas d z)) ∧ u = [(hM, .inr (10, [.ref aD, .ref aM, .int (iI (st)), .int (iI (r3)), .int (iI (r4)), .int (iI (r5)), .int (iI (r6)), .int (iI (r7)), .int (iI (r8)), .int (iI (r9)), .int (iI (r10)), .ref aX, .int (iI (tl)), .ref aP, .int (iI (pn)), .ref aQ, .int (iI (nc)), .ref aK, .ref aO, .ref aA, .int (iI (kl)), .int (iI (ol)), .int (iI (al)), .ref a1, .ref a2, .ref a3])), (aD, .inl (cA 0, 2048, .inl (fun y_ => iI (d y_))))]) := by
  intro sz
  refine kEntry (cc := cX10_isPassed) (maxL := 2) (ret := (some .boolean)) (by decide) rfl (Nat.le_of_ble_eq_true rfl) ?_
  intro p e s m args below meth c A Q hAe hQ C0 hr hlk S hsz ls hl
  have hl : lv_has ls 2 [(0, .ref hM), (1, .int (iI (z)))] := hl
  refine lv_aload_n C0.1 C0.2.1 dX10_isPassed_0 rfl (lv_at hl 0 rfl) ?_
  refine k_get C0 S (C := RX10) (T := TX10) (N := 26) (ci := 10) (by decide +kernel) 0 rfl rfl 0 (by decide) (by decide +kernel) (v := .ref aD) rfl dX10_isPassed_1 ?_
  refine lv_iload_n C0.1 C0.2.1 dX10_isPassed_4 rfl (lv_at hl 1 rfl) ?_
  refine k_iald C0 S 1 0 rfl rfl (z := z) (by omega) (by omega) (by omega) dX10_isPassed_5 ?_
  refine k_topeq (v := iI (rd d (z))) rfl ?_
  have hb1 := By.rd hd (z)
  refine lv_sipush (v := iI (229)) C0.1 C0.2.1 dX10_isPassed_6 (by decide) ?_
  refine k_icmp_eq (tgt := 26) C0 (by constructor <;> omega) ⟨by decide, by decide⟩ dX10_isPassed_9 (by decide) (fun c2 => ?_) (fun c2 => ?_)
  · refine lv_iconst (v := iI (1)) C0.1 C0.2.1 dX10_isPassed_26 rfl ?_
    refine lv_goto (tgt := 31) C0.1 C0.2.1 dX10_isPassed_27 (by decide) ?_
    subst hQ
    refine k_zret C0 S hAe hsz hr hlk (by rfl) dX10_isPassed_31 ?_
    exact ⟨congrArg iI (bz_t (by unfold pas; omega)).symm, rfl⟩
  · refine lv_aload_n C0.1 C0.2.1 dX10_isPassed_12 rfl (lv_at hl 0 rfl) ?_
    refine k_get C0 S (C := RX10) (T := TX10) (N := 26) (ci := 10) (by decide +kernel) 0 rfl rfl 0 (by decide) (by decide +kernel) (v := .ref aD) rfl dX10_isPassed_13 ?_
    refine lv_iload_n C0.1 C0.2.1 dX10_isPassed_16 rfl (lv_at hl 1 rfl) ?_
    refine lv_iconst (v := iI (4)) C0.1 C0.2.1 dX10_isPassed_17 rfl ?_
    refine k_iadd C0 dX10_isPassed_18 ?_
    refine k_iald C0 S 1 0 rfl rfl (z := z + 4) (by omega) (by omega) (by omega) dX10_isPassed_19 ?_
    refine k_topeq (v := iI (rd d (z + 4))) rfl ?_
    have hb3 := By.rd hd (z + 4)
    refine lv_bipush (v := iI (8)) C0.1 C0.2.1 dX10_isPassed_20 (by decide) ?_
    refine lv_iand C0.1 C0.2.1 dX10_isPassed_22 ?_
    refine k_topeq (v := iI (8 * (rd d (z + 4) / 8 % 2))) (iI_bit8 (By.rd hd _).1 (By.rd hd _).2) ?_
    refine k_if_eq (tgt := 30) C0 (by constructor <;> omega) dX10_isPassed_23 (by decide) (fun c4 => ?_) (fun c4 => ?_)
    · refine lv_iconst (v := iI (0)) C0.1 C0.2.1 dX10_isPassed_30 rfl ?_
      subst hQ
      refine k_zret C0 S hAe hsz hr hlk (by rfl) dX10_isPassed_31 ?_
      exact ⟨congrArg iI (bz_f (by unfold pas; omega)).symm, rfl⟩
    · refine lv_iconst (v := iI (1)) C0.1 C0.2.1 dX10_isPassed_26 rfl ?_
      refine lv_goto (tgt := 31) C0.1 C0.2.1 dX10_isPassed_27 (by decide) ?_
      subst hQ
      refine k_zret C0 S hAe hsz hr hlk (by rfl) dX10_isPassed_31 ?_
      exact ⟨congrArg iI (bz_t (by unfold pas; omega)).symm, rfl⟩
def rmX10_isDirectory : Room := { frames := 0, cells := 0, slots := 0, locals := 0 }
set_option maxHeartbeats 4000000 in
set_option maxRecDepth 100000 in
theorem c_X10_isDirectory (l : Launch) (D : va_G) (cA : Nat → ClassId) (hM aD aM aX aP aQ aK aO aA a1 a2 a3 : Nat) (st r3 r4 r5 r6 r7 r8 r9 r10 tl pn nc kl ol al : Int) (d : Nat → Int) (z : Int) (hd : By d) (hz1 : 0 ≤ z) (hz2 : z + 8 ≤ 2048) : kCi l D vwCl (kTys cA) yX10_isDirectory wsX10_isDirectory rmX10_isDirectory [.ref hM, .int (iI (z))] [(hM, .inr (10, [.ref aD, .ref aM, .int (iI (st)), .int (iI (r3)), .int (iI (r4)), .int (iI (r5)), .int (iI (r6)), .int (iI (r7)), .int (iI (r8)), .int (iI (r9)), .int (iI (r10)), .ref aX, .int (iI (tl)), .ref aP, .int (iI (pn)), .ref aQ, .int (iI (nc)), .ref aK, .ref aO, .ref aA, .int (iI (kl)), .int (iI (ol)), .int (iI (al)), .ref a1, .ref a2, .ref a3])), (aD, .inl (cA 0, 2048, .inl (fun y_ => iI (d y_))))] (fun r u => r = iI (bz (isD d z)) ∧ u = [(hM, .inr (10, [.ref aD, .ref aM, .int (iI (st)), .int (iI (r3)), .int (iI (r4)), .int (iI (r5)), .int (iI (r6)), .int (iI (r7)), .int (iI (r8)), .int (iI (r9)), .int (iI (r10)), .ref aX, .int (iI (tl)), .ref aP, .int (iI (pn)), .ref aQ, .int (iI (nc)), .ref aK, .ref aO, .ref aA, .int (iI (kl)), .int (iI (ol)), .int (iI (al)), .ref a1, .ref a2, .ref a3])), (aD, .inl (cA 0, 2048, .inl (fun y_ => iI (d y_))))]) := by
  intro sz
  refine kEntry (cc := cX10_isDirectory) (maxL := 2) (ret := (some .boolean)) (by decide) rfl (Nat.le_of_ble_eq_true rfl) ?_
  intro p e s m args below meth c A Q hAe hQ C0 hr hlk S hsz ls hl
  have hl : lv_has ls 2 [(0, .ref hM), (1, .int (iI (z)))] := hl
  refine lv_aload_n C0.1 C0.2.1 dX10_isDirectory_0 rfl (lv_at hl 0 rfl) ?_
  refine k_get C0 S (C := RX10) (T := TX10) (N := 26) (ci := 10) (by decide +kernel) 0 rfl rfl 0 (by decide) (by decide +kernel) (v := .ref aD) rfl dX10_isDirectory_1 ?_
  refine lv_iload_n C0.1 C0.2.1 dX10_isDirectory_4 rfl (lv_at hl 1 rfl) ?_
  refine lv_iconst (v := iI (4)) C0.1 C0.2.1 dX10_isDirectory_5 rfl ?_
  refine k_iadd C0 dX10_isDirectory_6 ?_
  refine k_iald C0 S 1 0 rfl rfl (z := z + 4) (by omega) (by omega) (by omega) dX10_isDirectory_7 ?_
  refine k_topeq (v := iI (rd d (z + 4))) rfl ?_
  have hb1 := By.rd hd (z + 4)
  refine lv_bipush (v := iI (16)) C0.1 C0.2.1 dX10_isDirectory_8 (by decide) ?_
  refine lv_iand C0.1 C0.2.1 dX10_isDirectory_10 ?_
  refine k_topeq (v := iI (16 * (rd d (z + 4) / 16 % 2))) (iI_bit16 (By.rd hd _).1 (By.rd hd _).2) ?_
  refine k_if_eq (tgt := 18) C0 (by constructor <;> omega) dX10_isDirectory_11 (by decide) (fun c2 => ?_) (fun c2 => ?_)
  · refine lv_iconst (v := iI (0)) C0.1 C0.2.1 dX10_isDirectory_18 rfl ?_
    subst hQ
    refine k_zret C0 S hAe hsz hr hlk (by rfl) dX10_isDirectory_19 ?_
    exact ⟨congrArg iI (bz_f (by unfold isD; omega)).symm, rfl⟩
  · refine lv_iconst (v := iI (1)) C0.1 C0.2.1 dX10_isDirectory_14 rfl ?_
    refine lv_goto (tgt := 19) C0.1 C0.2.1 dX10_isDirectory_15 (by decide) ?_
    subst hQ
    refine k_zret C0 S hAe hsz hr hlk (by rfl) dX10_isDirectory_19 ?_
    exact ⟨congrArg iI (bz_t (by unfold isD; omega)).symm, rfl⟩
def rmX10_sizeAt : Room := { frames := 1, cells := 0, slots := 0, locals := 21 }
set_option maxHeartbeats 4000000 in
set_option maxRecDepth 100000 in
theorem c_X10_sizeAt (l : Launch) (D : va_G) (cA : Nat → ClassId) (hM aD aM aX aP aQ aK aO aA a1 a2 a3 : Nat) (st r3 r4 r5 r6 r7 r8 r9 r10 tl pn nc kl ol al : Int) (d : Nat → Int) (z : Int) (hd : By d) (hz1 : 0 ≤ z) (hz2 : z + 8 ≤ 2048) : kCi l D vwCl (kTys cA) yX10_sizeAt wsX10_sizeAt rmX10_sizeAt [.ref hM, .int (iI (z))] [(hM, .inr (10, [.ref aD, .ref aM, .int (iI (st)), .int (iI (r3)), .int (iI (r4)), .int (iI (r5)), .int (iI (r6)), .int (iI (r7)), .int (iI (r8)), .int (iI (r9)), .int (iI (r10)), .ref aX, .int (iI (tl)), .ref aP, .int (iI (pn)), .ref aQ, .int (iI (nc)), .ref aK, .ref aO, .ref aA, .int (iI (kl)), .int (iI (ol)), .int (iI (al)), .ref a1, .ref a2, .ref a3])), (aD, .inl (cA 0, 2048, .inl (fun y_ => iI (d y_))))] (fun r u => r = iI (wrd d (z + 6)) ∧ u = [(hM, .inr (10, [.ref aD, .ref aM, .int (iI (st)), .int (iI (r3)), .int (iI (r4)), .int (iI (r5)), .int (iI (r6)), .int (iI (r7)), .int (iI (r8)), .int (iI (r9)), .int (iI (r10)), .ref aX, .int (iI (tl)), .ref aP, .int (iI (pn)), .ref aQ, .int (iI (nc)), .ref aK, .ref aO, .ref aA, .int (iI (kl)), .int (iI (ol)), .int (iI (al)), .ref a1, .ref a2, .ref a3])), (aD, .inl (cA 0, 2048, .inl (fun y_ => iI (d y_))))]) := by
  intro sz
  refine kEntry (cc := cX10_sizeAt) (maxL := 2) (ret := (some .int)) (by decide) rfl (Nat.le_of_ble_eq_true rfl) ?_
  intro p e s m args below meth c A Q hAe hQ C0 hr hlk S hsz ls hl
  have hl : lv_has ls 2 [(0, .ref hM), (1, .int (iI (z)))] := hl
  refine lv_aload_n C0.1 C0.2.1 dX10_sizeAt_0 rfl (lv_at hl 0 rfl) ?_
  refine lv_iload_n C0.1 C0.2.1 dX10_sizeAt_1 rfl (lv_at hl 1 rfl) ?_
  refine lv_bipush (v := iI (6)) C0.1 C0.2.1 dX10_sizeAt_2 (by decide) ?_
  refine k_iadd C0 dX10_sizeAt_4 ?_
  refine k_calli (n := 1) (wr := []) C0 S (c_X10_word l D cA hM aD aM aX aP aQ aK aO aA a1 a2 a3 (st) (r3) (r4) (r5) (r6) (r7) (r8) (r9) (r10) (tl) (pn) (nc) (kl) (ol) (al) d (z + 6) hd (by omega) (by omega)) gX10_sizeAt_X10_word rfl ⟨rfl, rfl⟩ (by decide +kernel) ⟨Nat.le_of_ble_eq_true rfl, Nat.le_of_ble_eq_true rfl⟩ [0, 1] [] rfl rfl rfl rfl (by decide) (ci := 10) (q0 := 0) rfl rfl (As := [.int (iI (z + 6))]) rfl hl.1 rfl (Nat.le_of_ble_eq_true rfl) dX10_sizeAt_5 ⟨Nat.zero_le _, Nat.zero_le _⟩ (fun r u H locs hp S => ?_)
  obtain ⟨rfl, rfl⟩ := hp
  have S := S.sub (ws' := [(hM, .inr (10, [.ref aD, .ref aM, .int (iI (st)), .int (iI (r3)), .int (iI (r4)), .int (iI (r5)), .int (iI (r6)), .int (iI (r7)), .int (iI (r8)), .int (iI (r9)), .int (iI (r10)), .ref aX, .int (iI (tl)), .ref aP, .int (iI (pn)), .ref aQ, .int (iI (nc)), .ref aK, .ref aO, .ref aA, .int (iI (kl)), .int (iI (ol)), .int (iI (al)), .ref a1, .ref a2, .ref a3])), (aD, .inl (cA 0, 2048, .inl (fun y_ => iI (d y_))))]) [0, 1] rfl rfl
  have hb3 := By_wrd hd (z + 6)
  subst hQ
  refine k_iret C0 S hAe hsz hr hlk dX10_sizeAt_8 ?_
  exact ⟨rfl, rfl⟩
def rmX10_nth : Room := { frames := 3, cells := 0, slots := 0, locals := 68 }
set_option maxHeartbeats 4000000 in
set_option maxRecDepth 100000 in
theorem c_X10_nth (l : Launch) (D : va_G) (cA : Nat → ClassId) (hM aD aM aX aP aQ aK aO aA a1 a2 a3 : Nat) (st tl pn nc kl ol al : Int) (d : Nat → Int) (first j : Int) (hd : By d) (hB2 : gB d) (hf1 : 0 ≤ first) (hf2 : first < 256) (hcn : 0 ≤ chn d first) (hj1 : 0 ≤ j) (hj2 : j < 100000) : kCi l D vwCl (kTys cA) yX10_nth wsX10_nth rmX10_nth [.ref hM, .int (iI (first)), .int (iI (chn d first)), .int (iI (j))] [(hM, .inr (10, [.ref aD, .ref aM, .int (iI (st)), .int (iI (chs d)), .int (iI (gTA d)), .int (iI (gT d)), .int (iI (gTS d)), .int (iI (gCS d)), .int (iI (gCA d)), .int (iI (gN d)), .int (iI (gRoot d)), .ref aX, .int (iI (tl)), .ref aP, .int (iI (pn)), .ref aQ, .int (iI (nc)), .ref aK, .ref aO, .ref aA, .int (iI (kl)), .int (iI (ol)), .int (iI (al)), .ref a1, .ref a2, .ref a3])), (aD, .inl (cA 0, 2048, .inl (fun y_ => iI (d y_))))] (fun r u => r = iI (ent d first (chn d first) j) ∧ u = [(hM, .inr (10, [.ref aD, .ref aM, .int (iI (st)), .int (iI (chs d)), .int (iI (gTA d)), .int (iI (gT d)), .int (iI (gTS d)), .int (iI (gCS d)), .int (iI (gCA d)), .int (iI (gN d)), .int (iI (gRoot d)), .ref aX, .int (iI (tl)), .ref aP, .int (iI (pn)), .ref aQ, .int (iI (nc)), .ref aK, .ref aO, .ref aA, .int (iI (kl)), .int (iI (ol)), .int (iI (al)), .ref a1, .ref a2, .ref a3])), (aD, .inl (cA 0, 2048, .inl (fun y_ => iI (d y_))))]) := by
  intro sz
  refine kEntry (cc := cX10_nth) (maxL := 5) (ret := (some .int)) (by decide) rfl (Nat.le_of_ble_eq_true rfl) ?_
  intro p e s m args below meth c A Q hAe hQ C0 hr hlk S hsz ls hl
  have hl : lv_has ls 5 [(0, .ref hM), (1, .int (iI (first))), (2, .int (iI (chn d first))), (3, .int (iI (j)))] := hl
  have hnr := nsl_range hB2 hcn
  have hnb := nsl_bytes (d := d) (chn d first)
  refine lv_iload_n C0.1 C0.2.1 dX10_nth_0 rfl (lv_at hl 3 rfl) ?_
  refine lv_iconst (v := iI (4)) C0.1 C0.2.1 dX10_nth_1 rfl ?_
  refine lv_aload_n C0.1 C0.2.1 dX10_nth_2 rfl (lv_at hl 0 rfl) ?_
  refine k_get C0 S (C := RX10) (T := TX10) (N := 26) (ci := 10) (by decide +kernel) 0 rfl rfl 7 (by decide) (by decide +kernel) (v := .int (iI (gCS d))) rfl dX10_nth_3 ?_
  refine k_imul C0 dX10_nth_6 ?_
  refine lv_iload_n C0.1 C0.2.1 dX10_nth_7 rfl (lv_at hl 2 rfl) ?_
  refine k_imul C0 dX10_nth_8 ?_
  refine k_topeq (v := iI (nsl d (chn d first))) (rfl) ?_
  refine k_icmp_lt (tgt := 14) C0 (by constructor <;> omega) (by constructor <;> omega) dX10_nth_9 (by decide) (fun c9 => ?_) (fun c9 => ?_)
  · refine lv_aload_n C0.1 C0.2.1 dX10_nth_14 rfl (lv_at hl 0 rfl) ?_
    refine lv_iload_n C0.1 C0.2.1 dX10_nth_15 rfl (lv_at hl 1 rfl) ?_
    refine lv_bipush (v := iI (8)) C0.1 C0.2.1 dX10_nth_16 (by decide) ?_
    refine lv_iload_n C0.1 C0.2.1 dX10_nth_18 rfl (lv_at hl 3 rfl) ?_
    refine k_imul C0 dX10_nth_19 ?_
    refine k_calli (n := 2) (wr := []) C0 S (c_X10_place l D cA hM aD aM aX aP aQ aK aO aA a1 a2 a3 (st) (tl) (pn) (nc) (kl) (ol) (al) d (first) (8 * j) hd hB2 (by omega) (by omega) hcn (by omega) (by omega)) gX10_nth_X10_place rfl ⟨rfl, rfl⟩ (by decide +kernel) ⟨Nat.le_of_ble_eq_true rfl, Nat.le_of_ble_eq_true rfl⟩ [0, 1] [] rfl rfl rfl rfl (by decide) (ci := 10) (q0 := 0) rfl rfl (As := [.int (iI (first)), .int (iI (8 * j))]) rfl hl.1 rfl (Nat.le_of_ble_eq_true rfl) dX10_nth_20 ⟨Nat.zero_le _, Nat.zero_le _⟩ (fun r u H locs hp S => ?_)
    obtain ⟨rfl, rfl⟩ := hp
    have S := S.sub (ws' := [(hM, .inr (10, [.ref aD, .ref aM, .int (iI (st)), .int (iI (chs d)), .int (iI (gTA d)), .int (iI (gT d)), .int (iI (gTS d)), .int (iI (gCS d)), .int (iI (gCA d)), .int (iI (gN d)), .int (iI (gRoot d)), .ref aX, .int (iI (tl)), .ref aP, .int (iI (pn)), .ref aQ, .int (iI (nc)), .ref aK, .ref aO, .ref aA, .int (iI (kl)), .int (iI (ol)), .int (iI (al)), .ref a1, .ref a2, .ref a3])), (aD, .inl (cA 0, 2048, .inl (fun y_ => iI (d y_))))]) [0, 1] rfl rfl
    have hb3 := plc_range hB2 (first := (first)) (i := (8 * j)) hcn (by omega) (by omega)
    refine lv_istore (lv' := [(4, .int (iI (plc d (first) (8 * j)))), (0, .ref hM), (1, .int (iI (first))), (2, .int (iI (chn d first))), (3, .int (iI (j)))]) C0.1 C0.2.1 dX10_nth_23 hl (by decide) rfl (fun ls hl => ?_)
    refine lv_aload_n C0.1 C0.2.1 dX10_nth_25 rfl (lv_at hl 1 rfl) ?_
    refine k_get C0 S (C := RX10) (T := TX10) (N := 26) (ci := 10) (by decide +kernel) 0 rfl rfl 0 (by decide) (by decide +kernel) (v := .ref aD) rfl dX10_nth_26 ?_
    refine lv_iload C0.1 C0.2.1 dX10_nth_29 (lv_at hl 0 rfl) ?_
    refine k_iald C0 S 1 0 rfl rfl (z := plc d (first) (8 * j)) (by omega) (by omega) (by omega) dX10_nth_31 ?_
    refine k_topeq (v := iI (rd d (plc d (first) (8 * j)))) rfl ?_
    have hb4 := By.rd hd (plc d (first) (8 * j))
    refine k_if_ne (tgt := 39) C0 (by constructor <;> omega) dX10_nth_32 (by decide) (fun c32 => ?_) (fun c32 => ?_)
    · refine lv_iload C0.1 C0.2.1 dX10_nth_39 (lv_at hl 0 rfl) ?_
      subst hQ
      refine k_iret C0 S hAe hsz hr hlk dX10_nth_41 ?_
      exact ⟨congrArg iI (ent_at (by omega) c32).symm, rfl⟩
    · refine lv_iconst (v := iI (-1)) C0.1 C0.2.1 dX10_nth_35 rfl ?_
      refine lv_goto (tgt := 41) C0.1 C0.2.1 dX10_nth_36 (by decide) ?_
      subst hQ
      refine k_iret C0 S hAe hsz hr hlk dX10_nth_41 ?_
      exact ⟨congrArg iI (ent_zero c32).symm, rfl⟩
  · refine lv_iconst (v := iI (-1)) C0.1 C0.2.1 dX10_nth_12 rfl ?_
    subst hQ
    refine k_iret C0 S hAe hsz hr hlk dX10_nth_13 ?_
    exact ⟨congrArg iI (ent_neg (by omega)).symm, rfl⟩
def rmX10_lookUp : Room := { frames := 4, cells := 0, slots := 0, locals := 92 }
set_option maxHeartbeats 4000000 in
set_option maxRecDepth 100000 in
theorem c_X10_lookUp (l : Launch) (D : va_G) (cA : Nat → ClassId) (hM aD aM aX aP aQ aK aO aA a1 a2 a3 : Nat) (st tl pn nc kl ol al : Int) (d : Nat → Int) (first key : Int) (hd : By d) (hB2 : gB d) (hf1 : 0 ≤ first) (hf2 : first < 256) (hk1 : 0 ≤ key) (hk2 : key < 4294967296) : kCi l D vwCl (kTys cA) yX10_lookUp wsX10_lookUp rmX10_lookUp [.ref hM, .int (iI (first)), .int (iI (key))] [(hM, .inr (10, [.ref aD, .ref aM, .int (iI (st)), .int (iI (chs d)), .int (iI (gTA d)), .int (iI (gT d)), .int (iI (gTS d)), .int (iI (gCS d)), .int (iI (gCA d)), .int (iI (gN d)), .int (iI (gRoot d)), .ref aX, .int (iI (tl)), .ref aP, .int (iI (pn)), .ref aQ, .int (iI (nc)), .ref aK, .ref aO, .ref aA, .int (iI (kl)), .int (iI (ol)), .int (iI (al)), .ref a1, .ref a2, .ref a3])), (aD, .inl (cA 0, 2048, .inl (fun y_ => iI (d y_))))] (fun r u => r = iI (lkp d first key) ∧ u = [(hM, .inr (10, [.ref aD, .ref aM, .int (iI (st)), .int (iI (chs d)), .int (iI (gTA d)), .int (iI (gT d)), .int (iI (gTS d)), .int (iI (gCS d)), .int (iI (gCA d)), .int (iI (gN d)), .int (iI (gRoot d)), .ref aX, .int (iI (tl)), .ref aP, .int (iI (pn)), .ref aQ, .int (iI (nc)), .ref aK, .ref aO, .ref aA, .int (iI (kl)), .int (iI (ol)), .int (iI (al)), .ref a1, .ref a2, .ref a3])), (aD, .inl (cA 0, 2048, .inl (fun y_ => iI (d y_))))] ∧ (lkp d first key < 0 ∨ lkp d first key + 8 ≤ 2048) ∧ -100 ≤ lkp d first key) := by
  intro sz
  refine kEntry (cc := cX10_lookUp) (maxL := 6) (ret := (some .int)) (by decide) rfl (Nat.le_of_ble_eq_true rfl) ?_
  intro p e s m args below meth c A Q hAe hQ C0 hr hlk S hsz ls hl
  have hl : lv_has ls 6 [(0, .ref hM), (1, .int (iI (first))), (2, .int (iI (key)))] := hl
  have hlin := hB2.lin
  refine lv_aload_n C0.1 C0.2.1 dX10_lookUp_0 rfl (lv_at hl 0 rfl) ?_
  refine lv_iload_n C0.1 C0.2.1 dX10_lookUp_1 rfl (lv_at hl 1 rfl) ?_
  refine k_calli (n := 1) (wr := []) C0 S (c_X10_chain l D cA hM aD aM aX aP aQ aK aO aA a1 a2 a3 (st) (tl) (pn) (nc) (kl) (ol) (al) d (first) hd hB2 (by omega) (by omega)) gX10_lookUp_X10_chain rfl ⟨rfl, rfl⟩ (by decide +kernel) ⟨Nat.le_of_ble_eq_true rfl, Nat.le_of_ble_eq_true rfl⟩ [0, 1] [] rfl rfl rfl rfl (by decide) (ci := 10) (q0 := 0) rfl rfl (As := [.int (iI (first))]) rfl hl.1 rfl (Nat.le_of_ble_eq_true rfl) dX10_lookUp_2 ⟨Nat.zero_le _, Nat.zero_le _⟩ (fun r u H locs hp S => ?_)
  obtain ⟨rfl, rfl⟩ := hp
  have S := S.sub (ws' := [(hM, .inr (10, [.ref aD, .ref aM, .int (iI (st)), .int (iI (chs d)), .int (iI (gTA d)), .int (iI (gT d)), .int (iI (gTS d)), .int (iI (gCS d)), .int (iI (gCA d)), .int (iI (gN d)), .int (iI (gRoot d)), .ref aX, .int (iI (tl)), .ref aP, .int (iI (pn)), .ref aQ, .int (iI (nc)), .ref aK, .ref aO, .ref aA, .int (iI (kl)), .int (iI (ol)), .int (iI (al)), .ref a1, .ref a2, .ref a3])), (aD, .inl (cA 0, 2048, .inl (fun y_ => iI (d y_))))]) [0, 1] rfl rfl
  have hb3 : chn d (first) < 0 ∨ (1 ≤ chn d (first) ∧ chn d (first) ≤ gN d) := by rcases Int.lt_or_le (chn d (first)) 0 with h | h; exact Or.inl h; exact Or.inr (chn_all hB2 h).1
  have hb4 : -1 ≤ chn d (first) := chn_ge _ _
  refine lv_istore_n (lv' := [(3, .int (iI (chn d (first)))), (0, .ref hM), (1, .int (iI (first))), (2, .int (iI (key)))]) C0.1 C0.2.1 dX10_lookUp_5 rfl hl (by decide) rfl (fun ls hl => ?_)
  refine lv_iload_n C0.1 C0.2.1 dX10_lookUp_6 rfl (lv_at hl 0 rfl) ?_
  refine k_if_ge (tgt := 13) C0 (by constructor <;> omega) dX10_lookUp_7 (by decide) (fun c7 => ?_) (fun c7 => ?_)
  · have hcn : 0 ≤ chn d first := by omega
    have hlkp := lkp_ok (key := key) hcn
    have hnr := nsl_range hB2 hcn
    refine lv_aload_n C0.1 C0.2.1 dX10_lookUp_13 rfl (lv_at hl 1 rfl) ?_
    refine lv_iload_n C0.1 C0.2.1 dX10_lookUp_14 rfl (lv_at hl 2 rfl) ?_
    refine lv_iload_n C0.1 C0.2.1 dX10_lookUp_15 rfl (lv_at hl 0 rfl) ?_
    refine lv_iconst (v := iI (0)) C0.1 C0.2.1 dX10_lookUp_16 rfl ?_
    refine k_calli (n := 3) (wr := []) C0 S (c_X10_nth l D cA hM aD aM aX aP aQ aK aO aA a1 a2 a3 (st) (tl) (pn) (nc) (kl) (ol) (al) d (first) (0) hd hB2 (by omega) (by omega) hcn (by omega) (by omega)) gX10_lookUp_X10_nth rfl ⟨rfl, rfl⟩ (by decide +kernel) ⟨Nat.le_of_ble_eq_true rfl, Nat.le_of_ble_eq_true rfl⟩ [0, 1] [] rfl rfl rfl rfl (by decide) (ci := 10) (q0 := 0) rfl rfl (As := [.int (iI (first)), .int (iI (chn d (first))), .int (iI (0))]) rfl hl.1 rfl (Nat.le_of_ble_eq_true rfl) dX10_lookUp_17 ⟨Nat.zero_le _, Nat.zero_le _⟩ (fun r u H locs hp S => ?_)
    obtain ⟨rfl, rfl⟩ := hp
    have S := S.sub (ws' := [(hM, .inr (10, [.ref aD, .ref aM, .int (iI (st)), .int (iI (chs d)), .int (iI (gTA d)), .int (iI (gT d)), .int (iI (gTS d)), .int (iI (gCS d)), .int (iI (gCA d)), .int (iI (gN d)), .int (iI (gRoot d)), .ref aX, .int (iI (tl)), .ref aP, .int (iI (pn)), .ref aQ, .int (iI (nc)), .ref aK, .ref aO, .ref aA, .int (iI (kl)), .int (iI (ol)), .int (iI (al)), .ref a1, .ref a2, .ref a3])), (aD, .inl (cA 0, 2048, .inl (fun y_ => iI (d y_))))]) [0, 1] rfl rfl
    have hb7 := ent_range hB2 hcn (j := (0)) (by omega)
    refine lv_istore (lv' := [(4, .int (iI (ent d (first) (chn d (first)) (0)))), (3, .int (iI (chn d (first)))), (0, .ref hM), (1, .int (iI (first))), (2, .int (iI (key)))]) C0.1 C0.2.1 dX10_lookUp_20 hl (by decide) rfl (fun ls hl => ?_)
    refine lv_iconst (v := iI (1)) C0.1 C0.2.1 dX10_lookUp_22 rfl ?_
    refine lv_istore (lv' := [(5, .int (iI (1))), (4, .int (iI (ent d (first) (chn d (first)) (0)))), (3, .int (iI (chn d (first)))), (0, .ref hM), (1, .int (iI (first))), (2, .int (iI (key)))]) C0.1 C0.2.1 dX10_lookUp_23 hl (by decide) rfl (fun ls hl => ?_)
    have L25 : ∀ (n_ : Nat) (j : Int) (a : Int), (1 ≤ j ∧ j ≤ 300) → (lkp d first key = lk d first (chn d first) key (j - 1)) → (a = ent d first (chn d first) (j - 1)) → ((300 - j).toNat < n_) → ∀ (H : Heap) (locs : List Loc), kS D vwCl (kTys cA) A s [(hM, .inr (10, [.ref aD, .ref aM, .int (iI (st)), .int (iI (chs d)), .int (iI (gTA d)), .int (iI (gT d)), .int (iI (gTS d)), .int (iI (gCS d)), .int (iI (gCA d)), .int (iI (gN d)), .int (iI (gRoot d)), .ref aX, .int (iI (tl)), .ref aP, .int (iI (pn)), .ref aQ, .int (iI (nc)), .ref aK, .ref aO, .ref aA, .int (iI (kl)), .int (iI (ol)), .int (iI (al)), .ref a1, .ref a2, .ref a3])), (aD, .inl (cA 0, 2048, .inl (fun y_ => iI (d y_))))] H locs → ∀ ls : Array Slot, lv_has ls 6 [(5, .int (iI (j))), (4, .int (iI (a))), (3, .int (iI (chn d first))), (0, .ref hM), (1, .int (iI (first))), (2, .int (iI (key)))] → W p l e rmX10_lookUp s m args below meth c H locs 0 0 Q (F0 m 25 ls []) := by
      intro n_
      induction n_ with
      | zero => intro j a hi25_0 hi25_1 hi25_2 hm; exact absurd hm (Nat.not_lt_zero _)
      | succ n_ ih25 =>
        intro j a hi25_0 hi25_1 hi25_2 hm H locs S ls hl
        have her := ent_range hB2 hcn (j := j - 1) (by omega)
        rw [← hi25_2] at her
        refine lv_iload C0.1 C0.2.1 dX10_lookUp_25 (lv_at hl 1 rfl) ?_
        refine k_if_lt (tgt := 68) C0 (by constructor <;> omega) dX10_lookUp_27 (by decide) (fun c27 => ?_) (fun c27 => ?_)
        · refine lv_bipush (v := iI (-6)) C0.1 C0.2.1 dX10_lookUp_68 (by decide) ?_
          subst hQ
          refine k_iret C0 S hAe hsz hr hlk dX10_lookUp_70 ?_
          have hq : lkp d first key = -6 := by rw [hi25_1]; exact lk_none (by rw [← hi25_2]; exact c27)
          exact ⟨congrArg iI hq.symm, rfl, by omega⟩
        · refine lv_aload_n C0.1 C0.2.1 dX10_lookUp_30 rfl (lv_at hl 3 rfl) ?_
          refine lv_iload C0.1 C0.2.1 dX10_lookUp_31 (lv_at hl 1 rfl) ?_
          refine k_calli (n := 1) (wr := []) C0 S (c_X10_isPassed l D cA hM aD aM aX aP aQ aK aO aA a1 a2 a3 (st) (chs d) (gTA d) (gT d) (gTS d) (gCS d) (gCA d) (gN d) (gRoot d) (tl) (pn) (nc) (kl) (ol) (al) d (a) hd (by omega) (by omega)) gX10_lookUp_X10_isPassed rfl ⟨rfl, rfl⟩ (by decide +kernel) ⟨Nat.le_of_ble_eq_true rfl, Nat.le_of_ble_eq_true rfl⟩ [0, 1] [] rfl rfl rfl rfl (by decide) (ci := 10) (q0 := 0) rfl rfl (As := [.int (iI (a))]) rfl hl.1 rfl (Nat.le_of_ble_eq_true rfl) dX10_lookUp_33 ⟨Nat.zero_le _, Nat.zero_le _⟩ (fun r u H locs hp S => ?_)
          obtain ⟨rfl, rfl⟩ := hp
          have S := S.sub (ws' := [(hM, .inr (10, [.ref aD, .ref aM, .int (iI (st)), .int (iI (chs d)), .int (iI (gTA d)), .int (iI (gT d)), .int (iI (gTS d)), .int (iI (gCS d)), .int (iI (gCA d)), .int (iI (gN d)), .int (iI (gRoot d)), .ref aX, .int (iI (tl)), .ref aP, .int (iI (pn)), .ref aQ, .int (iI (nc)), .ref aK, .ref aO, .ref aA, .int (iI (kl)), .int (iI (ol)), .int (iI (al)), .ref a1, .ref a2, .ref a3])), (aD, .inl (cA 0, 2048, .inl (fun y_ => iI (d y_))))]) [0, 1] rfl rfl
          refine k_bz_ne (tgt := 52) C0 dX10_lookUp_36 (by decide) (fun c36 => ?_) (fun c36 => ?_)
          · refine lv_aload_n C0.1 C0.2.1 dX10_lookUp_52 rfl (lv_at hl 3 rfl) ?_
            refine lv_iload_n C0.1 C0.2.1 dX10_lookUp_53 rfl (lv_at hl 4 rfl) ?_
            refine lv_iload_n C0.1 C0.2.1 dX10_lookUp_54 rfl (lv_at hl 2 rfl) ?_
            refine lv_iload C0.1 C0.2.1 dX10_lookUp_55 (lv_at hl 0 rfl) ?_
            refine k_calli (n := 3) (wr := []) C0 S (c_X10_nth l D cA hM aD aM aX aP aQ aK aO aA a1 a2 a3 (st) (tl) (pn) (nc) (kl) (ol) (al) d (first) (j) hd hB2 (by omega) (by omega) hcn (by omega) (by omega)) gX10_lookUp_X10_nth rfl ⟨rfl, rfl⟩ (by decide +kernel) ⟨Nat.le_of_ble_eq_true rfl, Nat.le_of_ble_eq_true rfl⟩ [0, 1] [] rfl rfl rfl rfl (by decide) (ci := 10) (q0 := 0) rfl rfl (As := [.int (iI (first)), .int (iI (chn d first)), .int (iI (j))]) rfl hl.1 rfl (Nat.le_of_ble_eq_true rfl) dX10_lookUp_57 ⟨Nat.zero_le _, Nat.zero_le _⟩ (fun r u H locs hp S => ?_)
            obtain ⟨rfl, rfl⟩ := hp
            have S := S.sub (ws' := [(hM, .inr (10, [.ref aD, .ref aM, .int (iI (st)), .int (iI (chs d)), .int (iI (gTA d)), .int (iI (gT d)), .int (iI (gTS d)), .int (iI (gCS d)), .int (iI (gCA d)), .int (iI (gN d)), .int (iI (gRoot d)), .ref aX, .int (iI (tl)), .ref aP, .int (iI (pn)), .ref aQ, .int (iI (nc)), .ref aK, .ref aO, .ref aA, .int (iI (kl)), .int (iI (ol)), .int (iI (al)), .ref a1, .ref a2, .ref a3])), (aD, .inl (cA 0, 2048, .inl (fun y_ => iI (d y_))))]) [0, 1] rfl rfl
            have hb12 := ent_range hB2 hcn (j := (j)) (by omega)
            refine lv_istore (lv' := [(4, .int (iI (ent d (first) (chn d (first)) (j)))), (5, .int (iI (j))), (3, .int (iI (chn d first))), (0, .ref hM), (1, .int (iI (first))), (2, .int (iI (key)))]) C0.1 C0.2.1 dX10_lookUp_60 hl (by decide) rfl (fun ls hl => ?_)
            refine lv_iinc (v := iI (j + 1)) (lv' := [(5, .int (iI (j + 1))), (4, .int (iI (ent d (first) (chn d (first)) (j)))), (3, .int (iI (chn d first))), (0, .ref hM), (1, .int (iI (first))), (2, .int (iI (key)))]) C0.1 C0.2.1 dX10_lookUp_62 hl (k := 1) rfl (iI_add _ _) (by decide) rfl (fun ls hl => ?_)
            refine lv_goto (tgt := 25) C0.1 C0.2.1 dX10_lookUp_65 (by decide) ?_
            have hlt := ent_lt (show ¬ ent d first (chn d first) (j - 1) < 0 by rw [← hi25_2]; exact c27)
            have hq : lkp d first key = lk d first (chn d first) key (j + 1 - 1) := by
              rw [hi25_1, lk_step (by rw [← hi25_2]; exact c27) (by rw [← hi25_2]; exact Or.inl c36)]
              congr 1; omega
            exact ih25 (j + 1) (ent d first (chn d first) j) ⟨by omega, by omega⟩ hq (by rw [show j + 1 - 1 = j by omega]) (by omega) _ _ S _ (lv_sub hl [0, 1, 2, 3, 4, 5] rfl)
          · refine lv_aload_n C0.1 C0.2.1 dX10_lookUp_39 rfl (lv_at hl 3 rfl) ?_
            refine lv_iload C0.1 C0.2.1 dX10_lookUp_40 (lv_at hl 1 rfl) ?_
            refine k_calli (n := 1) (wr := []) C0 S (c_X10_four l D cA hM aD aM aX aP aQ aK aO aA a1 a2 a3 (st) (chs d) (gTA d) (gT d) (gTS d) (gCS d) (gCA d) (gN d) (gRoot d) (tl) (pn) (nc) (kl) (ol) (al) d (a) hd (by omega) (by omega)) gX10_lookUp_X10_four rfl ⟨rfl, rfl⟩ (by decide +kernel) ⟨Nat.le_of_ble_eq_true rfl, Nat.le_of_ble_eq_true rfl⟩ [0, 1] [] rfl rfl rfl rfl (by decide) (ci := 10) (q0 := 0) rfl rfl (As := [.int (iI (a))]) rfl hl.1 rfl (Nat.le_of_ble_eq_true rfl) dX10_lookUp_42 ⟨Nat.zero_le _, Nat.zero_le _⟩ (fun r u H locs hp S => ?_)
            obtain ⟨rfl, rfl⟩ := hp
            have S := S.sub (ws' := [(hM, .inr (10, [.ref aD, .ref aM, .int (iI (st)), .int (iI (chs d)), .int (iI (gTA d)), .int (iI (gT d)), .int (iI (gTS d)), .int (iI (gCS d)), .int (iI (gCA d)), .int (iI (gN d)), .int (iI (gRoot d)), .ref aX, .int (iI (tl)), .ref aP, .int (iI (pn)), .ref aQ, .int (iI (nc)), .ref aK, .ref aO, .ref aA, .int (iI (kl)), .int (iI (ol)), .int (iI (al)), .ref a1, .ref a2, .ref a3])), (aD, .inl (cA 0, 2048, .inl (fun y_ => iI (d y_))))]) [0, 1] rfl rfl
            have hb15 := By_n4 hd (a)
            refine lv_iload_n C0.1 C0.2.1 dX10_lookUp_45 rfl (lv_at hl 5 rfl) ?_
            refine lv_icmp_ne (tgt := 52) C0.1 C0.2.1 dX10_lookUp_46 (by decide) (fun c46 => ?_) (fun c46 => ?_)
            · refine lv_aload_n C0.1 C0.2.1 dX10_lookUp_52 rfl (lv_at hl 3 rfl) ?_
              refine lv_iload_n C0.1 C0.2.1 dX10_lookUp_53 rfl (lv_at hl 4 rfl) ?_
              refine lv_iload_n C0.1 C0.2.1 dX10_lookUp_54 rfl (lv_at hl 2 rfl) ?_
              refine lv_iload C0.1 C0.2.1 dX10_lookUp_55 (lv_at hl 0 rfl) ?_
              refine k_calli (n := 3) (wr := []) C0 S (c_X10_nth l D cA hM aD aM aX aP aQ aK aO aA a1 a2 a3 (st) (tl) (pn) (nc) (kl) (ol) (al) d (first) (j) hd hB2 (by omega) (by omega) hcn (by omega) (by omega)) gX10_lookUp_X10_nth rfl ⟨rfl, rfl⟩ (by decide +kernel) ⟨Nat.le_of_ble_eq_true rfl, Nat.le_of_ble_eq_true rfl⟩ [0, 1] [] rfl rfl rfl rfl (by decide) (ci := 10) (q0 := 0) rfl rfl (As := [.int (iI (first)), .int (iI (chn d first)), .int (iI (j))]) rfl hl.1 rfl (Nat.le_of_ble_eq_true rfl) dX10_lookUp_57 ⟨Nat.zero_le _, Nat.zero_le _⟩ (fun r u H locs hp S => ?_)
              obtain ⟨rfl, rfl⟩ := hp
              have S := S.sub (ws' := [(hM, .inr (10, [.ref aD, .ref aM, .int (iI (st)), .int (iI (chs d)), .int (iI (gTA d)), .int (iI (gT d)), .int (iI (gTS d)), .int (iI (gCS d)), .int (iI (gCA d)), .int (iI (gN d)), .int (iI (gRoot d)), .ref aX, .int (iI (tl)), .ref aP, .int (iI (pn)), .ref aQ, .int (iI (nc)), .ref aK, .ref aO, .ref aA, .int (iI (kl)), .int (iI (ol)), .int (iI (al)), .ref a1, .ref a2, .ref a3])), (aD, .inl (cA 0, 2048, .inl (fun y_ => iI (d y_))))]) [0, 1] rfl rfl
              have hb18 := ent_range hB2 hcn (j := (j)) (by omega)
              refine lv_istore (lv' := [(4, .int (iI (ent d (first) (chn d (first)) (j)))), (5, .int (iI (j))), (3, .int (iI (chn d first))), (0, .ref hM), (1, .int (iI (first))), (2, .int (iI (key)))]) C0.1 C0.2.1 dX10_lookUp_60 hl (by decide) rfl (fun ls hl => ?_)
              refine lv_iinc (v := iI (j + 1)) (lv' := [(5, .int (iI (j + 1))), (4, .int (iI (ent d (first) (chn d (first)) (j)))), (3, .int (iI (chn d first))), (0, .ref hM), (1, .int (iI (first))), (2, .int (iI (key)))]) C0.1 C0.2.1 dX10_lookUp_62 hl (k := 1) rfl (iI_add _ _) (by decide) rfl (fun ls hl => ?_)
              refine lv_goto (tgt := 25) C0.1 C0.2.1 dX10_lookUp_65 (by decide) ?_
              have hlt := ent_lt (show ¬ ent d first (chn d first) (j - 1) < 0 by rw [← hi25_2]; exact c27)
              have hq : lkp d first key = lk d first (chn d first) key (j + 1 - 1) := by
                rw [hi25_1, lk_step (by rw [← hi25_2]; exact c27) (by rw [← hi25_2]; exact Or.inr (fun h => c46 (by rw [h])))]
                congr 1; omega
              exact ih25 (j + 1) (ent d first (chn d first) j) ⟨by omega, by omega⟩ hq (by rw [show j + 1 - 1 = j by omega]) (by omega) _ _ S _ (lv_sub hl [0, 1, 2, 3, 4, 5] rfl)
            · refine lv_iload C0.1 C0.2.1 dX10_lookUp_49 (lv_at hl 1 rfl) ?_
              subst hQ
              refine k_iret C0 S hAe hsz hr hlk dX10_lookUp_51 ?_
              have h4 := By_n4 hd a
              have hq : lkp d first key = a := by rw [hi25_1, lk_hit (by rw [← hi25_2]; exact c27) (by rw [← hi25_2]; exact c36) (by rw [← hi25_2]; exact (iI_inj32 h4.1 h4.2 hk1 hk2).mp c46), hi25_2]
              exact ⟨congrArg iI hq.symm, rfl, by omega⟩
    exact L25 (300) (1) (ent d first (chn d first) 0) ⟨by decide, by decide⟩ hlkp rfl (by omega) _ _ S _ (lv_sub hl [0, 1, 2, 3, 4, 5] rfl)
  · refine lv_bipush (v := iI (-9)) C0.1 C0.2.1 dX10_lookUp_10 (by decide) ?_
    subst hQ
    refine k_iret C0 S hAe hsz hr hlk dX10_lookUp_12 ?_
    exact ⟨congrArg iI (lkp_no (by omega)).symm, rfl, by rw [lkp_no (by omega)]; omega⟩
