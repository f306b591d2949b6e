def rmX0_byteAt : Room := { frames := 0, cells := 0, slots := 0, locals := 0 }
set_option maxHeartbeats 4000000 in
set_option maxRecDepth 100000 in
theorem c_X0_byteAt (l : Launch) (D : va_G) (cA : Nat → ClassId) (h a n : Nat) (d : Nat → Int) (z : Int) (hd : By d) (hz : ir z) (hn : n < 2147483648) : kCi l D vwCl (kTys cA) yX0_byteAt wsX0_byteAt rmX0_byteAt [.ref h, .int (iI (z))] [(h, .inr (0, [.ref a])), (a, .inl (cA 1, n, .inl (fun y_ => bI (d y_))))] (fun r u => r = iI (bAt n d z) ∧ u = [(h, .inr (0, [.ref a])), (a, .inl (cA 1, n, .inl (fun y_ => bI (d y_))))]) := by
  intro sz
  refine kEntry (cc := cX0_byteAt) (maxL := 2) (ret := (some .int)) (by decide) rfl (Nat.le_of_ble_eq_true rfl) ?_
  intro p e s m args below meth c A Q hAe hQ C0 hr hlk S hsz ls hl
  have hl : lv_has ls 2 [(0, .ref h), (1, .int (iI (z)))] := hl
  obtain ⟨hz1, hz2⟩ := hz
  refine lv_iload_n C0.1 C0.2.1 dX0_byteAt_0 rfl (lv_at hl 1 rfl) ?_
  refine k_if_lt (tgt := 26) C0 (by constructor <;> omega) dX0_byteAt_1 (by decide) (fun c1 => ?_) (fun c1 => ?_)
  · refine lv_iconst (v := iI (-1)) C0.1 C0.2.1 dX0_byteAt_26 rfl ?_
    subst hQ
    refine k_iret C0 S hAe hsz hr hlk dX0_byteAt_27 ?_
    exact ⟨congrArg iI (by unfold bAt; rw [if_neg (by omega)]), rfl⟩
  · refine lv_iload_n C0.1 C0.2.1 dX0_byteAt_4 rfl (lv_at hl 1 rfl) ?_
    refine lv_aload_n C0.1 C0.2.1 dX0_byteAt_5 rfl (lv_at hl 0 rfl) ?_
    refine k_get C0 S (C := RX0) (T := TX0) (N := 1) (ci := 0) (by decide +kernel) 0 rfl rfl 0 (by decide) (by decide +kernel) (v := .ref a) rfl dX0_byteAt_6 ?_
    refine k_alen C0 S 1 1 rfl rfl dX0_byteAt_9 ?_
    refine k_icmp_ge (tgt := 26) C0 (by constructor <;> omega) (by constructor <;> omega) dX0_byteAt_10 (by decide) (fun c2 => ?_) (fun c2 => ?_)
    · refine lv_iconst (v := iI (-1)) C0.1 C0.2.1 dX0_byteAt_26 rfl ?_
      subst hQ
      refine k_iret C0 S hAe hsz hr hlk dX0_byteAt_27 ?_
      exact ⟨congrArg iI (by unfold bAt; rw [if_neg (by omega)]), rfl⟩
    · refine lv_aload_n C0.1 C0.2.1 dX0_byteAt_13 rfl (lv_at hl 0 rfl) ?_
      refine k_get C0 S (C := RX0) (T := TX0) (N := 1) (ci := 0) (by decide +kernel) 0 rfl rfl 0 (by decide) (by decide +kernel) (v := .ref a) rfl dX0_byteAt_14 ?_
      refine lv_iload_n C0.1 C0.2.1 dX0_byteAt_17 rfl (lv_at hl 1 rfl) ?_
      refine k_bald C0 S 1 1 rfl rfl (z := z) (by omega) (by omega) (by omega) dX0_byteAt_18 ?_
      refine lv_sipush (v := iI (255)) C0.1 C0.2.1 dX0_byteAt_19 (by decide) ?_
      refine lv_iand C0.1 C0.2.1 dX0_byteAt_22 ?_
      refine k_topeq (v := iI (d (z).toNat)) (bI_and' (hd _).1 (hd _).2) ?_
      refine lv_goto (tgt := 27) C0.1 C0.2.1 dX0_byteAt_23 (by decide) ?_
      subst hQ
      refine k_iret C0 S hAe hsz hr hlk dX0_byteAt_27 ?_
      exact ⟨congrArg iI (by unfold bAt; rw [if_pos ⟨by omega, by omega⟩]; rfl), rfl⟩
def rmX0_wordAt : Room := { frames := 0, cells := 0, slots := 0, locals := 0 }
set_option maxHeartbeats 4000000 in
set_option maxRecDepth 100000 in
theorem c_X0_wordAt (l : Launch) (D : va_G) (cA : Nat → ClassId) (h a n : Nat) (d : Nat → Int) (z : Int) (hd : By d) (hz : ir z) (hn : n < 2147483648) : kCi l D vwCl (kTys cA) yX0_wordAt wsX0_wordAt rmX0_wordAt [.ref h, .int (iI (z))] [(h, .inr (0, [.ref a])), (a, .inl (cA 1, n, .inl (fun y_ => bI (d y_))))] (fun r u => r = iI (wAt n d z) ∧ u = [(h, .inr (0, [.ref a])), (a, .inl (cA 1, n, .inl (fun y_ => bI (d y_))))]) := by
  intro sz
  refine kEntry (cc := cX0_wordAt) (maxL := 2) (ret := (some .int)) (by decide) rfl (Nat.le_of_ble_eq_true rfl) ?_
  intro p e s m args below meth c A Q hAe hQ C0 hr hlk S hsz ls hl
  have hl : lv_has ls 2 [(0, .ref h), (1, .int (iI (z)))] := hl
  obtain ⟨hz1, hz2⟩ := hz
  refine lv_iload_n C0.1 C0.2.1 dX0_wordAt_0 rfl (lv_at hl 1 rfl) ?_
  refine k_if_lt (tgt := 15) C0 (by constructor <;> omega) dX0_wordAt_1 (by decide) (fun c1 => ?_) (fun c1 => ?_)
  · refine lv_iconst (v := iI (0)) C0.1 C0.2.1 dX0_wordAt_15 rfl ?_
    subst hQ
    refine k_iret C0 S hAe hsz hr hlk dX0_wordAt_16 ?_
    exact ⟨congrArg iI (by unfold wAt; rw [if_pos (by omega)]), rfl⟩
  · refine lv_iload_n C0.1 C0.2.1 dX0_wordAt_4 rfl (lv_at hl 1 rfl) ?_
    refine lv_aload_n C0.1 C0.2.1 dX0_wordAt_5 rfl (lv_at hl 0 rfl) ?_
    refine k_get C0 S (C := RX0) (T := TX0) (N := 1) (ci := 0) (by decide +kernel) 0 rfl rfl 0 (by decide) (by decide +kernel) (v := .ref a) rfl dX0_wordAt_6 ?_
    refine k_alen C0 S 1 1 rfl rfl dX0_wordAt_9 ?_
    refine lv_iconst (v := iI (1)) C0.1 C0.2.1 dX0_wordAt_10 rfl ?_
    refine k_isub C0 dX0_wordAt_11 ?_
    refine k_icmp_lt (tgt := 17) C0 (by constructor <;> omega) (by constructor <;> omega) dX0_wordAt_12 (by decide) (fun c2 => ?_) (fun c2 => ?_)
    · refine lv_aload_n C0.1 C0.2.1 dX0_wordAt_17 rfl (lv_at hl 0 rfl) ?_
      refine k_get C0 S (C := RX0) (T := TX0) (N := 1) (ci := 0) (by decide +kernel) 0 rfl rfl 0 (by decide) (by decide +kernel) (v := .ref a) rfl dX0_wordAt_18 ?_
      refine lv_iload_n C0.1 C0.2.1 dX0_wordAt_21 rfl (lv_at hl 1 rfl) ?_
      refine k_bald C0 S 1 1 rfl rfl (z := z) (by omega) (by omega) (by omega) dX0_wordAt_22 ?_
      refine lv_sipush (v := iI (255)) C0.1 C0.2.1 dX0_wordAt_23 (by decide) ?_
      refine lv_iand C0.1 C0.2.1 dX0_wordAt_26 ?_
      refine k_topeq (v := iI (d (z).toNat)) (bI_and' (hd _).1 (hd _).2) ?_
      refine lv_aload_n C0.1 C0.2.1 dX0_wordAt_27 rfl (lv_at hl 0 rfl) ?_
      refine k_get C0 S (C := RX0) (T := TX0) (N := 1) (ci := 0) (by decide +kernel) 0 rfl rfl 0 (by decide) (by decide +kernel) (v := .ref a) rfl dX0_wordAt_28 ?_
      refine lv_iload_n C0.1 C0.2.1 dX0_wordAt_31 rfl (lv_at hl 1 rfl) ?_
      refine lv_iconst (v := iI (1)) C0.1 C0.2.1 dX0_wordAt_32 rfl ?_
      refine k_iadd C0 dX0_wordAt_33 ?_
      refine k_bald C0 S 1 1 rfl rfl (z := z + 1) (by omega) (by omega) (by omega) dX0_wordAt_34 ?_
      refine lv_sipush (v := iI (255)) C0.1 C0.2.1 dX0_wordAt_35 (by decide) ?_
      refine lv_iand C0.1 C0.2.1 dX0_wordAt_38 ?_
      refine k_topeq (v := iI (d (z + 1).toNat)) (bI_and' (hd _).1 (hd _).2) ?_
      refine lv_bipush (v := iI (8)) C0.1 C0.2.1 dX0_wordAt_39 (by decide) ?_
      refine lv_ishl C0.1 C0.2.1 dX0_wordAt_41 ?_
      refine k_topeq (v := iI (d (z + 1).toNat * 256)) (iI_shl8 (hd _).1 (by have := (hd (z + 1).toNat).2; omega)) ?_
      refine lv_ior C0.1 C0.2.1 dX0_wordAt_42 ?_
      refine k_topeq (v := iI (d (z).toNat + d (z + 1).toNat * 256)) (iI_or8 (hd _).1 (hd _).2 (hd _).1) ?_
      subst hQ
      refine k_iret C0 S hAe hsz hr hlk dX0_wordAt_43 ?_
      exact ⟨congrArg iI (by unfold wAt; rw [if_neg (by omega)]; unfold rd; omega), rfl⟩
    · refine lv_iconst (v := iI (0)) C0.1 C0.2.1 dX0_wordAt_15 rfl ?_
      subst hQ
      refine k_iret C0 S hAe hsz hr hlk dX0_wordAt_16 ?_
      exact ⟨congrArg iI (by unfold wAt; rw [if_pos (by omega)]), rfl⟩
def rmX0_put : Room := { frames := 0, cells := 0, slots := 0, locals := 0 }
set_option maxHeartbeats 4000000 in
set_option maxRecDepth 100000 in
theorem c_X0_put (l : Launch) (D : va_G) (cA : Nat → ClassId) (h a n : Nat) (d : Nat → Int) (z : Int) (b : Int64) (k : Int) (hd : By d) (hz : ir z) (hk : ir k) (hn : n < 2147483640) : kCi l D vwCl (kTys cA) yX0_put wsX0_put rmX0_put [.ref h, .int (iI (z)), .long (b), .int (iI (k))] [(h, .inr (0, [.ref a])), (a, .inl (cA 1, n, .inl (fun y_ => bI (d y_))))] (fun r u => ∃ d2 : Nat → Int, r = iI (bz (putOk n z k)) ∧ u = [(h, .inr (0, [.ref a])), (a, .inl (cA 1, n, .inl (fun y_ => bI (d2 y_))))] ∧ (putOk n z k → d2 = putK d z b k.toNat) ∧ (¬ putOk n z k → d2 = d)) := by
  intro sz
  refine kEntry (cc := cX0_put) (maxL := 6) (ret := (some .boolean)) (by decide) rfl (Nat.le_of_ble_eq_true rfl) ?_
  intro p e s m args below meth c A Q hAe hQ C0 hr hlk S hsz ls hl
  have hl : lv_has ls 6 [(0, .ref h), (1, .int (iI (z))), (2, .long (b)), (4, .int (iI (k)))] := hl
  obtain ⟨hz1, hz2⟩ := hz
  obtain ⟨hk1, hk2⟩ := hk
  refine lv_iload C0.1 C0.2.1 dX0_put_0 (lv_at hl 3 rfl) ?_
  refine lv_iconst (v := iI (1)) C0.1 C0.2.1 dX0_put_2 rfl ?_
  refine k_icmp_lt (tgt := 29) C0 (by constructor <;> omega) ⟨by decide, by decide⟩ dX0_put_3 (by decide) (fun c1 => ?_) (fun c1 => ?_)
  · refine lv_iconst (v := iI (0)) C0.1 C0.2.1 dX0_put_29 rfl ?_
    subst hQ
    refine k_zret C0 S hAe hsz hr hlk (by rfl) dX0_put_30 ?_
    exact ⟨d, congrArg iI (bz_f (by unfold putOk; omega)).symm, rfl, fun h => absurd h (by unfold putOk; omega), fun _ => rfl⟩
  · refine lv_iload C0.1 C0.2.1 dX0_put_6 (lv_at hl 3 rfl) ?_
    refine lv_bipush (v := iI (8)) C0.1 C0.2.1 dX0_put_8 (by decide) ?_
    refine k_icmp_gt (tgt := 29) C0 (by constructor <;> omega) ⟨by decide, by decide⟩ dX0_put_10 (by decide) (fun c2 => ?_) (fun c2 => ?_)
    · refine lv_iconst (v := iI (0)) C0.1 C0.2.1 dX0_put_29 rfl ?_
      subst hQ
      refine k_zret C0 S hAe hsz hr hlk (by rfl) dX0_put_30 ?_
      exact ⟨d, congrArg iI (bz_f (by unfold putOk; omega)).symm, rfl, fun h => absurd h (by unfold putOk; omega), fun _ => rfl⟩
    · refine lv_iload_n C0.1 C0.2.1 dX0_put_13 rfl (lv_at hl 1 rfl) ?_
      refine k_if_lt (tgt := 29) C0 (by constructor <;> omega) dX0_put_14 (by decide) (fun c3 => ?_) (fun c3 => ?_)
      · refine lv_iconst (v := iI (0)) C0.1 C0.2.1 dX0_put_29 rfl ?_
        subst hQ
        refine k_zret C0 S hAe hsz hr hlk (by rfl) dX0_put_30 ?_
        exact ⟨d, congrArg iI (bz_f (by unfold putOk; omega)).symm, rfl, fun h => absurd h (by unfold putOk; omega), fun _ => rfl⟩
      · refine lv_iload_n C0.1 C0.2.1 dX0_put_17 rfl (lv_at hl 1 rfl) ?_
        refine lv_aload_n C0.1 C0.2.1 dX0_put_18 rfl (lv_at hl 0 rfl) ?_
        refine k_get C0 S (C := RX0) (T := TX0) (N := 1) (ci := 0) (by decide +kernel) 0 rfl rfl 0 (by decide) (by decide +kernel) (v := .ref a) rfl dX0_put_19 ?_
        refine k_alen C0 S 1 1 rfl rfl dX0_put_22 ?_
        refine lv_iload C0.1 C0.2.1 dX0_put_23 (lv_at hl 3 rfl) ?_
        refine k_isub C0 dX0_put_25 ?_
        refine k_icmp_le (tgt := 31) C0 (by constructor <;> omega) (by constructor <;> omega) dX0_put_26 (by decide) (fun c4 => ?_) (fun c4 => ?_)
        · refine lv_iconst (v := iI (0)) C0.1 C0.2.1 dX0_put_31 rfl ?_
          refine lv_istore (lv' := [(5, .int (iI (0))), (0, .ref h), (1, .int (iI (z))), (2, .long (b)), (4, .int (iI (k)))]) C0.1 C0.2.1 dX0_put_32 hl (by decide) rfl (fun ls hl => ?_)
          have L34 : ∀ (n_ : Nat) (j : Nat), ((j : Int) ≤ k) → ((k - (j : Int)).toNat < n_) → ∀ (H : Heap) (locs : List Loc), kS D vwCl (kTys cA) A s [(h, .inr (0, [.ref a])), (a, .inl (cA 1, n, .inl (fun y_ => bI ((putK d z b j) y_))))] H locs → ∀ ls : Array Slot, lv_has ls 6 [(5, .int (iI ((j : Int)))), (0, .ref h), (1, .int (iI (z))), (2, .long (b)), (4, .int (iI (k)))] → W p l e rmX0_put s m args below meth c H locs 0 0 Q (F0 m 34 ls []) := by
            intro n_
            induction n_ with
            | zero => intro j hi34_0 hm; exact absurd hm (Nat.not_lt_zero _)
            | succ n_ ih34 =>
              intro j hi34_0 hm H locs S ls hl
              refine lv_iload C0.1 C0.2.1 dX0_put_34 (lv_at hl 0 rfl) ?_
              refine lv_iload C0.1 C0.2.1 dX0_put_36 (lv_at hl 4 rfl) ?_
              refine k_icmp_ge (tgt := 65) C0 (by constructor <;> omega) (by constructor <;> omega) dX0_put_38 (by decide) (fun c5 => ?_) (fun c5 => ?_)
              · refine lv_iconst (v := iI (1)) C0.1 C0.2.1 dX0_put_65 rfl ?_
                subst hQ
                refine k_zret C0 S hAe hsz hr hlk (by rfl) dX0_put_66 ?_
                exact ⟨_, congrArg iI (bz_t (by unfold putOk; omega)).symm, rfl, fun _ => by rw [show (j : Nat) = k.toNat by omega], fun h => absurd (show putOk n z k by unfold putOk; omega) h⟩
              · refine lv_aload_n C0.1 C0.2.1 dX0_put_41 rfl (lv_at hl 1 rfl) ?_
                refine k_get C0 S (C := RX0) (T := TX0) (N := 1) (ci := 0) (by decide +kernel) 0 rfl rfl 0 (by decide) (by decide +kernel) (v := .ref a) rfl dX0_put_42 ?_
                refine lv_iload_n C0.1 C0.2.1 dX0_put_45 rfl (lv_at hl 2 rfl) ?_
                refine lv_iload C0.1 C0.2.1 dX0_put_46 (lv_at hl 0 rfl) ?_
                refine k_iadd C0 dX0_put_48 ?_
                refine lv_lload_n C0.1 C0.2.1 dX0_put_49 rfl (lv_at hl 3 rfl) ?_
                refine lv_bipush (v := iI (8)) C0.1 C0.2.1 dX0_put_50 (by decide) ?_
                refine lv_iload C0.1 C0.2.1 dX0_put_52 (lv_at hl 0 rfl) ?_
                refine k_imul C0 dX0_put_54 ?_
                refine lv_lshr (v := (b) >>> ((iI (8 * ((j : Int)))).toInt64 &&& 63)) C0.1 C0.2.1 dX0_put_55 rfl ?_
                refine lv_l2i (v := ((b) >>> ((iI (8 * ((j : Int)))).toInt64 &&& 63)).toInt32) C0.1 C0.2.1 dX0_put_56 rfl ?_
                refine lv_i2b (v := ((((b) >>> ((iI (8 * ((j : Int)))).toInt64 &&& 63)).toInt32)).toInt8.toInt32) C0.1 C0.2.1 dX0_put_57 rfl ?_
                refine k_bast (ws' := [(h, .inr (0, [.ref a])), (a, .inl (cA 1, n, .inl (fun y_ => bI ((va_up (putK d z b j) (z + ((j : Int))).toNat (byt b j)) y_))))]) C0 S 1 1 rfl rfl (z := z + ((j : Int))) (v := byt b j) (byt_eq b j (by omega)) (by omega) (by omega) (by omega) dX0_put_58 rfl (fun H locs S => ?_)
                refine lv_iinc (v := iI ((j : Int) + 1)) (lv' := [(5, .int (iI ((j : Int) + 1))), (0, .ref h), (1, .int (iI (z))), (2, .long (b)), (4, .int (iI (k)))]) C0.1 C0.2.1 dX0_put_59 hl (k := 0) rfl (iI_add _ _) (by decide) rfl (fun ls hl => ?_)
                refine lv_goto (tgt := 34) C0.1 C0.2.1 dX0_put_62 (by decide) ?_
                exact ih34 (j + 1) (by omega) (by omega) _ _ S _ (lv_sub hl [0, 1, 2, 3, 4] rfl)
          exact L34 (9) (0) (by omega) (by omega) _ _ S _ (lv_sub hl [0, 1, 2, 3, 4] rfl)
        · refine lv_iconst (v := iI (0)) C0.1 C0.2.1 dX0_put_29 rfl ?_
          subst hQ
          refine k_zret C0 S hAe hsz hr hlk (by rfl) dX0_put_30 ?_
          exact ⟨d, congrArg iI (bz_f (by unfold putOk; omega)).symm, rfl, fun h => absurd h (by unfold putOk; omega), fun _ => rfl⟩
def rmJ7_fill_031fb : Room := { frames := 0, cells := 0, slots := 0, locals := 0 }
set_option maxHeartbeats 4000000 in
set_option maxRecDepth 100000 in
theorem c_J7_fill_031fb (l : Launch) (D : va_G) (cA : Nat → ClassId) (a n : Nat) (d : Nat → Int) (v : Int) (hn : n < 2147483640) : kCv l D vwCl (kTys cA) yJ7_fill_031fb wsJ7_fill_031fb rmJ7_fill_031fb [.ref a, .int (bI (v))] [(a, .inl (cA 1, n, .inl (fun y_ => bI (d y_))))] (fun u => ∃ d2 : Nat → Int, u = [(a, .inl (cA 1, n, .inl (fun y_ => bI (d2 y_))))] ∧ ∀ j, j < n → d2 j = v) := by
  intro sz
  refine kEntry (cc := cJ7_fill_031fb) (maxL := 4) (ret := none) (by decide) rfl (Nat.le_of_ble_eq_true rfl) ?_
  intro p e s m args below meth c A Q hAe hQ C0 hr hlk S hsz ls hl
  have hl : lv_has ls 4 [(0, .ref a), (1, .int (bI (v)))] := hl
  refine lv_iconst (v := iI (0)) C0.1 C0.2.1 dJ7_fill_031fb_0 rfl ?_
  refine lv_istore_n (lv' := [(2, .int (iI (0))), (0, .ref a), (1, .int (bI (v)))]) C0.1 C0.2.1 dJ7_fill_031fb_1 rfl hl (by decide) rfl (fun ls hl => ?_)
  refine lv_aload_n C0.1 C0.2.1 dJ7_fill_031fb_2 rfl (lv_at hl 1 rfl) ?_
  refine k_alen C0 S 0 1 rfl rfl dJ7_fill_031fb_3 ?_
  refine lv_istore_n (lv' := [(3, .int (iI ((n : Nat)))), (2, .int (iI (0))), (0, .ref a), (1, .int (bI (v)))]) C0.1 C0.2.1 dJ7_fill_031fb_4 rfl hl (by decide) rfl (fun ls hl => ?_)
  have L5 : ∀ (n_ : Nat) (j : Nat) (d2 : Nat → Int), ((j : Int) ≤ n) → (∀ i, i < j → d2 i = v) → (n - j < n_) → ∀ (H : Heap) (locs : List Loc), kS D vwCl (kTys cA) A s [(a, .inl (cA 1, n, .inl (fun y_ => bI (d2 y_))))] H locs → ∀ ls : Array Slot, lv_has ls 4 [(2, .int (iI ((j : Int)))), (3, .int (iI (((n : Nat) : Int)))), (0, .ref a), (1, .int (bI (v)))] → W p l e rmJ7_fill_031fb s m args below meth c H locs 0 0 Q (F0 m 5 ls []) := by
    intro n_
    induction n_ with
    | zero => intro j d2 hi5_0 hi5_1 hm; exact absurd hm (Nat.not_lt_zero _)
    | succ n_ ih5 =>
      intro j d2 hi5_0 hi5_1 hm H locs S ls hl
      refine lv_iload_n C0.1 C0.2.1 dJ7_fill_031fb_5 rfl (lv_at hl 0 rfl) ?_
      refine lv_iload_n C0.1 C0.2.1 dJ7_fill_031fb_6 rfl (lv_at hl 1 rfl) ?_
      refine k_icmp_ge (tgt := 20) C0 (by constructor <;> omega) (by constructor <;> omega) dJ7_fill_031fb_7 (by decide) (fun c1 => ?_) (fun c1 => ?_)
      · subst hQ
        refine k_vret C0 S hAe hsz hr hlk dJ7_fill_031fb_20 ?_
        exact ⟨d2, rfl, fun i h => hi5_1 i (by omega)⟩
      · refine lv_aload_n C0.1 C0.2.1 dJ7_fill_031fb_10 rfl (lv_at hl 2 rfl) ?_
        refine lv_iload_n C0.1 C0.2.1 dJ7_fill_031fb_11 rfl (lv_at hl 0 rfl) ?_
        refine lv_iload_n C0.1 C0.2.1 dJ7_fill_031fb_12 rfl (lv_at hl 3 rfl) ?_
        refine k_bast (ws' := [(a, .inl (cA 1, n, .inl (fun y_ => bI ((va_up d2 ((j : Int)).toNat (v)) y_))))]) C0 S 0 1 rfl rfl (z := (j : Int)) (v := v) (by unfold bI; rw [i8_idem]) (by omega) (by omega) (by omega) dJ7_fill_031fb_13 rfl (fun H locs S => ?_)
        refine lv_iinc (v := iI ((j : Int) + 1)) (lv' := [(2, .int (iI ((j : Int) + 1))), (3, .int (iI (((n : Nat) : Int)))), (0, .ref a), (1, .int (bI (v)))]) C0.1 C0.2.1 dJ7_fill_031fb_14 hl (k := 0) rfl (iI_add _ _) (by decide) rfl (fun ls hl => ?_)
        refine lv_goto (tgt := 5) C0.1 C0.2.1 dJ7_fill_031fb_17 (by decide) ?_
        exact ih5 (j + 1) (va_up d2 ((j : Int)).toNat (v)) (by omega) (fun i h => by unfold va_up; split; rfl; exact hi5_1 i (by omega)) (by omega) _ _ S _ (lv_sub hl [0, 1, 2, 3] rfl)
  exact L5 (n + 1) (0) (d) (by omega) (fun i h => absurd h (Nat.not_lt_zero _)) (by omega) _ _ S _ (lv_sub hl [1, 0, 2, 3] rfl)
def rmJ7_fill_53178 : Room := { frames := 0, cells := 0, slots := 0, locals := 0 }
set_option maxHeartbeats 4000000 in
set_option maxRecDepth 100000 in
theorem c_J7_fill_53178 (l : Launch) (D : va_G) (cA : Nat → ClassId) (a n : Nat) (d : Nat → Int) (v : Int) (hn : n < 2147483640) : kCv l D vwCl (kTys cA) yJ7_fill_53178 wsJ7_fill_53178 rmJ7_fill_53178 [.ref a, .int (iI (v))] [(a, .inl (cA 0, n, .inl (fun y_ => iI (d y_))))] (fun u => ∃ d2 : Nat → Int, u = [(a, .inl (cA 0, n, .inl (fun y_ => iI (d2 y_))))] ∧ ∀ j, j < n → d2 j = v) := by
  intro sz
  refine kEntry (cc := cJ7_fill_53178) (maxL := 4) (ret := none) (by decide) rfl (Nat.le_of_ble_eq_true rfl) ?_
  intro p e s m args below meth c A Q hAe hQ C0 hr hlk S hsz ls hl
  have hl : lv_has ls 4 [(0, .ref a), (1, .int (iI (v)))] := hl
  refine lv_iconst (v := iI (0)) C0.1 C0.2.1 dJ7_fill_53178_0 rfl ?_
  refine lv_istore_n (lv' := [(2, .int (iI (0))), (0, .ref a), (1, .int (iI (v)))]) C0.1 C0.2.1 dJ7_fill_53178_1 rfl hl (by decide) rfl (fun ls hl => ?_)
  refine lv_aload_n C0.1 C0.2.1 dJ7_fill_53178_2 rfl (lv_at hl 1 rfl) ?_
  refine k_alen C0 S 0 0 rfl rfl dJ7_fill_53178_3 ?_
  refine lv_istore_n (lv' := [(3, .int (iI ((n : Nat)))), (2, .int (iI (0))), (0, .ref a), (1, .int (iI (v)))]) C0.1 C0.2.1 dJ7_fill_53178_4 rfl hl (by decide) rfl (fun ls hl => ?_)
  have L5 : ∀ (n_ : Nat) (j : Nat) (d2 : Nat → Int), ((j : Int) ≤ n) → (∀ i, i < j → d2 i = v) → (n - j < n_) → ∀ (H : Heap) (locs : List Loc), kS D vwCl (kTys cA) A s [(a, .inl (cA 0, n, .inl (fun y_ => iI (d2 y_))))] H locs → ∀ ls : Array Slot, lv_has ls 4 [(2, .int (iI ((j : Int)))), (3, .int (iI (((n : Nat) : Int)))), (0, .ref a), (1, .int (iI (v)))] → W p l e rmJ7_fill_53178 s m args below meth c H locs 0 0 Q (F0 m 5 ls []) := by
    intro n_
    induction n_ with
    | zero => intro j d2 hi5_0 hi5_1 hm; exact absurd hm (Nat.not_lt_zero _)
    | succ n_ ih5 =>
      intro j d2 hi5_0 hi5_1 hm H locs S ls hl
      refine lv_iload_n C0.1 C0.2.1 dJ7_fill_53178_5 rfl (lv_at hl 0 rfl) ?_
      refine lv_iload_n C0.1 C0.2.1 dJ7_fill_53178_6 rfl (lv_at hl 1 rfl) ?_
      refine k_icmp_ge (tgt := 20) C0 (by constructor <;> omega) (by constructor <;> omega) dJ7_fill_53178_7 (by decide) (fun c1 => ?_) (fun c1 => ?_)
      · subst hQ
        refine k_vret C0 S hAe hsz hr hlk dJ7_fill_53178_20 ?_
        exact ⟨d2, rfl, fun i h => hi5_1 i (by omega)⟩
      · refine lv_aload_n C0.1 C0.2.1 dJ7_fill_53178_10 rfl (lv_at hl 2 rfl) ?_
        refine lv_iload_n C0.1 C0.2.1 dJ7_fill_53178_11 rfl (lv_at hl 0 rfl) ?_
        refine lv_iload_n C0.1 C0.2.1 dJ7_fill_53178_12 rfl (lv_at hl 3 rfl) ?_
        refine k_iast (ws' := [(a, .inl (cA 0, n, .inl (fun y_ => iI ((va_up d2 ((j : Int)).toNat (v)) y_))))]) C0 S 0 0 rfl rfl (z := (j : Int)) (by omega) (by omega) (by omega) dJ7_fill_53178_13 rfl (fun H locs S => ?_)
        refine lv_iinc (v := iI ((j : Int) + 1)) (lv' := [(2, .int (iI ((j : Int) + 1))), (3, .int (iI (((n : Nat) : Int)))), (0, .ref a), (1, .int (iI (v)))]) C0.1 C0.2.1 dJ7_fill_53178_14 hl (k := 0) rfl (iI_add _ _) (by decide) rfl (fun ls hl => ?_)
        refine lv_goto (tgt := 5) C0.1 C0.2.1 dJ7_fill_53178_17 (by decide) ?_
        exact ih5 (j + 1) (va_up d2 ((j : Int)).toNat (v)) (by omega) (fun i h => by unfold va_up; split; rfl; exact hi5_1 i (by omega)) (by omega) _ _ S _ (lv_sub hl [0, 1, 2, 3] rfl)
  exact L5 (n + 1) (0) (d) (by omega) (fun i h => absurd h (Nat.not_lt_zero _)) (by omega) _ _ S _ (lv_sub hl [1, 0, 2, 3] rfl)
def rmX0_clear : Room := { frames := 1, cells := 0, slots := 0, locals := 23 }
set_option maxHeartbeats 4000000 in
set_option maxRecDepth 100000 in
theorem c_X0_clear (l : Launch) (D : va_G) (cA : Nat → ClassId) (h a n : Nat) (d : Nat → Int) (hn : n < 2147483640) : kCv l D vwCl (kTys cA) yX0_clear wsX0_clear rmX0_clear [.ref h] [(h, .inr (0, [.ref a])), (a, .inl (cA 1, n, .inl (fun y_ => bI (d y_))))] (fun u => ∃ d2 : Nat → Int, u = [(h, .inr (0, [.ref a])), (a, .inl (cA 1, n, .inl (fun y_ => bI (d2 y_))))] ∧ ∀ j, j < n → d2 j = 0) := by
  intro sz
  refine kEntry (cc := cX0_clear) (maxL := 1) (ret := none) (by decide) rfl (Nat.le_of_ble_eq_true rfl) ?_
  intro p e s m args below meth c A Q hAe hQ C0 hr hlk S hsz ls hl
  have hl : lv_has ls 1 [(0, .ref h)] := hl
  refine lv_aload_n C0.1 C0.2.1 dX0_clear_0 rfl (lv_at hl 0 rfl) ?_
  refine k_get C0 S (C := RX0) (T := TX0) (N := 1) (ci := 0) (by decide +kernel) 0 rfl rfl 0 (by decide) (by decide +kernel) (v := .ref a) rfl dX0_clear_1 ?_
  refine lv_iconst (v := iI (0)) C0.1 C0.2.1 dX0_clear_4 rfl ?_
  refine k_topeq (v := bI (0)) (by decide) ?_
  refine k_callSv (n := 2) (wr := [(h, .inr (0, [.ref a]))]) C0 S (c_J7_fill_031fb l D cA a n d (0) (by omega)) gX0_clear_J7_fill_031fb rfl ⟨rfl, rfl⟩ (by decide +kernel) ⟨Nat.le_of_ble_eq_true rfl, Nat.le_of_ble_eq_true rfl⟩ [1] [0] rfl rfl rfl rfl (by decide) (As := [.ref a, .int (bI (0))]) rfl hl.1 rfl (Nat.le_of_ble_eq_true rfl) dX0_clear_5 ⟨Nat.zero_le _, Nat.zero_le _⟩ (fun u H locs hp S => ?_)
  obtain ⟨f1, rfl, hf1⟩ := hp
  have S := S.sub (ws' := [(h, .inr (0, [.ref a])), (a, .inl (cA 1, n, .inl (fun y_ => bI (f1 y_))))]) [0, 1] rfl rfl
  subst hQ
  refine k_vret C0 S hAe hsz hr hlk dX0_clear_8 ?_
  exact ⟨_, rfl, hf1⟩
