def rmX10_find : Room := { frames := 5, cells := 0, slots := 0, locals := 117 }
set_option maxHeartbeats 4000000 in
set_option maxRecDepth 100000 in
theorem c_X10_find (l : Launch) (D : va_G) (cA : Nat → ClassId) (hM aD aM aX aP aQ aK aO aA a1 a2 a3 : Nat) (st tl pn nc kl ol al : Int) (d : Nat → Int) (px nm : Nat → Int) (hd : By d) (hB2 : gB d) (hpx : By px) (hp0 : 0 ≤ pn) (hp1 : pn ≤ 200) : kCi l D vwCl (kTys cA) yX10_find wsX10_find rmX10_find [.ref hM] [(hM, .inr (10, [.ref aD, .ref aM, .int (iI (st)), .int (iI (chs d)), .int (iI (gTA d)), .int (iI (gT d)), .int (iI (gTS d)), .int (iI (gCS d)), .int (iI (gCA d)), .int (iI (gN d)), .int (iI (gRoot d)), .ref aX, .int (iI (tl)), .ref aP, .int (iI (pn)), .ref aQ, .int (iI (nc)), .ref aK, .ref aO, .ref aA, .int (iI (kl)), .int (iI (ol)), .int (iI (al)), .ref a1, .ref a2, .ref a3])), (aD, .inl (cA 0, 2048, .inl (fun y_ => iI (d y_)))), (aP, .inl (cA 0, 200, .inl (fun y_ => iI (px y_)))), (aQ, .inl (cA 0, 4, .inl (fun y_ => iI (nm y_))))] (fun r u => ∃ (nc2 : Int) (nm2 : Nat → Int), r = iI (fnM d px pn.toNat) ∧ u = [(hM, .inr (10, [.ref aD, .ref aM, .int (iI (st)), .int (iI (chs d)), .int (iI (gTA d)), .int (iI (gT d)), .int (iI (gTS d)), .int (iI (gCS d)), .int (iI (gCA d)), .int (iI (gN d)), .int (iI (gRoot d)), .ref aX, .int (iI (tl)), .ref aP, .int (iI (pn)), .ref aQ, .int (iI (nc2)), .ref aK, .ref aO, .ref aA, .int (iI (kl)), .int (iI (ol)), .int (iI (al)), .ref a1, .ref a2, .ref a3])), (aD, .inl (cA 0, 2048, .inl (fun y_ => iI (d y_)))), (aP, .inl (cA 0, 200, .inl (fun y_ => iI (px y_)))), (aQ, .inl (cA 0, 4, .inl (fun y_ => iI (nm2 y_))))] ∧ (fnM d px pn.toNat < 0 ∨ fnM d px pn.toNat + 8 ≤ 2048) ∧ -100 ≤ fnM d px pn.toNat) := by
  intro sz
  refine kEntry (cc := cX10_find) (maxL := 4) (ret := (some .int)) (by decide) rfl (Nat.le_of_ble_eq_true rfl) ?_
  intro p e s m args below meth c A Q hAe hQ C0 hr hlk S hsz ls hl
  have hl : lv_has ls 4 [(0, .ref hM)] := hl
  have hlin := hB2.lin
  refine lv_aload_n C0.1 C0.2.1 dX10_find_0 rfl (lv_at hl 0 rfl) ?_
  refine k_calli (n := 0) (wr := [(aD, .inl (cA 0, 2048, .inl (fun y_ => iI (d y_))))]) C0 S (c_X10_parse l D cA hM aD aM aX aP aQ aK aO aA a1 a2 a3 (st) (chs d) (gTA d) (gT d) (gTS d) (gCS d) (gCA d) (gN d) (gRoot d) (tl) (pn) (nc) (kl) (ol) (al) d px nm hpx (by omega) (by omega)) gX10_find_X10_parse rfl ⟨rfl, rfl⟩ (by decide +kernel) ⟨Nat.le_of_ble_eq_true rfl, Nat.le_of_ble_eq_true rfl⟩ [0, 2, 3] [1] rfl rfl rfl rfl (by decide) (ci := 10) (q0 := 0) rfl rfl (As := []) rfl hl.1 rfl (Nat.le_of_ble_eq_true rfl) dX10_find_1 ⟨Nat.zero_le _, Nat.zero_le _⟩ (fun r u H locs hp S => ?_)
  obtain ⟨nq1, nm2, rfl, rfl, hpar⟩ := hp
  have S := S.sub (ws' := [(hM, .inr (10, [.ref aD, .ref aM, .int (iI (st)), .int (iI (chs d)), .int (iI (gTA d)), .int (iI (gT d)), .int (iI (gTS d)), .int (iI (gCS d)), .int (iI (gCA d)), .int (iI (gN d)), .int (iI (gRoot d)), .ref aX, .int (iI (tl)), .ref aP, .int (iI (pn)), .ref aQ, .int (iI (nq1)), .ref aK, .ref aO, .ref aA, .int (iI (kl)), .int (iI (ol)), .int (iI (al)), .ref a1, .ref a2, .ref a3])), (aD, .inl (cA 0, 2048, .inl (fun y_ => iI (d y_)))), (aP, .inl (cA 0, 200, .inl (fun y_ => iI (px y_)))), (aQ, .inl (cA 0, 4, .inl (fun y_ => iI (nm2 y_))))]) [1, 0, 2, 3] rfl rfl
  refine k_bz_ne (tgt := 10) C0 dX10_find_4 (by decide) (fun c4 => ?_) (fun c4 => ?_)
  · obtain ⟨⟨m2, ks⟩, hps⟩ := Option.ne_none_iff_exists'.mp c4
    obtain ⟨rfl, hks, hkr⟩ := hpar m2 ks hps
    obtain ⟨hm1, hm2⟩ := psr_count hps
    have hfm := fnM_some (d := d) hps
    refine lv_aload_n C0.1 C0.2.1 dX10_find_10 rfl (lv_at hl 0 rfl) ?_
    refine k_get C0 S (C := RX10) (T := TX10) (N := 26) (ci := 10) (by decide +kernel) 0 rfl rfl 10 (by decide) (by decide +kernel) (v := .int (iI (gRoot d))) rfl dX10_find_11 ?_
    refine lv_istore_n (lv' := [(1, .int (iI (gRoot d))), (0, .ref hM)]) C0.1 C0.2.1 dX10_find_14 rfl hl (by decide) rfl (fun ls hl => ?_)
    refine lv_bipush (v := iI (-6)) C0.1 C0.2.1 dX10_find_15 (by decide) ?_
    refine lv_istore_n (lv' := [(2, .int (iI (-6))), (1, .int (iI (gRoot d))), (0, .ref hM)]) C0.1 C0.2.1 dX10_find_17 rfl hl (by decide) rfl (fun ls hl => ?_)
    refine lv_iconst (v := iI (0)) C0.1 C0.2.1 dX10_find_18 rfl ?_
    refine lv_istore_n (lv' := [(3, .int (iI (0))), (2, .int (iI (-6))), (1, .int (iI (gRoot d))), (0, .ref hM)]) C0.1 C0.2.1 dX10_find_19 rfl hl (by decide) rfl (fun ls hl => ?_)
    have L20 : ∀ (n_ : Nat) (k : Nat) (first : Int) (a : Int), (k ≤ m2) → (FM d ks m2 k first a) → (0 ≤ first ∧ first < 256) → (ir a) → (m2 - k < n_) → ∀ (H : Heap) (locs : List Loc), kS D vwCl (kTys cA) A s [(hM, .inr (10, [.ref aD, .ref aM, .int (iI (st)), .int (iI (chs d)), .int (iI (gTA d)), .int (iI (gT d)), .int (iI (gTS d)), .int (iI (gCS d)), .int (iI (gCA d)), .int (iI (gN d)), .int (iI (gRoot d)), .ref aX, .int (iI (tl)), .ref aP, .int (iI (pn)), .ref aQ, .int (iI ((m2 : Int))), .ref aK, .ref aO, .ref aA, .int (iI (kl)), .int (iI (ol)), .int (iI (al)), .ref a1, .ref a2, .ref a3])), (aD, .inl (cA 0, 2048, .inl (fun y_ => iI (d y_)))), (aP, .inl (cA 0, 200, .inl (fun y_ => iI (px y_)))), (aQ, .inl (cA 0, 4, .inl (fun y_ => iI (nm2 y_))))] H locs → ∀ ls : Array Slot, lv_has ls 4 [(3, .int (iI ((k : Int)))), (2, .int (iI (a))), (1, .int (iI (first))), (0, .ref hM)] → W p l e rmX10_find s m args below meth c H locs 0 0 Q (F0 m 20 ls []) := by
      intro n_
      induction n_ with
      | zero => intro k first a hi20_0 hi20_1 hi20_2 hi20_3 hm; exact absurd hm (Nat.not_lt_zero _)
      | succ n_ ih20 =>
        intro k first a hi20_0 hi20_1 hi20_2 hi20_3 hm H locs S ls hl
        obtain ⟨hia1, hia2⟩ := hi20_3
        refine lv_iload_n C0.1 C0.2.1 dX10_find_20 rfl (lv_at hl 0 rfl) ?_
        refine lv_aload_n C0.1 C0.2.1 dX10_find_21 rfl (lv_at hl 3 rfl) ?_
        refine k_get C0 S (C := RX10) (T := TX10) (N := 26) (ci := 10) (by decide +kernel) 0 rfl rfl 16 (by decide) (by decide +kernel) (v := .int (iI ((m2 : Int)))) rfl dX10_find_22 ?_
        refine k_icmp_ge (tgt := 82) C0 (by constructor <;> omega) (by constructor <;> omega) dX10_find_25 (by decide) (fun c25 => ?_) (fun c25 => ?_)
        · refine lv_iload_n C0.1 C0.2.1 dX10_find_82 rfl (lv_at hl 1 rfl) ?_
          subst hQ
          refine k_iret C0 S hAe hsz hr hlk dX10_find_83 ?_
          have hq : fnM d px pn.toNat = a ∧ 0 ≤ a ∧ a + 8 ≤ 2048 := by rcases hi20_1 with ⟨h, _⟩ | ⟨_, e, h⟩; omega; exact ⟨hfm.trans e, h⟩
          exact ⟨_, _, congrArg iI hq.1.symm, rfl, by omega, by omega⟩
        · refine lv_aload_n C0.1 C0.2.1 dX10_find_28 rfl (lv_at hl 3 rfl) ?_
          refine lv_iload_n C0.1 C0.2.1 dX10_find_29 rfl (lv_at hl 2 rfl) ?_
          refine lv_aload_n C0.1 C0.2.1 dX10_find_30 rfl (lv_at hl 3 rfl) ?_
          refine k_get C0 S (C := RX10) (T := TX10) (N := 26) (ci := 10) (by decide +kernel) 0 rfl rfl 15 (by decide) (by decide +kernel) (v := .ref aQ) rfl dX10_find_31 ?_
          refine lv_iload_n C0.1 C0.2.1 dX10_find_34 rfl (lv_at hl 0 rfl) ?_
          refine k_iald C0 S 3 0 rfl rfl (z := (k : Int)) (by omega) (by omega) (by omega) dX10_find_35 ?_
          refine k_topeq (v := iI (ks k)) (by rw [show (k : Int).toNat = k by omega, hks k (by omega)]) ?_
          have hkq := hks k (by omega)
          refine k_calli (n := 2) (wr := [(aP, .inl (cA 0, 200, .inl (fun y_ => iI (px y_)))), (aQ, .inl (cA 0, 4, .inl (fun y_ => iI (nm2 y_))))]) C0 S (c_X10_lookUp l D cA hM aD aM aX aP aQ aK aO aA a1 a2 a3 (st) (tl) (pn) ((m2 : Int)) (kl) (ol) (al) d (first) (ks k) hd hB2 (by omega) (by omega) (hkr k (by omega)).1 (hkr k (by omega)).2) gX10_find_X10_lookUp rfl ⟨rfl, rfl⟩ (by decide +kernel) ⟨Nat.le_of_ble_eq_true rfl, Nat.le_of_ble_eq_true rfl⟩ [0, 1] [2, 3] rfl rfl rfl rfl (by decide) (ci := 10) (q0 := 0) rfl rfl (As := [.int (iI (first)), .int (iI (ks k))]) rfl hl.1 rfl (Nat.le_of_ble_eq_true rfl) dX10_find_36 ⟨Nat.zero_le _, Nat.zero_le _⟩ (fun r u H locs hp S => ?_)
          obtain ⟨rfl, rfl, hlr1, hlr2⟩ := hp
          have S := S.sub (ws' := [(hM, .inr (10, [.ref aD, .ref aM, .int (iI (st)), .int (iI (chs d)), .int (iI (gTA d)), .int (iI (gT d)), .int (iI (gTS d)), .int (iI (gCS d)), .int (iI (gCA d)), .int (iI (gN d)), .int (iI (gRoot d)), .ref aX, .int (iI (tl)), .ref aP, .int (iI (pn)), .ref aQ, .int (iI ((m2 : Int))), .ref aK, .ref aO, .ref aA, .int (iI (kl)), .int (iI (ol)), .int (iI (al)), .ref a1, .ref a2, .ref a3])), (aD, .inl (cA 0, 2048, .inl (fun y_ => iI (d y_)))), (aP, .inl (cA 0, 200, .inl (fun y_ => iI (px y_)))), (aQ, .inl (cA 0, 4, .inl (fun y_ => iI (nm2 y_))))]) [2, 3, 0, 1] rfl rfl
          refine lv_istore_n (lv' := [(2, .int (iI (lkp d (first) (ks k)))), (3, .int (iI ((k : Int)))), (1, .int (iI (first))), (0, .ref hM)]) C0.1 C0.2.1 dX10_find_39 rfl hl (by decide) rfl (fun ls hl => ?_)
          refine lv_iload_n C0.1 C0.2.1 dX10_find_40 rfl (lv_at hl 0 rfl) ?_
          refine k_if_ge (tgt := 46) C0 (by constructor <;> omega) dX10_find_41 (by decide) (fun c41 => ?_) (fun c41 => ?_)
          · refine lv_iload_n C0.1 C0.2.1 dX10_find_46 rfl (lv_at hl 1 rfl) ?_
            refine lv_iconst (v := iI (1)) C0.1 C0.2.1 dX10_find_47 rfl ?_
            refine k_iadd C0 dX10_find_48 ?_
            refine lv_aload_n C0.1 C0.2.1 dX10_find_49 rfl (lv_at hl 3 rfl) ?_
            refine k_get C0 S (C := RX10) (T := TX10) (N := 26) (ci := 10) (by decide +kernel) 0 rfl rfl 16 (by decide) (by decide +kernel) (v := .int (iI ((m2 : Int)))) rfl dX10_find_50 ?_
            refine k_icmp_ge (tgt := 67) C0 (by constructor <;> omega) (by constructor <;> omega) dX10_find_53 (by decide) (fun c53 => ?_) (fun c53 => ?_)
            · refine lv_aload_n C0.1 C0.2.1 dX10_find_67 rfl (lv_at hl 3 rfl) ?_
              refine k_get C0 S (C := RX10) (T := TX10) (N := 26) (ci := 10) (by decide +kernel) 0 rfl rfl 0 (by decide) (by decide +kernel) (v := .ref aD) rfl dX10_find_68 ?_
              refine lv_iload_n C0.1 C0.2.1 dX10_find_71 rfl (lv_at hl 0 rfl) ?_
              refine lv_iconst (v := iI (5)) C0.1 C0.2.1 dX10_find_72 rfl ?_
              refine k_iadd C0 dX10_find_73 ?_
              refine k_iald C0 S 1 0 rfl rfl (z := (lkp d (first) (ks k)) + 5) (by omega) (by omega) (by omega) dX10_find_74 ?_
              refine k_topeq (v := iI (rd d ((lkp d (first) (ks k)) + 5))) rfl ?_
              have hb5 := By.rd hd ((lkp d (first) (ks k)) + 5)
              refine lv_istore_n (lv' := [(1, .int (iI (rd d ((lkp d (first) (ks k)) + 5)))), (2, .int (iI (lkp d (first) (ks k)))), (3, .int (iI ((k : Int)))), (0, .ref hM)]) C0.1 C0.2.1 dX10_find_75 rfl hl (by decide) rfl (fun ls hl => ?_)
              refine lv_iinc (v := iI ((k : Int) + 1)) (lv' := [(3, .int (iI ((k : Int) + 1))), (1, .int (iI (rd d ((lkp d (first) (ks k)) + 5)))), (2, .int (iI (lkp d (first) (ks k)))), (0, .ref hM)]) C0.1 C0.2.1 dX10_find_76 hl (k := 2) rfl (iI_add _ _) (by decide) rfl (fun ls hl => ?_)
              refine lv_goto (tgt := 20) C0.1 C0.2.1 dX10_find_79 (by decide) ?_
              obtain ⟨hf0, hfd⟩ : k < m2 ∧ fnd d ks m2 = fnF d ks (m2 - k) k first := by rcases hi20_1 with h | h; exact h; omega
              have hfi : FM d ks m2 (k + 1) (rd d (lkp d first (ks k) + 5)) (lkp d first (ks k)) := Or.inr ⟨by omega, by rw [hfd, show m2 - k = 1 by omega]; exact fnF_last (by omega), by omega, by omega⟩
              exact ih20 (k + 1) (rd d (lkp d first (ks k) + 5)) (lkp d first (ks k)) (by omega) hfi ⟨by omega, by omega⟩ ⟨by omega, by omega⟩ (by omega) _ _ S _ (lv_sub hl [0, 2, 1, 3] rfl)
            · refine lv_aload_n C0.1 C0.2.1 dX10_find_56 rfl (lv_at hl 3 rfl) ?_
              refine lv_iload_n C0.1 C0.2.1 dX10_find_57 rfl (lv_at hl 0 rfl) ?_
              refine k_calli (n := 1) (wr := [(aP, .inl (cA 0, 200, .inl (fun y_ => iI (px y_)))), (aQ, .inl (cA 0, 4, .inl (fun y_ => iI (nm2 y_))))]) C0 S (c_X10_isDirectory l D cA hM aD aM aX aP aQ aK aO aA a1 a2 a3 (st) (chs d) (gTA d) (gT d) (gTS d) (gCS d) (gCA d) (gN d) (gRoot d) (tl) (pn) ((m2 : Int)) (kl) (ol) (al) d (lkp d (first) (ks k)) hd (by omega) (by omega)) gX10_find_X10_isDirectory rfl ⟨rfl, rfl⟩ (by decide +kernel) ⟨Nat.le_of_ble_eq_true rfl, Nat.le_of_ble_eq_true rfl⟩ [0, 1] [2, 3] rfl rfl rfl rfl (by decide) (ci := 10) (q0 := 0) rfl rfl (As := [.int (iI (lkp d (first) (ks k)))]) rfl hl.1 rfl (Nat.le_of_ble_eq_true rfl) dX10_find_58 ⟨Nat.zero_le _, Nat.zero_le _⟩ (fun r u H locs hp S => ?_)
              obtain ⟨rfl, rfl⟩ := hp
              have S := S.sub (ws' := [(hM, .inr (10, [.ref aD, .ref aM, .int (iI (st)), .int (iI (chs d)), .int (iI (gTA d)), .int (iI (gT d)), .int (iI (gTS d)), .int (iI (gCS d)), .int (iI (gCA d)), .int (iI (gN d)), .int (iI (gRoot d)), .ref aX, .int (iI (tl)), .ref aP, .int (iI (pn)), .ref aQ, .int (iI ((m2 : Int))), .ref aK, .ref aO, .ref aA, .int (iI (kl)), .int (iI (ol)), .int (iI (al)), .ref a1, .ref a2, .ref a3])), (aD, .inl (cA 0, 2048, .inl (fun y_ => iI (d y_)))), (aP, .inl (cA 0, 200, .inl (fun y_ => iI (px y_)))), (aQ, .inl (cA 0, 4, .inl (fun y_ => iI (nm2 y_))))]) [2, 3, 0, 1] rfl rfl
              refine k_bz_ne (tgt := 67) C0 dX10_find_61 (by decide) (fun c61 => ?_) (fun c61 => ?_)
              · refine lv_aload_n C0.1 C0.2.1 dX10_find_67 rfl (lv_at hl 3 rfl) ?_
                refine k_get C0 S (C := RX10) (T := TX10) (N := 26) (ci := 10) (by decide +kernel) 0 rfl rfl 0 (by decide) (by decide +kernel) (v := .ref aD) rfl dX10_find_68 ?_
                refine lv_iload_n C0.1 C0.2.1 dX10_find_71 rfl (lv_at hl 0 rfl) ?_
                refine lv_iconst (v := iI (5)) C0.1 C0.2.1 dX10_find_72 rfl ?_
                refine k_iadd C0 dX10_find_73 ?_
                refine k_iald C0 S 1 0 rfl rfl (z := (lkp d (first) (ks k)) + 5) (by omega) (by omega) (by omega) dX10_find_74 ?_
                refine k_topeq (v := iI (rd d ((lkp d (first) (ks k)) + 5))) rfl ?_
                have hb8 := By.rd hd ((lkp d (first) (ks k)) + 5)
                refine lv_istore_n (lv' := [(1, .int (iI (rd d ((lkp d (first) (ks k)) + 5)))), (2, .int (iI (lkp d (first) (ks k)))), (3, .int (iI ((k : Int)))), (0, .ref hM)]) C0.1 C0.2.1 dX10_find_75 rfl hl (by decide) rfl (fun ls hl => ?_)
                refine lv_iinc (v := iI ((k : Int) + 1)) (lv' := [(3, .int (iI ((k : Int) + 1))), (1, .int (iI (rd d ((lkp d (first) (ks k)) + 5)))), (2, .int (iI (lkp d (first) (ks k)))), (0, .ref hM)]) C0.1 C0.2.1 dX10_find_76 hl (k := 2) rfl (iI_add _ _) (by decide) rfl (fun ls hl => ?_)
                refine lv_goto (tgt := 20) C0.1 C0.2.1 dX10_find_79 (by decide) ?_
                obtain ⟨hf0, hfd⟩ : k < m2 ∧ fnd d ks m2 = fnF d ks (m2 - k) k first := by rcases hi20_1 with h | h; exact h; omega
                have hfi : FM d ks m2 (k + 1) (rd d (lkp d first (ks k) + 5)) (lkp d first (ks k)) := Or.inl ⟨by omega, by rw [hfd, show m2 - k = (m2 - (k + 1) - 1) + 2 by omega, show m2 - (k + 1) = (m2 - (k + 1) - 1) + 1 by omega]; exact fnF_dir (by omega) c61⟩
                exact ih20 (k + 1) (rd d (lkp d first (ks k) + 5)) (lkp d first (ks k)) (by omega) hfi ⟨by omega, by omega⟩ ⟨by omega, by omega⟩ (by omega) _ _ S _ (lv_sub hl [0, 2, 1, 3] rfl)
              · refine lv_bipush (v := iI (-8)) C0.1 C0.2.1 dX10_find_64 (by decide) ?_
                subst hQ
                refine k_iret C0 S hAe hsz hr hlk dX10_find_66 ?_
                have hq : fnM d px pn.toNat = -8 := by rcases hi20_1 with ⟨h, e⟩ | ⟨h, _⟩; (rw [hfm, e, show m2 - k = (m2 - k - 2) + 2 by omega]; exact fnF_nodir (by omega) c61); omega
                exact ⟨_, _, congrArg iI hq.symm, rfl, by omega, by omega⟩
          · refine lv_iload_n C0.1 C0.2.1 dX10_find_44 rfl (lv_at hl 0 rfl) ?_
            subst hQ
            refine k_iret C0 S hAe hsz hr hlk dX10_find_45 ?_
            have hq : fnM d px pn.toNat = lkp d first (ks k) := by rcases hi20_1 with ⟨h, e⟩ | ⟨h, _⟩; (rw [hfm, e, show m2 - k = (m2 - k - 1) + 1 by omega]; exact fnF_neg (by omega)); omega
            exact ⟨_, _, congrArg iI hq.symm, rfl, by omega, by omega⟩
    exact L20 (m2 + 1) (0) (gRoot d) (-6) (by omega) (Or.inl ⟨by omega, rfl⟩) ⟨by omega, by omega⟩ ⟨by decide, by decide⟩ (by omega) _ _ S _ (lv_sub hl [0, 1, 2, 3] rfl)
  · refine lv_bipush (v := iI (-5)) C0.1 C0.2.1 dX10_find_7 (by decide) ?_
    subst hQ
    refine k_iret C0 S hAe hsz hr hlk dX10_find_9 ?_
    have hq := fnM_none (d := d) (Classical.not_not.mp c4)
    exact ⟨_, _, congrArg iI hq.symm, rfl, by omega, by omega⟩
def rmX10_take : Room := { frames := 0, cells := 0, slots := 0, locals := 0 }
set_option maxHeartbeats 4000000 in
set_option maxRecDepth 100000 in
theorem c_X10_take (l : Launch) (D : va_G) (cA : Nat → ClassId) (hM aD aM aX aP aQ aK aO aA a1 a2 a3 : Nat) (st r3 r4 r5 r6 r7 r8 r9 r10 tl pn nc kl ol al : Int) (d : Nat → Int) (aS nS : Nat) (px src : Nat → Int) (len : Int) (hpx : By px) (hsr : By src) (hl0 : 0 ≤ len) (hl1 : len ≤ 200) (hl2 : len ≤ nS) (hn : nS < 100000) : kCv l D vwCl (kTys cA) yX10_take wsX10_take rmX10_take [.ref hM, .ref aS, .int (iI (len))] [(hM, .inr (10, [.ref aD, .ref aM, .int (iI (st)), .int (iI (r3)), .int (iI (r4)), .int (iI (r5)), .int (iI (r6)), .int (iI (r7)), .int (iI (r8)), .int (iI (r9)), .int (iI (r10)), .ref aX, .int (iI (tl)), .ref aP, .int (iI (pn)), .ref aQ, .int (iI (nc)), .ref aK, .ref aO, .ref aA, .int (iI (kl)), .int (iI (ol)), .int (iI (al)), .ref a1, .ref a2, .ref a3])), (aP, .inl (cA 0, 200, .inl (fun y_ => iI (px y_)))), (aS, .inl (cA 0, nS, .inl (fun y_ => iI (src y_))))] (fun u => ∃ px2 : Nat → Int, u = [(hM, .inr (10, [.ref aD, .ref aM, .int (iI (st)), .int (iI (r3)), .int (iI (r4)), .int (iI (r5)), .int (iI (r6)), .int (iI (r7)), .int (iI (r8)), .int (iI (r9)), .int (iI (r10)), .ref aX, .int (iI (tl)), .ref aP, .int (iI (len)), .ref aQ, .int (iI (nc)), .ref aK, .ref aO, .ref aA, .int (iI (kl)), .int (iI (ol)), .int (iI (al)), .ref a1, .ref a2, .ref a3])), (aP, .inl (cA 0, 200, .inl (fun y_ => iI (px2 y_)))), (aS, .inl (cA 0, nS, .inl (fun y_ => iI (src y_))))] ∧ (∀ j : Nat, (j : Int) < len → px2 j = src j) ∧ By px2) := by
  intro sz
  refine kEntry (cc := cX10_take) (maxL := 4) (ret := none) (by decide) rfl (Nat.le_of_ble_eq_true rfl) ?_
  intro p e s m args below meth c A Q hAe hQ C0 hr hlk S hsz ls hl
  have hl : lv_has ls 4 [(0, .ref hM), (1, .ref aS), (2, .int (iI (len)))] := hl
  refine lv_iconst (v := iI (0)) C0.1 C0.2.1 dX10_take_0 rfl ?_
  refine lv_istore_n (lv' := [(3, .int (iI (0))), (0, .ref hM), (1, .ref aS), (2, .int (iI (len)))]) C0.1 C0.2.1 dX10_take_1 rfl hl (by decide) rfl (fun ls hl => ?_)
  have L2 : ∀ (n_ : Nat) (i : Nat) (px2 : Nat → Int), ((i : Int) ≤ len) → (∀ j, j < i → px2 j = src j) → (By px2) → (len.toNat - i < n_) → ∀ (H : Heap) (locs : List Loc), kS D vwCl (kTys cA) A s [(hM, .inr (10, [.ref aD, .ref aM, .int (iI (st)), .int (iI (r3)), .int (iI (r4)), .int (iI (r5)), .int (iI (r6)), .int (iI (r7)), .int (iI (r8)), .int (iI (r9)), .int (iI (r10)), .ref aX, .int (iI (tl)), .ref aP, .int (iI (pn)), .ref aQ, .int (iI (nc)), .ref aK, .ref aO, .ref aA, .int (iI (kl)), .int (iI (ol)), .int (iI (al)), .ref a1, .ref a2, .ref a3])), (aP, .inl (cA 0, 200, .inl (fun y_ => iI (px2 y_)))), (aS, .inl (cA 0, nS, .inl (fun y_ => iI (src y_))))] H locs → ∀ ls : Array Slot, lv_has ls 4 [(3, .int (iI ((i : Int)))), (0, .ref hM), (1, .ref aS), (2, .int (iI (len)))] → W p l e rmX10_take s m args below meth c H locs 0 0 Q (F0 m 2 ls []) := by
    intro n_
    induction n_ with
    | zero => intro i px2 hi2_0 hi2_1 hi2_2 hm; exact absurd hm (Nat.not_lt_zero _)
    | succ n_ ih2 =>
      intro i px2 hi2_0 hi2_1 hi2_2 hm H locs S ls hl
      refine lv_iload_n C0.1 C0.2.1 dX10_take_2 rfl (lv_at hl 0 rfl) ?_
      refine lv_iload_n C0.1 C0.2.1 dX10_take_3 rfl (lv_at hl 3 rfl) ?_
      refine k_icmp_ge (tgt := 22) C0 (by constructor <;> omega) (by constructor <;> omega) dX10_take_4 (by decide) (fun c4 => ?_) (fun c4 => ?_)
      · refine lv_aload_n C0.1 C0.2.1 dX10_take_22 rfl (lv_at hl 1 rfl) ?_
        refine lv_iload_n C0.1 C0.2.1 dX10_take_23 rfl (lv_at hl 3 rfl) ?_
        refine k_put (ws' := [(hM, .inr (10, [.ref aD, .ref aM, .int (iI (st)), .int (iI (r3)), .int (iI (r4)), .int (iI (r5)), .int (iI (r6)), .int (iI (r7)), .int (iI (r8)), .int (iI (r9)), .int (iI (r10)), .ref aX, .int (iI (tl)), .ref aP, .int (iI (len)), .ref aQ, .int (iI (nc)), .ref aK, .ref aO, .ref aA, .int (iI (kl)), .int (iI (ol)), .int (iI (al)), .ref a1, .ref a2, .ref a3])), (aP, .inl (cA 0, 200, .inl (fun y_ => iI (px2 y_)))), (aS, .inl (cA 0, nS, .inl (fun y_ => iI (src y_))))]) C0 S (C := RX10) (T := TX10) (N := 26) (ci := 10) (by decide +kernel) tyX10 tyX10_ok nmX10 0 rfl rfl 14 (by decide) (by decide +kernel) rfl (v := .int (iI (len))) rfl rfl (Nat.le_of_ble_eq_true rfl) dX10_take_24 rfl (fun H locs S => ?_)
        subst hQ
        refine k_vret C0 S hAe hsz hr hlk dX10_take_27 ?_
        exact ⟨_, rfl, fun j hj => hi2_1 j (by omega), hi2_2⟩
      · refine lv_aload_n C0.1 C0.2.1 dX10_take_7 rfl (lv_at hl 1 rfl) ?_
        refine k_get C0 S (C := RX10) (T := TX10) (N := 26) (ci := 10) (by decide +kernel) 0 rfl rfl 13 (by decide) (by decide +kernel) (v := .ref aP) rfl dX10_take_8 ?_
        refine lv_iload_n C0.1 C0.2.1 dX10_take_11 rfl (lv_at hl 0 rfl) ?_
        refine lv_aload_n C0.1 C0.2.1 dX10_take_12 rfl (lv_at hl 2 rfl) ?_
        refine lv_iload_n C0.1 C0.2.1 dX10_take_13 rfl (lv_at hl 0 rfl) ?_
        refine k_iald C0 S 2 0 rfl rfl (z := (i : Int)) (by omega) (by omega) (by omega) dX10_take_14 ?_
        refine k_iast (ws' := [(hM, .inr (10, [.ref aD, .ref aM, .int (iI (st)), .int (iI (r3)), .int (iI (r4)), .int (iI (r5)), .int (iI (r6)), .int (iI (r7)), .int (iI (r8)), .int (iI (r9)), .int (iI (r10)), .ref aX, .int (iI (tl)), .ref aP, .int (iI (pn)), .ref aQ, .int (iI (nc)), .ref aK, .ref aO, .ref aA, .int (iI (kl)), .int (iI (ol)), .int (iI (al)), .ref a1, .ref a2, .ref a3])), (aP, .inl (cA 0, 200, .inl (fun y_ => iI ((va_up px2 ((i : Int)).toNat (src ((i : Int)).toNat)) y_)))), (aS, .inl (cA 0, nS, .inl (fun y_ => iI (src y_))))]) C0 S 1 0 rfl rfl (z := (i : Int)) (by omega) (by omega) (by omega) dX10_take_15 rfl (fun H locs S => ?_)
        refine lv_iinc (v := iI ((i : Int) + 1)) (lv' := [(3, .int (iI ((i : Int) + 1))), (0, .ref hM), (1, .ref aS), (2, .int (iI (len)))]) C0.1 C0.2.1 dX10_take_16 hl (k := 0) rfl (iI_add _ _) (by decide) rfl (fun ls hl => ?_)
        refine lv_goto (tgt := 2) C0.1 C0.2.1 dX10_take_19 (by decide) ?_
        exact ih2 (i + 1) (va_up px2 (i : Int).toNat (src (i : Int).toNat)) (by omega) (fun j hj => by unfold va_up; split; (rename_i e; rw [e]); (rename_i e; exact hi2_1 j (by omega))) (By_up hi2_2 (hsr _).1 (hsr _).2) (by omega) _ _ S _ (lv_sub hl [0, 1, 2, 3] rfl)
  exact L2 (len.toNat + 1) (0) (px) (by omega) (fun j h => absurd h (Nat.not_lt_zero _)) hpx (by omega) _ _ S _ (lv_sub hl [0, 1, 2, 3] rfl)
def rmX10_isBroken : Room := { frames := 3, cells := 0, slots := 0, locals := 66 }
set_option maxHeartbeats 4000000 in
set_option maxRecDepth 100000 in
theorem c_X10_isBroken (l : Launch) (D : va_G) (cA : Nat → ClassId) (hM aD aM aX aP aQ aK aO aA a1 a2 a3 : Nat) (st tl pn nc kl ol al : Int) (d : Nat → Int) (z : Int) (hd : By d) (hB2 : gB d) (hz1 : 0 ≤ z) (hz2 : z + 8 ≤ 2048) : kCi l D vwCl (kTys cA) yX10_isBroken wsX10_isBroken rmX10_isBroken [.ref hM, .int (iI (z))] [(hM, .inr (10, [.ref aD, .ref aM, .int (iI (st)), .int (iI (chs d)), .int (iI (gTA d)), .int (iI (gT d)), .int (iI (gTS d)), .int (iI (gCS d)), .int (iI (gCA d)), .int (iI (gN d)), .int (iI (gRoot d)), .ref aX, .int (iI (tl)), .ref aP, .int (iI (pn)), .ref aQ, .int (iI (nc)), .ref aK, .ref aO, .ref aA, .int (iI (kl)), .int (iI (ol)), .int (iI (al)), .ref a1, .ref a2, .ref a3])), (aD, .inl (cA 0, 2048, .inl (fun y_ => iI (d y_))))] (fun r u => r = iI (bz (opn d z < 0)) ∧ u = [(hM, .inr (10, [.ref aD, .ref aM, .int (iI (st)), .int (iI (chs d)), .int (iI (gTA d)), .int (iI (gT d)), .int (iI (gTS d)), .int (iI (gCS d)), .int (iI (gCA d)), .int (iI (gN d)), .int (iI (gRoot d)), .ref aX, .int (iI (tl)), .ref aP, .int (iI (pn)), .ref aQ, .int (iI (nc)), .ref aK, .ref aO, .ref aA, .int (iI (kl)), .int (iI (ol)), .int (iI (al)), .ref a1, .ref a2, .ref a3])), (aD, .inl (cA 0, 2048, .inl (fun y_ => iI (d y_))))]) := by
  intro sz
  refine kEntry (cc := cX10_isBroken) (maxL := 4) (ret := (some .boolean)) (by decide) rfl (Nat.le_of_ble_eq_true rfl) ?_
  intro p e s m args below meth c A Q hAe hQ C0 hr hlk S hsz ls hl
  have hl : lv_has ls 4 [(0, .ref hM), (1, .int (iI (z)))] := hl
  have hlin := hB2.lin
  refine lv_aload_n C0.1 C0.2.1 dX10_isBroken_0 rfl (lv_at hl 0 rfl) ?_
  refine lv_iload_n C0.1 C0.2.1 dX10_isBroken_1 rfl (lv_at hl 1 rfl) ?_
  refine k_calli (n := 1) (wr := []) C0 S (c_X10_sizeAt l D cA hM aD aM aX aP aQ aK aO aA a1 a2 a3 (st) (chs d) (gTA d) (gT d) (gTS d) (gCS d) (gCA d) (gN d) (gRoot d) (tl) (pn) (nc) (kl) (ol) (al) d (z) hd (by omega) (by omega)) gX10_isBroken_X10_sizeAt rfl ⟨rfl, rfl⟩ (by decide +kernel) ⟨Nat.le_of_ble_eq_true rfl, Nat.le_of_ble_eq_true rfl⟩ [0, 1] [] rfl rfl rfl rfl (by decide) (ci := 10) (q0 := 0) rfl rfl (As := [.int (iI (z))]) rfl hl.1 rfl (Nat.le_of_ble_eq_true rfl) dX10_isBroken_2 ⟨Nat.zero_le _, Nat.zero_le _⟩ (fun r u H locs hp S => ?_)
  obtain ⟨rfl, rfl⟩ := hp
  have S := S.sub (ws' := [(hM, .inr (10, [.ref aD, .ref aM, .int (iI (st)), .int (iI (chs d)), .int (iI (gTA d)), .int (iI (gT d)), .int (iI (gTS d)), .int (iI (gCS d)), .int (iI (gCA d)), .int (iI (gN d)), .int (iI (gRoot d)), .ref aX, .int (iI (tl)), .ref aP, .int (iI (pn)), .ref aQ, .int (iI (nc)), .ref aK, .ref aO, .ref aA, .int (iI (kl)), .int (iI (ol)), .int (iI (al)), .ref a1, .ref a2, .ref a3])), (aD, .inl (cA 0, 2048, .inl (fun y_ => iI (d y_))))]) [0, 1] rfl rfl
  have hb3 := By_wrd hd ((z) + 6)
  refine lv_istore_n (lv' := [(2, .int (iI (wrd d ((z) + 6)))), (0, .ref hM), (1, .int (iI (z)))]) C0.1 C0.2.1 dX10_isBroken_5 rfl hl (by decide) rfl (fun ls hl => ?_)
  refine lv_iload_n C0.1 C0.2.1 dX10_isBroken_6 rfl (lv_at hl 0 rfl) ?_
  refine k_if_ne (tgt := 12) C0 (by constructor <;> omega) dX10_isBroken_7 (by decide) (fun c7 => ?_) (fun c7 => ?_)
  · refine lv_aload_n C0.1 C0.2.1 dX10_isBroken_12 rfl (lv_at hl 1 rfl) ?_
    refine lv_aload_n C0.1 C0.2.1 dX10_isBroken_13 rfl (lv_at hl 1 rfl) ?_
    refine k_get C0 S (C := RX10) (T := TX10) (N := 26) (ci := 10) (by decide +kernel) 0 rfl rfl 0 (by decide) (by decide +kernel) (v := .ref aD) rfl dX10_isBroken_14 ?_
    refine lv_iload_n C0.1 C0.2.1 dX10_isBroken_17 rfl (lv_at hl 2 rfl) ?_
    refine lv_iconst (v := iI (5)) C0.1 C0.2.1 dX10_isBroken_18 rfl ?_
    refine k_iadd C0 dX10_isBroken_19 ?_
    refine k_iald C0 S 1 0 rfl rfl (z := z + 5) (by omega) (by omega) (by omega) dX10_isBroken_20 ?_
    refine k_topeq (v := iI (rd d (z + 5))) rfl ?_
    have hb4 := By.rd hd (z + 5)
    refine k_calli (n := 1) (wr := []) C0 S (c_X10_chain l D cA hM aD aM aX aP aQ aK aO aA a1 a2 a3 (st) (tl) (pn) (nc) (kl) (ol) (al) d (rd d (z + 5)) hd hB2 (by omega) (by omega)) gX10_isBroken_X10_chain rfl ⟨rfl, rfl⟩ (by decide +kernel) ⟨Nat.le_of_ble_eq_true rfl, Nat.le_of_ble_eq_true rfl⟩ [0, 1] [] rfl rfl rfl rfl (by decide) (ci := 10) (q0 := 0) rfl rfl (As := [.int (iI (rd d (z + 5)))]) rfl hl.1 rfl (Nat.le_of_ble_eq_true rfl) dX10_isBroken_21 ⟨Nat.zero_le _, Nat.zero_le _⟩ (fun r u H locs hp S => ?_)
    obtain ⟨rfl, rfl⟩ := hp
    have S := S.sub (ws' := [(hM, .inr (10, [.ref aD, .ref aM, .int (iI (st)), .int (iI (chs d)), .int (iI (gTA d)), .int (iI (gT d)), .int (iI (gTS d)), .int (iI (gCS d)), .int (iI (gCA d)), .int (iI (gN d)), .int (iI (gRoot d)), .ref aX, .int (iI (tl)), .ref aP, .int (iI (pn)), .ref aQ, .int (iI (nc)), .ref aK, .ref aO, .ref aA, .int (iI (kl)), .int (iI (ol)), .int (iI (al)), .ref a1, .ref a2, .ref a3])), (aD, .inl (cA 0, 2048, .inl (fun y_ => iI (d y_))))]) [0, 1] rfl rfl
    have hb7 : chn d (rd d (z + 5)) < 0 ∨ (1 ≤ chn d (rd d (z + 5)) ∧ chn d (rd d (z + 5)) ≤ gN d) := by rcases Int.lt_or_le (chn d (rd d (z + 5))) 0 with h | h; exact Or.inl h; exact Or.inr (chn_all hB2 h).1
    have hb8 : -1 ≤ chn d (rd d (z + 5)) := chn_ge _ _
    refine lv_istore_n (lv' := [(3, .int (iI (chn d (rd d (z + 5))))), (2, .int (iI (wrd d ((z) + 6)))), (0, .ref hM), (1, .int (iI (z)))]) C0.1 C0.2.1 dX10_isBroken_24 rfl hl (by decide) rfl (fun ls hl => ?_)
    refine lv_iload_n C0.1 C0.2.1 dX10_isBroken_25 rfl (lv_at hl 0 rfl) ?_
    refine k_if_lt (tgt := 42) C0 (by constructor <;> omega) dX10_isBroken_26 (by decide) (fun c26 => ?_) (fun c26 => ?_)
    · refine lv_iconst (v := iI (1)) C0.1 C0.2.1 dX10_isBroken_42 rfl ?_
      refine lv_goto (tgt := 47) C0.1 C0.2.1 dX10_isBroken_43 (by decide) ?_
      subst hQ
      refine k_zret C0 S hAe hsz hr hlk (by rfl) dX10_isBroken_47 ?_
      have hq := opn_no c7 (by rintro ⟨h1, h2⟩; omega)
      exact ⟨congrArg iI (bz_t (by omega)).symm, rfl⟩
    · have hcb : 0 ≤ chn d (rd d (z + 5)) * gSz d ∧ chn d (rd d (z + 5)) * gSz d ≤ 16384 := by rcases hlin.2.2.2.2.2.2.1 with e | e | e <;> rw [e] <;> omega
      refine lv_bipush (v := iI (32)) C0.1 C0.2.1 dX10_isBroken_29 (by decide) ?_
      refine lv_aload_n C0.1 C0.2.1 dX10_isBroken_31 rfl (lv_at hl 2 rfl) ?_
      refine k_get C0 S (C := RX10) (T := TX10) (N := 26) (ci := 10) (by decide +kernel) 0 rfl rfl 7 (by decide) (by decide +kernel) (v := .int (iI (gCS d))) rfl dX10_isBroken_32 ?_
      refine k_imul C0 dX10_isBroken_35 ?_
      refine lv_iload_n C0.1 C0.2.1 dX10_isBroken_36 rfl (lv_at hl 0 rfl) ?_
      refine k_imul C0 dX10_isBroken_37 ?_
      refine k_topeq (v := iI (chn d (rd d (z + 5)) * gSz d)) (congrArg iI (by rw [gSz_m, Int.mul_comm])) ?_
      refine lv_iload_n C0.1 C0.2.1 dX10_isBroken_38 rfl (lv_at hl 1 rfl) ?_
      refine k_icmp_ge (tgt := 46) C0 (by constructor <;> omega) (by constructor <;> omega) dX10_isBroken_39 (by decide) (fun c39 => ?_) (fun c39 => ?_)
      · refine lv_iconst (v := iI (0)) C0.1 C0.2.1 dX10_isBroken_46 rfl ?_
        subst hQ
        refine k_zret C0 S hAe hsz hr hlk (by rfl) dX10_isBroken_47 ?_
        have hq := opn_ok c7 (by omega) (by omega)
        exact ⟨congrArg iI (bz_f (by omega)).symm, rfl⟩
      · refine lv_iconst (v := iI (1)) C0.1 C0.2.1 dX10_isBroken_42 rfl ?_
        refine lv_goto (tgt := 47) C0.1 C0.2.1 dX10_isBroken_43 (by decide) ?_
        subst hQ
        refine k_zret C0 S hAe hsz hr hlk (by rfl) dX10_isBroken_47 ?_
        have hq := opn_no c7 (by rintro ⟨h1, h2⟩; omega)
        exact ⟨congrArg iI (bz_t (by omega)).symm, rfl⟩
  · refine lv_iconst (v := iI (0)) C0.1 C0.2.1 dX10_isBroken_10 rfl ?_
    subst hQ
    refine k_zret C0 S hAe hsz hr hlk (by rfl) dX10_isBroken_11 ?_
    have hq := opn_0 c7
    exact ⟨congrArg iI (bz_f (by omega)).symm, rfl⟩
def rmX10_byteOf : Room := { frames := 3, cells := 0, slots := 0, locals := 68 }
set_option maxHeartbeats 4000000 in
set_option maxRecDepth 100000 in
theorem c_X10_byteOf (l : Launch) (D : va_G) (cA : Nat → ClassId) (hM aD aM aX aP aQ aK aO aA a1 a2 a3 : Nat) (st tl pn nc kl ol al : Int) (d : Nat → Int) (a z : Int) (hd : By d) (hB2 : gB d) (ha1 : 0 ≤ a) (ha2 : a + 8 ≤ 2048) (hcn : 0 ≤ chn d (rd d (a + 5))) (hz1 : 0 ≤ z) (hz2 : z < chn d (rd d (a + 5)) * gSz d) : kCi l D vwCl (kTys cA) yX10_byteOf wsX10_byteOf rmX10_byteOf [.ref hM, .int (iI (a)), .int (iI (z))] [(hM, .inr (10, [.ref aD, .ref aM, .int (iI (st)), .int (iI (chs d)), .int (iI (gTA d)), .int (iI (gT d)), .int (iI (gTS d)), .int (iI (gCS d)), .int (iI (gCA d)), .int (iI (gN d)), .int (iI (gRoot d)), .ref aX, .int (iI (tl)), .ref aP, .int (iI (pn)), .ref aQ, .int (iI (nc)), .ref aK, .ref aO, .ref aA, .int (iI (kl)), .int (iI (ol)), .int (iI (al)), .ref a1, .ref a2, .ref a3])), (aD, .inl (cA 0, 2048, .inl (fun y_ => iI (d y_))))] (fun r u => r = iI (rd d (plc d (rd d (a + 5)) z)) ∧ u = [(hM, .inr (10, [.ref aD, .ref aM, .int (iI (st)), .int (iI (chs d)), .int (iI (gTA d)), .int (iI (gT d)), .int (iI (gTS d)), .int (iI (gCS d)), .int (iI (gCA d)), .int (iI (gN d)), .int (iI (gRoot d)), .ref aX, .int (iI (tl)), .ref aP, .int (iI (pn)), .ref aQ, .int (iI (nc)), .ref aK, .ref aO, .ref aA, .int (iI (kl)), .int (iI (ol)), .int (iI (al)), .ref a1, .ref a2, .ref a3])), (aD, .inl (cA 0, 2048, .inl (fun y_ => iI (d y_))))]) := by
  intro sz
  refine kEntry (cc := cX10_byteOf) (maxL := 4) (ret := (some .int)) (by decide) rfl (Nat.le_of_ble_eq_true rfl) ?_
  intro p e s m args below meth c A Q hAe hQ C0 hr hlk S hsz ls hl
  have hl : lv_has ls 4 [(0, .ref hM), (1, .int (iI (a))), (2, .int (iI (z)))] := hl
  refine lv_aload_n C0.1 C0.2.1 dX10_byteOf_0 rfl (lv_at hl 0 rfl) ?_
  refine lv_aload_n C0.1 C0.2.1 dX10_byteOf_1 rfl (lv_at hl 0 rfl) ?_
  refine k_get C0 S (C := RX10) (T := TX10) (N := 26) (ci := 10) (by decide +kernel) 0 rfl rfl 0 (by decide) (by decide +kernel) (v := .ref aD) rfl dX10_byteOf_2 ?_
  refine lv_iload_n C0.1 C0.2.1 dX10_byteOf_5 rfl (lv_at hl 1 rfl) ?_
  refine lv_iconst (v := iI (5)) C0.1 C0.2.1 dX10_byteOf_6 rfl ?_
  refine k_iadd C0 dX10_byteOf_7 ?_
  refine k_iald C0 S 1 0 rfl rfl (z := a + 5) (by omega) (by omega) (by omega) dX10_byteOf_8 ?_
  refine k_topeq (v := iI (rd d (a + 5))) rfl ?_
  have hb1 := By.rd hd (a + 5)
  refine lv_iload_n C0.1 C0.2.1 dX10_byteOf_9 rfl (lv_at hl 2 rfl) ?_
  refine k_calli (n := 2) (wr := []) C0 S (c_X10_place l D cA hM aD aM aX aP aQ aK aO aA a1 a2 a3 (st) (tl) (pn) (nc) (kl) (ol) (al) d (rd d (a + 5)) (z) hd hB2 (by omega) (by omega) hcn (by omega) (by omega)) gX10_byteOf_X10_place rfl ⟨rfl, rfl⟩ (by decide +kernel) ⟨Nat.le_of_ble_eq_true rfl, Nat.le_of_ble_eq_true rfl⟩ [0, 1] [] rfl rfl rfl rfl (by decide) (ci := 10) (q0 := 0) rfl rfl (As := [.int (iI (rd d (a + 5))), .int (iI (z))]) rfl hl.1 rfl (Nat.le_of_ble_eq_true rfl) dX10_byteOf_10 ⟨Nat.zero_le _, Nat.zero_le _⟩ (fun r u H locs hp S => ?_)
  obtain ⟨rfl, rfl⟩ := hp
  have S := S.sub (ws' := [(hM, .inr (10, [.ref aD, .ref aM, .int (iI (st)), .int (iI (chs d)), .int (iI (gTA d)), .int (iI (gT d)), .int (iI (gTS d)), .int (iI (gCS d)), .int (iI (gCA d)), .int (iI (gN d)), .int (iI (gRoot d)), .ref aX, .int (iI (tl)), .ref aP, .int (iI (pn)), .ref aQ, .int (iI (nc)), .ref aK, .ref aO, .ref aA, .int (iI (kl)), .int (iI (ol)), .int (iI (al)), .ref a1, .ref a2, .ref a3])), (aD, .inl (cA 0, 2048, .inl (fun y_ => iI (d y_))))]) [0, 1] rfl rfl
  have hb4 := plc_range hB2 (first := (rd d (a + 5))) (i := (z)) hcn (by omega) (by omega)
  refine lv_istore_n (lv' := [(3, .int (iI (plc d (rd d (a + 5)) (z)))), (0, .ref hM), (1, .int (iI (a))), (2, .int (iI (z)))]) C0.1 C0.2.1 dX10_byteOf_13 rfl hl (by decide) rfl (fun ls hl => ?_)
  refine lv_aload_n C0.1 C0.2.1 dX10_byteOf_14 rfl (lv_at hl 1 rfl) ?_
  refine k_get C0 S (C := RX10) (T := TX10) (N := 26) (ci := 10) (by decide +kernel) 0 rfl rfl 0 (by decide) (by decide +kernel) (v := .ref aD) rfl dX10_byteOf_15 ?_
  refine lv_iload_n C0.1 C0.2.1 dX10_byteOf_18 rfl (lv_at hl 0 rfl) ?_
  refine k_iald C0 S 1 0 rfl rfl (z := plc d (rd d (a + 5)) (z)) (by omega) (by omega) (by omega) dX10_byteOf_19 ?_
  refine k_topeq (v := iI (rd d (plc d (rd d (a + 5)) (z)))) rfl ?_
  have hb5 := By.rd hd (plc d (rd d (a + 5)) (z))
  subst hQ
  refine k_iret C0 S hAe hsz hr hlk dX10_byteOf_20 ?_
  exact ⟨rfl, rfl⟩
def rmX10_scrap : Room := { frames := 0, cells := 0, slots := 0, locals := 0 }
set_option maxHeartbeats 4000000 in
set_option maxRecDepth 100000 in
theorem c_X10_scrap (l : Launch) (D : va_G) (cA : Nat → ClassId) (hM aD aM aX aP aQ aK aO aA a1 a2 a3 : Nat) (st r3 r4 r5 r6 r7 r8 r9 r10 tl pn nc kl ol al : Int) (d : Nat → Int)  : kCi l D vwCl (kTys cA) yX10_scrap wsX10_scrap rmX10_scrap [.ref hM] [(hM, .inr (10, [.ref aD, .ref aM, .int (iI (st)), .int (iI (r3)), .int (iI (r4)), .int (iI (r5)), .int (iI (r6)), .int (iI (r7)), .int (iI (r8)), .int (iI (r9)), .int (iI (r10)), .ref aX, .int (iI (tl)), .ref aP, .int (iI (pn)), .ref aQ, .int (iI (nc)), .ref aK, .ref aO, .ref aA, .int (iI (kl)), .int (iI (ol)), .int (iI (al)), .ref a1, .ref a2, .ref a3]))] (fun r u => r = iI tl ∧ u = [(hM, .inr (10, [.ref aD, .ref aM, .int (iI (st)), .int (iI (r3)), .int (iI (r4)), .int (iI (r5)), .int (iI (r6)), .int (iI (r7)), .int (iI (r8)), .int (iI (r9)), .int (iI (r10)), .ref aX, .int (iI (0)), .ref aP, .int (iI (pn)), .ref aQ, .int (iI (nc)), .ref aK, .ref aO, .ref aA, .int (iI (kl)), .int (iI (ol)), .int (iI (al)), .ref a1, .ref a2, .ref a3]))]) := by
  intro sz
  refine kEntry (cc := cX10_scrap) (maxL := 2) (ret := (some .int)) (by decide) rfl (Nat.le_of_ble_eq_true rfl) ?_
  intro p e s m args below meth c A Q hAe hQ C0 hr hlk S hsz ls hl
  have hl : lv_has ls 2 [(0, .ref hM)] := hl
  refine lv_aload_n C0.1 C0.2.1 dX10_scrap_0 rfl (lv_at hl 0 rfl) ?_
  refine k_get C0 S (C := RX10) (T := TX10) (N := 26) (ci := 10) (by decide +kernel) 0 rfl rfl 12 (by decide) (by decide +kernel) (v := .int (iI (tl))) rfl dX10_scrap_1 ?_
  refine lv_istore_n (lv' := [(1, .int (iI (tl))), (0, .ref hM)]) C0.1 C0.2.1 dX10_scrap_4 rfl hl (by decide) rfl (fun ls hl => ?_)
  refine lv_aload_n C0.1 C0.2.1 dX10_scrap_5 rfl (lv_at hl 1 rfl) ?_
  refine lv_iconst (v := iI (0)) C0.1 C0.2.1 dX10_scrap_6 rfl ?_
  refine k_put (ws' := [(hM, .inr (10, [.ref aD, .ref aM, .int (iI (st)), .int (iI (r3)), .int (iI (r4)), .int (iI (r5)), .int (iI (r6)), .int (iI (r7)), .int (iI (r8)), .int (iI (r9)), .int (iI (r10)), .ref aX, .int (iI (0)), .ref aP, .int (iI (pn)), .ref aQ, .int (iI (nc)), .ref aK, .ref aO, .ref aA, .int (iI (kl)), .int (iI (ol)), .int (iI (al)), .ref a1, .ref a2, .ref a3]))]) C0 S (C := RX10) (T := TX10) (N := 26) (ci := 10) (by decide +kernel) tyX10 tyX10_ok nmX10 0 rfl rfl 12 (by decide) (by decide +kernel) rfl (v := .int (iI (0))) rfl rfl (Nat.le_of_ble_eq_true rfl) dX10_scrap_7 rfl (fun H locs S => ?_)
  refine lv_iload_n C0.1 C0.2.1 dX10_scrap_10 rfl (lv_at hl 0 rfl) ?_
  subst hQ
  refine k_iret C0 S hAe hsz hr hlk dX10_scrap_11 ?_
  exact ⟨rfl, rfl⟩
def rmX10_type : Room := { frames := 0, cells := 0, slots := 0, locals := 0 }
set_option maxHeartbeats 4000000 in
set_option maxRecDepth 100000 in
theorem c_X10_type (l : Launch) (D : va_G) (cA : Nat → ClassId) (hM aD aM aX aP aQ aK aO aA a1 a2 a3 : Nat) (st r3 r4 r5 r6 r7 r8 r9 r10 tl pn nc kl ol al : Int) (d : Nat → Int) (ty : Nat → Int) (z : Int) (hz1 : 0 ≤ z) (hz2 : z < 65536) (ht1 : 0 ≤ tl) (ht2 : tl ≤ 20) : kCi l D vwCl (kTys cA) yX10_type wsX10_type rmX10_type [.ref hM, .int (iI (z))] [(hM, .inr (10, [.ref aD, .ref aM, .int (iI (st)), .int (iI (r3)), .int (iI (r4)), .int (iI (r5)), .int (iI (r6)), .int (iI (r7)), .int (iI (r8)), .int (iI (r9)), .int (iI (r10)), .ref aX, .int (iI (tl)), .ref aP, .int (iI (pn)), .ref aQ, .int (iI (nc)), .ref aK, .ref aO, .ref aA, .int (iI (kl)), .int (iI (ol)), .int (iI (al)), .ref a1, .ref a2, .ref a3])), (aX, .inl (cA 0, 20, .inl (fun y_ => iI (ty y_))))] (fun r u => ∃ (tc2 : Int) (ty2 : Nat → Int), r = iI (bz (tl < 20 ∧ 32 ≤ z ∧ z ≤ 126)) ∧ u = [(hM, .inr (10, [.ref aD, .ref aM, .int (iI (st)), .int (iI (r3)), .int (iI (r4)), .int (iI (r5)), .int (iI (r6)), .int (iI (r7)), .int (iI (r8)), .int (iI (r9)), .int (iI (r10)), .ref aX, .int (iI (tc2)), .ref aP, .int (iI (pn)), .ref aQ, .int (iI (nc)), .ref aK, .ref aO, .ref aA, .int (iI (kl)), .int (iI (ol)), .int (iI (al)), .ref a1, .ref a2, .ref a3])), (aX, .inl (cA 0, 20, .inl (fun y_ => iI (ty2 y_))))] ∧ ((tl < 20 ∧ 32 ≤ z ∧ z ≤ 126) → tc2 = tl + 1 ∧ ty2 = va_up ty tl.toNat z) ∧ (¬ (tl < 20 ∧ 32 ≤ z ∧ z ≤ 126) → tc2 = tl ∧ ty2 = ty)) := by
  intro sz
  refine kEntry (cc := cX10_type) (maxL := 2) (ret := (some .boolean)) (by decide) rfl (Nat.le_of_ble_eq_true rfl) ?_
  intro p e s m args below meth c A Q hAe hQ C0 hr hlk S hsz ls hl
  have hl : lv_has ls 2 [(0, .ref hM), (1, .int (iI (z)))] := hl
  refine lv_aload_n C0.1 C0.2.1 dX10_type_0 rfl (lv_at hl 0 rfl) ?_
  refine k_get C0 S (C := RX10) (T := TX10) (N := 26) (ci := 10) (by decide +kernel) 0 rfl rfl 12 (by decide) (by decide +kernel) (v := .int (iI (tl))) rfl dX10_type_1 ?_
  refine lv_bipush (v := iI (20)) C0.1 C0.2.1 dX10_type_4 (by decide) ?_
  refine k_icmp_ge (tgt := 21) C0 (by constructor <;> omega) ⟨by decide, by decide⟩ dX10_type_6 (by decide) (fun c1 => ?_) (fun c1 => ?_)
  · refine lv_iconst (v := iI (0)) C0.1 C0.2.1 dX10_type_21 rfl ?_
    subst hQ
    refine k_zret C0 S hAe hsz hr hlk (by rfl) dX10_type_22 ?_
    exact ⟨_, _, congrArg iI (bz_f (by omega)).symm, rfl, fun h => absurd h (by omega), fun _ => ⟨rfl, rfl⟩⟩
  · refine lv_iload_n C0.1 C0.2.1 dX10_type_9 rfl (lv_at hl 1 rfl) ?_
    refine lv_bipush (v := iI (32)) C0.1 C0.2.1 dX10_type_10 (by decide) ?_
    refine k_icmp_lt (tgt := 21) C0 (by constructor <;> omega) ⟨by decide, by decide⟩ dX10_type_12 (by decide) (fun c2 => ?_) (fun c2 => ?_)
    · refine lv_iconst (v := iI (0)) C0.1 C0.2.1 dX10_type_21 rfl ?_
      subst hQ
      refine k_zret C0 S hAe hsz hr hlk (by rfl) dX10_type_22 ?_
      exact ⟨_, _, congrArg iI (bz_f (by omega)).symm, rfl, fun h => absurd h (by omega), fun _ => ⟨rfl, rfl⟩⟩
    · refine lv_iload_n C0.1 C0.2.1 dX10_type_15 rfl (lv_at hl 1 rfl) ?_
      refine lv_bipush (v := iI (126)) C0.1 C0.2.1 dX10_type_16 (by decide) ?_
      refine k_icmp_le (tgt := 23) C0 (by constructor <;> omega) ⟨by decide, by decide⟩ dX10_type_18 (by decide) (fun c3 => ?_) (fun c3 => ?_)
      · refine lv_aload_n C0.1 C0.2.1 dX10_type_23 rfl (lv_at hl 0 rfl) ?_
        refine k_get C0 S (C := RX10) (T := TX10) (N := 26) (ci := 10) (by decide +kernel) 0 rfl rfl 11 (by decide) (by decide +kernel) (v := .ref aX) rfl dX10_type_24 ?_
        refine lv_aload_n C0.1 C0.2.1 dX10_type_27 rfl (lv_at hl 0 rfl) ?_
        refine k_get C0 S (C := RX10) (T := TX10) (N := 26) (ci := 10) (by decide +kernel) 0 rfl rfl 12 (by decide) (by decide +kernel) (v := .int (iI (tl))) rfl dX10_type_28 ?_
        refine lv_iload_n C0.1 C0.2.1 dX10_type_31 rfl (lv_at hl 1 rfl) ?_
        refine k_iast (ws' := [(hM, .inr (10, [.ref aD, .ref aM, .int (iI (st)), .int (iI (r3)), .int (iI (r4)), .int (iI (r5)), .int (iI (r6)), .int (iI (r7)), .int (iI (r8)), .int (iI (r9)), .int (iI (r10)), .ref aX, .int (iI (tl)), .ref aP, .int (iI (pn)), .ref aQ, .int (iI (nc)), .ref aK, .ref aO, .ref aA, .int (iI (kl)), .int (iI (ol)), .int (iI (al)), .ref a1, .ref a2, .ref a3])), (aX, .inl (cA 0, 20, .inl (fun y_ => iI ((va_up ty (tl).toNat (z)) y_))))]) C0 S 1 0 rfl rfl (z := tl) (by omega) (by omega) (by omega) dX10_type_32 rfl (fun H locs S => ?_)
        refine lv_aload_n C0.1 C0.2.1 dX10_type_33 rfl (lv_at hl 0 rfl) ?_
        refine lv_dup C0.1 C0.2.1 dX10_type_34 rfl ?_
        refine k_get C0 S (C := RX10) (T := TX10) (N := 26) (ci := 10) (by decide +kernel) 0 rfl rfl 12 (by decide) (by decide +kernel) (v := .int (iI (tl))) rfl dX10_type_35 ?_
        refine lv_iconst (v := iI (1)) C0.1 C0.2.1 dX10_type_38 rfl ?_
        refine k_iadd C0 dX10_type_39 ?_
        refine k_put (ws' := [(hM, .inr (10, [.ref aD, .ref aM, .int (iI (st)), .int (iI (r3)), .int (iI (r4)), .int (iI (r5)), .int (iI (r6)), .int (iI (r7)), .int (iI (r8)), .int (iI (r9)), .int (iI (r10)), .ref aX, .int (iI (tl + 1)), .ref aP, .int (iI (pn)), .ref aQ, .int (iI (nc)), .ref aK, .ref aO, .ref aA, .int (iI (kl)), .int (iI (ol)), .int (iI (al)), .ref a1, .ref a2, .ref a3])), (aX, .inl (cA 0, 20, .inl (fun y_ => iI ((va_up ty (tl).toNat (z)) y_))))]) C0 S (C := RX10) (T := TX10) (N := 26) (ci := 10) (by decide +kernel) tyX10 tyX10_ok nmX10 0 rfl rfl 12 (by decide) (by decide +kernel) rfl (v := .int (iI (tl + 1))) rfl rfl (Nat.le_of_ble_eq_true rfl) dX10_type_40 rfl (fun H locs S => ?_)
        refine lv_iconst (v := iI (1)) C0.1 C0.2.1 dX10_type_43 rfl ?_
        subst hQ
        refine k_zret C0 S hAe hsz hr hlk (by rfl) dX10_type_44 ?_
        exact ⟨_, _, congrArg iI (bz_t (by omega)).symm, rfl, fun _ => ⟨rfl, rfl⟩, fun h => absurd (by omega) h⟩
      · refine lv_iconst (v := iI (0)) C0.1 C0.2.1 dX10_type_21 rfl ?_
        subst hQ
        refine k_zret C0 S hAe hsz hr hlk (by rfl) dX10_type_22 ?_
        exact ⟨_, _, congrArg iI (bz_f (by omega)).symm, rfl, fun h => absurd h (by omega), fun _ => ⟨rfl, rfl⟩⟩
def rmX10_fileOfText : Room := { frames := 6, cells := 0, slots := 0, locals := 140 }
set_option maxHeartbeats 4000000 in
set_option maxRecDepth 100000 in
theorem c_X10_fileOfText (l : Launch) (D : va_G) (cA : Nat → ClassId) (hM aD aM aX aP aQ aK aO aA a1 a2 a3 : Nat) (st r3 r4 r5 r6 r7 r8 r9 r10 tl pn nc kl ol al : Int) (d : Nat → Int) (px nm ty : Nat → Int) (hd : By d) (hpx : By px) (hty : By ty) (ht1 : 0 ≤ tl) (ht2 : tl ≤ 20) : kCi l D vwCl (kTys cA) yX10_fileOfText wsX10_fileOfText rmX10_fileOfText [.ref hM] [(hM, .inr (10, [.ref aD, .ref aM, .int (iI (st)), .int (iI (r3)), .int (iI (r4)), .int (iI (r5)), .int (iI (r6)), .int (iI (r7)), .int (iI (r8)), .int (iI (r9)), .int (iI (r10)), .ref aX, .int (iI (tl)), .ref aP, .int (iI (pn)), .ref aQ, .int (iI (nc)), .ref aK, .ref aO, .ref aA, .int (iI (kl)), .int (iI (ol)), .int (iI (al)), .ref a1, .ref a2, .ref a3])), (aD, .inl (cA 0, 2048, .inl (fun y_ => iI (d y_)))), (aP, .inl (cA 0, 200, .inl (fun y_ => iI (px y_)))), (aQ, .inl (cA 0, 4, .inl (fun y_ => iI (nm y_)))), (aX, .inl (cA 0, 20, .inl (fun y_ => iI (ty y_))))] (fun r u => ∃ (x1 x2 x3 x4 x5 x6 x7 x8 pn2 nc2 : Int) (px2 nm2 : Nat → Int), r = iI (fotV d ty tl) ∧ u = [(hM, .inr (10, [.ref aD, .ref aM, .int (iI (st)), .int (iI (x1)), .int (iI (x2)), .int (iI (x3)), .int (iI (x4)), .int (iI (x5)), .int (iI (x6)), .int (iI (x7)), .int (iI (x8)), .ref aX, .int (iI (tl)), .ref aP, .int (iI (pn2)), .ref aQ, .int (iI (nc2)), .ref aK, .ref aO, .ref aA, .int (iI (kl)), .int (iI (ol)), .int (iI (al)), .ref a1, .ref a2, .ref a3])), (aD, .inl (cA 0, 2048, .inl (fun y_ => iI (d y_)))), (aP, .inl (cA 0, 200, .inl (fun y_ => iI (px2 y_)))), (aQ, .inl (cA 0, 4, .inl (fun y_ => iI (nm2 y_)))), (aX, .inl (cA 0, 20, .inl (fun y_ => iI (ty y_))))] ∧ (fotV d ty tl < 0 ∨ fotV d ty tl + 8 ≤ 2048) ∧ -100 ≤ fotV d ty tl ∧ (0 ≤ vol d → (x1 = chs d ∧ x2 = gTA d ∧ x3 = gT d ∧ x4 = gTS d ∧ x5 = gCS d ∧ x6 = gCA d ∧ x7 = gN d ∧ x8 = gRoot d)) ∧ By px2) := by
  intro sz
  refine kEntry (cc := cX10_fileOfText) (maxL := 3) (ret := (some .int)) (by decide) rfl (Nat.le_of_ble_eq_true rfl) ?_
  intro p e s m args below meth c A Q hAe hQ C0 hr hlk S hsz ls hl
  have hl : lv_has ls 3 [(0, .ref hM)] := hl
  refine lv_aload_n C0.1 C0.2.1 dX10_fileOfText_0 rfl (lv_at hl 0 rfl) ?_
  refine k_calli (n := 0) (wr := [(aP, .inl (cA 0, 200, .inl (fun y_ => iI (px y_)))), (aQ, .inl (cA 0, 4, .inl (fun y_ => iI (nm y_)))), (aX, .inl (cA 0, 20, .inl (fun y_ => iI (ty y_))))]) C0 S (c_X10_volume l D cA hM aD aM aX aP aQ aK aO aA a1 a2 a3 (st) (r3) (r4) (r5) (r6) (r7) (r8) (r9) (r10) (tl) (pn) (nc) (kl) (ol) (al) d hd) gX10_fileOfText_X10_volume rfl ⟨rfl, rfl⟩ (by decide +kernel) ⟨Nat.le_of_ble_eq_true rfl, Nat.le_of_ble_eq_true rfl⟩ [0, 1] [2, 3, 4] rfl rfl rfl rfl (by decide) (ci := 10) (q0 := 0) rfl rfl (As := []) rfl hl.1 rfl (Nat.le_of_ble_eq_true rfl) dX10_fileOfText_1 ⟨Nat.zero_le _, Nat.zero_le _⟩ (fun r u H locs hp S => ?_)
  obtain ⟨x1, x2, x3, x4, x5, x6, x7, x8, rfl, rfl, hgeo⟩ := hp
  have S := S.sub (ws' := [(hM, .inr (10, [.ref aD, .ref aM, .int (iI (st)), .int (iI (x1)), .int (iI (x2)), .int (iI (x3)), .int (iI (x4)), .int (iI (x5)), .int (iI (x6)), .int (iI (x7)), .int (iI (x8)), .ref aX, .int (iI (tl)), .ref aP, .int (iI (pn)), .ref aQ, .int (iI (nc)), .ref aK, .ref aO, .ref aA, .int (iI (kl)), .int (iI (ol)), .int (iI (al)), .ref a1, .ref a2, .ref a3])), (aD, .inl (cA 0, 2048, .inl (fun y_ => iI (d y_)))), (aP, .inl (cA 0, 200, .inl (fun y_ => iI (px y_)))), (aQ, .inl (cA 0, 4, .inl (fun y_ => iI (nm y_)))), (aX, .inl (cA 0, 20, .inl (fun y_ => iI (ty y_))))]) [3, 4, 0, 1, 2] rfl rfl
  have hvr := vol_range hd
  refine lv_istore_n (lv' := [(1, .int (iI (vol d))), (0, .ref hM)]) C0.1 C0.2.1 dX10_fileOfText_4 rfl hl (by decide) rfl (fun ls hl => ?_)
  refine lv_iload_n C0.1 C0.2.1 dX10_fileOfText_5 rfl (lv_at hl 0 rfl) ?_
  refine k_if_ge (tgt := 11) C0 (by constructor <;> omega) dX10_fileOfText_6 (by decide) (fun c6 => ?_) (fun c6 => ?_)
  · have hGood := good_of_vol (show 0 ≤ vol d by omega)
    have hB2 := hGood.bounds hd
    have hlin := hB2.lin
    obtain ⟨rfl, rfl, rfl, rfl, rfl, rfl, rfl, rfl⟩ := hgeo (by omega)
    refine lv_aload_n C0.1 C0.2.1 dX10_fileOfText_11 rfl (lv_at hl 1 rfl) ?_
    refine lv_aload_n C0.1 C0.2.1 dX10_fileOfText_12 rfl (lv_at hl 1 rfl) ?_
    refine k_get C0 S (C := RX10) (T := TX10) (N := 26) (ci := 10) (by decide +kernel) 0 rfl rfl 11 (by decide) (by decide +kernel) (v := .ref aX) rfl dX10_fileOfText_13 ?_
    refine lv_aload_n C0.1 C0.2.1 dX10_fileOfText_16 rfl (lv_at hl 1 rfl) ?_
    refine k_get C0 S (C := RX10) (T := TX10) (N := 26) (ci := 10) (by decide +kernel) 0 rfl rfl 12 (by decide) (by decide +kernel) (v := .int (iI (tl))) rfl dX10_fileOfText_17 ?_
    refine k_callv (n := 2) (wr := [(aD, .inl (cA 0, 2048, .inl (fun y_ => iI (d y_)))), (aQ, .inl (cA 0, 4, .inl (fun y_ => iI (nm y_))))]) C0 S (c_X10_take l D cA hM aD aM aX aP aQ aK aO aA a1 a2 a3 (st) (chs d) (gTA d) (gT d) (gTS d) (gCS d) (gCA d) (gN d) (gRoot d) (tl) (pn) (nc) (kl) (ol) (al) d aX 20 px ty (tl) hpx hty (by omega) (by omega) (by omega) (by omega)) gX10_fileOfText_X10_take rfl ⟨rfl, rfl⟩ (by decide +kernel) ⟨Nat.le_of_ble_eq_true rfl, Nat.le_of_ble_eq_true rfl⟩ [0, 2, 4] [1, 3] rfl rfl rfl rfl (by decide) (ci := 10) (q0 := 0) rfl rfl (As := [.ref aX, .int (iI (tl))]) rfl hl.1 rfl (Nat.le_of_ble_eq_true rfl) dX10_fileOfText_20 ⟨Nat.zero_le _, Nat.zero_le _⟩ (fun u H locs hp S => ?_)
    obtain ⟨px9, rfl, hpe, hpx2⟩ := hp
    have S := S.sub (ws' := [(hM, .inr (10, [.ref aD, .ref aM, .int (iI (st)), .int (iI (chs d)), .int (iI (gTA d)), .int (iI (gT d)), .int (iI (gTS d)), .int (iI (gCS d)), .int (iI (gCA d)), .int (iI (gN d)), .int (iI (gRoot d)), .ref aX, .int (iI (tl)), .ref aP, .int (iI (tl)), .ref aQ, .int (iI (nc)), .ref aK, .ref aO, .ref aA, .int (iI (kl)), .int (iI (ol)), .int (iI (al)), .ref a1, .ref a2, .ref a3])), (aD, .inl (cA 0, 2048, .inl (fun y_ => iI (d y_)))), (aP, .inl (cA 0, 200, .inl (fun y_ => iI (px9 y_)))), (aQ, .inl (cA 0, 4, .inl (fun y_ => iI (nm y_)))), (aX, .inl (cA 0, 20, .inl (fun y_ => iI (ty y_))))]) [2, 0, 3, 1, 4] rfl rfl
    refine lv_aload_n C0.1 C0.2.1 dX10_fileOfText_23 rfl (lv_at hl 1 rfl) ?_
    refine k_calli (n := 0) (wr := [(aX, .inl (cA 0, 20, .inl (fun y_ => iI (ty y_))))]) C0 S (c_X10_find l D cA hM aD aM aX aP aQ aK aO aA a1 a2 a3 (st) (tl) (tl) (nc) (kl) (ol) (al) d px9 nm hd hB2 hpx2 (by omega) (by omega)) gX10_fileOfText_X10_find rfl ⟨rfl, rfl⟩ (by decide +kernel) ⟨Nat.le_of_ble_eq_true rfl, Nat.le_of_ble_eq_true rfl⟩ [0, 1, 2, 3] [4] rfl rfl rfl rfl (by decide) (ci := 10) (q0 := 0) rfl rfl (As := []) rfl hl.1 rfl (Nat.le_of_ble_eq_true rfl) dX10_fileOfText_24 ⟨Nat.zero_le _, Nat.zero_le _⟩ (fun r u H locs hp S => ?_)
    obtain ⟨nq10, nm11, rfl, rfl, hfr1, hfr2⟩ := hp
    have S := S.sub (ws' := [(hM, .inr (10, [.ref aD, .ref aM, .int (iI (st)), .int (iI (chs d)), .int (iI (gTA d)), .int (iI (gT d)), .int (iI (gTS d)), .int (iI (gCS d)), .int (iI (gCA d)), .int (iI (gN d)), .int (iI (gRoot d)), .ref aX, .int (iI (tl)), .ref aP, .int (iI (tl)), .ref aQ, .int (iI (nq10)), .ref aK, .ref aO, .ref aA, .int (iI (kl)), .int (iI (ol)), .int (iI (al)), .ref a1, .ref a2, .ref a3])), (aD, .inl (cA 0, 2048, .inl (fun y_ => iI (d y_)))), (aP, .inl (cA 0, 200, .inl (fun y_ => iI (px9 y_)))), (aQ, .inl (cA 0, 4, .inl (fun y_ => iI (nm11 y_)))), (aX, .inl (cA 0, 20, .inl (fun y_ => iI (ty y_))))]) [1, 2, 3, 4, 0] rfl rfl
    refine lv_istore_n (lv' := [(2, .int (iI (fnM d px9 (tl).toNat))), (1, .int (iI (vol d))), (0, .ref hM)]) C0.1 C0.2.1 dX10_fileOfText_27 rfl hl (by decide) rfl (fun ls hl => ?_)
    refine lv_iload_n C0.1 C0.2.1 dX10_fileOfText_28 rfl (lv_at hl 0 rfl) ?_
    refine k_if_lt (tgt := 45) C0 (by constructor <;> omega) dX10_fileOfText_29 (by decide) (fun c29 => ?_) (fun c29 => ?_)
    · refine lv_iload_n C0.1 C0.2.1 dX10_fileOfText_45 rfl (lv_at hl 0 rfl) ?_
      subst hQ
      refine k_iret C0 S hAe hsz hr hlk dX10_fileOfText_46 ?_
      have hfo := (flM_fot (d := d) hpe).1
      have hfv := fotV_ok (ty := ty) (tc := tl) (show ¬ vol d < 0 by omega)
      have hq := flM_no (d := d) (px := px9) (n := tl.toNat) (by rintro ⟨h1, h2⟩; exact absurd h1 (by omega))
      exact ⟨_, _, _, _, _, _, _, _, _, _, _, _, congrArg iI (by rw [hfv, ← hfo, hq]), rfl, by omega, by omega, fun _ => ⟨rfl, rfl, rfl, rfl, rfl, rfl, rfl, rfl⟩, hpx2⟩
    · refine lv_aload_n C0.1 C0.2.1 dX10_fileOfText_32 rfl (lv_at hl 2 rfl) ?_
      refine lv_iload_n C0.1 C0.2.1 dX10_fileOfText_33 rfl (lv_at hl 0 rfl) ?_
      refine k_calli (n := 1) (wr := [(aP, .inl (cA 0, 200, .inl (fun y_ => iI (px9 y_)))), (aQ, .inl (cA 0, 4, .inl (fun y_ => iI (nm11 y_)))), (aX, .inl (cA 0, 20, .inl (fun y_ => iI (ty y_))))]) C0 S (c_X10_isDirectory l D cA hM aD aM aX aP aQ aK aO aA a1 a2 a3 (st) (chs d) (gTA d) (gT d) (gTS d) (gCS d) (gCA d) (gN d) (gRoot d) (tl) (tl) (nq10) (kl) (ol) (al) d (fnM d px9 (tl).toNat) hd (by omega) (by omega)) gX10_fileOfText_X10_isDirectory rfl ⟨rfl, rfl⟩ (by decide +kernel) ⟨Nat.le_of_ble_eq_true rfl, Nat.le_of_ble_eq_true rfl⟩ [0, 1] [2, 3, 4] rfl rfl rfl rfl (by decide) (ci := 10) (q0 := 0) rfl rfl (As := [.int (iI (fnM d px9 (tl).toNat))]) rfl hl.1 rfl (Nat.le_of_ble_eq_true rfl) dX10_fileOfText_34 ⟨Nat.zero_le _, Nat.zero_le _⟩ (fun r u H locs hp S => ?_)
      obtain ⟨rfl, rfl⟩ := hp
      have S := S.sub (ws' := [(hM, .inr (10, [.ref aD, .ref aM, .int (iI (st)), .int (iI (chs d)), .int (iI (gTA d)), .int (iI (gT d)), .int (iI (gTS d)), .int (iI (gCS d)), .int (iI (gCA d)), .int (iI (gN d)), .int (iI (gRoot d)), .ref aX, .int (iI (tl)), .ref aP, .int (iI (tl)), .ref aQ, .int (iI (nq10)), .ref aK, .ref aO, .ref aA, .int (iI (kl)), .int (iI (ol)), .int (iI (al)), .ref a1, .ref a2, .ref a3])), (aD, .inl (cA 0, 2048, .inl (fun y_ => iI (d y_)))), (aP, .inl (cA 0, 200, .inl (fun y_ => iI (px9 y_)))), (aQ, .inl (cA 0, 4, .inl (fun y_ => iI (nm11 y_)))), (aX, .inl (cA 0, 20, .inl (fun y_ => iI (ty y_))))]) [3, 4, 0, 1, 2] rfl rfl
      refine k_bz_eq (tgt := 45) C0 dX10_fileOfText_37 (by decide) (fun c37 => ?_) (fun c37 => ?_)
      · refine lv_iload_n C0.1 C0.2.1 dX10_fileOfText_45 rfl (lv_at hl 0 rfl) ?_
        subst hQ
        refine k_iret C0 S hAe hsz hr hlk dX10_fileOfText_46 ?_
        have hfo := (flM_fot (d := d) hpe).1
        have hfv := fotV_ok (ty := ty) (tc := tl) (show ¬ vol d < 0 by omega)
        have hq := flM_no (d := d) (px := px9) (n := tl.toNat) (by rintro ⟨h1, h2⟩; exact c37 h2)
        exact ⟨_, _, _, _, _, _, _, _, _, _, _, _, congrArg iI (by rw [hfv, ← hfo, hq]), rfl, by omega, by omega, fun _ => ⟨rfl, rfl, rfl, rfl, rfl, rfl, rfl, rfl⟩, hpx2⟩
      · refine lv_bipush (v := iI (-7)) C0.1 C0.2.1 dX10_fileOfText_40 (by decide) ?_
        refine lv_goto (tgt := 46) C0.1 C0.2.1 dX10_fileOfText_42 (by decide) ?_
        subst hQ
        refine k_iret C0 S hAe hsz hr hlk dX10_fileOfText_46 ?_
        have hfo := (flM_fot (d := d) hpe).1
        have hfv := fotV_ok (ty := ty) (tc := tl) (show ¬ vol d < 0 by omega)
        have hq := flM_dir (show 0 ≤ fnM d px9 tl.toNat by omega) c37
        exact ⟨_, _, _, _, _, _, _, _, _, _, _, _, congrArg iI (by rw [hfv, ← hfo, hq]), rfl, by omega, by omega, fun _ => ⟨rfl, rfl, rfl, rfl, rfl, rfl, rfl, rfl⟩, hpx2⟩
  · refine lv_iload_n C0.1 C0.2.1 dX10_fileOfText_9 rfl (lv_at hl 0 rfl) ?_
    subst hQ
    refine k_iret C0 S hAe hsz hr hlk dX10_fileOfText_10 ?_
    have hq := fotV_bad (ty := ty) (tc := tl) (show vol d < 0 by omega)
    exact ⟨_, _, _, _, _, _, _, _, _, _, _, _, congrArg iI hq.symm, rfl, by omega, by omega, fun h => absurd h (by omega), hpx⟩
def rmX10_size : Room := { frames := 7, cells := 0, slots := 0, locals := 162 }
set_option maxHeartbeats 4000000 in
set_option maxRecDepth 100000 in
theorem c_X10_size (l : Launch) (D : va_G) (cA : Nat → ClassId) (hM aD aM aX aP aQ aK aO aA a1 a2 a3 : Nat) (st r3 r4 r5 r6 r7 r8 r9 r10 tl pn nc kl ol al : Int) (d : Nat → Int) (px nm ty : Nat → Int) (hd : By d) (hpx : By px) (hty : By ty) (ht1 : 0 ≤ tl) (ht2 : tl ≤ 20) : kCi l D vwCl (kTys cA) yX10_size wsX10_size rmX10_size [.ref hM] [(hM, .inr (10, [.ref aD, .ref aM, .int (iI (st)), .int (iI (r3)), .int (iI (r4)), .int (iI (r5)), .int (iI (r6)), .int (iI (r7)), .int (iI (r8)), .int (iI (r9)), .int (iI (r10)), .ref aX, .int (iI (tl)), .ref aP, .int (iI (pn)), .ref aQ, .int (iI (nc)), .ref aK, .ref aO, .ref aA, .int (iI (kl)), .int (iI (ol)), .int (iI (al)), .ref a1, .ref a2, .ref a3])), (aD, .inl (cA 0, 2048, .inl (fun y_ => iI (d y_)))), (aP, .inl (cA 0, 200, .inl (fun y_ => iI (px y_)))), (aQ, .inl (cA 0, 4, .inl (fun y_ => iI (nm y_)))), (aX, .inl (cA 0, 20, .inl (fun y_ => iI (ty y_))))] (fun r u => ∃ (x1 x2 x3 x4 x5 x6 x7 x8 pn2 nc2 : Int) (px2 nm2 : Nat → Int), r = iI (sizS d ty tl) ∧ u = [(hM, .inr (10, [.ref aD, .ref aM, .int (iI (st)), .int (iI (x1)), .int (iI (x2)), .int (iI (x3)), .int (iI (x4)), .int (iI (x5)), .int (iI (x6)), .int (iI (x7)), .int (iI (x8)), .ref aX, .int (iI (tl)), .ref aP, .int (iI (pn2)), .ref aQ, .int (iI (nc2)), .ref aK, .ref aO, .ref aA, .int (iI (kl)), .int (iI (ol)), .int (iI (al)), .ref a1, .ref a2, .ref a3])), (aD, .inl (cA 0, 2048, .inl (fun y_ => iI (d y_)))), (aP, .inl (cA 0, 200, .inl (fun y_ => iI (px2 y_)))), (aQ, .inl (cA 0, 4, .inl (fun y_ => iI (nm2 y_)))), (aX, .inl (cA 0, 20, .inl (fun y_ => iI (ty y_))))] ∧ By px2) := by
  intro sz
  refine kEntry (cc := cX10_size) (maxL := 2) (ret := (some .int)) (by decide) rfl (Nat.le_of_ble_eq_true rfl) ?_
  intro p e s m args below meth c A Q hAe hQ C0 hr hlk S hsz ls hl
  have hl : lv_has ls 2 [(0, .ref hM)] := hl
  refine lv_aload_n C0.1 C0.2.1 dX10_size_0 rfl (lv_at hl 0 rfl) ?_
  refine k_calli (n := 0) (wr := []) C0 S (c_X10_fileOfText l D cA hM aD aM aX aP aQ aK aO aA a1 a2 a3 (st) (r3) (r4) (r5) (r6) (r7) (r8) (r9) (r10) (tl) (pn) (nc) (kl) (ol) (al) d px nm ty hd hpx hty ht1 ht2) gX10_size_X10_fileOfText rfl ⟨rfl, rfl⟩ (by decide +kernel) ⟨Nat.le_of_ble_eq_true rfl, Nat.le_of_ble_eq_true rfl⟩ [0, 1, 2, 3, 4] [] rfl rfl rfl rfl (by decide) (ci := 10) (q0 := 0) rfl rfl (As := []) rfl hl.1 rfl (Nat.le_of_ble_eq_true rfl) dX10_size_1 ⟨Nat.zero_le _, Nat.zero_le _⟩ (fun r u H locs hp S => ?_)
  obtain ⟨e1, e2, e3, e4, e5, e6, e7, e8, e9, e10, px11, nm12, rfl, rfl, hft1, hft2, hgeo, hpx2⟩ := hp
  have S := S.sub (ws' := [(hM, .inr (10, [.ref aD, .ref aM, .int (iI (st)), .int (iI (e1)), .int (iI (e2)), .int (iI (e3)), .int (iI (e4)), .int (iI (e5)), .int (iI (e6)), .int (iI (e7)), .int (iI (e8)), .ref aX, .int (iI (tl)), .ref aP, .int (iI (e9)), .ref aQ, .int (iI (e10)), .ref aK, .ref aO, .ref aA, .int (iI (kl)), .int (iI (ol)), .int (iI (al)), .ref a1, .ref a2, .ref a3])), (aD, .inl (cA 0, 2048, .inl (fun y_ => iI (d y_)))), (aP, .inl (cA 0, 200, .inl (fun y_ => iI (px11 y_)))), (aQ, .inl (cA 0, 4, .inl (fun y_ => iI (nm12 y_)))), (aX, .inl (cA 0, 20, .inl (fun y_ => iI (ty y_))))]) [0, 1, 2, 3, 4] rfl rfl
  refine lv_istore_n (lv' := [(1, .int (iI (fotV d ty tl))), (0, .ref hM)]) C0.1 C0.2.1 dX10_size_4 rfl hl (by decide) rfl (fun ls hl => ?_)
  refine lv_iload_n C0.1 C0.2.1 dX10_size_5 rfl (lv_at hl 0 rfl) ?_
  refine k_if_ge (tgt := 13) C0 (by constructor <;> omega) dX10_size_6 (by decide) (fun c6 => ?_) (fun c6 => ?_)
  · have hv0 : 0 ≤ vol d := by rcases Int.lt_or_le (vol d) 0 with h | h; (rw [fotV_bad h] at *; omega); exact h
    have hB2 := (good_of_vol hv0).bounds hd
    have hlin := hB2.lin
    obtain ⟨rfl, rfl, rfl, rfl, rfl, rfl, rfl, rfl⟩ := hgeo hv0
    refine lv_aload_n C0.1 C0.2.1 dX10_size_13 rfl (lv_at hl 1 rfl) ?_
    refine lv_iload_n C0.1 C0.2.1 dX10_size_14 rfl (lv_at hl 0 rfl) ?_
    refine k_calli (n := 1) (wr := [(aP, .inl (cA 0, 200, .inl (fun y_ => iI (px11 y_)))), (aQ, .inl (cA 0, 4, .inl (fun y_ => iI (nm12 y_)))), (aX, .inl (cA 0, 20, .inl (fun y_ => iI (ty y_))))]) C0 S (c_X10_sizeAt l D cA hM aD aM aX aP aQ aK aO aA a1 a2 a3 (st) (chs d) (gTA d) (gT d) (gTS d) (gCS d) (gCA d) (gN d) (gRoot d) (tl) (e9) (e10) (kl) (ol) (al) d (fotV d ty tl) hd (by omega) (by omega)) gX10_size_X10_sizeAt rfl ⟨rfl, rfl⟩ (by decide +kernel) ⟨Nat.le_of_ble_eq_true rfl, Nat.le_of_ble_eq_true rfl⟩ [0, 1] [2, 3, 4] rfl rfl rfl rfl (by decide) (ci := 10) (q0 := 0) rfl rfl (As := [.int (iI (fotV d ty tl))]) rfl hl.1 rfl (Nat.le_of_ble_eq_true rfl) dX10_size_15 ⟨Nat.zero_le _, Nat.zero_le _⟩ (fun r u H locs hp S => ?_)
    obtain ⟨rfl, rfl⟩ := hp
    have S := S.sub (ws' := [(hM, .inr (10, [.ref aD, .ref aM, .int (iI (st)), .int (iI (chs d)), .int (iI (gTA d)), .int (iI (gT d)), .int (iI (gTS d)), .int (iI (gCS d)), .int (iI (gCA d)), .int (iI (gN d)), .int (iI (gRoot d)), .ref aX, .int (iI (tl)), .ref aP, .int (iI (e9)), .ref aQ, .int (iI (e10)), .ref aK, .ref aO, .ref aA, .int (iI (kl)), .int (iI (ol)), .int (iI (al)), .ref a1, .ref a2, .ref a3])), (aD, .inl (cA 0, 2048, .inl (fun y_ => iI (d y_)))), (aP, .inl (cA 0, 200, .inl (fun y_ => iI (px11 y_)))), (aQ, .inl (cA 0, 4, .inl (fun y_ => iI (nm12 y_)))), (aX, .inl (cA 0, 20, .inl (fun y_ => iI (ty y_))))]) [3, 4, 0, 1, 2] rfl rfl
    have hb15 := By_wrd hd ((fotV d ty tl) + 6)
    subst hQ
    refine k_iret C0 S hAe hsz hr hlk dX10_size_18 ?_
    exact ⟨_, _, _, _, _, _, _, _, _, _, _, _, congrArg iI (sizS_ok (by omega)).symm, rfl, hpx2⟩
  · refine lv_iload_n C0.1 C0.2.1 dX10_size_9 rfl (lv_at hl 0 rfl) ?_
    refine lv_goto (tgt := 18) C0.1 C0.2.1 dX10_size_10 (by decide) ?_
    subst hQ
    refine k_iret C0 S hAe hsz hr hlk dX10_size_18 ?_
    exact ⟨_, _, _, _, _, _, _, _, _, _, _, _, congrArg iI (sizS_bad (by omega)).symm, rfl, hpx2⟩
def rmX10_read : Room := { frames := 7, cells := 0, slots := 0, locals := 162 }
set_option maxHeartbeats 4000000 in
set_option maxRecDepth 100000 in
theorem c_X10_read (l : Launch) (D : va_G) (cA : Nat → ClassId) (hM aD aM aX aP aQ aK aO aA a1 a2 a3 : Nat) (st r3 r4 r5 r6 r7 r8 r9 r10 tl pn nc kl ol al : Int) (d : Nat → Int) (px nm ty : Nat → Int) (i : Int) (hd : By d) (hpx : By px) (hty : By ty) (ht1 : 0 ≤ tl) (ht2 : tl ≤ 20) (hi : ir i) : kCi l D vwCl (kTys cA) yX10_read wsX10_read rmX10_read [.ref hM, .int (iI (i))] [(hM, .inr (10, [.ref aD, .ref aM, .int (iI (st)), .int (iI (r3)), .int (iI (r4)), .int (iI (r5)), .int (iI (r6)), .int (iI (r7)), .int (iI (r8)), .int (iI (r9)), .int (iI (r10)), .ref aX, .int (iI (tl)), .ref aP, .int (iI (pn)), .ref aQ, .int (iI (nc)), .ref aK, .ref aO, .ref aA, .int (iI (kl)), .int (iI (ol)), .int (iI (al)), .ref a1, .ref a2, .ref a3])), (aD, .inl (cA 0, 2048, .inl (fun y_ => iI (d y_)))), (aP, .inl (cA 0, 200, .inl (fun y_ => iI (px y_)))), (aQ, .inl (cA 0, 4, .inl (fun y_ => iI (nm y_)))), (aX, .inl (cA 0, 20, .inl (fun y_ => iI (ty y_))))] (fun r u => ∃ (x1 x2 x3 x4 x5 x6 x7 x8 pn2 nc2 : Int) (px2 nm2 : Nat → Int), r = iI (reaS d ty tl i) ∧ u = [(hM, .inr (10, [.ref aD, .ref aM, .int (iI (st)), .int (iI (x1)), .int (iI (x2)), .int (iI (x3)), .int (iI (x4)), .int (iI (x5)), .int (iI (x6)), .int (iI (x7)), .int (iI (x8)), .ref aX, .int (iI (tl)), .ref aP, .int (iI (pn2)), .ref aQ, .int (iI (nc2)), .ref aK, .ref aO, .ref aA, .int (iI (kl)), .int (iI (ol)), .int (iI (al)), .ref a1, .ref a2, .ref a3])), (aD, .inl (cA 0, 2048, .inl (fun y_ => iI (d y_)))), (aP, .inl (cA 0, 200, .inl (fun y_ => iI (px2 y_)))), (aQ, .inl (cA 0, 4, .inl (fun y_ => iI (nm2 y_)))), (aX, .inl (cA 0, 20, .inl (fun y_ => iI (ty y_))))] ∧ By px2) := by
  intro sz
  refine kEntry (cc := cX10_read) (maxL := 3) (ret := (some .int)) (by decide) rfl (Nat.le_of_ble_eq_true rfl) ?_
  intro p e s m args below meth c A Q hAe hQ C0 hr hlk S hsz ls hl
  have hl : lv_has ls 3 [(0, .ref hM), (1, .int (iI (i)))] := hl
  obtain ⟨hi1, hi2⟩ := hi
  refine lv_aload_n C0.1 C0.2.1 dX10_read_0 rfl (lv_at hl 0 rfl) ?_
  refine k_calli (n := 0) (wr := []) C0 S (c_X10_fileOfText l D cA hM aD aM aX aP aQ aK aO aA a1 a2 a3 (st) (r3) (r4) (r5) (r6) (r7) (r8) (r9) (r10) (tl) (pn) (nc) (kl) (ol) (al) d px nm ty hd hpx hty ht1 ht2) gX10_read_X10_fileOfText rfl ⟨rfl, rfl⟩ (by decide +kernel) ⟨Nat.le_of_ble_eq_true rfl, Nat.le_of_ble_eq_true rfl⟩ [0, 1, 2, 3, 4] [] rfl rfl rfl rfl (by decide) (ci := 10) (q0 := 0) rfl rfl (As := []) rfl hl.1 rfl (Nat.le_of_ble_eq_true rfl) dX10_read_1 ⟨Nat.zero_le _, Nat.zero_le _⟩ (fun r u H locs hp S => ?_)
  obtain ⟨e1, e2, e3, e4, e5, e6, e7, e8, e9, e10, px11, nm12, rfl, rfl, hft1, hft2, hgeo, hpx2⟩ := hp
  have S := S.sub (ws' := [(hM, .inr (10, [.ref aD, .ref aM, .int (iI (st)), .int (iI (e1)), .int (iI (e2)), .int (iI (e3)), .int (iI (e4)), .int (iI (e5)), .int (iI (e6)), .int (iI (e7)), .int (iI (e8)), .ref aX, .int (iI (tl)), .ref aP, .int (iI (e9)), .ref aQ, .int (iI (e10)), .ref aK, .ref aO, .ref aA, .int (iI (kl)), .int (iI (ol)), .int (iI (al)), .ref a1, .ref a2, .ref a3])), (aD, .inl (cA 0, 2048, .inl (fun y_ => iI (d y_)))), (aP, .inl (cA 0, 200, .inl (fun y_ => iI (px11 y_)))), (aQ, .inl (cA 0, 4, .inl (fun y_ => iI (nm12 y_)))), (aX, .inl (cA 0, 20, .inl (fun y_ => iI (ty y_))))]) [0, 1, 2, 3, 4] rfl rfl
  refine lv_istore_n (lv' := [(2, .int (iI (fotV d ty tl))), (0, .ref hM), (1, .int (iI (i)))]) C0.1 C0.2.1 dX10_read_4 rfl hl (by decide) rfl (fun ls hl => ?_)
  refine lv_iload_n C0.1 C0.2.1 dX10_read_5 rfl (lv_at hl 0 rfl) ?_
  refine k_if_ge (tgt := 11) C0 (by constructor <;> omega) dX10_read_6 (by decide) (fun c6 => ?_) (fun c6 => ?_)
  · have hv0 : 0 ≤ vol d := by rcases Int.lt_or_le (vol d) 0 with h | h; (rw [fotV_bad h] at *; omega); exact h
    have hB2 := (good_of_vol hv0).bounds hd
    have hlin := hB2.lin
    obtain ⟨rfl, rfl, rfl, rfl, rfl, rfl, rfl, rfl⟩ := hgeo hv0
    have hon := opn_neg (a := fotV d ty tl) hd
    refine lv_aload_n C0.1 C0.2.1 dX10_read_11 rfl (lv_at hl 1 rfl) ?_
    refine lv_iload_n C0.1 C0.2.1 dX10_read_12 rfl (lv_at hl 0 rfl) ?_
    refine k_calli (n := 1) (wr := [(aP, .inl (cA 0, 200, .inl (fun y_ => iI (px11 y_)))), (aQ, .inl (cA 0, 4, .inl (fun y_ => iI (nm12 y_)))), (aX, .inl (cA 0, 20, .inl (fun y_ => iI (ty y_))))]) C0 S (c_X10_isBroken l D cA hM aD aM aX aP aQ aK aO aA a1 a2 a3 (st) (tl) (e9) (e10) (kl) (ol) (al) d (fotV d ty tl) hd hB2 (by omega) (by omega)) gX10_read_X10_isBroken rfl ⟨rfl, rfl⟩ (by decide +kernel) ⟨Nat.le_of_ble_eq_true rfl, Nat.le_of_ble_eq_true rfl⟩ [0, 1] [2, 3, 4] rfl rfl rfl rfl (by decide) (ci := 10) (q0 := 0) rfl rfl (As := [.int (iI (fotV d ty tl))]) rfl hl.1 rfl (Nat.le_of_ble_eq_true rfl) dX10_read_13 ⟨Nat.zero_le _, Nat.zero_le _⟩ (fun r u H locs hp S => ?_)
    obtain ⟨rfl, rfl⟩ := hp
    have S := S.sub (ws' := [(hM, .inr (10, [.ref aD, .ref aM, .int (iI (st)), .int (iI (chs d)), .int (iI (gTA d)), .int (iI (gT d)), .int (iI (gTS d)), .int (iI (gCS d)), .int (iI (gCA d)), .int (iI (gN d)), .int (iI (gRoot d)), .ref aX, .int (iI (tl)), .ref aP, .int (iI (e9)), .ref aQ, .int (iI (e10)), .ref aK, .ref aO, .ref aA, .int (iI (kl)), .int (iI (ol)), .int (iI (al)), .ref a1, .ref a2, .ref a3])), (aD, .inl (cA 0, 2048, .inl (fun y_ => iI (d y_)))), (aP, .inl (cA 0, 200, .inl (fun y_ => iI (px11 y_)))), (aQ, .inl (cA 0, 4, .inl (fun y_ => iI (nm12 y_)))), (aX, .inl (cA 0, 20, .inl (fun y_ => iI (ty y_))))]) [3, 4, 0, 1, 2] rfl rfl
    refine k_bz_eq (tgt := 22) C0 dX10_read_16 (by decide) (fun c16 => ?_) (fun c16 => ?_)
    · refine lv_iload_n C0.1 C0.2.1 dX10_read_22 rfl (lv_at hl 2 rfl) ?_
      refine k_if_lt (tgt := 35) C0 (by constructor <;> omega) dX10_read_23 (by decide) (fun c23 => ?_) (fun c23 => ?_)
      · refine lv_iconst (v := iI (-1)) C0.1 C0.2.1 dX10_read_35 rfl ?_
        refine lv_goto (tgt := 45) C0.1 C0.2.1 dX10_read_36 (by decide) ?_
        subst hQ
        refine k_iret C0 S hAe hsz hr hlk dX10_read_45 ?_
        exact ⟨_, _, _, _, _, _, _, _, _, _, _, _, congrArg iI (reaS_4 (by omega) (by omega) (by omega)).symm, rfl, hpx2⟩
      · refine lv_iload_n C0.1 C0.2.1 dX10_read_26 rfl (lv_at hl 2 rfl) ?_
        refine lv_aload_n C0.1 C0.2.1 dX10_read_27 rfl (lv_at hl 1 rfl) ?_
        refine lv_iload_n C0.1 C0.2.1 dX10_read_28 rfl (lv_at hl 0 rfl) ?_
        refine k_calli (n := 1) (wr := [(aP, .inl (cA 0, 200, .inl (fun y_ => iI (px11 y_)))), (aQ, .inl (cA 0, 4, .inl (fun y_ => iI (nm12 y_)))), (aX, .inl (cA 0, 20, .inl (fun y_ => iI (ty y_))))]) C0 S (c_X10_sizeAt l D cA hM aD aM aX aP aQ aK aO aA a1 a2 a3 (st) (chs d) (gTA d) (gT d) (gTS d) (gCS d) (gCA d) (gN d) (gRoot d) (tl) (e9) (e10) (kl) (ol) (al) d (fotV d ty tl) hd (by omega) (by omega)) gX10_read_X10_sizeAt rfl ⟨rfl, rfl⟩ (by decide +kernel) ⟨Nat.le_of_ble_eq_true rfl, Nat.le_of_ble_eq_true rfl⟩ [0, 1] [2, 3, 4] rfl rfl rfl rfl (by decide) (ci := 10) (q0 := 0) rfl rfl (As := [.int (iI (fotV d ty tl))]) rfl hl.1 rfl (Nat.le_of_ble_eq_true rfl) dX10_read_29 ⟨Nat.zero_le _, Nat.zero_le _⟩ (fun r u H locs hp S => ?_)
        obtain ⟨rfl, rfl⟩ := hp
        have S := S.sub (ws' := [(hM, .inr (10, [.ref aD, .ref aM, .int (iI (st)), .int (iI (chs d)), .int (iI (gTA d)), .int (iI (gT d)), .int (iI (gTS d)), .int (iI (gCS d)), .int (iI (gCA d)), .int (iI (gN d)), .int (iI (gRoot d)), .ref aX, .int (iI (tl)), .ref aP, .int (iI (e9)), .ref aQ, .int (iI (e10)), .ref aK, .ref aO, .ref aA, .int (iI (kl)), .int (iI (ol)), .int (iI (al)), .ref a1, .ref a2, .ref a3])), (aD, .inl (cA 0, 2048, .inl (fun y_ => iI (d y_)))), (aP, .inl (cA 0, 200, .inl (fun y_ => iI (px11 y_)))), (aQ, .inl (cA 0, 4, .inl (fun y_ => iI (nm12 y_)))), (aX, .inl (cA 0, 20, .inl (fun y_ => iI (ty y_))))]) [3, 4, 0, 1, 2] rfl rfl
        have hb17 := By_wrd hd ((fotV d ty tl) + 6)
        refine k_icmp_lt (tgt := 39) C0 (by constructor <;> omega) (by constructor <;> omega) dX10_read_32 (by decide) (fun c32 => ?_) (fun c32 => ?_)
        · obtain ⟨ho1, hcn, ho3⟩ := opn_pos (show 0 < opn d (fotV d ty tl) by omega)
          refine lv_aload_n C0.1 C0.2.1 dX10_read_39 rfl (lv_at hl 1 rfl) ?_
          refine lv_iload_n C0.1 C0.2.1 dX10_read_40 rfl (lv_at hl 0 rfl) ?_
          refine lv_iload_n C0.1 C0.2.1 dX10_read_41 rfl (lv_at hl 2 rfl) ?_
          refine k_calli (n := 2) (wr := [(aP, .inl (cA 0, 200, .inl (fun y_ => iI (px11 y_)))), (aQ, .inl (cA 0, 4, .inl (fun y_ => iI (nm12 y_)))), (aX, .inl (cA 0, 20, .inl (fun y_ => iI (ty y_))))]) C0 S (c_X10_byteOf l D cA hM aD aM aX aP aQ aK aO aA a1 a2 a3 (st) (tl) (e9) (e10) (kl) (ol) (al) d (fotV d ty tl) (i) hd hB2 (by omega) (by omega) hcn (by omega) (by omega)) gX10_read_X10_byteOf rfl ⟨rfl, rfl⟩ (by decide +kernel) ⟨Nat.le_of_ble_eq_true rfl, Nat.le_of_ble_eq_true rfl⟩ [0, 1] [2, 3, 4] rfl rfl rfl rfl (by decide) (ci := 10) (q0 := 0) rfl rfl (As := [.int (iI (fotV d ty tl)), .int (iI (i))]) rfl hl.1 rfl (Nat.le_of_ble_eq_true rfl) dX10_read_42 ⟨Nat.zero_le _, Nat.zero_le _⟩ (fun r u H locs hp S => ?_)
          obtain ⟨rfl, rfl⟩ := hp
          have S := S.sub (ws' := [(hM, .inr (10, [.ref aD, .ref aM, .int (iI (st)), .int (iI (chs d)), .int (iI (gTA d)), .int (iI (gT d)), .int (iI (gTS d)), .int (iI (gCS d)), .int (iI (gCA d)), .int (iI (gN d)), .int (iI (gRoot d)), .ref aX, .int (iI (tl)), .ref aP, .int (iI (e9)), .ref aQ, .int (iI (e10)), .ref aK, .ref aO, .ref aA, .int (iI (kl)), .int (iI (ol)), .int (iI (al)), .ref a1, .ref a2, .ref a3])), (aD, .inl (cA 0, 2048, .inl (fun y_ => iI (d y_)))), (aP, .inl (cA 0, 200, .inl (fun y_ => iI (px11 y_)))), (aQ, .inl (cA 0, 4, .inl (fun y_ => iI (nm12 y_)))), (aX, .inl (cA 0, 20, .inl (fun y_ => iI (ty y_))))]) [3, 4, 0, 1, 2] rfl rfl
          have hb20 := By.rd hd (plc d (rd d ((fotV d ty tl) + 5)) (i))
          subst hQ
          refine k_iret C0 S hAe hsz hr hlk dX10_read_45 ?_
          exact ⟨_, _, _, _, _, _, _, _, _, _, _, _, congrArg iI (reaS_3 (by omega) (by omega) (by omega)).symm, rfl, hpx2⟩
        · refine lv_iconst (v := iI (-1)) C0.1 C0.2.1 dX10_read_35 rfl ?_
          refine lv_goto (tgt := 45) C0.1 C0.2.1 dX10_read_36 (by decide) ?_
          subst hQ
          refine k_iret C0 S hAe hsz hr hlk dX10_read_45 ?_
          exact ⟨_, _, _, _, _, _, _, _, _, _, _, _, congrArg iI (reaS_4 (by omega) (by omega) (by omega)).symm, rfl, hpx2⟩
    · refine lv_bipush (v := iI (-9)) C0.1 C0.2.1 dX10_read_19 (by decide) ?_
      subst hQ
      refine k_iret C0 S hAe hsz hr hlk dX10_read_21 ?_
      exact ⟨_, _, _, _, _, _, _, _, _, _, _, _, congrArg iI (by rw [reaS_2 (by omega) c16]; omega), rfl, hpx2⟩
  · refine lv_iload_n C0.1 C0.2.1 dX10_read_9 rfl (lv_at hl 0 rfl) ?_
    subst hQ
    refine k_iret C0 S hAe hsz hr hlk dX10_read_10 ?_
    exact ⟨_, _, _, _, _, _, _, _, _, _, _, _, congrArg iI (reaS_1 (by omega)).symm, rfl, hpx2⟩
