/-! THE CLAIM OUT OF ONE WALK OF THE LAW'S BODY. Your part is whole_start (and what it stands on); all else here is the same for every law, but numbers. -/
def R_law : String := "ChainLoaderLaw"
def lw_P (b : Addr) (xs : List Int32) (args : Array Value) (s : State) : Prop := args = #[.ref b] ∧ s.IntsAt b xs ∧ xs.length ≤ 2560 ∧ (Jvm.Cond.and given_1 narrow_1).before args s = true
def lw_Q (_ : Array Value) (s : State) (o : Outcome) (t : State) : Prop := o = .returned (some (.int 1)) ∧ Framed s o t [] 600000 7302250
def lw_Z (below : List Frame) (a : Array Value) (s : State) : State → Prop := fun t => ∃ o, t.status = .running ∧ Ended t below o ∧ lw_Q a s o t
/-- the law's own end, with 1 on the stack, nothing written that was there before, its room as the claim has it -/
theorem lw_ret {p : Program} {l : Launch} {e : Env} {s : State} {m : MethodId} {below : List Frame} {meth : Method} {c : Code} {b : Nat} (hx : p.tables.exec = Jvm.exec) (hb : c.code = code) (hr : meth.sig.returnType = ret) (hlocks : meth.locks = false) {pc : Nat} {H : Heap} {ls : Array Slot} (hdg : decode code pc = .ok (.ireturn, 1)) : W p l e room_1 s m #[Value.ref b] below meth c H [] 600000 7302250 (lw_Z below #[Value.ref b] s) (F0 m pc ls [.int 1]) := by
  intro T hT X
  obtain ⟨fs, hret, hrun, hended, hW, hframe⟩ := X.leave (v := some (.int 1)) (hlocks := hlocks) (fun h => by rw [hr] at h; cases h)
  have hmeth' : T.vm.method? m = some meth := X.method'
  refine ⟨T.setFrames fs, ?_, .returned (some (.int 1)), hrun, hended, rfl, ⟨_, rfl⟩, hW, hframe⟩
  jvm_step X.here [X.here.top, hx, hb, hdg, hmeth', hr, ret, narrow_b1]
  (try refine ⟨rfl, ?_⟩); (try refine ⟨rfl, ?_⟩)
  first | (intro acts; rw [hret _ acts rfl rfl rfl]) | rw [hret _ _ rfl rfl rfl]
  exact Steps.refl _
/-- what holds at the law's entry: the machine, the code, the tables' words (any of lw_tbl by 'hts w (by decide +kernel)'), the script of L ints xs at the cell b, what the Statement gives of the start (any of its parts by flat_of_before) -/
def lw_At (p : Program) (s : State) (m : MethodId) (meth : Method) (c : Code) (b L : Nat) (xs : Nat → Int32) : Prop :=
  p.tables.exec = Jvm.exec ∧ c.code = code ∧ meth.sig.returnType = ret ∧ c.maxLocals = 4 ∧ s.vm.findClass R_law = some m.cls ∧ (∀ w ∈ lw_tbl, w.before #[Value.ref b] s = true) ∧ va_X b L xs s s.heap ∧ b < s.heap.size ∧ meth.locks = false ∧ (Jvm.Cond.and given_1 narrow_1).before #[Value.ref b] s = true
set_option maxHeartbeats 4000000 in
set_option maxRecDepth 100000 in
/-- the law's loop -/
theorem law_loop {p : Program} {e : Env} {s : State} {m : MethodId} {below : List Frame} {meth : Method} {c : Code} (l : Launch) {D : va_G} {cA : Nat → ClassId} {t b Ln : Nat} {xs : Nat → Int32} (hr : meth.sig.returnType = ret) (hlk : meth.locks = false) (C0 : CallFix p m c code 4 s #[Value.ref b] lw_tbl RL) (hSc : va_X b Ln xs s s.heap) (hbl : b < s.heap.size) (hbA : ¬ (fun q : Nat => s.heap.size ≤ q) b) (hLn : Ln ≤ 2560) (hXs : Xs t (fun q : Nat => s.heap.size ≤ q) s s.heap) {hX hP aL hS aT hK hO hA hF hE aE hC aC hN hV hB aB hR aR aY hZ aG g0 b0 g1 b1 g2 b2 g3 b3 g4 b4 hM aD aM aX aP aQ aK aO aA a1 a2 a3 : Nat} :
    ∀ (n : Nat) (z : Int), 0 ≤ z → z ≤ (Ln : Int) → ((Ln : Int) - z).toNat < n → ∀ (H : Heap) (locs : List Loc), LI D cA (fun q : Nat => s.heap.size ≤ q) s hX hP aL hS aT hK hO hA hF hE aE hC aC hN hV hB aB hR aR aY hZ aG g0 b0 g1 b1 g2 b2 g3 b3 g4 b4 hM aD aM aX aP aQ aK aO aA a1 a2 a3 H locs → ∀ ls : Array Slot, lv_has ls 4 [(3, .int (iI (z))), (2, .ref hM), (1, .ref hX), (0, .ref b)] → W p l e room_1 s m #[Value.ref b] below meth c H locs 44 7605 (lw_Z below #[Value.ref b] s) (F0 m 18 ls []) := by
  intro n
  induction n with
  | zero => intro z _ _ h; exact absurd h (Nat.not_lt_zero _)
  | succ n ih =>
    intro z hz0 hzL hm H locs hI ls hl
    have hI2 := hI
    obtain ⟨v, g, S, -⟩ := hI2
    refine lv_iload_n C0.1 C0.2.1 dL_law_18 rfl (lv_at hl 0 rfl) ?_
    refine lv_aload_n C0.1 C0.2.1 dL_law_19 rfl (lv_at hl 3 rfl) ?_
    refine k_scl C0 S hSc hbl hbA dL_law_20 ?_
    refine lv_iconst (v := iI (5)) C0.1 C0.2.1 dL_law_21 rfl ?_
    refine k_isub C0 dL_law_22 ?_
    refine k_icmp_gt (tgt := 371) C0 (by constructor <;> omega) (by constructor <;> omega) dL_law_23 (by decide) (fun hc => ?_) (fun hc => ?_)
    · refine va_forget S.2.2.2.1.2.2 ?_
      refine W.widen (k := 600000) (n := 7302250) (Nat.le_of_ble_eq_true rfl) (Nat.le_of_ble_eq_true rfl) ?_
      refine lv_iconst (v := 1) C0.1 C0.2.1 dL_law_371 rfl ?_
      exact lw_ret C0.1 C0.2.1 hr hlk dL_law_372
    · have K : ∀ (H : Heap) (locs : List Loc), LI D cA (fun q : Nat => s.heap.size ≤ q) s hX hP aL hS aT hK hO hA hF hE aE hC aC hN hV hB aB hR aR aY hZ aG g0 b0 g1 b1 g2 b2 g3 b3 g4 b4 hM aD aM aX aP aQ aK aO aA a1 a2 a3 H locs → W p l e room_1 s m #[Value.ref b] below meth c H locs 44 7605 (lw_Z below #[Value.ref b] s) (F0 m 365 ls []) := by
        intro H locs hI
        refine lv_iinc (v := iI (z + 5)) (lv' := [(3, .int (iI (z + 5))), (2, .ref hM), (1, .ref hX), (0, .ref b)]) C0.1 C0.2.1 dL_law_365 hl (k := 0) rfl (iI_add _ _) (by decide) rfl (fun ls hl => ?_)
        refine lv_goto (tgt := 18) C0.1 C0.2.1 dL_law_368 (by decide) ?_
        exact ih (z + 5) (by omega) (by omega) (by omega) H locs hI ls hl
      obtain ⟨w0, hw0, ew0⟩ := ex_w (xs z.toNat)
      obtain ⟨k, ⟨hk0, hk1⟩, ek⟩ := ex_15 (iI w0)
      refine lv_aload_n C0.1 C0.2.1 dL_law_26 rfl (lv_at hl 3 rfl) ?_
      refine lv_iload_n C0.1 C0.2.1 dL_law_27 rfl (lv_at hl 0 rfl) ?_
      refine k_scr C0 S hSc hbl hbA hLn (z := z) (by omega) (by omega) dL_law_28 ?_
      refine k_topeq (v := iI w0) ew0 ?_
      refine lv_bipush (v := iI (15)) C0.1 C0.2.1 dL_law_29 (by decide) ?_
      refine lv_iand C0.1 C0.2.1 dL_law_31 ?_
      refine k_topeq (v := iI k) ek ?_
      rcases (show k = 0 ∨ k = 1 ∨ k = 2 ∨ k = 3 ∨ k = 4 ∨ k = 5 ∨ k = 6 ∨ k = 7 ∨ k = 8 ∨ k = 9 ∨ k = 10 ∨ k = 11 ∨ 12 ≤ k by omega) with rfl | rfl | rfl | rfl | rfl | rfl | rfl | rfl | rfl | rfl | rfl | rfl | hk
      · refine lv_tableIn (off := 64) (tgt := 96) C0.1 C0.2.1 dL_law_32 (by decide) (by decide) (by decide) (by decide) ?_
        exact lc_poke l C0 hSc hbl hbA hLn hXs hl hz0 (by omega) hI K
      · refine lv_tableIn (off := 137) (tgt := 169) C0.1 C0.2.1 dL_law_32 (by decide) (by decide) (by decide) (by decide) ?_
        exact lc_peek l C0 hSc hbl hbA hLn hXs hl hz0 (by omega) hI K
      · refine lv_tableIn (off := 160) (tgt := 192) C0.1 C0.2.1 dL_law_32 (by decide) (by decide) (by decide) (by decide) ?_
        exact lc_volume l C0 hSc hbl hbA hLn hXs hl hz0 (by omega) hI K
      · refine lv_tableIn (off := 173) (tgt := 205) C0.1 C0.2.1 dL_law_32 (by decide) (by decide) (by decide) (by decide) ?_
        exact lc_type l C0 hSc hbl hbA hLn hXs hl hz0 (by omega) hI K
      · refine lv_tableIn (off := 198) (tgt := 230) C0.1 C0.2.1 dL_law_32 (by decide) (by decide) (by decide) (by decide) ?_
        exact lc_scrap l C0 hSc hbl hbA hLn hXs hl hz0 (by omega) hI K
      · refine lv_tableIn (off := 211) (tgt := 243) C0.1 C0.2.1 dL_law_32 (by decide) (by decide) (by decide) (by decide) ?_
        exact lc_size l C0 hSc hbl hbA hLn hXs hl hz0 (by omega) hI K
      · refine lv_tableIn (off := 224) (tgt := 256) C0.1 C0.2.1 dL_law_32 (by decide) (by decide) (by decide) (by decide) ?_
        exact lc_read l C0 hSc hbl hbA hLn hXs hl hz0 (by omega) hI K
      · refine lv_tableIn (off := 247) (tgt := 279) C0.1 C0.2.1 dL_law_32 (by decide) (by decide) (by decide) (by decide) ?_
        exact lc_list l C0 hSc hbl hbA hLn hXs hl hz0 (by omega) hI K
      · refine lv_tableIn (off := 271) (tgt := 303) C0.1 C0.2.1 dL_law_32 (by decide) (by decide) (by decide) (by decide) ?_
        exact lc_survey l C0 hSc hbl hbA hLn hXs hl hz0 (by omega) hI K
      · refine lv_tableIn (off := 284) (tgt := 316) C0.1 C0.2.1 dL_law_32 (by decide) (by decide) (by decide) (by decide) ?_
        exact lc_boot l C0 hSc hbl hbA hLn hXs hl hz0 (by omega) hI K
      · refine lv_tableIn (off := 297) (tgt := 329) C0.1 C0.2.1 dL_law_32 (by decide) (by decide) (by decide) (by decide) ?_
        exact lc_memory l C0 hSc hbl hbA hLn hXs hl hz0 (by omega) hI K
      · refine lv_tableIn (off := 320) (tgt := 352) C0.1 C0.2.1 dL_law_32 (by decide) (by decide) (by decide) (by decide) ?_
        exact lc_entry l C0 hSc hbl hbA hLn hXs hl hz0 (by omega) hI K
      · refine lv_tableOut (tgt := 365) C0.1 C0.2.1 dL_law_32 (Or.inr (by rw [iI_toInt (by constructor <;> omega)]; omega)) (by decide) ?_
        exact K H locs hI
set_option maxHeartbeats 4000000 in
set_option maxRecDepth 100000 in
/-- THE LAW, from its entry -/
theorem whole_start {p : Program} {e : Env} {s : State} {m : MethodId} {below : List Frame} {meth : Method} {c : Code} (l : Launch) {b L : Nat} {xs : Nat → Int32} (hL : L ≤ 2560) (C0 : lw_At p s m meth c b L xs) : W p l e room_1 s m #[Value.ref b] below meth c s.heap [] 0 0 (lw_Z below #[Value.ref b] s) (entryFrame m ([Value.ref b] : List Value).toArray 4) := by
  obtain ⟨hx, hb, hr, hml, hown, hts, hSc, hbl, hlocks, hgv⟩ := id C0
  have hbA : ¬ (fun q : Nat => s.heap.size ≤ q) b := Nat.not_le.mpr hbl
  have hAn : ∀ a : Nat, a < s.heap.size → ¬ (fun q : Nat => s.heap.size ≤ q) a := fun a h => Nat.not_le.mpr h
  have C1 : CallFix p m c code 4 s #[Value.ref b] lw_tbl RL := ⟨hx, hb, hml, hown, hts⟩
  obtain ⟨c0, iS0, hKn0⟩ := u_known (C := RX0) (T := TX0) (N := 1) (n := 1) hts mw_wsX00 (hts _ wi_1_22)
  obtain ⟨c1, iS1, hKn1⟩ := u_known (C := RX1) (T := TX1) (N := 4) (n := 4) hts mw_wsX10 (hts _ wi_1_130)
  obtain ⟨c2, iS2, hKn2⟩ := u_known (C := RX2) (T := TX2) (N := 5) (n := 5) hts mw_wsX20 (hts _ wi_1_94)
  obtain ⟨c3, iS3, hKn3⟩ := u_known (C := RX3) (T := TX3) (N := 4) (n := 4) hts mw_wsX30 (hts _ wi_1_88)
  obtain ⟨c4, iS4, hKn4⟩ := u_known (C := RX4) (T := TX4) (N := 3) (n := 3) hts mw_wsX40 (hts _ wi_1_195)
  obtain ⟨c5, iS5, hKn5⟩ := u_known (C := RX5) (T := TX5) (N := 2) (n := 2) hts mw_wsX50 (hts _ wi_1_73)
  obtain ⟨c6, iS6, hKn6⟩ := u_known (C := RX6) (T := TX6) (N := 4) (n := 4) hts mw_wsX60 (hts _ wi_1_152)
  obtain ⟨c7, iS7, hKn7⟩ := u_known (C := RX7) (T := TX7) (N := 3) (n := 3) hts mw_wsX70 (hts _ wi_1_158)
  obtain ⟨c8, iS8, hKn8⟩ := u_known (C := RX8) (T := TX8) (N := 9) (n := 9) hts mw_wsX80 (hts _ wi_1_33)
  obtain ⟨c9, iS9, hKn9⟩ := u_known (C := RX9) (T := TX9) (N := 11) (n := 11) hts mw_wsX90 (hts _ wi_1_14)
  obtain ⟨c10, iS10, hKn10⟩ := u_known (C := RX10) (T := TX10) (N := 26) (n := 26) hts mw_wsX100 (hts _ wi_3_41)
  obtain ⟨D, hKc⟩ : ∃ D : va_G, ∀ (k : Nat) (q : vw_C), vwCl[k]? = some q → u_Kn s q.1 q.2.1 q.2.2 (D.1 k) (D.2 k) := by
    refine ⟨(fun k => match k with | 0 => c0 | 1 => c1 | 2 => c2 | 3 => c3 | 4 => c4 | 5 => c5 | 6 => c6 | 7 => c7 | 8 => c8 | 9 => c9 | _ => c10, fun k => match k with | 0 => iS0 | 1 => iS1 | 2 => iS2 | 3 => iS3 | 4 => iS4 | 5 => iS5 | 6 => iS6 | 7 => iS7 | 8 => iS8 | 9 => iS9 | _ => iS10), ?_⟩
    intro k q hq
    match k, hq with
    | 0, hq => cases hq; exact hKn0
    | 1, hq => cases hq; exact hKn1
    | 2, hq => cases hq; exact hKn2
    | 3, hq => cases hq; exact hKn3
    | 4, hq => cases hq; exact hKn4
    | 5, hq => cases hq; exact hKn5
    | 6, hq => cases hq; exact hKn6
    | 7, hq => cases hq; exact hKn7
    | 8, hq => cases hq; exact hKn8
    | 9, hq => cases hq; exact hKn9
    | 10, hq => cases hq; exact hKn10
    | k + 11, hq => simp [vwCl] at hq
  obtain ⟨cI, kI, mI, i1, i2, i3⟩ := Cond.arrayClass_spec (hts _ wi_1_86)
  obtain ⟨cB, kB, mB, j1, j2, j3⟩ := Cond.arrayClass_spec (hts _ wi_1_31)
  obtain ⟨mQ, cQ, kQ, k1, k2, k3, k4, k5⟩ := Cond.arrayOver_spec (hts _ wi_1_136)
  obtain ⟨cA, hK⟩ : ∃ cA : Nat → ClassId, va_K D vwCl (kTys cA) s := by
    refine ⟨fun k => match k with | 0 => cI | 1 => cB | _ => cQ, hKc, ?_⟩
    intro k q hq
    match k, hq with
    | 0, hq => cases hq; exact ⟨fun n z => ⟨fun k h => (by cases h), kI, i2, mI, i3⟩, i1⟩
    | 1, hq => cases hq; exact ⟨fun n z => ⟨fun k h => (by cases h), kB, j2, mB, j3⟩, j1⟩
    | 2, hq => cases hq; exact ⟨fun n z => ⟨fun k h => (by cases h), kQ, k3, mQ, k4⟩, kQ, mQ, k3, k4, k1, k5⟩
    | k + 3, hq => simp [kTys] at hq
  have hKE : kE s := ⟨va_AO.of (hts _ wi_1_136), va_Nw.of rfl (hts _ wi_1_159), va_Nw.of rfl (hts _ wi_1_196)⟩
  have hs := flat_of_before _ hgv
  obtain ⟨t, ht, hT⟩ := va_Tof (tm := .static "ChainLoader" "SETTINGS_NAME" "[I") (ty := .int) (N := 4) (f := fun j => .int (iI (bnm j))) (A := fun q : Nat => s.heap.size ≤ q) (by decide) (hs _ (by decide +kernel)) (va_eqt (hs (.eq (.length (.static "ChainLoader" "SETTINGS_NAME" "[I")) (.int 4)) (by decide +kernel))) (fun j hj => by
    rcases (show j = 0 ∨ j = 1 ∨ j = 2 ∨ j = 3 by omega) with rfl | rfl | rfl | rfl
    · exact va_eqt (hs (.eq (.elem (.static "ChainLoader" "SETTINGS_NAME" "[I") (.int 0)) (.int 66)) (by decide +kernel))
    · exact va_eqt (hs (.eq (.elem (.static "ChainLoader" "SETTINGS_NAME" "[I") (.int 1)) (.int 79)) (by decide +kernel))
    · exact va_eqt (hs (.eq (.elem (.static "ChainLoader" "SETTINGS_NAME" "[I") (.int 2)) (.int 79)) (by decide +kernel))
    · exact va_eqt (hs (.eq (.elem (.static "ChainLoader" "SETTINGS_NAME" "[I") (.int 3)) (.int 84)) (by decide +kernel))) hAn
  have hXs : Xs t (fun q : Nat => s.heap.size ≤ q) s s.heap := ⟨va_Zof (hts _ wi_2_207) (hts _ wi_1_1) ht hAn, hT⟩
  have S : kS D vwCl (kTys cA) (fun q : Nat => s.heap.size ≤ q) s [] s.heap [] := ⟨hK, fun k q h => by simp at h, ⟨fun i j p q h => by simp at h, fun k q h => by simp at h⟩, va_S.rf, fun _ h => h⟩
  have hl := lv_entry ([.ref b]) (n := 4) (Nat.le_of_ble_eq_true rfl)
  rw [lg_entry_eq]
  generalize (lg_sl ([.ref b]) ++ List.replicate (4 - (lg_sl ([.ref b])).length) Slot.unset).toArray = ls at hl ⊢
  have hl : lv_has ls 4 [(0, .ref b)] := hl
  refine k_new C1 S (C := RX9) (T := TX9) (N := 11) (ci := 9) mw_wsX90 tyX9 tyX9_ok wi_1_13 wi_1_14 wi_1_1 rfl (fs := [.null, .null, .null, .null, .null, .null, .null, .null, .null, .int (iI (0)), .int (iI (0))]) (fun j hj => by rcases (show j = 0 ∨ j = 1 ∨ j = 2 ∨ j = 3 ∨ j = 4 ∨ j = 5 ∨ j = 6 ∨ j = 7 ∨ j = 8 ∨ j = 9 ∨ j = 10 by omega) with rfl | rfl | rfl | rfl | rfl | rfl | rfl | rfl | rfl | rfl | rfl <;> rfl) ⟨Nat.le_of_ble_eq_true rfl, Nat.le_of_ble_eq_true rfl⟩ dL_law_0 (fun hX H S => ?_)
  refine W.widen (k := 1) (n := 11) (Nat.le_of_ble_eq_true rfl) (Nat.le_of_ble_eq_true rfl) ?_
  have S := S.sub (ws' := [(hX, .inr (9, [.null, .null, .null, .null, .null, .null, .null, .null, .null, .int (iI (0)), .int (iI (0))]))]) [0] rfl rfl
  refine lv_dup C1.1 C1.2.1 dL_law_3 rfl ?_
  refine k_callI (n := 0) (wr := []) C1 S hKE (c_X9_init l D cA hX) gw_X9_init rfl ⟨rfl, rfl⟩ wi_1_1 wi_1_15 wi_1_16 rfl (by decide +kernel) ⟨Nat.le_of_ble_eq_true rfl, Nat.le_of_ble_eq_true rfl⟩ [0] [] rfl rfl rfl rfl (by decide) (As := []) rfl hl.1 rfl (Nat.le_of_ble_eq_true rfl) dL_law_4 ⟨Nat.le_of_ble_eq_true rfl, Nat.le_of_ble_eq_true rfl⟩ (fun u H locs hp S => ?_)
  refine W.widen (k := 32) (n := 3844) (Nat.le_of_ble_eq_true rfl) (Nat.le_of_ble_eq_true rfl) ?_
  obtain ⟨hP, aL, hS, aT, hK, hO, hA, hF, hE, aE, hC, aC, hN, hV, hB, aB, hR, aR, aY, hZ, aG, g0, b0, g1, b1, g2, b2, g3, b3, g4, b4, rfl⟩ := hp
  have S := S.sub (ws' := [(hX, .inr (9, [.ref hB, .ref hR, .ref hV, .ref hP, .ref hF, .ref hZ, .ref hS, .ref hN, .ref aY, .int (iI (0)), .int (iI (-1))])), (hP, .inr (5, [.ref aL, .int (iI (0))])), (aL, .inl (cA 0, 16, .inl (fun y_ => iI (z0 y_)))), (hS, .inr (6, [.ref aT, .ref hK, .ref hO, .ref hA])), (aT, .inl (cA 0, 200, .inl (fun y_ => iI (z0 y_)))), (hK, .inr (7, [.int (iI (0)), .int (iI (0)), .int (iI (0))])), (hO, .inr (7, [.int (iI (0)), .int (iI (0)), .int (iI (0))])), (hA, .inr (7, [.int (iI (0)), .int (iI (0)), .int (iI (0))])), (hF, .inr (3, [.ref hB, .ref hV, .ref hE, .ref hC])), (hE, .inr (2, [.ref hB, .ref hV, .ref aE, .int (iI (0)), .int (iI (0))])), (aE, .inl (cA 0, 64, .inl (fun y_ => iI (z0 y_)))), (hC, .inr (2, [.ref hB, .ref hV, .ref aC, .int (iI (0)), .int (iI (0))])), (aC, .inl (cA 0, 64, .inl (fun y_ => iI (z0 y_)))), (hN, .inr (4, [.int (iI (0)), .int (iI (0)), .int (iI (0))])), (hV, .inr (8, [.ref hB, .int (iI (0)), .int (iI (0)), .int (iI (0)), .int (iI (0)), .int (iI (0)), .int (iI (0)), .int (iI (0)), .int (iI (0))])), (hB, .inr (0, [.ref aB])), (aB, .inl (cA 1, 2048, .inl (fun y_ => bI (z0 y_)))), (hR, .inr (0, [.ref aR])), (aR, .inl (cA 1, 1024, .inl (fun y_ => bI (z0 y_)))), (aY, .inl (cA 0, 20, .inl (fun y_ => iI (z0 y_)))), (hZ, .inr (1, [.ref hV, .ref aG, .int (iI (0)), .int (iI (0))])), (aG, .inl (cA 2, 5, .inr (.inr (.inr (.inr ((lvf g0 g1 g2 g3 g4))))))), (g0, .inr (2, [.ref hB, .ref hV, .ref b0, .int (iI (0)), .int (iI (0))])), (b0, .inl (cA 0, 64, .inl (fun y_ => iI (z0 y_)))), (g1, .inr (2, [.ref hB, .ref hV, .ref b1, .int (iI (0)), .int (iI (0))])), (b1, .inl (cA 0, 64, .inl (fun y_ => iI (z0 y_)))), (g2, .inr (2, [.ref hB, .ref hV, .ref b2, .int (iI (0)), .int (iI (0))])), (b2, .inl (cA 0, 64, .inl (fun y_ => iI (z0 y_)))), (g3, .inr (2, [.ref hB, .ref hV, .ref b3, .int (iI (0)), .int (iI (0))])), (b3, .inl (cA 0, 64, .inl (fun y_ => iI (z0 y_)))), (g4, .inr (2, [.ref hB, .ref hV, .ref b4, .int (iI (0)), .int (iI (0))])), (b4, .inl (cA 0, 64, .inl (fun y_ => iI (z0 y_))))]) [0, 1, 2, 3, 4, 5, 6, 7, 8, 9, 10, 11, 12, 13, 14, 15, 16, 17, 18, 19, 20, 21, 22, 23, 24, 25, 26, 27, 28, 29, 30, 31] rfl rfl
  refine lv_astore_n (lv' := [(1, .ref hX), (0, .ref b)]) C1.1 C1.2.1 dL_law_7 rfl hl (by decide) rfl (fun ls hl => ?_)
  refine k_new C1 S (C := RX10) (T := TX10) (N := 26) (ci := 10) mw_wsX100 tyX10 tyX10_ok wi_3_40 wi_3_41 wi_1_11 rfl (fs := [.null, .null, .int (iI (0)), .int (iI (0)), .int (iI (0)), .int (iI (0)), .int (iI (0)), .int (iI (0)), .int (iI (0)), .int (iI (0)), .int (iI (0)), .null, .int (iI (0)), .null, .int (iI (0)), .null, .int (iI (0)), .null, .null, .null, .int (iI (0)), .int (iI (0)), .int (iI (0)), .null, .null, .null]) (fun j hj => by rcases (show j = 0 ∨ j = 1 ∨ j = 2 ∨ j = 3 ∨ j = 4 ∨ j = 5 ∨ j = 6 ∨ j = 7 ∨ j = 8 ∨ j = 9 ∨ j = 10 ∨ j = 11 ∨ j = 12 ∨ j = 13 ∨ j = 14 ∨ j = 15 ∨ j = 16 ∨ j = 17 ∨ j = 18 ∨ j = 19 ∨ j = 20 ∨ j = 21 ∨ j = 22 ∨ j = 23 ∨ j = 24 ∨ j = 25 by omega) with rfl | rfl | rfl | rfl | rfl | rfl | rfl | rfl | rfl | rfl | rfl | rfl | rfl | rfl | rfl | rfl | rfl | rfl | rfl | rfl | rfl | rfl | rfl | rfl | rfl | rfl <;> rfl) ⟨Nat.le_of_ble_eq_true rfl, Nat.le_of_ble_eq_true rfl⟩ dL_law_8 (fun hM H S => ?_)
  refine W.widen (k := 33) (n := 3870) (Nat.le_of_ble_eq_true rfl) (Nat.le_of_ble_eq_true rfl) ?_
  have S := S.sub (ws' := [(hX, .inr (9, [.ref hB, .ref hR, .ref hV, .ref hP, .ref hF, .ref hZ, .ref hS, .ref hN, .ref aY, .int (iI (0)), .int (iI (-1))])), (hP, .inr (5, [.ref aL, .int (iI (0))])), (aL, .inl (cA 0, 16, .inl (fun y_ => iI (z0 y_)))), (hS, .inr (6, [.ref aT, .ref hK, .ref hO, .ref hA])), (aT, .inl (cA 0, 200, .inl (fun y_ => iI (z0 y_)))), (hK, .inr (7, [.int (iI (0)), .int (iI (0)), .int (iI (0))])), (hO, .inr (7, [.int (iI (0)), .int (iI (0)), .int (iI (0))])), (hA, .inr (7, [.int (iI (0)), .int (iI (0)), .int (iI (0))])), (hF, .inr (3, [.ref hB, .ref hV, .ref hE, .ref hC])), (hE, .inr (2, [.ref hB, .ref hV, .ref aE, .int (iI (0)), .int (iI (0))])), (aE, .inl (cA 0, 64, .inl (fun y_ => iI (z0 y_)))), (hC, .inr (2, [.ref hB, .ref hV, .ref aC, .int (iI (0)), .int (iI (0))])), (aC, .inl (cA 0, 64, .inl (fun y_ => iI (z0 y_)))), (hN, .inr (4, [.int (iI (0)), .int (iI (0)), .int (iI (0))])), (hV, .inr (8, [.ref hB, .int (iI (0)), .int (iI (0)), .int (iI (0)), .int (iI (0)), .int (iI (0)), .int (iI (0)), .int (iI (0)), .int (iI (0))])), (hB, .inr (0, [.ref aB])), (aB, .inl (cA 1, 2048, .inl (fun y_ => bI (z0 y_)))), (hR, .inr (0, [.ref aR])), (aR, .inl (cA 1, 1024, .inl (fun y_ => bI (z0 y_)))), (aY, .inl (cA 0, 20, .inl (fun y_ => iI (z0 y_)))), (hZ, .inr (1, [.ref hV, .ref aG, .int (iI (0)), .int (iI (0))])), (aG, .inl (cA 2, 5, .inr (.inr (.inr (.inr ((lvf g0 g1 g2 g3 g4))))))), (g0, .inr (2, [.ref hB, .ref hV, .ref b0, .int (iI (0)), .int (iI (0))])), (b0, .inl (cA 0, 64, .inl (fun y_ => iI (z0 y_)))), (g1, .inr (2, [.ref hB, .ref hV, .ref b1, .int (iI (0)), .int (iI (0))])), (b1, .inl (cA 0, 64, .inl (fun y_ => iI (z0 y_)))), (g2, .inr (2, [.ref hB, .ref hV, .ref b2, .int (iI (0)), .int (iI (0))])), (b2, .inl (cA 0, 64, .inl (fun y_ => iI (z0 y_)))), (g3, .inr (2, [.ref hB, .ref hV, .ref b3, .int (iI (0)), .int (iI (0))])), (b3, .inl (cA 0, 64, .inl (fun y_ => iI (z0 y_)))), (g4, .inr (2, [.ref hB, .ref hV, .ref b4, .int (iI (0)), .int (iI (0))])), (b4, .inl (cA 0, 64, .inl (fun y_ => iI (z0 y_)))), (hM, .inr (10, [.null, .null, .int (iI (0)), .int (iI (0)), .int (iI (0)), .int (iI (0)), .int (iI (0)), .int (iI (0)), .int (iI (0)), .int (iI (0)), .int (iI (0)), .null, .int (iI (0)), .null, .int (iI (0)), .null, .int (iI (0)), .null, .null, .null, .int (iI (0)), .int (iI (0)), .int (iI (0)), .null, .null, .null]))]) [0, 1, 2, 3, 4, 5, 6, 7, 8, 9, 10, 11, 12, 13, 14, 15, 16, 17, 18, 19, 20, 21, 22, 23, 24, 25, 26, 27, 28, 29, 30, 31, 32] rfl rfl
  refine lv_dup C1.1 C1.2.1 dL_law_11 rfl ?_
  refine k_callI (n := 0) (wr := [(hX, .inr (9, [.ref hB, .ref hR, .ref hV, .ref hP, .ref hF, .ref hZ, .ref hS, .ref hN, .ref aY, .int (iI (0)), .int (iI (-1))])), (hP, .inr (5, [.ref aL, .int (iI (0))])), (aL, .inl (cA 0, 16, .inl (fun y_ => iI (z0 y_)))), (hS, .inr (6, [.ref aT, .ref hK, .ref hO, .ref hA])), (aT, .inl (cA 0, 200, .inl (fun y_ => iI (z0 y_)))), (hK, .inr (7, [.int (iI (0)), .int (iI (0)), .int (iI (0))])), (hO, .inr (7, [.int (iI (0)), .int (iI (0)), .int (iI (0))])), (hA, .inr (7, [.int (iI (0)), .int (iI (0)), .int (iI (0))])), (hF, .inr (3, [.ref hB, .ref hV, .ref hE, .ref hC])), (hE, .inr (2, [.ref hB, .ref hV, .ref aE, .int (iI (0)), .int (iI (0))])), (aE, .inl (cA 0, 64, .inl (fun y_ => iI (z0 y_)))), (hC, .inr (2, [.ref hB, .ref hV, .ref aC, .int (iI (0)), .int (iI (0))])), (aC, .inl (cA 0, 64, .inl (fun y_ => iI (z0 y_)))), (hN, .inr (4, [.int (iI (0)), .int (iI (0)), .int (iI (0))])), (hV, .inr (8, [.ref hB, .int (iI (0)), .int (iI (0)), .int (iI (0)), .int (iI (0)), .int (iI (0)), .int (iI (0)), .int (iI (0)), .int (iI (0))])), (hB, .inr (0, [.ref aB])), (aB, .inl (cA 1, 2048, .inl (fun y_ => bI (z0 y_)))), (hR, .inr (0, [.ref aR])), (aR, .inl (cA 1, 1024, .inl (fun y_ => bI (z0 y_)))), (aY, .inl (cA 0, 20, .inl (fun y_ => iI (z0 y_)))), (hZ, .inr (1, [.ref hV, .ref aG, .int (iI (0)), .int (iI (0))])), (aG, .inl (cA 2, 5, .inr (.inr (.inr (.inr ((lvf g0 g1 g2 g3 g4))))))), (g0, .inr (2, [.ref hB, .ref hV, .ref b0, .int (iI (0)), .int (iI (0))])), (b0, .inl (cA 0, 64, .inl (fun y_ => iI (z0 y_)))), (g1, .inr (2, [.ref hB, .ref hV, .ref b1, .int (iI (0)), .int (iI (0))])), (b1, .inl (cA 0, 64, .inl (fun y_ => iI (z0 y_)))), (g2, .inr (2, [.ref hB, .ref hV, .ref b2, .int (iI (0)), .int (iI (0))])), (b2, .inl (cA 0, 64, .inl (fun y_ => iI (z0 y_)))), (g3, .inr (2, [.ref hB, .ref hV, .ref b3, .int (iI (0)), .int (iI (0))])), (b3, .inl (cA 0, 64, .inl (fun y_ => iI (z0 y_)))), (g4, .inr (2, [.ref hB, .ref hV, .ref b4, .int (iI (0)), .int (iI (0))])), (b4, .inl (cA 0, 64, .inl (fun y_ => iI (z0 y_))))]) C1 S hKE (c_X10_init l D cA hM) gw_X10_init rfl ⟨rfl, rfl⟩ wi_1_11 wi_3_42 wi_3_43 rfl (by decide +kernel) ⟨Nat.le_of_ble_eq_true rfl, Nat.le_of_ble_eq_true rfl⟩ [32] [0, 1, 2, 3, 4, 5, 6, 7, 8, 9, 10, 11, 12, 13, 14, 15, 16, 17, 18, 19, 20, 21, 22, 23, 24, 25, 26, 27, 28, 29, 30, 31] rfl rfl rfl rfl (by decide) (As := []) rfl hl.1 rfl (Nat.le_of_ble_eq_true rfl) dL_law_12 ⟨Nat.le_of_ble_eq_true rfl, Nat.le_of_ble_eq_true rfl⟩ (fun u H locs hp S => ?_)
  refine W.widen (k := 44) (n := 7605) (Nat.le_of_ble_eq_true rfl) (Nat.le_of_ble_eq_true rfl) ?_
  obtain ⟨aD, aM, aX, aP, aQ, aK, aO, aA, a1, a2, a3, rfl⟩ := hp
  have S := S.sub (ws' := [(hX, .inr (9, [.ref hB, .ref hR, .ref hV, .ref hP, .ref hF, .ref hZ, .ref hS, .ref hN, .ref aY, .int (iI (0)), .int (iI (-1))])), (hP, .inr (5, [.ref aL, .int (iI (0))])), (aL, .inl (cA 0, 16, .inl (fun y_ => iI (z0 y_)))), (hS, .inr (6, [.ref aT, .ref hK, .ref hO, .ref hA])), (aT, .inl (cA 0, 200, .inl (fun y_ => iI (z0 y_)))), (hK, .inr (7, [.int (iI (0)), .int (iI (0)), .int (iI (0))])), (hO, .inr (7, [.int (iI (0)), .int (iI (0)), .int (iI (0))])), (hA, .inr (7, [.int (iI (0)), .int (iI (0)), .int (iI (0))])), (hF, .inr (3, [.ref hB, .ref hV, .ref hE, .ref hC])), (hE, .inr (2, [.ref hB, .ref hV, .ref aE, .int (iI (0)), .int (iI (0))])), (aE, .inl (cA 0, 64, .inl (fun y_ => iI (z0 y_)))), (hC, .inr (2, [.ref hB, .ref hV, .ref aC, .int (iI (0)), .int (iI (0))])), (aC, .inl (cA 0, 64, .inl (fun y_ => iI (z0 y_)))), (hN, .inr (4, [.int (iI (0)), .int (iI (0)), .int (iI (0))])), (hV, .inr (8, [.ref hB, .int (iI (0)), .int (iI (0)), .int (iI (0)), .int (iI (0)), .int (iI (0)), .int (iI (0)), .int (iI (0)), .int (iI (0))])), (hB, .inr (0, [.ref aB])), (aB, .inl (cA 1, 2048, .inl (fun y_ => bI (z0 y_)))), (hR, .inr (0, [.ref aR])), (aR, .inl (cA 1, 1024, .inl (fun y_ => bI (z0 y_)))), (aY, .inl (cA 0, 20, .inl (fun y_ => iI (z0 y_)))), (hZ, .inr (1, [.ref hV, .ref aG, .int (iI (0)), .int (iI (0))])), (aG, .inl (cA 2, 5, .inr (.inr (.inr (.inr ((lvf g0 g1 g2 g3 g4))))))), (g0, .inr (2, [.ref hB, .ref hV, .ref b0, .int (iI (0)), .int (iI (0))])), (b0, .inl (cA 0, 64, .inl (fun y_ => iI (z0 y_)))), (g1, .inr (2, [.ref hB, .ref hV, .ref b1, .int (iI (0)), .int (iI (0))])), (b1, .inl (cA 0, 64, .inl (fun y_ => iI (z0 y_)))), (g2, .inr (2, [.ref hB, .ref hV, .ref b2, .int (iI (0)), .int (iI (0))])), (b2, .inl (cA 0, 64, .inl (fun y_ => iI (z0 y_)))), (g3, .inr (2, [.ref hB, .ref hV, .ref b3, .int (iI (0)), .int (iI (0))])), (b3, .inl (cA 0, 64, .inl (fun y_ => iI (z0 y_)))), (g4, .inr (2, [.ref hB, .ref hV, .ref b4, .int (iI (0)), .int (iI (0))])), (b4, .inl (cA 0, 64, .inl (fun y_ => iI (z0 y_)))), (hM, .inr (10, [.ref aD, .ref aM, .int (iI (-1)), .int (iI (0)), .int (iI (0)), .int (iI (0)), .int (iI (0)), .int (iI (0)), .int (iI (0)), .int (iI (0)), .int (iI (0)), .ref aX, .int (iI (0)), .ref aP, .int (iI (0)), .ref aQ, .int (iI (0)), .ref aK, .ref aO, .ref aA, .int (iI (0)), .int (iI (0)), .int (iI (0)), .ref a1, .ref a2, .ref a3])), (aD, .inl (cA 0, 2048, .inl (fun y_ => iI (z0 y_)))), (aM, .inl (cA 0, 1024, .inl (fun y_ => iI (z0 y_)))), (aX, .inl (cA 0, 20, .inl (fun y_ => iI (z0 y_)))), (aP, .inl (cA 0, 200, .inl (fun y_ => iI (z0 y_)))), (aQ, .inl (cA 0, 4, .inl (fun y_ => iI (z0 y_)))), (aK, .inl (cA 0, 200, .inl (fun y_ => iI (z0 y_)))), (aO, .inl (cA 0, 200, .inl (fun y_ => iI (z0 y_)))), (aA, .inl (cA 0, 24, .inl (fun y_ => iI (z0 y_)))), (a1, .inl (cA 0, 5, .inl (fun y_ => iI (z0 y_)))), (a2, .inl (cA 0, 5, .inl (fun y_ => iI (z0 y_)))), (a3, .inl (cA 0, 5, .inl (fun y_ => iI (z0 y_))))]) [0, 1, 2, 3, 4, 5, 6, 7, 8, 9, 10, 11, 12, 13, 14, 15, 16, 17, 18, 19, 20, 21, 22, 23, 24, 25, 26, 27, 28, 29, 30, 31, 32, 33, 34, 35, 36, 37, 38, 39, 40, 41, 42, 43] rfl rfl
  refine lv_astore_n (lv' := [(2, .ref hM), (1, .ref hX), (0, .ref b)]) C1.1 C1.2.1 dL_law_15 rfl hl (by decide) rfl (fun ls hl => ?_)
  refine lv_iconst (v := iI (0)) C1.1 C1.2.1 dL_law_16 rfl ?_
  refine lv_istore_n (lv' := [(3, .int (iI (0))), (2, .ref hM), (1, .ref hX), (0, .ref b)]) C1.1 C1.2.1 dL_law_17 rfl hl (by decide) rfl (fun ls hl => ?_)
  exact law_loop l hr hlocks C1 hSc hbl hbA hL hXs (L + 1) 0 (by omega) (by omega) (by omega) _ _ ⟨(lwV [0, -1, 0, 0, 0, 0, 0, 0, 0, 0, 0, 0, 0, 0, 0, 0, 0, 0, 0, 0, 0, 0, 0, 0, 0, 0, 0, 0, 0, 0, 0, 0, 0, 0, 0, 0, 0, 0, 0, 0, 0, 0, 0, 0, 0, 0, 0, 0, 0, 0, 0, 0]), (lwG [z0, z0, z0, z0, z0, z0, z0, z0, z0, z0, z0, z0, z0, z0, z0, z0, z0, z0, z0, z0]), S, ⟨By_z0, By_z0, By_z0, ⟨Int.le_refl 0, (by decide : (0 : Int) ≤ 20)⟩, (by constructor <;> decide : ir (-1)), By_z0⟩, By_z0, By_z0, By_z0, By_z0⟩ ls hl
