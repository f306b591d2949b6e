/-! the static array of the settings' name, which no one writes; contracts that read it -/
def bnm (j : Nat) : Int := match j with
  | 0 => 66
  | 1 => 79
  | 2 => 79
  | _ => 84
def Xs (t : Nat) (A : Nat → Prop) (U : State) (H : Heap) : Prop := va_Z "ChainLoader" "SETTINGS_NAME" "[I" (.ref t) A U H ∧ va_T .int t 4 (fun j => .int (iI (bnm j))) A U H
theorem Xs.moved {t : Nat} {A : Nat → Prop} {u U : State} {H : Heap} (hvm : u.vm.Alike U.vm) (h : Xs t A u H) : Xs t A U H := ⟨h.1.moved hvm, h.2.moved hvm⟩
theorem Xs.kept {t : Nat} {A : Nat → Prop} {U : State} {H H1 : Heap} (h : Xs t A U H) (hq : ∀ a : Nat, a < H.size → ¬ A a → H1[a]? = H[a]?) : Xs t A U H1 := ⟨h.1.kept hq, h.2.kept hq⟩
theorem Xs.narrow {t : Nat} {A B : Nat → Prop} {U : State} {H : Heap} (h : Xs t A U H) (hAB : ∀ q, B q → A q) : Xs t B U H := ⟨h.1.narrow hAB, h.2.narrow hAB⟩
def kPreX (D : va_G) (cl : List vw_C) (tys : List (ClassId × FieldType)) (t : Nat) (w : va_W) (sz : Nat) (U : State) : Prop := kPre D cl tys w sz U ∧ Xs t (va_A w sz) U U.heap
def kCiX (l : Launch) (D : va_G) (cl : List vw_C) (tys : List (ClassId × FieldType)) (t : Nat) (y : MethodName) (ws : List Cond) (rm : Room) (as : List Value) (w : va_W) (post : Int32 → va_W → Prop) : Prop :=
  ∀ sz : Nat, Met l y ws rm (va_Pc as (kPreX D cl tys t w sz)) (va_Qi post (kPost D cl tys (va_A w sz)) (va_A w sz)) 0 0 (va_A w sz)
theorem kPreX_blind {D : va_G} {cl : List vw_C} {tys : List (ClassId × FieldType)} {t : Nat} {w : va_W} {sz : Nat} {as : List Value} : FrameBlind (va_Pc as (kPreX D cl tys t w sz)) := by
  intro a U g mk q
  obtain ⟨q0, ⟨q1, qP, qK, qD⟩, qX⟩ := q
  exact ⟨q0, ⟨q1, qP, va_K.moved (u := U) (U := U.calling g mk a) (Vm.Alike.refl U.vm) qK, qD⟩, qX.moved (u := U) (U := U.calling g mk a) (Vm.Alike.refl U.vm)⟩
theorem kEntryX {l : Launch} {y : MethodName} {ws ws' : List Cond} {rm : Room} {cc : ByteArray} {maxL : Nat} {ret : Option FieldType} {D : va_G} {cl : List vw_C} {tys : List (ClassId × FieldType)} {t : Nat} {as : List Value} {w : va_W} {sz : Nat} {Qc : Array Value → State → Outcome → State → Prop}
    (hy : plainName y.cls = true) (hw : ws = Cond.code y cc maxL ret :: ws') (hfit : (lg_sl as).length ≤ maxL)
    (body : ∀ (p : Program) (e : Env) (s : State) (m : MethodId) (args : Array Value) (below : List Frame) (meth : Method) (c : Code) (A : Nat → Prop) (Q : State → Prop), va_A w s.heap.size = A → MQ below Qc args s 0 0 (va_A w sz) = Q → CallFix p m c cc maxL s args ws y.cls → meth.sig.returnType = ret → meth.locks = false → kS D cl tys A s w s.heap [] → sz = s.heap.size → Xs t A s s.heap →
      ∀ ls : Array Slot, lv_has ls maxL (lv_args 0 as) → W p l e rm s m args below meth c s.heap [] 0 0 Q (F0 m 0 ls [])) :
    Met l y ws rm (va_Pc as (kPreX D cl tys t w sz)) Qc 0 0 (va_A w sz) := by
  refine Met.ofW (cc := cc) (maxL := maxL) (ret := ret) hy hw ?_
  intro p e s m args below meth c s₁ B hml hv
  obtain ⟨rfl, ⟨hsz, hP, hK, hD0⟩, hX⟩ := hv
  have hl := lv_entry as (n := maxL) hfit
  rw [lg_entry_eq]
  exact body p e s m _ below meth c _ _ rfl rfl ⟨B.exec, B.bytes, hml, findClass_of_methodNamed B.named, atoms_spec (ws := ws) B.pre⟩ B.returns B.notSynchronized ⟨hK, hP, hD0.self, va_S.rf, fun q h => Or.inr h⟩ hsz.symm (by rw [hsz]; exact hX) _ hl
section KX
variable {p : Program} {l : Launch} {e : Env} {R : Room} {s : State} {m : MethodId} {args : Array Value} {below : List Frame} {meth : Method} {c : Code} {H : Heap} {locs : List Loc} {cells slots : Nat} {Q : State → Prop}
variable {cc bytes : ByteArray} {nL pc maxL n index : Nat} {ls : Array Slot} {rest : List Value} {D : va_G} {cl : List vw_C} {A : Nat → Prop} {b : Nat} {tys : List (ClassId × FieldType)} {ws wc wr w0 : va_W} {Ts wsM wsM' : List Cond} {own C : String} {y : MethodName} {rm : Room} {ret : Option FieldType} {sz t : Nat}
theorem k_calliX (C0 : CallFix p m c cc nL s args Ts own) (S : kS D cl tys A s ws H locs) (hX : Xs t A s s.heap) {post : Int32 → va_W → Prop} {As : List Value} (hM : kCiX l D cl tys t y wsM rm (.ref b :: As) wc post) (hG : GoodIn Ts (wsV own index C y wsM)) (hwM : wsM = Cond.code y bytes maxL ret :: wsM') (hrm : rm.cells = 0 ∧ rm.slots = 0) (hd : y.cls = C ∧ y.cls ≠ "java/lang/invoke/MethodHandle" ∧ y.cls ≠ "java/lang/invoke/VarHandle" ∧ (parseMethodDescriptor y.desc).map (fun d => d.parameters.length) = some n) (hRm : rm.frames + 1 ≤ R.frames ∧ 8 + (maxL + 11) + rm.locals ≤ R.locals)
    (isC isR : List Nat) (hnC : va_nd isC = true) (hC : isC.map (fun i => ws[i]?) = wc.map some) (hR : isR.map (fun i => ws[i]?) = wr.map some) (hn : va_nd isR = true) (hdis : ∀ i ∈ isR, i ∉ isC) {ci q0 N : Nat} {T : u_T} {fs : List Value} (hc : cl[ci]? = some (C, T, N)) (he : wc[q0]? = some (b, .inr (ci, fs))) (hlen : As.length = n) (hls : ls.size = nL) {st0 : List Value} (hst : st0 = As.reverse ++ .ref b :: rest) (hroom : (rest.map fun v => v.category).sum ≤ 8) (hdg : decode cc pc = .ok (.invokevirtual index, 3)) (hf : cells ≤ R.cells ∧ slots ≤ R.slots)
    (kk : ∀ (r : Int32) (u : va_W) (H1 : Heap) (locs1 : List Loc), post r u → kS D cl tys A s (wr ++ u) H1 locs1 → W p l e R s m args below meth c H1 locs1 cells slots Q (F0 m (pc + 3) ls (.int r :: rest))) : W p l e R s m args below meth c H locs cells slots Q (F0 m pc ls st0) := by
  have SC := S.sub isC hnC hC
  obtain ⟨hK, hP, hD, hS, hA⟩ := S
  have hFc := va_free (wc := wc) hD hS hA isC hC
  refine va_calli (va_runV (As := As) (rest := rest) C0 (hM H.size) (cwV n C0.2.2.2.2 hG hwM hrm.1 hrm.2 hd hRm) ⟨kPreX_blind, va_recv hK SC.2.1 hc he, fun U hU hW => ⟨rfl, ⟨by rw [hU], by rw [hU]; exact SC.2.1, va_K.moved hW.alike hK, SC.2.2.1.weaken (fun _ _ _ _ => trivial)⟩, by rw [hU]; exact ((hX.kept hS.2.1).moved hW.alike).narrow hFc⟩⟩ rfl hlen hls hst (lv_room hroom) hdg hf) hS (fun q _ h => hFc q h) hFc (fun r u t H1 locs1 ht hvm hw hB hz1 hk1 hS1 => ?_)
  obtain ⟨hP1, hK1, hD1⟩ := hB
  rw [ht] at hP1
  obtain ⟨hP2, hD2⟩ := va_join (wr := wr) (w1 := u) hP hD isC isR hC hR hn hdis hk1 hFc hP1 hD1
  exact kk r u H1 locs1 hw ⟨hK, hP2, hD2, hS1, hA⟩
theorem k_sgets (C0 : CallFix p m c cc nL s args Ts own) (S : kS D cl tys A s ws H locs) (hX : Xs t A s s.heap) (hlink : Cond.fieldLink own index "ChainLoader" "SETTINGS_NAME" "[I" ∈ Ts) (hdg : decode cc pc = .ok (.getstatic index, 3))
    (kk : W p l e R s m args below meth c H locs cells slots Q (F0 m (pc + 3) ls (.ref t :: rest))) : W p l e R s m args below meth c H locs cells slots Q (F0 m pc ls rest) :=
  va_gets C0.1 C0.2.1 hX.1 S.2.2.2.1 C0.2.2.2.1 (C0.2.2.2.2 _ hlink) (fun _ h => h) hdg kk
theorem k_slen (C0 : CallFix p m c cc nL s args Ts own) (S : kS D cl tys A s ws H locs) (hX : Xs t A s s.heap) (hdg : decode cc pc = .ok (.arraylength, 1))
    (kk : W p l e R s m args below meth c H locs cells slots Q (F0 m (pc + 1) ls (.int (iI 4) :: rest))) : W p l e R s m args below meth c H locs cells slots Q (F0 m pc ls (.ref t :: rest)) :=
  va_tlen C0.1 C0.2.1 hX.2 S.2.2.2.1 (v := iI 4) rfl hdg kk
theorem k_sld (C0 : CallFix p m c cc nL s args Ts own) (S : kS D cl tys A s ws H locs) (hX : Xs t A s s.heap) {z : Int} (h0 : 0 ≤ z) (h1 : z < 4) (hdg : decode cc pc = .ok (.iaload, 1))
    (kk : W p l e R s m args below meth c H locs cells slots Q (F0 m (pc + 1) ls (.int (iI (bnm z.toNat)) :: rest))) : W p l e R s m args below meth c H locs cells slots Q (F0 m pc ls (.int (iI z) :: .ref t :: rest)) := by
  refine va_ti C0.1 C0.2.1 hX.2 S.2.2.2.1 (iI_in h0 (by omega) (by decide)) (v := .int (iI (bnm z.toNat))) ?_ hdg kk
  rw [iI_clamp h0 (by omega)]
end KX
-- settings and booting, as answers
noncomputable def bAd (d : Nat → Int) : Int := fil d bkey 1
noncomputable def bTx (d : Nat → Int) : Nat → Int := ctn d (rd d (bAd d + 5))
noncomputable def bSt (d : Nat → Int) : Option SS := stg (bTx d) (opn d (bAd d))
/-- what the settings say before K is loaded -/
noncomputable def stC (d : Nat → Int) : Int := by
  classical
  exact if bAd d < 0 then bAd d else if opn d (bAd d) < 0 then opn d (bAd d) else if bSt d = none then -10 else 0
theorem stC_1 {d : Nat → Int} (h : bAd d < 0) : stC d = bAd d := by
  classical
  unfold stC; rw [if_pos h]
theorem stC_2 {d : Nat → Int} (h : ¬ bAd d < 0) (h2 : opn d (bAd d) < 0) : stC d = opn d (bAd d) := by
  classical
  unfold stC; rw [if_neg h, if_pos h2]
theorem stC_3 {d : Nat → Int} (h : ¬ bAd d < 0) (h2 : ¬ opn d (bAd d) < 0) (h3 : bSt d = none) : stC d = -10 := by
  classical
  unfold stC; rw [if_neg h, if_neg h2, if_pos h3]
theorem stC_4 {d : Nat → Int} (h : ¬ bAd d < 0) (h2 : ¬ opn d (bAd d) < 0) (h3 : bSt d ≠ none) : stC d = 0 := by
  classical
  unfold stC; rw [if_neg h, if_neg h2, if_neg h3]
/-- the answer, memory and entry of a boot with the settings S; -/
noncomputable def boS (d : Nat → Int) (S : SS) (ra : Nat → Int) (en : Int) : Int × (Nat → Int) × Int := by
  classical
  exact if ldC d (bTx d) S.1 S.2.1 = 0 then (0, ramS d (bTx d) (ldA d (bTx d) S.1 S.2.1) S.2.2.2.2.1 S.2.2.2.2.2, kSt d (rd d (ldA d (bTx d) S.1 S.2.1 + 5)) (opn d (ldA d (bTx d) S.1 S.2.1)))
    else if S.2.2.2.1 < 0 then (ldC d (bTx d) S.1 S.2.1, ra, en)
    else if ldC d (bTx d) S.2.2.1 S.2.2.2.1 = 0 then (1, ramS d (bTx d) (ldA d (bTx d) S.2.2.1 S.2.2.2.1) S.2.2.2.2.1 S.2.2.2.2.2, kSt d (rd d (ldA d (bTx d) S.2.2.1 S.2.2.2.1 + 5)) (opn d (ldA d (bTx d) S.2.2.1 S.2.2.2.1)))
    else (ldC d (bTx d) S.2.2.1 S.2.2.2.1, ra, en)
noncomputable def boA (d ra : Nat → Int) (en : Int) : Int × (Nat → Int) × Int := by
  classical
  exact if vol d < 0 then (vol d, ra, en) else if stC d < 0 then (stC d, ra, en) else match bSt d with
    | none => (-10, ra, en)
    | some S => boS d S ra en
theorem boS_1 {d : Nat → Int} {S : SS} {ra : Nat → Int} {en : Int} (h : ldC d (bTx d) S.1 S.2.1 = 0) : boS d S ra en = (0, ramS d (bTx d) (ldA d (bTx d) S.1 S.2.1) S.2.2.2.2.1 S.2.2.2.2.2, kSt d (rd d (ldA d (bTx d) S.1 S.2.1 + 5)) (opn d (ldA d (bTx d) S.1 S.2.1))) := by
  classical
  unfold boS; rw [if_pos h]
theorem boS_2 {d : Nat → Int} {S : SS} {ra : Nat → Int} {en : Int} (h : ¬ ldC d (bTx d) S.1 S.2.1 = 0) (h2 : S.2.2.2.1 < 0) : boS d S ra en = (ldC d (bTx d) S.1 S.2.1, ra, en) := by
  classical
  unfold boS; rw [if_neg h, if_pos h2]
theorem boS_3 {d : Nat → Int} {S : SS} {ra : Nat → Int} {en : Int} (h : ¬ ldC d (bTx d) S.1 S.2.1 = 0) (h2 : ¬ S.2.2.2.1 < 0) (h3 : ldC d (bTx d) S.2.2.1 S.2.2.2.1 = 0) : boS d S ra en = (1, ramS d (bTx d) (ldA d (bTx d) S.2.2.1 S.2.2.2.1) S.2.2.2.2.1 S.2.2.2.2.2, kSt d (rd d (ldA d (bTx d) S.2.2.1 S.2.2.2.1 + 5)) (opn d (ldA d (bTx d) S.2.2.1 S.2.2.2.1))) := by
  classical
  unfold boS; rw [if_neg h, if_neg h2, if_pos h3]
theorem boS_4 {d : Nat → Int} {S : SS} {ra : Nat → Int} {en : Int} (h : ¬ ldC d (bTx d) S.1 S.2.1 = 0) (h2 : ¬ S.2.2.2.1 < 0) (h3 : ¬ ldC d (bTx d) S.2.2.1 S.2.2.2.1 = 0) : boS d S ra en = (ldC d (bTx d) S.2.2.1 S.2.2.2.1, ra, en) := by
  classical
  unfold boS; rw [if_neg h, if_neg h2, if_neg h3]
theorem boA_1 {d ra : Nat → Int} {en : Int} (h : vol d < 0) : boA d ra en = (vol d, ra, en) := by
  classical
  unfold boA; rw [if_pos h]
theorem boA_2 {d ra : Nat → Int} {en : Int} (h : ¬ vol d < 0) (h2 : stC d < 0) : boA d ra en = (stC d, ra, en) := by
  classical
  unfold boA; rw [if_neg h, if_pos h2]
theorem boA_3 {d ra : Nat → Int} {en : Int} {S : SS} (h : ¬ vol d < 0) (h2 : ¬ stC d < 0) (h3 : bSt d = some S) : boA d ra en = boS d S ra en := by
  classical
  unfold boA; rw [if_neg h, if_neg h2, h3]
theorem gtx_congr {tx g : Nat → Int} {F N len : Int} (h : ∀ j : Nat, (j : Int) < len → tx j = g j) (h0 : 0 ≤ F) (h1 : F + N ≤ len) : ∀ j, j < N.toNat → gtx tx F j = gtx g F j := fun j hj => h _ (by omega)
theorem ldC_congr {d tx g : Nat → Int} {F N len : Int} (h : ∀ j : Nat, (j : Int) < len → tx j = g j) (h0 : 0 ≤ F) (h1 : F + N ≤ len) : ldC d tx F N = ldC d g F N ∧ ldA d tx F N = ldA d g F N := by
  unfold ldC ldA
  rw [psr_congr (gtx_congr h h0 h1)]
  exact ⟨rfl, rfl⟩
theorem ramS_congr {d tx g : Nat → Int} {a F N len f2 t2 : Int} {gv : Int} (h : ∀ j : Nat, (j : Int) < len → tx j = g j) (hv : VR gv f2 t2 F N) (hb : N = -1 ∨ (0 ≤ F ∧ 0 ≤ N ∧ F + N ≤ len ∧ N ≤ 24)) : ramS d tx a f2 (t2 - f2) = ramS d g a F N := by
  unfold ramS
  rcases hv with ⟨-, e1, rfl, rfl⟩ | ⟨-, rfl, rfl, rfl⟩
  · have e : f2 + N - f2 = N := by omega
    rw [e]
    exact cpK_congr _ (gtx_congr h (by omega) (by omega))
  · rw [show argS (0 - 0) = argS (-1) by unfold argS; rw [bz_f (by decide), bz_f (by decide)]]
    rfl
