/-! rows for constructors: what a making needs beyond the words (kE), contracts with new cells (kCn), new, newarray, anewarray, aastore, invokespecial -/
def kE (U : State) : Prop := va_AO "ChainLoader$Chain" U ∧ va_Nw (.methodLinkNest RX6 15 yX7_init "ChainLoader") U ∧ va_Nw (.methodLinkNest RX9 62 yX4_init "ChainLoader") U
theorem kE.warm {s U : State} (hW : s.WarmedH U.vm) (h : kE s) : kE U := ⟨h.1.moved hW.alike, va_Nw.warmM hW h.2.1, va_Nw.warmM hW h.2.2⟩
theorem kE.same {s U : State} (hv : s.vm = U.vm) (h : kE s) : kE U := ⟨h.1.moved (by rw [hv]; exact Vm.Alike.refl U.vm), va_Nw.same rfl hv h.2.1, va_Nw.same rfl hv h.2.2⟩
def z0 (_ : Nat) : Int := 0
def kPreN (D : va_G) (cl : List vw_C) (tys : List (ClassId × FieldType)) (w : va_W) (sz : Nat) (U : State) : Prop := kPre D cl tys w sz U ∧ kE U
def kCn (l : Launch) (D : va_G) (cl : List vw_C) (tys : List (ClassId × FieldType)) (y : MethodName) (ws : List Cond) (rm : Room) (as : List Value) (w : va_W) (post : va_W → Prop) (mc ms : Nat) : Prop :=
  ∀ sz : Nat, Met l y ws rm (va_Pc as (kPreN D cl tys w sz)) (va_Qv post (kPost D cl tys (va_A w sz)) (va_A w sz)) mc ms (va_A w sz)
theorem kPreN_blind {D : va_G} {cl : List vw_C} {tys : List (ClassId × FieldType)} {w : va_W} {sz : Nat} {as : List Value} : FrameBlind (va_Pc as (kPreN D cl tys w sz)) := by
  intro a U g mk q
  obtain ⟨q0, ⟨q1, qP, qK, qD⟩, qE⟩ := q
  exact ⟨q0, ⟨q1, qP, va_K.moved (u := U) (U := U.calling g mk a) (Vm.Alike.refl U.vm) qK, qD⟩, qE.same rfl⟩
theorem kEntryN {l : Launch} {y : MethodName} {ws ws' : List Cond} {rm : Room} {cc : ByteArray} {maxL : Nat} {ret : Option FieldType} {D : va_G} {cl : List vw_C} {tys : List (ClassId × FieldType)} {as : List Value} {w : va_W} {sz mc ms : Nat} {Qc : Array Value → State → Outcome → State → Prop}
    (hy : plainName y.cls = true) (hw : ws = Cond.code y cc maxL ret :: ws') (hfit : (lg_sl as).length ≤ maxL)
    (body : ∀ (p : Program) (e : Env) (s : State) (m : MethodId) (args : Array Value) (below : List Frame) (meth : Method) (c : Code) (A : Nat → Prop) (Q : State → Prop), va_A w s.heap.size = A → MQ below Qc args s mc ms (va_A w sz) = Q → CallFix p m c cc maxL s args ws y.cls → meth.sig.returnType = ret → meth.locks = false → kS D cl tys A s w s.heap [] → sz = s.heap.size → kE s → meth.name = y.name →
      ∀ ls : Array Slot, lv_has ls maxL (lv_args 0 as) → W p l e rm s m args below meth c s.heap [] 0 0 Q (F0 m 0 ls [])) :
    Met l y ws rm (va_Pc as (kPreN D cl tys w sz)) Qc mc ms (va_A w sz) := by
  refine Met.ofW (cc := cc) (maxL := maxL) (ret := ret) hy hw ?_
  intro p e s m args below meth c s₁ B hml hv
  obtain ⟨rfl, ⟨hsz, hP, hK, hD0⟩, hE⟩ := hv
  have hl := lv_entry as (n := maxL) hfit
  rw [lg_entry_eq]
  exact body p e s m _ below meth c _ _ rfl rfl ⟨B.exec, B.bytes, hml, findClass_of_methodNamed B.named, atoms_spec (ws := ws) B.pre⟩ B.returns B.notSynchronized ⟨hK, hP, hD0.self, va_S.rf, fun q h => Or.inr h⟩ hsz.symm hE (name_of_methodNamed B.named B.method).1 _ hl
section KN
variable {p : Program} {l : Launch} {e : Env} {R : Room} {s : State} {m : MethodId} {args : Array Value} {below : List Frame} {meth : Method} {c : Code} {H : Heap} {locs : List Loc} {cells slots : Nat} {Q : State → Prop}
variable {cc bytes : ByteArray} {nL pc maxL n index : Nat} {ls : Array Slot} {rest : List Value} {D : va_G} {cl : List vw_C} {A : Nat → Prop} {a b : Nat} {tys : List (ClassId × FieldType)} {ws ws' wc wr w0 : va_W} {Ts wsM wsM' : List Cond} {own C : String} {y : MethodName} {rm : Room} {ret : Option FieldType} {sz mc ms : Nat}
theorem k_oinit (C0 : CallFix p m c cc nL s args Ts own) (hlink : Cond.methodLink own index objectInit ∈ Ts) (hin : Cond.instanceMethod objectInit ∈ Ts) (hco : Cond.code objectInit ⟨#[0xb1]⟩ 1 none ∈ Ts) (hls : ls.size = nL) (hdg : decode cc pc = .ok (.invokespecial index, 3)) (hR : 1 ≤ R.frames ∧ (rest.map fun v => v.category).sum + 12 ≤ R.locals)
    (kk : W p l e R s m args below meth c H locs cells slots Q (F0 m (pc + 3) ls rest)) : W p l e R s m args below meth c H locs cells slots Q (F0 m pc ls (.ref a :: rest)) :=
  W.objInit C0.1 C0.2.1 C0.2.2.2.1 (C0.2.2.2.2 _ hlink) (C0.2.2.2.2 _ hin) (C0.2.2.2.2 _ hco) rfl (by rw [C0.2.2.1]; exact hls) rfl hdg hR.1 (by have := hR.2; show 2 * 0 + _ + 12 ≤ _; omega) kk
theorem k_new (C0 : CallFix p m c cc nL s args Ts own) (S : kS D cl tys A s ws H locs) {T : u_T} {N ci : Nat} (hin : ∀ w ∈ u_ws C T N, w ∈ Ts) (ty0 : Nat → FieldType) (hty : ∀ k, k < N → parseFieldDescriptor (T k).2.2.1 = some (ty0 k)) (hcl : Cond.classLink own index C ∈ Ts) (hinst : Cond.instantiable C N ∈ Ts) (hini : Cond.initialized C ∈ Ts) (hc : cl[ci]? = some (C, T, N)) {fs : List Value} (hfs : ∀ j, j < N → defaultValue (ty0 j) = vp_V fs j) (hf : cells + 1 ≤ R.cells ∧ slots + N ≤ R.slots) (hdg : decode cc pc = .ok (.new index, 3))
    (kk : ∀ (q : Nat) (H1 : Heap), kS D cl tys A s (ws ++ [(q, .inr (ci, fs))]) H1 locs → W p l e R s m args below meth c H1 locs (cells + 1) (slots + N) Q (F0 m (pc + 3) ls (.ref q :: rest))) : W p l e R s m args below meth c H locs cells slots Q (F0 m pc ls rest) := by
  obtain ⟨hK, hP, hD, hS, hA⟩ := S
  exact va_new C0.1 C0.2.1 C0.2.2.2.2 hin ty0 hty C0.2.2.2.1 (C0.2.2.2.2 _ hcl) (C0.2.2.2.2 _ hinst) (C0.2.2.2.2 _ hini) hK hP hD hS hA hc hfs hf.1 hf.2 hdg (fun q H1 hP hD hS => kk q H1 ⟨hK, hP, hD, hS, hA⟩)
theorem k_newi (C0 : CallFix p m c cc nL s args Ts own) (S : kS D cl tys A s ws H locs) (t0 : Nat) {cA : ClassId} (ht : tys[t0]? = some (cA, .int)) (harr : Cond.arrayClass .int ∈ Ts) {z : Int} {N : Nat} (hz : z = (N : Int)) (hN : N ≤ 4096) (hf : cells + 1 ≤ R.cells ∧ slots + N ≤ R.slots) (hdg : decode cc pc = .ok (.newarray .int, 2))
    (kk : ∀ (q : Nat) (H1 : Heap), kS D cl tys A s (ws ++ [(q, .inl (cA, N, .inl (fun y_ => iI (z0 y_))))]) H1 locs → W p l e R s m args below meth c H1 locs (cells + 1) (slots + N) Q (F0 m (pc + 2) ls (.ref q :: rest))) : W p l e R s m args below meth c H locs cells slots Q (F0 m pc ls (.int (iI z) :: rest)) := by
  subst hz
  obtain ⟨hK, hP, hD, hS, hA⟩ := S
  refine va_newa (atype := .int) (ty := .int) (N' := N) (a0 := (N, .inl (fun y_ => iI (z0 y_)))) C0.1 C0.2.1 (C0.2.2.2.2 _ harr) rfl hK hP hD hS hA (fun c2 => by rw [vp_cell_i]; rfl) ?_ ?_ ?_ hf.1 hf.2 hdg (fun q c2 H1 hK2 hP2 hD2 hS2 => ?_)
  · intro h
    have := (iI_lt ⟨by omega, by omega⟩ ir_0).mp h
    omega
  · rw [iI_clamp (by omega) (by omega)]; omega
  · show N * 4 ≤ _
    omega
  · have h1 : va_RA s c2 .int := (hK2.2 tys.length (c2, .int) (by simp)).2
    have h2 : va_RA s cA .int := (hK.2 t0 _ ht).2
    have h3 : c2 = cA := Option.some.inj (h1.symm.trans h2)
    subst h3
    exact kk q H1 ⟨hK, hP2, hD2, hS2, hA⟩
theorem k_newb (C0 : CallFix p m c cc nL s args Ts own) (S : kS D cl tys A s ws H locs) (t0 : Nat) {cA : ClassId} (ht : tys[t0]? = some (cA, .byte)) (harr : Cond.arrayClass .byte ∈ Ts) {z : Int} {N : Nat} (hz : z = (N : Int)) (hN : N ≤ 4096) (hf : cells + 1 ≤ R.cells ∧ slots + N ≤ R.slots) (hdg : decode cc pc = .ok (.newarray .byte, 2))
    (kk : ∀ (q : Nat) (H1 : Heap), kS D cl tys A s (ws ++ [(q, .inl (cA, N, .inl (fun y_ => bI (z0 y_))))]) H1 locs → W p l e R s m args below meth c H1 locs (cells + 1) (slots + N) Q (F0 m (pc + 2) ls (.ref q :: rest))) : W p l e R s m args below meth c H locs cells slots Q (F0 m pc ls (.int (iI z) :: rest)) := by
  subst hz
  obtain ⟨hK, hP, hD, hS, hA⟩ := S
  refine va_newa (atype := .byte) (ty := .byte) (N' := N) (a0 := (N, .inl (fun y_ => bI (z0 y_)))) C0.1 C0.2.1 (C0.2.2.2.2 _ harr) rfl hK hP hD hS hA (fun c2 => by rw [vp_cell_i]; rfl) ?_ ?_ ?_ hf.1 hf.2 hdg (fun q c2 H1 hK2 hP2 hD2 hS2 => ?_)
  · intro h
    have := (iI_lt ⟨by omega, by omega⟩ ir_0).mp h
    omega
  · rw [iI_clamp (by omega) (by omega)]; omega
  · show N * 1 ≤ _
    omega
  · have h1 : va_RA s c2 .byte := (hK2.2 tys.length (c2, .byte) (by simp)).2
    have h2 : va_RA s cA .byte := (hK.2 t0 _ ht).2
    have h3 : c2 = cA := Option.some.inj (h1.symm.trans h2)
    subst h3
    exact kk q H1 ⟨hK, hP2, hD2, hS2, hA⟩
theorem k_newq (C0 : CallFix p m c cc nL s args Ts own) (S : kS D cl tys A s ws H locs) (hE : kE s) (t0 : Nat) {cA : ClassId} (ht : tys[t0]? = some (cA, .object "ChainLoader$Chain")) (hcl : Cond.classLink own index "ChainLoader$Chain" ∈ Ts) {z : Int} {N : Nat} (hz : z = (N : Int)) (hN : N ≤ 4096) (hf : cells + 1 ≤ R.cells ∧ slots + N ≤ R.slots) (hdg : decode cc pc = .ok (.anewarray index, 3))
    (kk : ∀ (q : Nat) (H1 : Heap), kS D cl tys A s (ws ++ [(q, .inl (cA, N, .inr (.inr (.inr (.inr (fun _ => none))))))]) H1 locs → W p l e R s m args below meth c H1 locs (cells + 1) (slots + N) Q (F0 m (pc + 3) ls (.ref q :: rest))) : W p l e R s m args below meth c H locs cells slots Q (F0 m pc ls (.int (iI z) :: rest)) := by
  subst hz
  obtain ⟨hK, hP, hD, hS, hA⟩ := S
  refine va_newq (N' := N) C0.1 C0.2.1 C0.2.2.2.1 (C0.2.2.2.2 _ hcl) hE.1 hK hP hD hS hA ?_ ?_ ?_ hf.1 hf.2 hdg (fun q c2 H1 hK2 hP2 hD2 hS2 => ?_)
  · intro h
    have := (iI_lt ⟨by omega, by omega⟩ ir_0).mp h
    omega
  · rw [iI_clamp (by omega) (by omega)]; omega
  · omega
  · obtain ⟨_, _, _, _, _, h1⟩ : va_RA s c2 (.object "ChainLoader$Chain") := (hK2.2 tys.length (c2, .object "ChainLoader$Chain") (by simp)).2
    obtain ⟨_, _, _, _, _, h2⟩ : va_RA s cA (.object "ChainLoader$Chain") := (hK.2 t0 _ ht).2
    have h3 : c2 = cA := Option.some.inj (h1.symm.trans h2)
    subst h3
    exact kk q H1 ⟨hK, hP2, hD2, hS2, hA⟩
theorem k_astq (C0 : CallFix p m c cc nL s args Ts own) (S : kS D cl tys A s ws H locs) (q0 t0 qk ci : Nat) {cA : ClassId} {r : vw_C} {n v : Nat} {vs : List Value} {f : Nat → Option Nat} (ha : ws[q0]? = some (a, .inl (cA, n, .inr (.inr (.inr (.inr f)))))) (ht : tys[t0]? = some (cA, .object r.1)) (hv : ws[qk]? = some (v, .inr (ci, vs))) (hc : cl[ci]? = some r) {z : Int} (h0 : 0 ≤ z) (h1 : z < n) (hn : n < 2147483648) (hdg : decode cc pc = .ok (.aastore, 1))
    (hw : ws.set q0 (a, .inl (cA, n, .inr (.inr (.inr (.inr (va_up f z.toNat (some v))))))) = ws')
    (kk : ∀ (H1 : Heap) (locs1 : List Loc), kS D cl tys A s ws' H1 locs1 → W p l e R s m args below meth c H1 locs1 cells slots Q (F0 m (pc + 1) ls rest)) : W p l e R s m args below meth c H locs cells slots Q (F0 m pc ls (.ref v :: .int (iI z) :: .ref a :: rest)) := by
  subst hw
  obtain ⟨hK, hP, hD, hS, hA⟩ := S
  refine va_astq C0.1 C0.2.1 hK hP hD hS q0 t0 qk ci ha ht hv hc (iI_in h0 h1 hn) hdg (fun H1 locs1 hP1 hD1 hS1 => ?_)
  rw [iI_clamp h0 (by omega)] at hP1 hD1
  exact kk H1 locs1 ⟨hK, hP1, hD1, hS1, hA⟩
theorem k_callI (C0 : CallFix p m c cc nL s args Ts own) (S : kS D cl tys A s ws H locs) (hE : kE s) {post : va_W → Prop} {As : List Value} (hM : kCn l D cl tys y wsM rm (.ref b :: As) wc post mc ms) (hG : GoodIn Ts wsM) (hwM : wsM = Cond.code y bytes maxL none :: wsM') (hrm : rm.cells = mc ∧ rm.slots = ms) (hini : Cond.initialized y.cls ∈ Ts) (hlk : Cond.methodLink own index y ∈ Ts) (him : Cond.instanceMethod y ∈ Ts) (hy1 : y.name = "<init>") (hd : y.cls ≠ "java/lang/invoke/MethodHandle" ∧ y.cls ≠ "java/lang/invoke/VarHandle" ∧ (parseMethodDescriptor y.desc).map (fun d => d.parameters.length) = some n) (hRm : rm.frames + 1 ≤ R.frames ∧ 8 + (maxL + 11) + rm.locals ≤ R.locals)
    (isC isR : List Nat) (hnC : va_nd isC = true) (hC : isC.map (fun i => ws[i]?) = wc.map some) (hR : isR.map (fun i => ws[i]?) = wr.map some) (hn : va_nd isR = true) (hdis : ∀ i ∈ isR, i ∉ isC) (hlen : As.length = n) (hls : ls.size = nL) {st0 : List Value} (hst : st0 = As.reverse ++ .ref b :: rest) (hroom : (rest.map fun v => v.category).sum ≤ 8) (hdg : decode cc pc = .ok (.invokespecial index, 3)) (hf : cells + mc ≤ R.cells ∧ slots + ms ≤ R.slots)
    (kk : ∀ (u : va_W) (H1 : Heap) (locs1 : List Loc), post u → kS D cl tys A s (wr ++ u) H1 locs1 → W p l e R s m args below meth c H1 locs1 (cells + mc) (slots + ms) Q (F0 m (pc + 3) ls rest)) : W p l e R s m args below meth c H locs cells slots Q (F0 m pc ls st0) := by
  have SC := S.sub isC hnC hC
  obtain ⟨hK, hP, hD, hS, hA⟩ := S
  have hFc := va_free (wc := wc) hD hS hA isC hC
  refine va_callv (va_runI (As := As) (rest := rest) C0 (hM H.size) (cwI n C0.2.2.2.2 hG hwM hrm.1 hrm.2 (C0.2.2.2.2 _ hini) (C0.2.2.2.2 _ hlk) (C0.2.2.2.2 _ him) hy1 hd hRm) ⟨kPreN_blind, fun U hU hW => ⟨rfl, ⟨by rw [hU], by rw [hU]; exact SC.2.1, va_K.moved hW.alike hK, SC.2.2.1.weaken (fun _ _ _ _ => trivial)⟩, hE.warm hW⟩⟩ rfl hlen hls hst (lv_room hroom) hdg hf) hS (fun q _ h => hFc q h) hFc (fun u t H1 locs1 ht hvm hw hB hz1 hk1 hS1 => ?_)
  obtain ⟨hP1, hK1, hD1⟩ := hB
  rw [ht] at hP1
  obtain ⟨hP2, hD2⟩ := va_join (wr := wr) (w1 := u) hP hD isC isR hC hR hn hdis hk1 hFc hP1 hD1
  exact kk u H1 locs1 hw ⟨hK, hP2, hD2, hS1, hA⟩
theorem k_callIN (C0 : CallFix p m c cc nL s args Ts own) (S : kS D cl tys A s ws H locs) (hE : kE s) {host : String} (hlk : va_Nw (.methodLinkNest own index y host) s) {post : va_W → Prop} {As : List Value} (hM : kCn l D cl tys y wsM rm (.ref b :: As) wc post mc ms) (hG : GoodIn Ts wsM) (hwM : wsM = Cond.code y bytes maxL none :: wsM') (hrm : rm.cells = mc ∧ rm.slots = ms) (hini : Cond.initialized y.cls ∈ Ts) (him : Cond.instanceMethod y ∈ Ts) (hy1 : y.name = "<init>") (hd : y.cls ≠ "java/lang/invoke/MethodHandle" ∧ y.cls ≠ "java/lang/invoke/VarHandle" ∧ (parseMethodDescriptor y.desc).map (fun d => d.parameters.length) = some n) (hRm : rm.frames + 1 ≤ R.frames ∧ 8 + (maxL + 11) + rm.locals ≤ R.locals)
    (isC isR : List Nat) (hnC : va_nd isC = true) (hC : isC.map (fun i => ws[i]?) = wc.map some) (hR : isR.map (fun i => ws[i]?) = wr.map some) (hn : va_nd isR = true) (hdis : ∀ i ∈ isR, i ∉ isC) (hlen : As.length = n) (hls : ls.size = nL) {st0 : List Value} (hst : st0 = As.reverse ++ .ref b :: rest) (hroom : (rest.map fun v => v.category).sum ≤ 8) (hdg : decode cc pc = .ok (.invokespecial index, 3)) (hf : cells + mc ≤ R.cells ∧ slots + ms ≤ R.slots)
    (kk : ∀ (u : va_W) (H1 : Heap) (locs1 : List Loc), post u → kS D cl tys A s (wr ++ u) H1 locs1 → W p l e R s m args below meth c H1 locs1 (cells + mc) (slots + ms) Q (F0 m (pc + 3) ls rest)) : W p l e R s m args below meth c H locs cells slots Q (F0 m pc ls st0) := by
  have SC := S.sub isC hnC hC
  obtain ⟨hK, hP, hD, hS, hA⟩ := S
  have hFc := va_free (wc := wc) hD hS hA isC hC
  refine va_callv (va_runIN (As := As) (rest := rest) C0 (hM H.size) ⟨va_cnB (host := host) n C0.2.2.2.2 hG hwM hrm.1 hrm.2 hlk (C0.2.2.2.2 _ hini) hd hRm, hy1, C0.2.2.2.2 _ him⟩ ⟨kPreN_blind, fun U hU hW => ⟨rfl, ⟨by rw [hU], by rw [hU]; exact SC.2.1, va_K.moved hW.alike hK, SC.2.2.1.weaken (fun _ _ _ _ => trivial)⟩, hE.warm hW⟩⟩ rfl hlen hls hst (lv_room hroom) hdg hf) hS (fun q _ h => hFc q h) hFc (fun u t H1 locs1 ht hvm hw hB hz1 hk1 hS1 => ?_)
  obtain ⟨hP1, hK1, hD1⟩ := hB
  rw [ht] at hP1
  obtain ⟨hP2, hD2⟩ := va_join (wr := wr) (w1 := u) hP hD isC isR hC hR hn hdis hk1 hFc hP1 hD1
  exact kk u H1 locs1 hw ⟨hK, hP2, hD2, hS1, hA⟩
theorem k_nret (C0 : CallFix p m c cc nL s args Ts own) (S : kS D cl tys A s ws H locs) (hAe : va_A w0 s.heap.size = A) (hsz : sz = s.heap.size) (hr : meth.sig.returnType = none) (hlk : meth.locks = false) {post : va_W → Prop} (hdg : decode cc pc = .ok (.return_, 1)) (hc : cells ≤ mc ∧ slots ≤ ms) (hp : post ws) :
    W p l e R s m args below meth c H locs cells slots (MQ below (va_Qv post (kPost D cl tys (va_A w0 sz)) (va_A w0 sz)) args s mc ms (va_A w0 sz)) (F0 m pc ls []) := by
  subst hsz; subst hAe
  refine W.widen (k := mc) (n := ms) hc.1 hc.2 ?_
  exact W.vret C0.1 C0.2.1 hr (fun t ht hW => ⟨⟨ws, rfl, hp, by rw [ht]; exact S.2.1, va_K.moved hW.alike S.1, S.2.2.1⟩, S.2.2.2.1.F ht⟩) S.2.2.2.1.2.2 hdg hlk
end KN
theorem kS.reQ {D : va_G} {cl : List vw_C} {tys : List (ClassId × FieldType)} {A : Nat → Prop} {s : State} {ws ws' : va_W} {H : Heap} {locs : List Loc} (S : kS D cl tys A s ws H locs) (q0 : Nat) {a n : Nat} {cA : ClassId} {f g : Nat → Option Nat} (ha : ws[q0]? = some (a, .inl (cA, n, .inr (.inr (.inr (.inr f)))))) (h : ∀ j, j < n → f j = g j) (hw : ws.set q0 (a, .inl (cA, n, .inr (.inr (.inr (.inr g))))) = ws') : kS D cl tys A s ws' H locs := by
  subst hw
  obtain ⟨hK, hP, hD, hS, hA⟩ := S
  refine ⟨hK, hP.set hD ha ?_ (fun _ _ => rfl), hD.set ha, hS, hA⟩
  have h1 : H[a]? = some (vp_cell cA (n, .inr (.inr (.inr (.inr f))))) := hP q0 _ ha
  show H[a]? = some (vp_cell cA (n, .inr (.inr (.inr (.inr g)))))
  rw [h1, vp_cell_q, vp_cell_q]
  exact congrArg some (arrV_congr (fun j hj => by rw [h j hj]))
theorem lvf_of {g0 g1 g2 g3 g4 : Nat} : ∀ j : Nat, j < 5 → va_up (va_up (va_up (va_up (va_up (fun _ => none) 0 (some g0)) 1 (some g1)) 2 (some g2)) 3 (some g3)) 4 (some g4) j = lvf g0 g1 g2 g3 g4 j := by
  intro j hj
  rcases (show j = 0 ∨ j = 1 ∨ j = 2 ∨ j = 3 ∨ j = 4 by omega) with rfl | rfl | rfl | rfl | rfl <;> rfl
