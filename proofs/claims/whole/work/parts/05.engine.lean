/-! my own engine over the kit: ints as Int (iI), a state bundle (kS), a contract form (kCi, kCv, kCl), rows that take and give the bundle -/
def iI (z : Int) : Int32 := Int32.ofInt z
def ir (z : Int) : Prop := -2147483648 ≤ z ∧ z < 2147483648
theorem iI_add (a b : Int) : iI a + iI b = iI (a + b) := (Int32.ofInt_add a b).symm
theorem iI_sub (a b : Int) : iI a - iI b = iI (a - b) := (Int32.ofInt_sub a b).symm
theorem iI_mul (a b : Int) : iI a * iI b = iI (a * b) := (Int32.ofInt_mul a b).symm
theorem iI_neg (a : Int) : -iI a = iI (-a) := (Int32.ofInt_neg a).symm
theorem iI_toInt {z : Int} (h : ir z) : (iI z).toInt = z := by
  obtain ⟨h1, h2⟩ := h
  exact Int32.toInt_ofInt_of_le (by omega) (by omega)
theorem iI_of (x : Int32) : iI x.toInt = x := Int32.ofInt_toInt x
theorem iI_ir (x : Int32) : ir x.toInt := ⟨by have := Int32.le_toInt x; omega, by have := Int32.toInt_lt x; omega⟩
theorem iI_nI (n : Nat) : iI (n : Int) = nI n := Int32.ofInt_eq_ofNat
theorem iI_inj {a b : Int} (ha : ir a) (hb : ir b) : iI a = iI b ↔ a = b := by
  constructor
  · intro h
    have := congrArg Int32.toInt h
    rwa [iI_toInt ha, iI_toInt hb] at this
  · intro h; rw [h]
theorem iI_lt {a b : Int} (ha : ir a) (hb : ir b) : iI a < iI b ↔ a < b := by rw [Int32.lt_iff_toInt_lt, iI_toInt ha, iI_toInt hb]
theorem iI_le {a b : Int} (ha : ir a) (hb : ir b) : iI a ≤ iI b ↔ a ≤ b := by rw [Int32.le_iff_toInt_le, iI_toInt ha, iI_toInt hb]
theorem iI_clamp {z : Int} (h0 : 0 ≤ z) (h : z < 2147483648) : (iI z).toNatClampNeg = z.toNat := Int32.toNatClampNeg_ofInt_of_le (by omega) (by omega)
theorem iI_in {z : Int} {n : Nat} (h0 : 0 ≤ z) (h : z < n) (hn : n < 2147483648) : vp_in (iI z) n := vp_in_iff.mpr (by rw [iI_toInt ⟨by omega, by omega⟩]; exact ⟨h0, h⟩)
theorem iI_0 : iI 0 = 0 := rfl
theorem iI_addn (a b : Int) : iI a + iI (-b) = iI (a - b) := by rw [iI_add]; rfl
/-- a byte's cell -/
def bI (z : Int) : Int32 := (iI z).toInt8.toInt32
theorem bI_and {z : Int} (h0 : 0 ≤ z) (h : z < 256) : bI z &&& 255 = iI z := by
  obtain ⟨k, rfl⟩ := Int.eq_ofNat_of_zero_le h0
  unfold bI
  rw [iI_nI]
  exact sc_k8 k (by omega)
/-- the bundle: tables, cells, apart, frame -/
def kS (D : va_G) (cl : List vw_C) (tys : List (ClassId × FieldType)) (A : Nat → Prop) (s : State) (ws : va_W) (H : Heap) (locs : List Loc) : Prop :=
  va_K D cl tys s ∧ va_P D cl ws H ∧ va_D A ws ∧ va_S A s.heap H locs ∧ ∀ q : Nat, s.heap.size ≤ q → A q
theorem kS.sub {D : va_G} {cl : List vw_C} {tys : List (ClassId × FieldType)} {A : Nat → Prop} {s : State} {ws ws' : va_W} {H : Heap} {locs : List Loc} (S : kS D cl tys A s ws H locs) (is : List Nat) (hn : va_nd is = true) (hs : is.map (fun i => ws[i]?) = ws'.map some) : kS D cl tys A s ws' H locs := by
  obtain ⟨hK, hP, hD, hS, hA⟩ := S
  refine ⟨hK, ?_, hD.sub is hn hs, hS, hA⟩
  intro k q hq
  have h1 : (is.map (fun i => ws[i]?))[k]? = some (some q) := by rw [hs, List.getElem?_map, hq]; rfl
  rw [List.getElem?_map] at h1
  cases hi : is[k]? with
  | none => rw [hi] at h1; cases h1
  | some i => rw [hi] at h1; exact hP i q (Option.some.inj h1)
/-- contracts: the world before, the answer and the world behind; nothing new is made -/
def kPre (D : va_G) (cl : List vw_C) (tys : List (ClassId × FieldType)) (w : va_W) (sz : Nat) (U : State) : Prop := U.heap.size = sz ∧ va_P D cl w U.heap ∧ va_K D cl tys U ∧ va_D (fun _ => True) w
def kPost (D : va_G) (cl : List vw_C) (tys : List (ClassId × FieldType)) (A : Nat → Prop) (u : va_W) (t : State) : Prop := va_P D cl u t.heap ∧ va_K D cl tys t ∧ va_D A u
def kCi (l : Launch) (D : va_G) (cl : List vw_C) (tys : List (ClassId × FieldType)) (y : MethodName) (ws : List Cond) (rm : Room) (as : List Value) (w : va_W) (post : Int32 → va_W → Prop) : Prop :=
  ∀ sz : Nat, Met l y ws rm (va_Pc as (kPre D cl tys w sz)) (va_Qi post (kPost D cl tys (va_A w sz)) (va_A w sz)) 0 0 (va_A w sz)
def kCl (l : Launch) (D : va_G) (cl : List vw_C) (tys : List (ClassId × FieldType)) (y : MethodName) (ws : List Cond) (rm : Room) (as : List Value) (w : va_W) (post : Int64 → va_W → Prop) : Prop :=
  ∀ sz : Nat, Met l y ws rm (va_Pc as (kPre D cl tys w sz)) (va_Ql post (kPost D cl tys (va_A w sz)) (va_A w sz)) 0 0 (va_A w sz)
def kCv (l : Launch) (D : va_G) (cl : List vw_C) (tys : List (ClassId × FieldType)) (y : MethodName) (ws : List Cond) (rm : Room) (as : List Value) (w : va_W) (post : va_W → Prop) : Prop :=
  ∀ sz : Nat, Met l y ws rm (va_Pc as (kPre D cl tys w sz)) (va_Qv post (kPost D cl tys (va_A w sz)) (va_A w sz)) 0 0 (va_A w sz)
theorem kPre_blind {D : va_G} {cl : List vw_C} {tys : List (ClassId × FieldType)} {w : va_W} {sz : Nat} {as : List Value} : FrameBlind (va_Pc as (kPre D cl tys w sz)) := by
  intro a U g mk q
  obtain ⟨q0, q1, qP, qK, qD⟩ := q
  exact ⟨q0, q1, qP, va_K.moved (u := U) (U := U.calling g mk a) (Vm.Alike.refl U.vm) qK, qD⟩
theorem kEntry {l : Launch} {y : MethodName} {ws ws' : List Cond} {rm : Room} {cc : ByteArray} {maxL : Nat} {ret : Option FieldType} {D : va_G} {cl : List vw_C} {tys : List (ClassId × FieldType)} {as : List Value} {w : va_W} {sz : Nat} {Qc : Array Value → State → Outcome → State → Prop}
    (hy : plainName y.cls = true) (hw : ws = Cond.code y cc maxL ret :: ws') (hfit : (lg_sl as).length ≤ maxL)
    (body : ∀ (p : Program) (e : Env) (s : State) (m : MethodId) (args : Array Value) (below : List Frame) (meth : Method) (c : Code) (A : Nat → Prop) (Q : State → Prop), va_A w s.heap.size = A → MQ below Qc args s 0 0 (va_A w sz) = Q → CallFix p m c cc maxL s args ws y.cls → meth.sig.returnType = ret → meth.locks = false → kS D cl tys A s w s.heap [] → sz = s.heap.size →
      ∀ ls : Array Slot, lv_has ls maxL (lv_args 0 as) → W p l e rm s m args below meth c s.heap [] 0 0 Q (F0 m 0 ls [])) :
    Met l y ws rm (va_Pc as (kPre D cl tys w sz)) Qc 0 0 (va_A w sz) := by
  refine Met.ofW (cc := cc) (maxL := maxL) (ret := ret) hy hw ?_
  intro p e s m args below meth c s₁ B hml hv
  obtain ⟨rfl, hsz, hP, hK, hD0⟩ := hv
  have hl := lv_entry as (n := maxL) hfit
  rw [lg_entry_eq]
  exact body p e s m _ below meth c _ _ rfl rfl ⟨B.exec, B.bytes, hml, findClass_of_methodNamed B.named, atoms_spec (ws := ws) B.pre⟩ B.returns B.notSynchronized ⟨hK, hP, hD0.self, va_S.rf, fun q h => Or.inr h⟩ hsz.symm _ hl
section KROWS
variable {p : Program} {l : Launch} {e : Env} {R : Room} {s : State} {m : MethodId} {args : Array Value} {below : List Frame} {meth : Method} {c : Code} {H : Heap} {locs : List Loc} {cells slots : Nat} {Q : State → Prop}
variable {cc : ByteArray} {nL pc : Nat} {ls : Array Slot} {rest : List Value} {D : va_G} {cl : List vw_C} {A : Nat → Prop} {a : Nat} {tys : List (ClassId × FieldType)} {ws ws' : va_W} {Ts : List Cond} {own : String}
theorem k_get (C0 : CallFix p m c cc nL s args Ts own) (S : kS D cl tys A s ws H locs) {C : String} {T : u_T} {N ci index : Nat} (hin : ∀ w ∈ u_ws C T N, w ∈ Ts) (q0 : Nat) {fs : List Value} (he : ws[q0]? = some (a, .inr (ci, fs))) (hc : cl[ci]? = some (C, T, N)) (k : Nat) (hk : k < N) (hlink : Cond.fieldLink own index (T k).1 (T k).2.1 (T k).2.2.1 ∈ Ts) {v : Value} (hv : fs[k]? = some v) (hdg : decode cc pc = .ok (.getfield index, 3))
    (kk : W p l e R s m args below meth c H locs cells slots Q (F0 m (pc + 3) ls (v :: rest))) : W p l e R s m args below meth c H locs cells slots Q (F0 m pc ls (.ref a :: rest)) :=
  va_get C0.1 C0.2.1 C0.2.2.2.2 hin C0.2.2.2.1 S.1 S.2.1 q0 he hc k hk (C0.2.2.2.2 _ hlink) (fun _ h => h) hv hdg kk
theorem k_put (C0 : CallFix p m c cc nL s args Ts own) (S : kS D cl tys A s ws H locs) {C : String} {T : u_T} {N ci index : Nat} (hin : ∀ w ∈ u_ws C T N, w ∈ Ts) (ty0 : Nat → FieldType) (hty : ∀ k, k < N → parseFieldDescriptor (T k).2.2.1 = some (ty0 k)) (hnm : ∀ a, a < N → ∀ b, b < N → a ≠ b → (T a).2.1 ≠ (T b).2.1) (q0 : Nat) {fs : List Value} (he : ws[q0]? = some (a, .inr (ci, fs))) (hc : cl[ci]? = some (C, T, N)) (k : Nat) (hk : k < N) (hlink : Cond.fieldLink own index (T k).1 (T k).2.1 (T k).2.2.1 ∈ Ts) (hfin : (T k).2.2.2 = false) {v : Value} (hn : narrow (ty0 k) v = v) (hfit : fits (ty0 k) v = true) (hl : k < fs.length) (hdg : decode cc pc = .ok (.putfield index, 3))
    (hw : ws.set q0 (a, .inr (ci, fs.set k v)) = ws')
    (kk : ∀ (H1 : Heap) (locs1 : List Loc), kS D cl tys A s ws' H1 locs1 → W p l e R s m args below meth c H1 locs1 cells slots Q (F0 m (pc + 3) ls rest)) : W p l e R s m args below meth c H locs cells slots Q (F0 m pc ls (v :: .ref a :: rest)) := by
  subst hw
  exact va_put C0.1 C0.2.1 C0.2.2.2.2 hin ty0 hty hnm C0.2.2.2.1 S.1 S.2.1 S.2.2.1 S.2.2.2.1 q0 he hc k hk (C0.2.2.2.2 _ hlink) (fun _ h => h) hfin (hty k hk) hn hfit hl hdg (fun H1 locs1 hP hD hS => kk H1 locs1 ⟨S.1, hP, hD, hS, S.2.2.2.2⟩)
theorem k_putF (C0 : CallFix p m c cc nL s args Ts own) (S : kS D cl tys A s ws H locs) {C : String} {T : u_T} {N ci index : Nat} (hin : ∀ w ∈ u_ws C T N, w ∈ Ts) (ty0 : Nat → FieldType) (hty : ∀ k, k < N → parseFieldDescriptor (T k).2.2.1 = some (ty0 k)) (hnm : ∀ a, a < N → ∀ b, b < N → a ≠ b → (T a).2.1 ≠ (T b).2.1) (q0 : Nat) {fs : List Value} (he : ws[q0]? = some (a, .inr (ci, fs))) (hc : cl[ci]? = some (C, T, N)) (k : Nat) (hk : k < N) (hlink : Cond.fieldLink own index (T k).1 (T k).2.1 (T k).2.2.1 ∈ Ts) (hfin : (T k).2.2.2 = true) (hin2 : meth.name = "<init>") (hdecl : (T k).1 = own) {v : Value} (hn : narrow (ty0 k) v = v) (hfit : fits (ty0 k) v = true) (hl : k < fs.length) (hdg : decode cc pc = .ok (.putfield index, 3))
    (hw : ws.set q0 (a, .inr (ci, fs.set k v)) = ws')
    (kk : ∀ (H1 : Heap) (locs1 : List Loc), kS D cl tys A s ws' H1 locs1 → W p l e R s m args below meth c H1 locs1 cells slots Q (F0 m (pc + 3) ls rest)) : W p l e R s m args below meth c H locs cells slots Q (F0 m pc ls (v :: .ref a :: rest)) := by
  subst hw
  exact va_putF C0.1 C0.2.1 C0.2.2.2.2 hin ty0 hty hnm C0.2.2.2.1 S.1 S.2.1 S.2.2.1 S.2.2.2.1 q0 he hc k hk (C0.2.2.2.2 _ hlink) (fun _ h => h) hfin hin2 hdecl (hty k hk) hn hfit hl hdg (fun H1 locs1 hP hD hS => kk H1 locs1 ⟨S.1, hP, hD, hS, S.2.2.2.2⟩)
theorem k_iald (C0 : CallFix p m c cc nL s args Ts own) (S : kS D cl tys A s ws H locs) (q0 t0 : Nat) {cA : ClassId} {n : Nat} {g : Nat → Int} (ha : ws[q0]? = some (a, .inl (cA, n, .inl (fun j => iI (g j))))) (ht : tys[t0]? = some (cA, .int)) {z : Int} (h0 : 0 ≤ z) (h1 : z < n) (hn : n < 2147483648) (hdg : decode cc pc = .ok (.iaload, 1))
    (kk : W p l e R s m args below meth c H locs cells slots Q (F0 m (pc + 1) ls (.int (iI (g z.toNat)) :: rest))) : W p l e R s m args below meth c H locs cells slots Q (F0 m pc ls (.int (iI z) :: .ref a :: rest)) := by
  refine va_iald C0.1 C0.2.1 S.1 S.2.1 q0 t0 ha ht (iI_in h0 h1 hn) hdg ?_
  rw [iI_clamp h0 (by omega)]
  exact kk
theorem k_bald (C0 : CallFix p m c cc nL s args Ts own) (S : kS D cl tys A s ws H locs) (q0 t0 : Nat) {cA : ClassId} {n : Nat} {g : Nat → Int} (ha : ws[q0]? = some (a, .inl (cA, n, .inl (fun j => bI (g j))))) (ht : tys[t0]? = some (cA, .byte)) {z : Int} (h0 : 0 ≤ z) (h1 : z < n) (hn : n < 2147483648) (hdg : decode cc pc = .ok (.baload, 1))
    (kk : W p l e R s m args below meth c H locs cells slots Q (F0 m (pc + 1) ls (.int (bI (g z.toNat)) :: rest))) : W p l e R s m args below meth c H locs cells slots Q (F0 m pc ls (.int (iI z) :: .ref a :: rest)) := by
  refine va_bald C0.1 C0.2.1 S.1 S.2.1 q0 t0 ha ht (iI_in h0 h1 hn) hdg ?_
  rw [iI_clamp h0 (by omega)]
  exact kk
theorem k_iast (C0 : CallFix p m c cc nL s args Ts own) (S : kS D cl tys A s ws H locs) (q0 t0 : Nat) {cA : ClassId} {n : Nat} {g : Nat → Int} (ha : ws[q0]? = some (a, .inl (cA, n, .inl (fun j => iI (g j))))) (ht : tys[t0]? = some (cA, .int)) {z x : Int} (h0 : 0 ≤ z) (h1 : z < n) (hn : n < 2147483648) (hdg : decode cc pc = .ok (.iastore, 1))
    (hw : ws.set q0 (a, .inl (cA, n, .inl (fun j => iI (va_up g z.toNat x j)))) = ws')
    (kk : ∀ (H1 : Heap) (locs1 : List Loc), kS D cl tys A s ws' H1 locs1 → W p l e R s m args below meth c H1 locs1 cells slots Q (F0 m (pc + 1) ls rest)) : W p l e R s m args below meth c H locs cells slots Q (F0 m pc ls (.int (iI x) :: .int (iI z) :: .ref a :: rest)) := by
  subst hw
  have he : upd (fun j => iI (g j)) z.toNat (iI x) = fun j => iI (va_up g z.toNat x j) := by
    funext j
    by_cases hj : j = z.toNat <;> simp [upd, va_up, hj]
  refine va_iast C0.1 C0.2.1 S.1 S.2.1 S.2.2.1 S.2.2.2.1 q0 t0 ha ht (iI_in h0 h1 hn) hdg (fun H1 locs1 hP hD hS => ?_)
  rw [iI_clamp h0 (by omega), he] at hP hD
  exact kk H1 locs1 ⟨S.1, hP, hD, hS, S.2.2.2.2⟩
theorem k_bast (C0 : CallFix p m c cc nL s args Ts own) (S : kS D cl tys A s ws H locs) (q0 t0 : Nat) {cA : ClassId} {n : Nat} {g : Nat → Int} (ha : ws[q0]? = some (a, .inl (cA, n, .inl (fun j => bI (g j))))) (ht : tys[t0]? = some (cA, .byte)) {z : Int} {x : Int32} {v : Int} (hx : x.toInt8.toInt32 = bI v) (h0 : 0 ≤ z) (h1 : z < n) (hn : n < 2147483648) (hdg : decode cc pc = .ok (.bastore, 1))
    (hw : ws.set q0 (a, .inl (cA, n, .inl (fun j => bI (va_up g z.toNat v j)))) = ws')
    (kk : ∀ (H1 : Heap) (locs1 : List Loc), kS D cl tys A s ws' H1 locs1 → W p l e R s m args below meth c H1 locs1 cells slots Q (F0 m (pc + 1) ls rest)) : W p l e R s m args below meth c H locs cells slots Q (F0 m pc ls (.int x :: .int (iI z) :: .ref a :: rest)) := by
  subst hw
  have he : upd (fun j => bI (g j)) z.toNat (bI v) = fun j => bI (va_up g z.toNat v j) := by
    funext j
    by_cases hj : j = z.toNat <;> simp [upd, va_up, hj]
  refine va_bast C0.1 C0.2.1 S.1 S.2.1 S.2.2.1 S.2.2.2.1 q0 t0 ha ht (iI_in h0 h1 hn) hdg (fun H1 locs1 hP hD hS => ?_)
  rw [iI_clamp h0 (by omega), vp_nar_byte, hx, he] at hP hD
  exact kk H1 locs1 ⟨S.1, hP, hD, hS, S.2.2.2.2⟩
theorem k_alen (C0 : CallFix p m c cc nL s args Ts own) (S : kS D cl tys A s ws H locs) (q0 t0 : Nat) {cA : ClassId} {x : vp_A} (ha : ws[q0]? = some (a, .inl (cA, x))) {ty : FieldType} (ht : tys[t0]? = some (cA, ty)) (hdg : decode cc pc = .ok (.arraylength, 1))
    (kk : W p l e R s m args below meth c H locs cells slots Q (F0 m (pc + 1) ls (.int (iI x.1) :: rest))) : W p l e R s m args below meth c H locs cells slots Q (F0 m pc ls (.ref a :: rest)) :=
  va_alen C0.1 C0.2.1 S.1 S.2.1 q0 t0 ha ht (by rw [iI_nI]; rfl) hdg kk
-- numbers
theorem k_topeq {x v : Int32} (h : x = v) (k : W p l e R s m args below meth c H locs cells slots Q (F0 m pc ls (.int v :: rest))) : W p l e R s m args below meth c H locs cells slots Q (F0 m pc ls (.int x :: rest)) := h ▸ k
theorem k_topeql {x v : Int64} (h : x = v) (k : W p l e R s m args below meth c H locs cells slots Q (F0 m pc ls (.long v :: rest))) : W p l e R s m args below meth c H locs cells slots Q (F0 m pc ls (.long x :: rest)) := h ▸ k
theorem k_iadd (C0 : CallFix p m c cc nL s args Ts own) {x y : Int} (hdg : decode cc pc = .ok (.iadd, 1)) (k : W p l e R s m args below meth c H locs cells slots Q (F0 m (pc + 1) ls (.int (iI (x + y)) :: rest))) : W p l e R s m args below meth c H locs cells slots Q (F0 m pc ls (.int (iI y) :: .int (iI x) :: rest)) :=
  lv_iadd C0.1 C0.2.1 hdg (by rw [iI_add]; exact k)
theorem k_isub (C0 : CallFix p m c cc nL s args Ts own) {x y : Int} (hdg : decode cc pc = .ok (.isub, 1)) (k : W p l e R s m args below meth c H locs cells slots Q (F0 m (pc + 1) ls (.int (iI (x - y)) :: rest))) : W p l e R s m args below meth c H locs cells slots Q (F0 m pc ls (.int (iI y) :: .int (iI x) :: rest)) :=
  lv_isub C0.1 C0.2.1 hdg (by rw [iI_sub]; exact k)
theorem k_imul (C0 : CallFix p m c cc nL s args Ts own) {x y : Int} (hdg : decode cc pc = .ok (.imul, 1)) (k : W p l e R s m args below meth c H locs cells slots Q (F0 m (pc + 1) ls (.int (iI (x * y)) :: rest))) : W p l e R s m args below meth c H locs cells slots Q (F0 m pc ls (.int (iI y) :: .int (iI x) :: rest)) :=
  lv_imul C0.1 C0.2.1 hdg (by rw [iI_mul]; exact k)
theorem k_ineg (C0 : CallFix p m c cc nL s args Ts own) {x : Int} (hdg : decode cc pc = .ok (.ineg, 1)) (k : W p l e R s m args below meth c H locs cells slots Q (F0 m (pc + 1) ls (.int (iI (-x)) :: rest))) : W p l e R s m args below meth c H locs cells slots Q (F0 m pc ls (.int (iI x) :: rest)) :=
  lv_ineg C0.1 C0.2.1 hdg (by rw [iI_neg]; exact k)
end KROWS
theorem iI_div {x y : Int} (hx : ir x) (hy : 0 < y) (hy2 : y < 2147483648) : iI x / iI y = iI (x.tdiv y) := by
  have hy' : ir y := ⟨by omega, by omega⟩
  have hne : iI y ≠ -1 := by
    intro h
    have h2 : iI y = iI (-1) := h
    have := (iI_inj hy' ⟨by decide, by decide⟩).mp h2
    omega
  apply Int32.toInt_inj.mp
  rw [Int32.toInt_div_of_ne_right _ _ hne, iI_toInt hx, iI_toInt hy']
  refine (iI_toInt ?_).symm
  obtain ⟨h1, h2⟩ := hx
  have h3 := Int.natAbs_tdiv_le_natAbs x y
  by_cases h0 : 0 ≤ x
  · have h4 := Int.tdiv_nonneg h0 (show (0:Int) ≤ y by omega)
    have h5 := Int.tdiv_le_self y h0
    constructor <;> omega
  · have h6 : (-x).tdiv y = -(x.tdiv y) := Int.neg_tdiv x y
    have h4 := Int.tdiv_nonneg (show (0:Int) ≤ -x by omega) (show (0:Int) ≤ y by omega)
    constructor <;> omega
theorem ir_0 : ir 0 := ⟨by decide, by decide⟩
section KBR
variable {p : Program} {l : Launch} {e : Env} {R : Room} {s : State} {m : MethodId} {args : Array Value} {below : List Frame} {meth : Method} {c : Code} {H : Heap} {locs : List Loc} {cells slots : Nat} {Q : State → Prop}
variable {cc : ByteArray} {nL pc : Nat} {ls : Array Slot} {rest : List Value} {Ts : List Cond} {own : String}
theorem k_icmp_eq (C0 : CallFix p m c cc nL s args Ts own) {x y : Int} {off : Int} {tgt : Nat} (hx : ir x) (hy : ir y) (hdg : decode cc pc = .ok (.if_icmp .eq off, 3)) (ht : (pc : Int) + off = (tgt : Int)) (kt : x = y → W p l e R s m args below meth c H locs cells slots Q (F0 m tgt ls rest)) (kf : ¬ x = y → W p l e R s m args below meth c H locs cells slots Q (F0 m (pc + 3) ls rest)) : W p l e R s m args below meth c H locs cells slots Q (F0 m pc ls (.int (iI y) :: .int (iI x) :: rest)) :=
  lv_icmp_eq C0.1 C0.2.1 hdg ht (fun h => kt ((iI_inj hx hy).mp h)) (fun h => kf (fun z => h ((iI_inj hx hy).mpr z)))
theorem k_if_eq (C0 : CallFix p m c cc nL s args Ts own) {x : Int} {off : Int} {tgt : Nat} (hx : ir x) (hdg : decode cc pc = .ok (.ifCond .eq off, 3)) (ht : (pc : Int) + off = (tgt : Int)) (kt : x = 0 → W p l e R s m args below meth c H locs cells slots Q (F0 m tgt ls rest)) (kf : ¬ x = 0 → W p l e R s m args below meth c H locs cells slots Q (F0 m (pc + 3) ls rest)) : W p l e R s m args below meth c H locs cells slots Q (F0 m pc ls (.int (iI x) :: rest)) :=
  lv_if_eq C0.1 C0.2.1 hdg ht (fun h => kt ((iI_inj hx ir_0).mp h)) (fun h => kf (fun z => h ((iI_inj hx ir_0).mpr z)))
theorem k_icmp_ne (C0 : CallFix p m c cc nL s args Ts own) {x y : Int} {off : Int} {tgt : Nat} (hx : ir x) (hy : ir y) (hdg : decode cc pc = .ok (.if_icmp .ne off, 3)) (ht : (pc : Int) + off = (tgt : Int)) (kt : ¬ x = y → W p l e R s m args below meth c H locs cells slots Q (F0 m tgt ls rest)) (kf : x = y → W p l e R s m args below meth c H locs cells slots Q (F0 m (pc + 3) ls rest)) : W p l e R s m args below meth c H locs cells slots Q (F0 m pc ls (.int (iI y) :: .int (iI x) :: rest)) :=
  lv_icmp_ne C0.1 C0.2.1 hdg ht (fun h => kt (fun z => h ((iI_inj hx hy).mpr z))) (fun h => kf ((iI_inj hx hy).mp h))
theorem k_if_ne (C0 : CallFix p m c cc nL s args Ts own) {x : Int} {off : Int} {tgt : Nat} (hx : ir x) (hdg : decode cc pc = .ok (.ifCond .ne off, 3)) (ht : (pc : Int) + off = (tgt : Int)) (kt : ¬ x = 0 → W p l e R s m args below meth c H locs cells slots Q (F0 m tgt ls rest)) (kf : x = 0 → W p l e R s m args below meth c H locs cells slots Q (F0 m (pc + 3) ls rest)) : W p l e R s m args below meth c H locs cells slots Q (F0 m pc ls (.int (iI x) :: rest)) :=
  lv_if_ne C0.1 C0.2.1 hdg ht (fun h => kt (fun z => h ((iI_inj hx ir_0).mpr z))) (fun h => kf ((iI_inj hx ir_0).mp h))
theorem k_icmp_lt (C0 : CallFix p m c cc nL s args Ts own) {x y : Int} {off : Int} {tgt : Nat} (hx : ir x) (hy : ir y) (hdg : decode cc pc = .ok (.if_icmp .lt off, 3)) (ht : (pc : Int) + off = (tgt : Int)) (kt : x < y → W p l e R s m args below meth c H locs cells slots Q (F0 m tgt ls rest)) (kf : ¬ x < y → W p l e R s m args below meth c H locs cells slots Q (F0 m (pc + 3) ls rest)) : W p l e R s m args below meth c H locs cells slots Q (F0 m pc ls (.int (iI y) :: .int (iI x) :: rest)) :=
  lv_icmp_lt C0.1 C0.2.1 hdg ht (fun h => kt ((iI_lt hx hy).mp h)) (fun h => kf (fun z => h ((iI_lt hx hy).mpr z)))
theorem k_if_lt (C0 : CallFix p m c cc nL s args Ts own) {x : Int} {off : Int} {tgt : Nat} (hx : ir x) (hdg : decode cc pc = .ok (.ifCond .lt off, 3)) (ht : (pc : Int) + off = (tgt : Int)) (kt : x < 0 → W p l e R s m args below meth c H locs cells slots Q (F0 m tgt ls rest)) (kf : ¬ x < 0 → W p l e R s m args below meth c H locs cells slots Q (F0 m (pc + 3) ls rest)) : W p l e R s m args below meth c H locs cells slots Q (F0 m pc ls (.int (iI x) :: rest)) :=
  lv_if_lt C0.1 C0.2.1 hdg ht (fun h => kt ((iI_lt hx ir_0).mp h)) (fun h => kf (fun z => h ((iI_lt hx ir_0).mpr z)))
theorem k_icmp_ge (C0 : CallFix p m c cc nL s args Ts own) {x y : Int} {off : Int} {tgt : Nat} (hx : ir x) (hy : ir y) (hdg : decode cc pc = .ok (.if_icmp .ge off, 3)) (ht : (pc : Int) + off = (tgt : Int)) (kt : y ≤ x → W p l e R s m args below meth c H locs cells slots Q (F0 m tgt ls rest)) (kf : ¬ y ≤ x → W p l e R s m args below meth c H locs cells slots Q (F0 m (pc + 3) ls rest)) : W p l e R s m args below meth c H locs cells slots Q (F0 m pc ls (.int (iI y) :: .int (iI x) :: rest)) :=
  lv_icmp_ge C0.1 C0.2.1 hdg ht (fun h => kt ((iI_le hy hx).mp h)) (fun h => kf (fun z => h ((iI_le hy hx).mpr z)))
theorem k_if_ge (C0 : CallFix p m c cc nL s args Ts own) {x : Int} {off : Int} {tgt : Nat} (hx : ir x) (hdg : decode cc pc = .ok (.ifCond .ge off, 3)) (ht : (pc : Int) + off = (tgt : Int)) (kt : 0 ≤ x → W p l e R s m args below meth c H locs cells slots Q (F0 m tgt ls rest)) (kf : ¬ 0 ≤ x → W p l e R s m args below meth c H locs cells slots Q (F0 m (pc + 3) ls rest)) : W p l e R s m args below meth c H locs cells slots Q (F0 m pc ls (.int (iI x) :: rest)) :=
  lv_if_ge C0.1 C0.2.1 hdg ht (fun h => kt ((iI_le ir_0 hx).mp h)) (fun h => kf (fun z => h ((iI_le ir_0 hx).mpr z)))
theorem k_icmp_gt (C0 : CallFix p m c cc nL s args Ts own) {x y : Int} {off : Int} {tgt : Nat} (hx : ir x) (hy : ir y) (hdg : decode cc pc = .ok (.if_icmp .gt off, 3)) (ht : (pc : Int) + off = (tgt : Int)) (kt : y < x → W p l e R s m args below meth c H locs cells slots Q (F0 m tgt ls rest)) (kf : ¬ y < x → W p l e R s m args below meth c H locs cells slots Q (F0 m (pc + 3) ls rest)) : W p l e R s m args below meth c H locs cells slots Q (F0 m pc ls (.int (iI y) :: .int (iI x) :: rest)) :=
  lv_icmp_gt C0.1 C0.2.1 hdg ht (fun h => kt ((iI_lt hy hx).mp h)) (fun h => kf (fun z => h ((iI_lt hy hx).mpr z)))
theorem k_if_gt (C0 : CallFix p m c cc nL s args Ts own) {x : Int} {off : Int} {tgt : Nat} (hx : ir x) (hdg : decode cc pc = .ok (.ifCond .gt off, 3)) (ht : (pc : Int) + off = (tgt : Int)) (kt : 0 < x → W p l e R s m args below meth c H locs cells slots Q (F0 m tgt ls rest)) (kf : ¬ 0 < x → W p l e R s m args below meth c H locs cells slots Q (F0 m (pc + 3) ls rest)) : W p l e R s m args below meth c H locs cells slots Q (F0 m pc ls (.int (iI x) :: rest)) :=
  lv_if_gt C0.1 C0.2.1 hdg ht (fun h => kt ((iI_lt ir_0 hx).mp h)) (fun h => kf (fun z => h ((iI_lt ir_0 hx).mpr z)))
theorem k_icmp_le (C0 : CallFix p m c cc nL s args Ts own) {x y : Int} {off : Int} {tgt : Nat} (hx : ir x) (hy : ir y) (hdg : decode cc pc = .ok (.if_icmp .le off, 3)) (ht : (pc : Int) + off = (tgt : Int)) (kt : x ≤ y → W p l e R s m args below meth c H locs cells slots Q (F0 m tgt ls rest)) (kf : ¬ x ≤ y → W p l e R s m args below meth c H locs cells slots Q (F0 m (pc + 3) ls rest)) : W p l e R s m args below meth c H locs cells slots Q (F0 m pc ls (.int (iI y) :: .int (iI x) :: rest)) :=
  lv_icmp_le C0.1 C0.2.1 hdg ht (fun h => kt ((iI_le hx hy).mp h)) (fun h => kf (fun z => h ((iI_le hx hy).mpr z)))
theorem k_if_le (C0 : CallFix p m c cc nL s args Ts own) {x : Int} {off : Int} {tgt : Nat} (hx : ir x) (hdg : decode cc pc = .ok (.ifCond .le off, 3)) (ht : (pc : Int) + off = (tgt : Int)) (kt : x ≤ 0 → W p l e R s m args below meth c H locs cells slots Q (F0 m tgt ls rest)) (kf : ¬ x ≤ 0 → W p l e R s m args below meth c H locs cells slots Q (F0 m (pc + 3) ls rest)) : W p l e R s m args below meth c H locs cells slots Q (F0 m pc ls (.int (iI x) :: rest)) :=
  lv_if_le C0.1 C0.2.1 hdg ht (fun h => kt ((iI_le hx ir_0).mp h)) (fun h => kf (fun z => h ((iI_le hx ir_0).mpr z)))
theorem k_idiv (C0 : CallFix p m c cc nL s args Ts own) {x y : Int} (hx : ir x) (hy : 0 < y) (hy2 : y < 2147483648) (hdg : decode cc pc = .ok (.idiv, 1)) (k : W p l e R s m args below meth c H locs cells slots Q (F0 m (pc + 1) ls (.int (iI (x.tdiv y)) :: rest))) : W p l e R s m args below meth c H locs cells slots Q (F0 m pc ls (.int (iI y) :: .int (iI x) :: rest)) := by
  have hy' : ir y := ⟨by omega, by omega⟩
  refine lv_idiv C0.1 C0.2.1 hdg (fun h => ?_) ?_
  · have := (iI_inj hy' ir_0).mp h
    omega
  · rw [iI_div hx hy hy2]; exact k
theorem k_irem (C0 : CallFix p m c cc nL s args Ts own) {x y : Int} (hx : ir x) (hy : 0 < y) (hy2 : y < 2147483648) (hdg : decode cc pc = .ok (.irem, 1)) (k : W p l e R s m args below meth c H locs cells slots Q (F0 m (pc + 1) ls (.int (iI (x - x.tdiv y * y)) :: rest))) : W p l e R s m args below meth c H locs cells slots Q (F0 m pc ls (.int (iI y) :: .int (iI x) :: rest)) := by
  have hy' : ir y := ⟨by omega, by omega⟩
  refine lv_irem C0.1 C0.2.1 hdg (fun h => ?_) ?_
  · have := (iI_inj hy' ir_0).mp h
    omega
  · rw [iI_div hx hy hy2, iI_mul, iI_sub]; exact k
end KBR
section KCALL
variable {p : Program} {l : Launch} {e : Env} {R : Room} {s : State} {m : MethodId} {args : Array Value} {below : List Frame} {meth : Method} {c : Code} {H : Heap} {locs : List Loc} {cells slots : Nat} {Q : State → Prop}
variable {cc bytes : ByteArray} {nL pc maxL n index : Nat} {ls : Array Slot} {rest : List Value} {D : va_G} {cl : List vw_C} {A : Nat → Prop} {b : Nat} {tys : List (ClassId × FieldType)} {ws wc wr w0 : va_W} {Ts wsM wsM' : List Cond} {own C : String} {y : MethodName} {rm : Room} {ret : Option FieldType} {sz : Nat}
theorem k_calli (C0 : CallFix p m c cc nL s args Ts own) (S : kS D cl tys A s ws H locs) {post : Int32 → va_W → Prop} {As : List Value} (hM : kCi l D cl tys y wsM rm (.ref b :: As) wc post) (hG : GoodIn Ts (wsV own index C y wsM)) (hwM : wsM = Cond.code y bytes maxL ret :: wsM') (hrm : rm.cells = 0 ∧ rm.slots = 0) (hd : y.cls = C ∧ y.cls ≠ "java/lang/invoke/MethodHandle" ∧ y.cls ≠ "java/lang/invoke/VarHandle" ∧ (parseMethodDescriptor y.desc).map (fun d => d.parameters.length) = some n) (hRm : rm.frames + 1 ≤ R.frames ∧ 8 + (maxL + 11) + rm.locals ≤ R.locals)
    (isC isR : List Nat) (hnC : va_nd isC = true) (hC : isC.map (fun i => ws[i]?) = wc.map some) (hR : isR.map (fun i => ws[i]?) = wr.map some) (hn : va_nd isR = true) (hdis : ∀ i ∈ isR, i ∉ isC) {ci q0 N : Nat} {T : u_T} {fs : List Value} (hc : cl[ci]? = some (C, T, N)) (he : wc[q0]? = some (b, .inr (ci, fs))) (hlen : As.length = n) (hls : ls.size = nL) {st0 : List Value} (hst : st0 = As.reverse ++ .ref b :: rest) (hroom : (rest.map fun v => v.category).sum ≤ 8) (hdg : decode cc pc = .ok (.invokevirtual index, 3)) (hf : cells ≤ R.cells ∧ slots ≤ R.slots)
    (kk : ∀ (r : Int32) (u : va_W) (H1 : Heap) (locs1 : List Loc), post r u → kS D cl tys A s (wr ++ u) H1 locs1 → W p l e R s m args below meth c H1 locs1 cells slots Q (F0 m (pc + 3) ls (.int r :: rest))) : W p l e R s m args below meth c H locs cells slots Q (F0 m pc ls st0) := by
  have SC := S.sub isC hnC hC
  obtain ⟨hK, hP, hD, hS, hA⟩ := S
  have hFc := va_free (wc := wc) hD hS hA isC hC
  refine va_calli (va_runV (As := As) (rest := rest) C0 (hM H.size) (cwV n C0.2.2.2.2 hG hwM hrm.1 hrm.2 hd hRm) ⟨kPre_blind, va_recv hK SC.2.1 hc he, fun U hU hW => ⟨rfl, by rw [hU], by rw [hU]; exact SC.2.1, va_K.moved hW.alike hK, SC.2.2.1.weaken (fun _ _ _ _ => trivial)⟩⟩ rfl hlen hls hst (lv_room hroom) hdg hf) hS (fun q _ h => hFc q h) hFc (fun r u t H1 locs1 ht hvm hw hB hz1 hk1 hS1 => ?_)
  obtain ⟨hP1, hK1, hD1⟩ := hB
  rw [ht] at hP1
  obtain ⟨hP2, hD2⟩ := va_join (wr := wr) (w1 := u) hP hD isC isR hC hR hn hdis hk1 hFc hP1 hD1
  exact kk r u H1 locs1 hw ⟨hK, hP2, hD2, hS1, hA⟩
theorem k_calll (C0 : CallFix p m c cc nL s args Ts own) (S : kS D cl tys A s ws H locs) {post : Int64 → va_W → Prop} {As : List Value} (hM : kCl l D cl tys y wsM rm (.ref b :: As) wc post) (hG : GoodIn Ts (wsV own index C y wsM)) (hwM : wsM = Cond.code y bytes maxL ret :: wsM') (hrm : rm.cells = 0 ∧ rm.slots = 0) (hd : y.cls = C ∧ y.cls ≠ "java/lang/invoke/MethodHandle" ∧ y.cls ≠ "java/lang/invoke/VarHandle" ∧ (parseMethodDescriptor y.desc).map (fun d => d.parameters.length) = some n) (hRm : rm.frames + 1 ≤ R.frames ∧ 8 + (maxL + 11) + rm.locals ≤ R.locals)
    (isC isR : List Nat) (hnC : va_nd isC = true) (hC : isC.map (fun i => ws[i]?) = wc.map some) (hR : isR.map (fun i => ws[i]?) = wr.map some) (hn : va_nd isR = true) (hdis : ∀ i ∈ isR, i ∉ isC) {ci q0 N : Nat} {T : u_T} {fs : List Value} (hc : cl[ci]? = some (C, T, N)) (he : wc[q0]? = some (b, .inr (ci, fs))) (hlen : As.length = n) (hls : ls.size = nL) {st0 : List Value} (hst : st0 = As.reverse ++ .ref b :: rest) (hroom : (rest.map fun v => v.category).sum ≤ 8) (hdg : decode cc pc = .ok (.invokevirtual index, 3)) (hf : cells ≤ R.cells ∧ slots ≤ R.slots)
    (kk : ∀ (r : Int64) (u : va_W) (H1 : Heap) (locs1 : List Loc), post r u → kS D cl tys A s (wr ++ u) H1 locs1 → W p l e R s m args below meth c H1 locs1 cells slots Q (F0 m (pc + 3) ls (.long r :: rest))) : W p l e R s m args below meth c H locs cells slots Q (F0 m pc ls st0) := by
  have SC := S.sub isC hnC hC
  obtain ⟨hK, hP, hD, hS, hA⟩ := S
  have hFc := va_free (wc := wc) hD hS hA isC hC
  refine va_calll (va_runV (As := As) (rest := rest) C0 (hM H.size) (cwV n C0.2.2.2.2 hG hwM hrm.1 hrm.2 hd hRm) ⟨kPre_blind, va_recv hK SC.2.1 hc he, fun U hU hW => ⟨rfl, by rw [hU], by rw [hU]; exact SC.2.1, va_K.moved hW.alike hK, SC.2.2.1.weaken (fun _ _ _ _ => trivial)⟩⟩ rfl hlen hls hst (lv_room hroom) hdg hf) hS (fun q _ h => hFc q h) hFc (fun r u t H1 locs1 ht hvm hw hB hz1 hk1 hS1 => ?_)
  obtain ⟨hP1, hK1, hD1⟩ := hB
  rw [ht] at hP1
  obtain ⟨hP2, hD2⟩ := va_join (wr := wr) (w1 := u) hP hD isC isR hC hR hn hdis hk1 hFc hP1 hD1
  exact kk r u H1 locs1 hw ⟨hK, hP2, hD2, hS1, hA⟩
theorem k_callv (C0 : CallFix p m c cc nL s args Ts own) (S : kS D cl tys A s ws H locs) {post : va_W → Prop} {As : List Value} (hM : kCv l D cl tys y wsM rm (.ref b :: As) wc post) (hG : GoodIn Ts (wsV own index C y wsM)) (hwM : wsM = Cond.code y bytes maxL ret :: wsM') (hrm : rm.cells = 0 ∧ rm.slots = 0) (hd : y.cls = C ∧ y.cls ≠ "java/lang/invoke/MethodHandle" ∧ y.cls ≠ "java/lang/invoke/VarHandle" ∧ (parseMethodDescriptor y.desc).map (fun d => d.parameters.length) = some n) (hRm : rm.frames + 1 ≤ R.frames ∧ 8 + (maxL + 11) + rm.locals ≤ R.locals)
    (isC isR : List Nat) (hnC : va_nd isC = true) (hC : isC.map (fun i => ws[i]?) = wc.map some) (hR : isR.map (fun i => ws[i]?) = wr.map some) (hn : va_nd isR = true) (hdis : ∀ i ∈ isR, i ∉ isC) {ci q0 N : Nat} {T : u_T} {fs : List Value} (hc : cl[ci]? = some (C, T, N)) (he : wc[q0]? = some (b, .inr (ci, fs))) (hlen : As.length = n) (hls : ls.size = nL) {st0 : List Value} (hst : st0 = As.reverse ++ .ref b :: rest) (hroom : (rest.map fun v => v.category).sum ≤ 8) (hdg : decode cc pc = .ok (.invokevirtual index, 3)) (hf : cells ≤ R.cells ∧ slots ≤ R.slots)
    (kk : ∀ (u : va_W) (H1 : Heap) (locs1 : List Loc), post u → kS D cl tys A s (wr ++ u) H1 locs1 → W p l e R s m args below meth c H1 locs1 cells slots Q (F0 m (pc + 3) ls rest)) : W p l e R s m args below meth c H locs cells slots Q (F0 m pc ls st0) := by
  have SC := S.sub isC hnC hC
  obtain ⟨hK, hP, hD, hS, hA⟩ := S
  have hFc := va_free (wc := wc) hD hS hA isC hC
  refine va_callv (va_runV (As := As) (rest := rest) C0 (hM H.size) (cwV n C0.2.2.2.2 hG hwM hrm.1 hrm.2 hd hRm) ⟨kPre_blind, va_recv hK SC.2.1 hc he, fun U hU hW => ⟨rfl, by rw [hU], by rw [hU]; exact SC.2.1, va_K.moved hW.alike hK, SC.2.2.1.weaken (fun _ _ _ _ => trivial)⟩⟩ rfl hlen hls hst (lv_room hroom) hdg hf) hS (fun q _ h => hFc q h) hFc (fun u t H1 locs1 ht hvm hw hB hz1 hk1 hS1 => ?_)
  obtain ⟨hP1, hK1, hD1⟩ := hB
  rw [ht] at hP1
  obtain ⟨hP2, hD2⟩ := va_join (wr := wr) (w1 := u) hP hD isC isR hC hR hn hdis hk1 hFc hP1 hD1
  exact kk u H1 locs1 hw ⟨hK, hP2, hD2, hS1, hA⟩
theorem k_callSv (C0 : CallFix p m c cc nL s args Ts own) (S : kS D cl tys A s ws H locs) {post : va_W → Prop} {As : List Value} (hM : kCv l D cl tys y wsM rm As wc post) (hG : GoodIn Ts (va_wsS own index y wsM)) (hwM : wsM = Cond.code y bytes maxL ret :: wsM') (hrm : rm.cells = 0 ∧ rm.slots = 0) (hd : y.cls ≠ "java/lang/invoke/MethodHandle" ∧ y.cls ≠ "java/lang/invoke/VarHandle" ∧ (parseMethodDescriptor y.desc).map (fun d => d.parameters.length) = some n) (hRm : rm.frames + 1 ≤ R.frames ∧ 8 + (maxL + 11) + rm.locals ≤ R.locals)
    (isC isR : List Nat) (hnC : va_nd isC = true) (hC : isC.map (fun i => ws[i]?) = wc.map some) (hR : isR.map (fun i => ws[i]?) = wr.map some) (hn : va_nd isR = true) (hdis : ∀ i ∈ isR, i ∉ isC) (hlen : As.length = n) (hls : ls.size = nL) {st0 : List Value} (hst : st0 = As.reverse ++ rest) (hroom : (rest.map fun v => v.category).sum ≤ 8) (hdg : decode cc pc = .ok (.invokestatic index, 3)) (hf : cells ≤ R.cells ∧ slots ≤ R.slots)
    (kk : ∀ (u : va_W) (H1 : Heap) (locs1 : List Loc), post u → kS D cl tys A s (wr ++ u) H1 locs1 → W p l e R s m args below meth c H1 locs1 cells slots Q (F0 m (pc + 3) ls rest)) : W p l e R s m args below meth c H locs cells slots Q (F0 m pc ls st0) := by
  have SC := S.sub isC hnC hC
  obtain ⟨hK, hP, hD, hS, hA⟩ := S
  have hFc := va_free (wc := wc) hD hS hA isC hC
  refine va_callv (va_runS (As := As) (rest := rest) C0 (hM H.size) (va_cwS n C0.2.2.2.2 hG hwM hrm.1 hrm.2 hd hRm) ⟨kPre_blind, fun U hU hW => ⟨rfl, by rw [hU], by rw [hU]; exact SC.2.1, va_K.moved hW.alike hK, SC.2.2.1.weaken (fun _ _ _ _ => trivial)⟩⟩ rfl hlen hls hst (lv_room hroom) hdg hf) hS (fun q _ h => hFc q h) hFc (fun u t H1 locs1 ht hvm hw hB hz1 hk1 hS1 => ?_)
  obtain ⟨hP1, hK1, hD1⟩ := hB
  rw [ht] at hP1
  obtain ⟨hP2, hD2⟩ := va_join (wr := wr) (w1 := u) hP hD isC isR hC hR hn hdis hk1 hFc hP1 hD1
  exact kk u H1 locs1 hw ⟨hK, hP2, hD2, hS1, hA⟩
theorem k_iret (C0 : CallFix p m c cc nL s args Ts own) (S : kS D cl tys A s ws H locs) (hAe : va_A w0 s.heap.size = A) (hsz : sz = s.heap.size) (hr : meth.sig.returnType = some .int) (hlk : meth.locks = false) {post : Int32 → va_W → Prop} {v : Int32} (hdg : decode cc pc = .ok (.ireturn, 1)) (hp : post v ws) :
    W p l e R s m args below meth c H locs 0 0 (MQ below (va_Qi post (kPost D cl tys (va_A w0 sz)) (va_A w0 sz)) args s 0 0 (va_A w0 sz)) (F0 m pc ls [.int v]) := by
  subst hsz; subst hAe
  exact W.iret C0.1 C0.2.1 hr (fun t ht hW => ⟨⟨v, ws, rfl, hp, by rw [ht]; exact S.2.1, va_K.moved hW.alike S.1, S.2.2.1⟩, S.2.2.2.1.F ht⟩) S.2.2.2.1.2.2 hdg hlk
theorem k_zret (C0 : CallFix p m c cc nL s args Ts own) (S : kS D cl tys A s ws H locs) (hAe : va_A w0 s.heap.size = A) (hsz : sz = s.heap.size) (hr : meth.sig.returnType = some .boolean) (hlk : meth.locks = false) {post : Int32 → va_W → Prop} {v : Int32} (hn : narrow .boolean (.int v) = .int v) (hdg : decode cc pc = .ok (.ireturn, 1)) (hp : post v ws) :
    W p l e R s m args below meth c H locs 0 0 (MQ below (va_Qi post (kPost D cl tys (va_A w0 sz)) (va_A w0 sz)) args s 0 0 (va_A w0 sz)) (F0 m pc ls [.int v]) := by
  subst hsz; subst hAe
  exact W.zret C0.1 C0.2.1 hr hn (fun t ht hW => ⟨⟨v, ws, rfl, hp, by rw [ht]; exact S.2.1, va_K.moved hW.alike S.1, S.2.2.1⟩, S.2.2.2.1.F ht⟩) S.2.2.2.1.2.2 hdg hlk
theorem k_lret (C0 : CallFix p m c cc nL s args Ts own) (S : kS D cl tys A s ws H locs) (hAe : va_A w0 s.heap.size = A) (hsz : sz = s.heap.size) (hr : meth.sig.returnType = some .long) (hlk : meth.locks = false) {post : Int64 → va_W → Prop} {v : Int64} (hdg : decode cc pc = .ok (.lreturn, 1)) (hp : post v ws) :
    W p l e R s m args below meth c H locs 0 0 (MQ below (va_Ql post (kPost D cl tys (va_A w0 sz)) (va_A w0 sz)) args s 0 0 (va_A w0 sz)) (F0 m pc ls [.long v]) := by
  subst hsz; subst hAe
  exact W.lret C0.1 C0.2.1 hr (fun t ht hW => ⟨⟨v, ws, rfl, hp, by rw [ht]; exact S.2.1, va_K.moved hW.alike S.1, S.2.2.1⟩, S.2.2.2.1.F ht⟩) S.2.2.2.1.2.2 hdg hlk
theorem k_vret (C0 : CallFix p m c cc nL s args Ts own) (S : kS D cl tys A s ws H locs) (hAe : va_A w0 s.heap.size = A) (hsz : sz = s.heap.size) (hr : meth.sig.returnType = none) (hlk : meth.locks = false) {post : va_W → Prop} (hdg : decode cc pc = .ok (.return_, 1)) (hp : post ws) :
    W p l e R s m args below meth c H locs 0 0 (MQ below (va_Qv post (kPost D cl tys (va_A w0 sz)) (va_A w0 sz)) args s 0 0 (va_A w0 sz)) (F0 m pc ls []) := by
  subst hsz; subst hAe
  exact W.vret C0.1 C0.2.1 hr (fun t ht hW => ⟨⟨ws, rfl, hp, by rw [ht]; exact S.2.1, va_K.moved hW.alike S.1, S.2.2.1⟩, S.2.2.2.1.F ht⟩) S.2.2.2.1.2.2 hdg hlk
end KCALL
/-- a truth value as an int -/
noncomputable def bz (P : Prop) : Int := by
  classical
  exact if P then 1 else 0
theorem bz_t {P : Prop} (h : P) : bz P = 1 := by classical unfold bz; exact if_pos h
theorem bz_f {P : Prop} (h : ¬ P) : bz P = 0 := by classical unfold bz; exact if_neg h
theorem bz_cases (P : Prop) : (P ∧ bz P = 1) ∨ (¬ P ∧ bz P = 0) := by
  by_cases h : P
  · exact Or.inl ⟨h, bz_t h⟩
  · exact Or.inr ⟨h, bz_f h⟩
theorem bz_ir (P : Prop) : ir (bz P) := by
  rcases bz_cases P with ⟨-, h⟩ | ⟨-, h⟩ <;> rw [h] <;> exact ⟨by decide, by decide⟩
theorem bz_congr {P P' : Prop} (h : P ↔ P') : bz P = bz P' := by rw [propext h]
theorem nbz (P : Prop) : narrow .boolean (.int (iI (bz P))) = .int (iI (bz P)) := by
  rcases bz_cases P with ⟨-, h⟩ | ⟨-, h⟩ <;> rw [h] <;> rfl
section KBZ
variable {p : Program} {l : Launch} {e : Env} {R : Room} {s : State} {m : MethodId} {args : Array Value} {below : List Frame} {meth : Method} {c : Code} {H : Heap} {locs : List Loc} {cells slots : Nat} {Q : State → Prop}
variable {cc : ByteArray} {nL pc : Nat} {ls : Array Slot} {rest : List Value} {Ts : List Cond} {own : String}
theorem k_bz_ne (C0 : CallFix p m c cc nL s args Ts own) {P : Prop} {off : Int} {tgt : Nat} (hdg : decode cc pc = .ok (.ifCond .ne off, 3)) (ht : (pc : Int) + off = (tgt : Int)) (kt : P → W p l e R s m args below meth c H locs cells slots Q (F0 m tgt ls rest)) (kf : ¬ P → W p l e R s m args below meth c H locs cells slots Q (F0 m (pc + 3) ls rest)) : W p l e R s m args below meth c H locs cells slots Q (F0 m pc ls (.int (iI (bz P)) :: rest)) := by
  refine k_if_ne C0 (bz_ir P) hdg ht (fun h => ?_) (fun h => ?_)
  · rcases bz_cases P with ⟨q, -⟩ | ⟨-, q⟩
    · exact kt q
    · exact absurd q h
  · rcases bz_cases P with ⟨-, q⟩ | ⟨q, -⟩
    · rw [q] at h; exact absurd h (by decide)
    · exact kf q
theorem k_bz_eq (C0 : CallFix p m c cc nL s args Ts own) {P : Prop} {off : Int} {tgt : Nat} (hdg : decode cc pc = .ok (.ifCond .eq off, 3)) (ht : (pc : Int) + off = (tgt : Int)) (kt : ¬ P → W p l e R s m args below meth c H locs cells slots Q (F0 m tgt ls rest)) (kf : P → W p l e R s m args below meth c H locs cells slots Q (F0 m (pc + 3) ls rest)) : W p l e R s m args below meth c H locs cells slots Q (F0 m pc ls (.int (iI (bz P)) :: rest)) := by
  refine k_if_eq C0 (bz_ir P) hdg ht (fun h => ?_) (fun h => ?_)
  · rcases bz_cases P with ⟨-, q⟩ | ⟨q, -⟩
    · rw [q] at h; exact absurd h (by decide)
    · exact kt q
  · rcases bz_cases P with ⟨q, -⟩ | ⟨-, q⟩
    · exact kf q
    · exact absurd q h
end KBZ
