/-! constructors: worlds as lists of cells; addresses are what the machine gives -/
def nX (U : State) : Prop := va_Nw (Jvm.Cond.methodLinkNest "LeasedViewStore$Server" (11 : Nat) ({ cls := "LeasedViewStore$View", name := "<init>", desc := "()V" } : Jvm.MethodName) "LeasedViewStore") U ∧ va_Nw (Jvm.Cond.methodLinkNest "LeasedViewStore$Server" (20 : Nat) ({ cls := "LeasedViewStore$State", name := "<init>", desc := "()V" } : Jvm.MethodName) "LeasedViewStore") U ∧ va_Nw (Jvm.Cond.methodLinkNest "LeasedViewStore$Server" (27 : Nat) ({ cls := "LeasedViewStore$Operation", name := "<init>", desc := "()V" } : Jvm.MethodName) "LeasedViewStore") U ∧ va_Nw (Jvm.Cond.methodLinkNest "LeasedViewStore$Client" (9 : Nat) ({ cls := "LeasedViewStore$Operation", name := "<init>", desc := "()V" } : Jvm.MethodName) "LeasedViewStore") U ∧ va_Nw (Jvm.Cond.methodLinkNest "LeasedViewStore$Service" (11 : Nat) ({ cls := "LeasedViewStore$View", name := "<init>", desc := "()V" } : Jvm.MethodName) "LeasedViewStore") U ∧ va_Nw (Jvm.Cond.methodLinkNest "LeasedViewStore$Post" (17 : Nat) ({ cls := "LeasedViewStore$Letter", name := "<init>", desc := "()V" } : Jvm.MethodName) "LeasedViewStore") U ∧ va_Nw (Jvm.Cond.methodLinkNest "LeasedViewStore$Letter" (9 : Nat) ({ cls := "LeasedViewStore$View", name := "<init>", desc := "()V" } : Jvm.MethodName) "LeasedViewStore") U ∧ va_Nw (Jvm.Cond.methodLinkNest "LeasedViewStore$Letter" (18 : Nat) ({ cls := "LeasedViewStore$Operation", name := "<init>", desc := "()V" } : Jvm.MethodName) "LeasedViewStore") U ∧ va_Nw (Jvm.Cond.methodLinkNest "LeasedViewStore$Letter" (25 : Nat) ({ cls := "LeasedViewStore$State", name := "<init>", desc := "()V" } : Jvm.MethodName) "LeasedViewStore") U ∧ va_AO "LeasedViewStore$Server" U ∧ va_AO "LeasedViewStore$Client" U ∧ va_AO "LeasedViewStore$Letter" U
theorem nX.warm {s U : State} (hW : s.WarmedH U.vm) (h : nX s) : nX U := ⟨va_Nw.warmM hW h.1, va_Nw.warmM hW h.2.1, va_Nw.warmM hW h.2.2.1, va_Nw.warmM hW h.2.2.2.1, va_Nw.warmM hW h.2.2.2.2.1, va_Nw.warmM hW h.2.2.2.2.2.1, va_Nw.warmM hW h.2.2.2.2.2.2.1, va_Nw.warmM hW h.2.2.2.2.2.2.2.1, va_Nw.warmM hW h.2.2.2.2.2.2.2.2.1, va_AO.moved hW.alike h.2.2.2.2.2.2.2.2.2.1, va_AO.moved hW.alike h.2.2.2.2.2.2.2.2.2.2.1, va_AO.moved hW.alike h.2.2.2.2.2.2.2.2.2.2.2⟩
theorem nX.same {u U : State} (hv : u.vm = U.vm) (h : nX u) : nX U := ⟨va_Nw.same rfl hv h.1, va_Nw.same rfl hv h.2.1, va_Nw.same rfl hv h.2.2.1, va_Nw.same rfl hv h.2.2.2.1, va_Nw.same rfl hv h.2.2.2.2.1, va_Nw.same rfl hv h.2.2.2.2.2.1, va_Nw.same rfl hv h.2.2.2.2.2.2.1, va_Nw.same rfl hv h.2.2.2.2.2.2.2.1, va_Nw.same rfl hv h.2.2.2.2.2.2.2.2.1, va_AO.moved (by rw [hv]; exact Vm.Alike.refl _) h.2.2.2.2.2.2.2.2.2.1, va_AO.moved (by rw [hv]; exact Vm.Alike.refl _) h.2.2.2.2.2.2.2.2.2.2.1, va_AO.moved (by rw [hv]; exact Vm.Alike.refl _) h.2.2.2.2.2.2.2.2.2.2.2⟩
def cI (D : va_G) (A : Nat → Prop) (H0 : Heap) (W : va_W) : Heap → List Loc → Prop := fun H locs => va_P D zCl W H ∧ va_D A W ∧ va_S A H0 H locs
def zNQ (D : va_G) (h0 : Nat) (F : (Nat → Nat) → va_W) (A : Nat → Prop) : Array Value → State → Outcome → State → Prop := fun _ st oc t => (oc = .returned none ∧ ∃ f : Nat → Nat, f 0 = h0 ∧ va_P D zCl (F f) t.heap ∧ va_D A (F f)) ∧ va_F A st t
def zNP (D : va_G) (tys : List (ClassId × FieldType)) (av : List Value) (h0 : Nat) (e0 : va_E) (sz : Nat) : Array Value → State → Prop := va_Pc av (fun U => U.heap.size = sz ∧ va_P D zCl [(h0, e0)] U.heap ∧ va_K D zCl tys U ∧ nX U)
/-- a constructor's contract: on the object h0, still as 'new' left it (e0), it returns, and the heap holds the cells F f, f 0 = h0, the others new -/
def zN (l : Launch) (y : MethodName) (ws : List Cond) (rm : Room) (D : va_G) (tys : List (ClassId × FieldType)) (av : List Value) (h0 : Nat) (e0 : va_E) (F : (Nat → Nat) → va_W) (mc ms : Nat) : Prop :=
  ∀ sz : Nat, Met l y ws rm (zNP D tys av h0 e0 sz) (zNQ D h0 F (va_A [(h0, e0)] sz)) mc ms (va_A [(h0, e0)] sz)
theorem zN.of {l : Launch} {y : MethodName} {ws ws' : List Cond} {rm : Room} {D : va_G} {tys : List (ClassId × FieldType)} {av : List Value} {h0 : Nat} {e0 : va_E} {F : (Nat → Nat) → va_W} {mc ms : Nat} {cc : ByteArray} {maxL : Nat}
    (hy : plainName y.cls = true) (hyn : y.name = "<init>") (hw : ws = Cond.code y cc maxL none :: ws') (hn : (lg_sl av).length ≤ maxL)
    (body : ∀ (p : Program) (e : Env) (s : State) (m : MethodId) (below : List Frame) (meth : Method) (c : Code) (A : Nat → Prop), CallFix p m c cc maxL s av.toArray ws y.cls → meth.sig.returnType = none → meth.locks = false → meth.name = "<init>" → va_K D zCl tys s → nX s → (∀ q, s.heap.size ≤ q → A q) →
      zG p l e (headSpec ws rm).room s m av.toArray below meth c maxL (MQ below (zNQ D h0 F A) av.toArray s mc ms A) (cI D A s.heap [(h0, e0)]) 0 0 0 (lv_args 0 av) []) : zN l y ws rm D tys av h0 e0 F mc ms := by
  intro sz
  refine Met.ofW (cc := cc) (maxL := maxL) (ret := none) hy hw ?_
  intro p e s m args below meth c s₁ B hml hv
  obtain ⟨rfl, hsz, hP, hK, hX⟩ := hv
  have hl := lv_entry av (n := maxL) hn
  rw [lg_entry_eq]
  have hnm : meth.name = "<init>" := (name_of_methodNamed B.named B.method).1.trans hyn
  have hD : va_D (va_A [(h0, e0)] sz) [(h0, e0)] := ⟨fun i j x y hi hj _ => by
      have a1 : i < 1 := (List.getElem?_eq_some_iff.mp hi).1
      have a2 : j < 1 := (List.getElem?_eq_some_iff.mp hj).1
      omega, fun k q hk => va_A.in hk⟩
  exact body p e s m below meth c (va_A [(h0, e0)] sz) ⟨B.exec, B.bytes, hml, findClass_of_methodNamed B.named, atoms_spec (ws := ws) B.pre⟩ B.returns B.notSynchronized hnm hK hX (fun q h => Or.inr (by rw [← hsz]; exact h)) s.heap [] _ ⟨hP, hD, va_S.rf⟩ hl
section NR
variable {p : Program} {l : Launch} {e : Env} {R : Room} {s : State} {m : MethodId} {args : Array Value} {below : List Frame} {meth : Method} {c : Code} {nL : Nat} {D : va_G} {tys : List (ClassId × FieldType)} {A : Nat → Prop} {H0 : Heap} {Q : State → Prop} {W W' : va_W} {cells slots pc : Nat} {lv lv' : List (Nat × Value)} {st rest : List Value} {cc : ByteArray} {Ts : List Cond} {own : String}
theorem n_get (S : CallFix p m c cc nL s args Ts own) (hK : va_K D zCl tys s) {ref Cn : String} {T : u_T} {N ci index a : Nat} (hin : ∀ w ∈ u_ws Cn T N, w ∈ Ts) (j : Nat) {fs : List Value} (he : W[j]? = some (a, .inr (ci, fs))) (hc : zCl[ci]? = some (Cn, T, N)) (k : Nat) (hk : k < N) (hlink : (Cond.fieldLink own index ref (T k).2.1 (T k).2.2.1).before args s = true) (hsame : ∀ x, s.fieldFound? (T k).1 (T k).2.1 (T k).2.2.1 = some x → s.fieldFound? ref (T k).2.1 (T k).2.2.1 = some x) (d : decode cc pc = .ok (.getfield index, 3)) (q : Nat) (hq : pc + 3 = q) (v : Value) (hv : fs[k]? = some v)
    (kk : zG p l e R s m args below meth c nL Q (cI D A H0 W) cells slots q lv (v :: rest)) : zG p l e R s m args below meth c nL Q (cI D A H0 W) cells slots pc lv (.ref a :: rest) := by
  subst hq
  intro H locs ls ⟨hP, hD, hS⟩ hl
  exact va_get S.1 S.2.1 S.2.2.2.2 hin S.2.2.2.1 hK hP j he hc k hk hlink hsame hv d (kk H locs ls ⟨hP, hD, hS⟩ hl)
theorem n_put (S : CallFix p m c cc nL s args Ts own) (hK : va_K D zCl tys s) {ref Cn : String} {T : u_T} {N ci index a : Nat} (hin : ∀ w ∈ u_ws Cn T N, w ∈ Ts) (ty0 : Nat → FieldType) (hty : ∀ k, k < N → parseFieldDescriptor (T k).2.2.1 = some (ty0 k)) (hnm : ∀ a, a < N → ∀ b, b < N → a ≠ b → (T a).2.1 ≠ (T b).2.1) (j : Nat) {fs : List Value} (he : W[j]? = some (a, .inr (ci, fs))) (hc : zCl[ci]? = some (Cn, T, N)) (k : Nat) (hk : k < N) (hlink : (Cond.fieldLink own index ref (T k).2.1 (T k).2.2.1).before args s = true) (hsame : ∀ x, s.fieldFound? (T k).1 (T k).2.1 (T k).2.2.1 = some x → s.fieldFound? ref (T k).2.1 (T k).2.2.1 = some x) (hfin : (T k).2.2.2 = false) {v : Value} (hn : narrow (ty0 k) v = v) (hfit : fits (ty0 k) v = true) (hl : k < fs.length) (d : decode cc pc = .ok (.putfield index, 3)) (q : Nat) (hq : pc + 3 = q) (W' : va_W) (hW : W.set j (a, .inr (ci, fs.set k v)) = W')
    (kk : zG p l e R s m args below meth c nL Q (cI D A H0 W') cells slots q lv rest) : zG p l e R s m args below meth c nL Q (cI D A H0 W) cells slots pc lv (v :: .ref a :: rest) := by
  subst hq
  subst hW
  intro H locs ls ⟨hP, hD, hS⟩ hlv
  exact va_put S.1 S.2.1 S.2.2.2.2 hin ty0 hty hnm S.2.2.2.1 hK hP hD hS j he hc k hk hlink hsame hfin (hty k hk) hn hfit hl d (fun H1 locs1 hP1 hD1 hS1 => kk H1 locs1 ls ⟨hP1, hD1, hS1⟩ hlv)
theorem n_putF (S : CallFix p m c cc nL s args Ts own) (hK : va_K D zCl tys s) (hnm0 : meth.name = "<init>") {ref Cn : String} {T : u_T} {N ci index a : Nat} (hin : ∀ w ∈ u_ws Cn T N, w ∈ Ts) (ty0 : Nat → FieldType) (hty : ∀ k, k < N → parseFieldDescriptor (T k).2.2.1 = some (ty0 k)) (hnm : ∀ a, a < N → ∀ b, b < N → a ≠ b → (T a).2.1 ≠ (T b).2.1) (j : Nat) {fs : List Value} (he : W[j]? = some (a, .inr (ci, fs))) (hc : zCl[ci]? = some (Cn, T, N)) (k : Nat) (hk : k < N) (hlink : (Cond.fieldLink own index ref (T k).2.1 (T k).2.2.1).before args s = true) (hsame : ∀ x, s.fieldFound? (T k).1 (T k).2.1 (T k).2.2.1 = some x → s.fieldFound? ref (T k).2.1 (T k).2.2.1 = some x) (hfin : (T k).2.2.2 = true) (hdecl : (T k).1 = own) {v : Value} (hn : narrow (ty0 k) v = v) (hfit : fits (ty0 k) v = true) (hl : k < fs.length) (d : decode cc pc = .ok (.putfield index, 3)) (q : Nat) (hq : pc + 3 = q) (W' : va_W) (hW : W.set j (a, .inr (ci, fs.set k v)) = W')
    (kk : zG p l e R s m args below meth c nL Q (cI D A H0 W') cells slots q lv rest) : zG p l e R s m args below meth c nL Q (cI D A H0 W) cells slots pc lv (v :: .ref a :: rest) := by
  subst hq
  subst hW
  intro H locs ls ⟨hP, hD, hS⟩ hlv
  exact va_putF S.1 S.2.1 S.2.2.2.2 hin ty0 hty hnm S.2.2.2.1 hK hP hD hS j he hc k hk hlink hsame hfin hnm0 hdecl (hty k hk) hn hfit hl d (fun H1 locs1 hP1 hD1 hS1 => kk H1 locs1 ls ⟨hP1, hD1, hS1⟩ hlv)
theorem n_new (S : CallFix p m c cc nL s args Ts own) (hK : va_K D zCl tys s) (hA : ∀ q, H0.size ≤ q → A q) {Cn : String} {T : u_T} {N ci index : Nat} (hin : ∀ w ∈ u_ws Cn T N, w ∈ Ts) (ty : Nat → FieldType) (hty : ∀ k, k < N → parseFieldDescriptor (T k).2.2.1 = some (ty k)) (hcl : (Cond.classLink own index Cn).before args s = true) (hinst : (Cond.instantiable Cn N).before args s = true) (hini : (Cond.initialized Cn).before args s = true) (hc : zCl[ci]? = some (Cn, T, N)) (fs : List Value) (hfs : ∀ j, j < N → defaultValue (ty j) = vp_V fs j) (d : decode cc pc = .ok (.new index, 3)) (q : Nat) (hq : pc + 3 = q) (c2 s2 : Nat) (hc2 : cells + 1 = c2) (hs2 : slots + N = s2) (hcR : c2 ≤ R.cells) (hsR : s2 ≤ R.slots)
    (kk : ∀ a : Nat, zG p l e R s m args below meth c nL Q (cI D A H0 (W ++ [(a, .inr (ci, fs))])) c2 s2 q lv (.ref a :: rest)) : zG p l e R s m args below meth c nL Q (cI D A H0 W) cells slots pc lv rest := by
  subst hq; subst hc2; subst hs2
  intro H locs ls ⟨hP, hD, hS⟩ hl
  exact va_new S.1 S.2.1 S.2.2.2.2 hin ty hty S.2.2.2.1 hcl hinst hini hK hP hD hS hA hc hfs hcR hsR d (fun a H1 hP1 hD1 hS1 => kk a H1 locs ls ⟨hP1, hD1, hS1⟩ hl)
theorem n_newa (S : CallFix p m c cc nL s args Ts own) (hK : va_K D zCl tys s) (hA : ∀ q, H0.size ≤ q → A q) {atype : ArrayType} (harr : (Cond.arrayClass (newarray.typeOf atype)).before args s = true) {ty : FieldType} (hty : newarray.typeOf atype = ty) (t0 : Nat) {cA : ClassId} (ht : tys[t0]? = some (cA, ty)) (hfun : ∀ (U : State) (a b : ClassId), va_RA U a ty → va_RA U b ty → a = b) (hdv : defaultValue ty = .int 0) {n : Int32} (N : Nat) (hn : ¬ n < 0) (hN : n.toNatClampNeg = N) (hbytes : N * componentBytes ty ≤ 536870912) (d : decode cc pc = .ok (.newarray atype, 2)) (q : Nat) (hq : pc + 2 = q) (c2 s2 : Nat) (hc2 : cells + 1 = c2) (hs2 : slots + N = s2) (hcR : c2 ≤ R.cells) (hsR : s2 ≤ R.slots)
    (kk : ∀ a : Nat, zG p l e R s m args below meth c nL Q (cI D A H0 (W ++ [(a, .inl (cA, N, .inl (fun _ => 0)))])) c2 s2 q lv (.ref a :: rest)) : zG p l e R s m args below meth c nL Q (cI D A H0 W) cells slots pc lv (.int n :: rest) := by
  subst hq; subst hc2; subst hs2
  intro H locs ls ⟨hP, hD, hS⟩ hl
  refine va_newa S.1 S.2.1 harr hty hK hP hD hS hA (a0 := (N, .inl (fun _ => 0))) (fun cA => by rw [hdv]; rfl) hn hN hbytes hcR hsR d (fun a cB H1 hK1 hP1 hD1 hS1 => ?_)
  have e1 : cB = cA := hfun s cB cA (hK1.2 tys.length (cB, ty) (by simp)).2 (hK.2 t0 _ ht).2
  subst e1
  exact kk a H1 locs ls ⟨hP1, hD1, hS1⟩ hl
theorem n_newq (S : CallFix p m c cc nL s args Ts own) (hK : va_K D zCl tys s) (hA : ∀ q, H0.size ≤ q → A q) {index : Nat} {Cn : String} (hcl : (Cond.classLink own index Cn).before args s = true) (hover : va_AO Cn s) (t0 : Nat) {cA : ClassId} (ht : tys[t0]? = some (cA, .object Cn)) {n : Int32} (N : Nat) (hn : ¬ n < 0) (hN : n.toNatClampNeg = N) (hbytes : N * 4 ≤ 536870912) (d : decode cc pc = .ok (.anewarray index, 3)) (q : Nat) (hq : pc + 3 = q) (c2 s2 : Nat) (hc2 : cells + 1 = c2) (hs2 : slots + N = s2) (hcR : c2 ≤ R.cells) (hsR : s2 ≤ R.slots)
    (kk : ∀ a : Nat, zG p l e R s m args below meth c nL Q (cI D A H0 (W ++ [(a, .inl (cA, N, .inr (.inr (.inr (.inr (fun _ => none))))))])) c2 s2 q lv (.ref a :: rest)) : zG p l e R s m args below meth c nL Q (cI D A H0 W) cells slots pc lv (.int n :: rest) := by
  subst hq; subst hc2; subst hs2
  intro H locs ls ⟨hP, hD, hS⟩ hl
  refine va_newq S.1 S.2.1 S.2.2.2.1 hcl hover hK hP hD hS hA hn hN hbytes hcR hsR d (fun a cB H1 hK1 hP1 hD1 hS1 => ?_)
  have e1 : cB = cA := by
    obtain ⟨k1, p1, -, -, -, f1⟩ := (hK1.2 tys.length (cB, .object Cn) (by simp)).2
    obtain ⟨k2, p2, -, -, -, f2⟩ := (hK.2 t0 _ ht).2
    rw [f1] at f2
    exact Option.some.inj f2
  subst e1
  exact kk a H1 locs ls ⟨hP1, hD1, hS1⟩ hl
theorem n_iast (S : CallFix p m c cc nL s args Ts own) (hK : va_K D zCl tys s) {a : Nat} (j : Nat) (t0 : Nat) {cA : ClassId} {n : Nat} {f : Nat → Int32} (he : W[j]? = some (a, .inl (cA, n, .inl f))) (ht : tys[t0]? = some (cA, .int)) {i z : Int32} (hin : vp_in i n) (d : decode cc pc = .ok (.iastore, 1)) (q : Nat) (hq : pc + 1 = q) (W' : va_W) (hW : W.set j (a, .inl (cA, n, .inl (upd f i.toNatClampNeg z))) = W')
    (kk : zG p l e R s m args below meth c nL Q (cI D A H0 W') cells slots q lv rest) : zG p l e R s m args below meth c nL Q (cI D A H0 W) cells slots pc lv (.int z :: .int i :: .ref a :: rest) := by
  subst hq; subst hW
  intro H locs ls ⟨hP, hD, hS⟩ hl
  exact va_iast S.1 S.2.1 hK hP hD hS j t0 he ht hin d (fun H1 locs1 hP1 hD1 hS1 => kk H1 locs1 ls ⟨hP1, hD1, hS1⟩ hl)
theorem n_aast (S : CallFix p m c cc nL s args Ts own) (hK : va_K D zCl tys s) {a v : Nat} (j : Nat) (t0 ci : Nat) {cA : ClassId} {r : vw_C} {n : Nat} {vs : List Value} {f : Nat → Option Nat} (he : W[j]? = some (a, .inl (cA, n, .inr (.inr (.inr (.inr f)))))) (ht : tys[t0]? = some (cA, .object r.1)) (hm : (v, .inr (ci, vs)) ∈ W) (hc : zCl[ci]? = some r) {i : Int32} (hin : vp_in i n) (d : decode cc pc = .ok (.aastore, 1)) (q : Nat) (hq : pc + 1 = q) (W' : va_W) (hW : W.set j (a, .inl (cA, n, .inr (.inr (.inr (.inr (va_up f i.toNatClampNeg (some v))))))) = W')
    (kk : zG p l e R s m args below meth c nL Q (cI D A H0 W') cells slots q lv rest) : zG p l e R s m args below meth c nL Q (cI D A H0 W) cells slots pc lv (.ref v :: .int i :: .ref a :: rest) := by
  subst hq; subst hW
  intro H locs ls ⟨hP, hD, hS⟩ hl
  obtain ⟨k, hk⟩ := List.getElem?_of_mem hm
  exact va_astq S.1 S.2.1 hK hP hD hS j t0 k ci he ht hk hc hin d (fun H1 locs1 hP1 hD1 hS1 => kk H1 locs1 ls ⟨hP1, hD1, hS1⟩ hl)
theorem n_alen (S : CallFix p m c cc nL s args Ts own) (hK : va_K D zCl tys s) {a0 : Nat} (j : Nat) (t0 : Nat) {cA : ClassId} {a : vp_A} (he : W[j]? = some (a0, .inl (cA, a))) {ty : FieldType} (ht : tys[t0]? = some (cA, ty)) {v : Int32} (hv : Int32.ofNat a.1 = v) (d : decode cc pc = .ok (.arraylength, 1)) (q : Nat) (hq : pc + 1 = q)
    (kk : zG p l e R s m args below meth c nL Q (cI D A H0 W) cells slots q lv (.int v :: rest)) : zG p l e R s m args below meth c nL Q (cI D A H0 W) cells slots pc lv (.ref a0 :: rest) := by
  subst hq
  intro H locs ls ⟨hP, hD, hS⟩ hl
  exact va_alen S.1 S.2.1 hK hP j t0 he ht hv d (kk H locs ls ⟨hP, hD, hS⟩ hl)
theorem n_obj {I : Heap → List Loc → Prop} (S : CallFix p m c cc nL s args Ts own) {index a : Nat} (hlink : (Cond.methodLink own index Lib.objectInit).before args s = true) (hinst : (Cond.instanceMethod Lib.objectInit).before args s = true) (hcode : (Cond.code Lib.objectInit ⟨#[0xb1]⟩ 1 none).before args s = true) (hframes : 1 ≤ R.frames) (hlocals : (rest.map fun v => v.category).sum + 12 ≤ R.locals) (d : decode cc pc = .ok (.invokespecial index, 3)) (q : Nat) (hq : pc + 3 = q)
    (kk : zG p l e R s m args below meth c nL Q I cells slots q lv rest) : zG p l e R s m args below meth c nL Q I cells slots pc lv (.ref a :: rest) := by
  subst hq
  intro H locs ls hI hl
  refine W.objInit S.1 S.2.1 S.2.2.2.1 hlink hinst hcode rfl (hl.1.trans S.2.2.1.symm) rfl d hframes (by simpa [F0] using hlocals) ?_
  exact kk H locs ls hI hl
theorem n_blind {av : List Value} {h0 sz : Nat} {e0 : va_E} : FrameBlind (zNP D tys av h0 e0 sz) := fun _ U g mk q => ⟨q.1, q.2.1, q.2.2.1, va_K.moved (Vm.Alike.refl U.vm) q.2.2.2.1, nX.same rfl q.2.2.2.2⟩
theorem n_run {b mc ms : Nat} {e0 : va_E} {F : (Nat → Nat) → va_W} {av : Array Value} (W0 : va_W) (hW0 : W = W0 ++ [(b, e0)]) (hA : ∀ q, H0.size ≤ q → A q) (q : Nat) (hq : pc + 3 = q) (c2 s2 : Nat) (hc2 : cells + mc = c2) (hs2 : slots + ms = s2)
    (hr : ∀ (H : Heap) (locs : List Loc) (ls : Array Slot), va_P D zCl [(b, e0)] H → lv_has ls nL lv → va_Run p l e R s m args below meth c H locs cells slots mc ms (F0 m pc ls st) rest (zNQ D b F (va_A [(b, e0)] H.size) av) (va_A [(b, e0)] H.size))
    (kk : ∀ f : Nat → Nat, f 0 = b → zG p l e R s m args below meth c nL Q (cI D A H0 (W0 ++ F f)) c2 s2 q lv rest) : zG p l e R s m args below meth c nL Q (cI D A H0 W) cells slots pc lv st := by
  subst hq; subst hc2; subst hs2; subst hW0
  intro H locs ls ⟨hP, hD, hS⟩ hl T hT X
  have hb : (W0 ++ [(b, e0)])[W0.length]? = some (b, e0) := by simp
  have hPb : va_P D zCl [(b, e0)] H := fun k q hk => by
    have hz : k < 1 := (List.getElem?_eq_some_iff.mp hk).1
    rw [show k = 0 by omega] at hk
    cases hk
    exact hP _ _ hb
  obtain ⟨v', st₀, t, T', L, h0, X', hL, e1, e2, ⟨⟨hv, f, hf, hPf, hDf⟩, hz, hk⟩, go⟩ := hr H locs ls hPb hl T hT X
  cases hv
  rw [h0] at hz hk
  have hAb : A b := hD.2 _ _ hb
  have hAq : ∀ q, va_A [(b, e0)] H.size q → A q := fun q h => by
    rcases h with ⟨k, e', hk⟩ | h
    · have hz : k < 1 := (List.getElem?_eq_some_iff.mp hk).1
      rw [show k = 0 by omega] at hk
      cases hk
      exact hAb
    · exact hA q (Nat.le_trans hS.1 h)
  have apart : ∀ (k : Nat) (x : Nat × va_E), W0[k]? = some x → x.1 < H.size ∧ ¬ va_A [(b, e0)] H.size x.1 := fun k x hx => by
    have hk0 : k < W0.length := (List.getElem?_eq_some_iff.mp hx).1
    have hx1 : (W0 ++ [(b, e0)])[k]? = some x := by rw [List.getElem?_append_left hk0]; exact hx
    refine ⟨(hP k x hx1).lt, fun h => ?_⟩
    rcases h with ⟨k2, e', hk2⟩ | h
    · have hz : k2 < 1 := (List.getElem?_eq_some_iff.mp hk2).1
      rw [show k2 = 0 by omega] at hk2
      have hxb : x.1 = b := (congrArg Prod.fst (Option.some.inj hk2)).symm
      have := hD.1 k W0.length x (b, e0) hx1 hb hxb
      omega
    · exact absurd (hP k x hx1).lt (by omega)
  have hP0 : va_P D zCl W0 T'.heap := fun k x hx => by
    have hk0 : k < W0.length := (List.getElem?_eq_some_iff.mp hx).1
    have hx1 : (W0 ++ [(b, e0)])[k]? = some x := by rw [List.getElem?_append_left hk0]; exact hx
    exact (hP k x hx1).kept (by rw [e1]; exact hk x.1 (apart k x hx).1 (apart k x hx).2)
  have hD0 : va_D A W0 := ⟨fun i j x y hi hj hxy => by
      have a1 : i < W0.length := (List.getElem?_eq_some_iff.mp hi).1
      have a2 : j < W0.length := (List.getElem?_eq_some_iff.mp hj).1
      exact hD.1 i j x y (by rw [List.getElem?_append_left a1]; exact hi) (by rw [List.getElem?_append_left a2]; exact hj) hxy, fun k x hx => by
      have a1 : k < W0.length := (List.getElem?_eq_some_iff.mp hx).1
      exact hD.2 k x (by rw [List.getElem?_append_left a1]; exact hx)⟩
  have hD1 : va_D A (W0 ++ F f) := hD0.app (hDf.weaken (fun _ _ _ h => hAq _ h)) (fun i j x y hi hj hxy => (apart i x hi).2 (by rw [hxy]; exact hDf.2 j y hj))
  obtain ⟨t2, a1, b1⟩ := kk f hf T'.heap (locs ++ L) ls ⟨hP0.app (by rw [e1]; exact hPf), hD1, Nat.le_trans hS.1 (by rw [e1]; exact hz), fun q h1 h2 => by rw [e1, hk q (Nat.lt_of_lt_of_le h1 hS.1) (fun z => h2 (hAq q z))]; exact hS.2.1 q h1 h2, fun q hq => by
      rcases List.mem_append.mp hq with h | h
      · exact hS.2.2 q h
      · exact hAq _ (hL q h)⟩ hl T' rfl X'
  exact ⟨t2, go t2 a1, b1⟩
theorem n_init (S : CallFix p m c cc nL s args Ts own) (hK : va_K D zCl tys s) (hX : nX s) (hA : ∀ q, H0.size ≤ q → A q) {y : MethodName} {ws : List Cond} {rm : Room} {As : List Value} {index maxL n b mc ms : Nat} {bytes : ByteArray} {e0 : va_E} {F : (Nat → Nat) → va_W} (W0 : va_W) (hW0 : W = W0 ++ [(b, e0)])
    (hM : zN l y ws rm D tys (.ref b :: As) b e0 F mc ms) (cw : CallB R s args own index y bytes maxL none ws rm mc ms n ∧ y.name = "<init>" ∧ (Cond.instanceMethod y).before args s = true) (hn : As.length = n) (hst : st = As.reverse ++ .ref b :: rest) (hW : (rest.map fun v => v.category).sum ≤ 8) (d : decode cc pc = .ok (.invokespecial index, 3)) (q : Nat) (hq : pc + 3 = q) (c2 s2 : Nat) (hc2 : cells + mc = c2) (hs2 : slots + ms = s2) (hcR : c2 ≤ R.cells) (hsR : s2 ≤ R.slots)
    (kk : ∀ f : Nat → Nat, f 0 = b → zG p l e R s m args below meth c nL Q (cI D A H0 (W0 ++ F f)) c2 s2 q lv rest) : zG p l e R s m args below meth c nL Q (cI D A H0 W) cells slots pc lv st :=
  n_run (av := (Value.ref b :: As).toArray) W0 hW0 hA q hq c2 s2 hc2 hs2 (fun H locs ls hPb hl => va_runI S (hM H.size) cw ⟨n_blind, fun U hU hW => ⟨rfl, by rw [hU], by rw [hU]; exact hPb, va_K.moved hW.alike hK, hX.warm hW⟩⟩ rfl hn hl.1 hst (lv_room hW) d ⟨by omega, by omega⟩) kk
theorem n_initN (S : CallFix p m c cc nL s args Ts own) (hK : va_K D zCl tys s) (hX : nX s) (hA : ∀ q, H0.size ≤ q → A q) {y : MethodName} {ws : List Cond} {rm : Room} {As : List Value} {host : String} {index maxL n b mc ms : Nat} {bytes : ByteArray} {e0 : va_E} {F : (Nat → Nat) → va_W} (W0 : va_W) (hW0 : W = W0 ++ [(b, e0)])
    (hM : zN l y ws rm D tys (.ref b :: As) b e0 F mc ms) (cw : va_CN R s args own index y host bytes maxL none ws rm mc ms n ∧ y.name = "<init>" ∧ (Cond.instanceMethod y).before args s = true) (hn : As.length = n) (hst : st = As.reverse ++ .ref b :: rest) (hW : (rest.map fun v => v.category).sum ≤ 8) (d : decode cc pc = .ok (.invokespecial index, 3)) (q : Nat) (hq : pc + 3 = q) (c2 s2 : Nat) (hc2 : cells + mc = c2) (hs2 : slots + ms = s2) (hcR : c2 ≤ R.cells) (hsR : s2 ≤ R.slots)
    (kk : ∀ f : Nat → Nat, f 0 = b → zG p l e R s m args below meth c nL Q (cI D A H0 (W0 ++ F f)) c2 s2 q lv rest) : zG p l e R s m args below meth c nL Q (cI D A H0 W) cells slots pc lv st :=
  n_run (av := (Value.ref b :: As).toArray) W0 hW0 hA q hq c2 s2 hc2 hs2 (fun H locs ls hPb hl => va_runIN S (hM H.size) cw ⟨n_blind, fun U hU hW => ⟨rfl, by rw [hU], by rw [hU]; exact hPb, va_K.moved hW.alike hK, hX.warm hW⟩⟩ rfl hn hl.1 hst (lv_room hW) d ⟨by omega, by omega⟩) kk
theorem n_vret {h0 : Nat} {F : (Nat → Nat) → va_W} (S : CallFix p m c cc nL s args Ts own) (hr : meth.sig.returnType = none) (hlocks : meth.locks = false) (d : decode cc pc = .ok (.return_, 1)) (f : Nat → Nat) (hf : f 0 = h0) (hW : W = F f) : zG p l e R s m args below meth c nL (MQ below (zNQ D h0 F A) args s cells slots A) (cI D A s.heap W) cells slots pc lv [] := by
  subst hW
  exact fun H locs ls ⟨hP, hD, hS⟩ hl => W.vret S.1 S.2.1 hr (fun t ht hW => ⟨⟨rfl, f, hf, by rw [ht]; exact hP, hD⟩, hS.F ht⟩) hS.2.2 d hlocks
theorem n_w {W2 : va_W} (h : W = W2) (k : zG p l e R s m args below meth c nL Q (cI D A H0 W2) cells slots pc lv st) : zG p l e R s m args below meth c nL Q (cI D A H0 W) cells slots pc lv st := h ▸ k
end NR
/-- words and room of a constructor's call -/
theorem n_cw {R : Room} {s : State} {args : Array Value} {c0 : Cond} {own : String} {idx mc ms maxL n : Nat} {rm : Room} {y : MethodName} {bytes : ByteArray} (hts : ∀ w ∈ c0 :: zWs, w.before args s = true) (h1 : Cond.methodLink own idx y ∈ zWs) (h2 : Cond.instanceMethod y ∈ zWs) (h4 : Cond.initialized y.cls ∈ zWs) (h5 : Cond.code y bytes maxL none ∈ zWs) (hyn : y.name = "<init>") (hd : y.cls ≠ "java/lang/invoke/MethodHandle" ∧ y.cls ≠ "java/lang/invoke/VarHandle" ∧ (parseMethodDescriptor y.desc).map (fun d => d.parameters.length) = some n) (hrc : rm.cells = mc) (hrs : rm.slots = ms) (hR : rm.frames + 1 ≤ R.frames ∧ 8 + (maxL + 11) + rm.locals ≤ R.locals) : CallB R s args own idx y bytes maxL none (Cond.code y bytes maxL none :: zWs) rm mc ms n ∧ y.name = "<init>" ∧ (Cond.instanceMethod y).before args s = true :=
  cwI n hts (zGoodI h5) rfl hrc hrs (hts _ (List.mem_cons_of_mem _ h4)) (hts _ (List.mem_cons_of_mem _ h1)) (hts _ (List.mem_cons_of_mem _ h2)) hyn hd hR
theorem n_cwN {R : Room} {s : State} {args : Array Value} {c0 : Cond} {own host : String} {idx mc ms maxL n : Nat} {rm : Room} {y : MethodName} {bytes : ByteArray} (hts : ∀ w ∈ c0 :: zWs, w.before args s = true) (h1 : va_Nw (.methodLinkNest own idx y host) s) (h2 : Cond.instanceMethod y ∈ zWs) (h4 : Cond.initialized y.cls ∈ zWs) (h5 : Cond.code y bytes maxL none ∈ zWs) (hyn : y.name = "<init>") (hd : y.cls ≠ "java/lang/invoke/MethodHandle" ∧ y.cls ≠ "java/lang/invoke/VarHandle" ∧ (parseMethodDescriptor y.desc).map (fun d => d.parameters.length) = some n) (hrc : rm.cells = mc) (hrs : rm.slots = ms) (hR : rm.frames + 1 ≤ R.frames ∧ 8 + (maxL + 11) + rm.locals ≤ R.locals) : va_CN R s args own idx y host bytes maxL none (Cond.code y bytes maxL none :: zWs) rm mc ms n ∧ y.name = "<init>" ∧ (Cond.instanceMethod y).before args s = true :=
  ⟨va_cnB n hts (zGoodI h5) rfl hrc hrs h1 (hts _ (List.mem_cons_of_mem _ h4)) hd hR, hyn, hts _ (List.mem_cons_of_mem _ h2)⟩
theorem ra_int {U : State} {a b : ClassId} (h1 : va_RA U a .int) (h2 : va_RA U b .int) : a = b := Option.some.inj ((show U.vm.findClass _ = some a from h1).symm.trans (show U.vm.findClass _ = some b from h2))
theorem ra_bool {U : State} {a b : ClassId} (h1 : va_RA U a .boolean) (h2 : va_RA U b .boolean) : a = b := Option.some.inj ((show U.vm.findClass _ = some a from h1).symm.trans (show U.vm.findClass _ = some b from h2))
theorem ra_short {U : State} {a b : ClassId} (h1 : va_RA U a .short) (h2 : va_RA U b .short) : a = b := Option.some.inj ((show U.vm.findClass _ = some a from h1).symm.trans (show U.vm.findClass _ = some b from h2))
