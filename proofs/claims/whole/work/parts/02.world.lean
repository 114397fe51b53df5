/-! worlds by roles: a role is (kind, index); ad gives its address; C its cell -/
def zw_W (RL : List (Nat × Nat)) (ad : Nat → Nat → Nat) (C : Nat → Nat → va_E) : va_W := RL.map (fun r => (ad r.1 r.2, C r.1 r.2))
def zw_A (RL : List (Nat × Nat)) (ad : Nat → Nat → Nat) : Nat → Prop := fun q => ∃ r : Nat × Nat, r ∈ RL ∧ q = ad r.1 r.2
def zw_J (RL : List (Nat × Nat)) (ad : Nat → Nat → Nat) : Prop := ∀ (i j : Nat) (p q : Nat × Nat), RL[i]? = some p → RL[j]? = some q → ad p.1 p.2 = ad q.1 q.2 → i = j
def zw_up (C : Nat → Nat → va_E) (k i : Nat) (e : va_E) : Nat → Nat → va_E := fun a b => if a = k ∧ b = i then e else C a b
theorem zw_at {RL : List (Nat × Nat)} {ad : Nat → Nat → Nat} {C : Nat → Nat → va_E} {j : Nat} {q : Nat × va_E} (h : (zw_W RL ad C)[j]? = some q) : ∃ r : Nat × Nat, RL[j]? = some r ∧ q = (ad r.1 r.2, C r.1 r.2) := by
  unfold zw_W at h
  rw [List.getElem?_map] at h
  cases hr : RL[j]? with
  | none => rw [hr] at h; cases h
  | some r => rw [hr] at h; exact ⟨r, rfl, (Option.some.inj h).symm⟩
theorem zw_get {RL : List (Nat × Nat)} {ad : Nat → Nat → Nat} {C : Nat → Nat → va_E} {k i : Nat} (h : (k, i) ∈ RL) : ∃ j : Nat, RL[j]? = some (k, i) ∧ (zw_W RL ad C)[j]? = some (ad k i, C k i) := by
  obtain ⟨j, hj⟩ := List.getElem?_of_mem h
  refine ⟨j, hj, ?_⟩
  unfold zw_W
  rw [List.getElem?_map, hj]
  rfl
theorem zw_D {RL : List (Nat × Nat)} {ad : Nat → Nat → Nat} {C : Nat → Nat → va_E} (hJ : zw_J RL ad) : va_D (zw_A RL ad) (zw_W RL ad C) := by
  refine ⟨fun i j x y hi hj hxy => ?_, fun k q hk => ?_⟩
  · obtain ⟨r1, h1, e1⟩ := zw_at hi
    obtain ⟨r2, h2, e2⟩ := zw_at hj
    rw [e1, e2] at hxy
    exact hJ i j r1 r2 h1 h2 hxy
  · obtain ⟨r, h1, e1⟩ := zw_at hk
    rw [e1]
    exact ⟨r, List.mem_of_getElem? h1, rfl⟩
theorem zw_set {RL : List (Nat × Nat)} {ad : Nat → Nat → Nat} {C : Nat → Nat → va_E} {k i j : Nat} {e : va_E} (hJ : zw_J RL ad) (hj : RL[j]? = some (k, i)) : (zw_W RL ad C).set j (ad k i, e) = zw_W RL ad (zw_up C k i e) := by
  apply List.ext_getElem?
  intro x
  by_cases hx : x = j
  · subst hx
    have hl : x < (zw_W RL ad C).length := by
      unfold zw_W
      rw [List.length_map]
      exact (List.getElem?_eq_some_iff.mp hj).1
    rw [List.getElem?_set_self hl]
    unfold zw_W
    rw [List.getElem?_map, hj]
    simp [zw_up]
  · rw [List.getElem?_set_ne (Ne.symm hx)]
    unfold zw_W
    rw [List.getElem?_map, List.getElem?_map]
    cases hr : RL[x]? with
    | none => rfl
    | some r =>
      have hne : ¬ (r.1 = k ∧ r.2 = i) := fun h => hx (hJ x j r (k, i) hr hj (by rw [h.1, h.2]))
      simp [zw_up, hne]
/-- the judgement: at pc, with these locals and this stack, over any heap of which I holds -/
def zG (p : Program) (l : Launch) (e : Env) (R : Room) (s : State) (m : MethodId) (args : Array Value) (below : List Frame) (meth : Method) (c : Code) (nL : Nat) (Q : State → Prop) (I : Heap → List Loc → Prop) (cells slots : Nat) (pc : Nat) (lv : List (Nat × Value)) (st : List Value) : Prop :=
  ∀ (H : Heap) (locs : List Loc) (ls : Array Slot), I H locs → lv_has ls nL lv → W p l e R s m args below meth c H locs cells slots Q (F0 m pc ls st)
/-- the heap holds the world C, and nothing outside of it has changed -/
def zI (D : va_G) (cl : List vw_C) (RL : List (Nat × Nat)) (ad : Nat → Nat → Nat) (H0 : Heap) (C : Nat → Nat → va_E) : Heap → List Loc → Prop := fun H locs => va_P D cl (zw_W RL ad C) H ∧ va_S (zw_A RL ad) H0 H locs
def zQ (D : va_G) (cl : List vw_C) (RL : List (Nat × Nat)) (ad : Nat → Nat → Nat) (v : Option Value) (C : Nat → Nat → va_E) : Array Value → State → Outcome → State → Prop := fun _ st oc t => (oc = .returned v ∧ va_P D cl (zw_W RL ad C) t.heap) ∧ va_F (zw_A RL ad) st t
def zPc (D : va_G) (cl : List vw_C) (tys : List (ClassId × FieldType)) (RL : List (Nat × Nat)) (ad : Nat → Nat → Nat) (av : List Value) (C : Nat → Nat → va_E) : Array Value → State → Prop := va_Pc av (fun U => va_P D cl (zw_W RL ad C) U.heap ∧ va_K D cl tys U)
/-- a method's contract: with the arguments av, in the world C, it returns v and leaves the world C' -/
def zM (l : Launch) (y : MethodName) (ws : List Cond) (rm : Room) (D : va_G) (cl : List vw_C) (tys : List (ClassId × FieldType)) (RL : List (Nat × Nat)) (ad : Nat → Nat → Nat) (av : List Value) (C : Nat → Nat → va_E) (v : Option Value) (C' : Nat → Nat → va_E) : Prop :=
  Met l y ws rm (zPc D cl tys RL ad av C) (zQ D cl RL ad v C') 0 0 (zw_A RL ad)
theorem zM.of {l : Launch} {y : MethodName} {ws ws' : List Cond} {rm : Room} {D : va_G} {cl : List vw_C} {tys : List (ClassId × FieldType)} {RL : List (Nat × Nat)} {ad : Nat → Nat → Nat} {av : List Value} {C : Nat → Nat → va_E} {v : Option Value} {C' : Nat → Nat → va_E} {cc : ByteArray} {maxL : Nat} {ret : Option FieldType}
    (hy : plainName y.cls = true) (hw : ws = Cond.code y cc maxL ret :: ws') (hn : (lg_sl av).length ≤ maxL)
    (body : ∀ (p : Program) (e : Env) (s : State) (m : MethodId) (below : List Frame) (meth : Method) (c : Code), CallFix p m c cc maxL s av.toArray ws y.cls → meth.sig.returnType = ret → meth.locks = false → va_K D cl tys s →
      zG p l e (headSpec ws rm).room s m av.toArray below meth c maxL (MQ below (zQ D cl RL ad v C') av.toArray s 0 0 (zw_A RL ad)) (zI D cl RL ad s.heap C) 0 0 0 (lv_args 0 av) []) : zM l y ws rm D cl tys RL ad av C v C' := by
  refine Met.ofW (cc := cc) (maxL := maxL) (ret := ret) hy hw ?_
  intro p e s m args below meth c s₁ B hml hv
  obtain ⟨rfl, hP, hK⟩ := hv
  have hl := lv_entry av (n := maxL) hn
  rw [lg_entry_eq]
  exact body p e s m below meth c ⟨B.exec, B.bytes, hml, findClass_of_methodNamed B.named, atoms_spec (ws := ws) B.pre⟩ B.returns B.notSynchronized hK s.heap [] _ ⟨hP, va_S.rf⟩ hl
section ZR
variable {p : Program} {l : Launch} {e : Env} {R : Room} {s : State} {m : MethodId} {args : Array Value} {below : List Frame} {meth : Method} {c : Code} {nL : Nat} {D : va_G} {cl : List vw_C} {tys : List (ClassId × FieldType)} {RL : List (Nat × Nat)} {ad : Nat → Nat → Nat} {H0 : Heap} {Q : State → Prop} {C C' : Nat → Nat → va_E} {I : Heap → List Loc → Prop} {cells slots pc : Nat} {lv lv' : List (Nat × Value)} {st rest : List Value} {cc : ByteArray} {Ts : List Cond} {own : String}
/-- a field is read -/
theorem z_get (S : CallFix p m c cc nL s args Ts own) (hK : va_K D cl tys s) {ref Cn : String} {T : u_T} {N ci index : Nat} (hin : ∀ w ∈ u_ws Cn T N, w ∈ Ts) {x i : Nat} (hr : (x, i) ∈ RL) {fs : List Value} (hcell : C x i = .inr (ci, fs)) (hc : cl[ci]? = some (Cn, T, N)) (k : Nat) (hk : k < N) (hlink : (Cond.fieldLink own index ref (T k).2.1 (T k).2.2.1).before args s = true) (hsame : ∀ x, s.fieldFound? (T k).1 (T k).2.1 (T k).2.2.1 = some x → s.fieldFound? ref (T k).2.1 (T k).2.2.1 = some x) (d : decode cc pc = .ok (.getfield index, 3)) (q : Nat) (hq : pc + 3 = q) (v : Value) (hv : fs[k]? = some v)
    (kk : zG p l e R s m args below meth c nL Q (zI D cl RL ad H0 C) 0 0 q lv (v :: rest)) : zG p l e R s m args below meth c nL Q (zI D cl RL ad H0 C) 0 0 pc lv (.ref (ad x i) :: rest) := by
  subst hq
  intro H locs ls ⟨hP, hS⟩ hl
  obtain ⟨j, -, h0⟩ := zw_get (ad := ad) (C := C) hr
  rw [hcell] at h0
  exact va_get S.1 S.2.1 S.2.2.2.2 hin S.2.2.2.1 hK hP j h0 hc k hk hlink hsame hv d (kk H locs ls ⟨hP, hS⟩ hl)
/-- a field is written -/
theorem z_put (S : CallFix p m c cc nL s args Ts own) (hJ : zw_J RL ad) (hK : va_K D cl tys s) {ref Cn : String} {T : u_T} {N ci index : Nat} (hin : ∀ w ∈ u_ws Cn T N, w ∈ Ts) (ty0 : Nat → FieldType) (hty : ∀ k, k < N → parseFieldDescriptor (T k).2.2.1 = some (ty0 k)) (hnm : ∀ a, a < N → ∀ b, b < N → a ≠ b → (T a).2.1 ≠ (T b).2.1) {x i : Nat} (hr : (x, i) ∈ RL) {fs : List Value} (hcell : C x i = .inr (ci, fs)) (hc : cl[ci]? = some (Cn, T, N)) (k : Nat) (hk : k < N) (hlink : (Cond.fieldLink own index ref (T k).2.1 (T k).2.2.1).before args s = true) (hsame : ∀ x, s.fieldFound? (T k).1 (T k).2.1 (T k).2.2.1 = some x → s.fieldFound? ref (T k).2.1 (T k).2.2.1 = some x) (hfin : (T k).2.2.2 = false) {v : Value} (hn : narrow (ty0 k) v = v) (hfit : fits (ty0 k) v = true) (hl : k < fs.length) (hC : zw_up C x i (.inr (ci, fs.set k v)) = C') (d : decode cc pc = .ok (.putfield index, 3)) (q : Nat) (hq : pc + 3 = q)
    (kk : zG p l e R s m args below meth c nL Q (zI D cl RL ad H0 C') 0 0 q lv rest) : zG p l e R s m args below meth c nL Q (zI D cl RL ad H0 C) 0 0 pc lv (v :: .ref (ad x i) :: rest) := by
  subst hq
  intro H locs ls ⟨hP, hS⟩ hlv
  obtain ⟨j, hj, h0⟩ := zw_get (ad := ad) (C := C) hr
  rw [hcell] at h0
  refine va_put S.1 S.2.1 S.2.2.2.2 hin ty0 hty hnm S.2.2.2.1 hK hP (zw_D hJ) hS j h0 hc k hk hlink hsame hfin (hty k hk) hn hfit hl d (fun H1 locs1 hP1 _ hS1 => ?_)
  rw [zw_set hJ hj, hC] at hP1
  exact kk H1 locs1 ls ⟨hP1, hS1⟩ hlv
theorem z_iald (S : CallFix p m c cc nL s args Ts own) (hK : va_K D cl tys s) {x i : Nat} (hr : (x, i) ∈ RL) (t0 : Nat) {cA : ClassId} {n : Nat} {f : Nat → Int32} (hcell : C x i = .inl (cA, n, .inl f)) (ht : tys[t0]? = some (cA, .int)) {j : Int32} (hin : vp_in j n) (d : decode cc pc = .ok (.iaload, 1)) (q : Nat) (hq : pc + 1 = q) (v : Int32) (hv : f j.toNatClampNeg = v)
    (kk : zG p l e R s m args below meth c nL Q (zI D cl RL ad H0 C) 0 0 q lv (.int v :: rest)) : zG p l e R s m args below meth c nL Q (zI D cl RL ad H0 C) 0 0 pc lv (.int j :: .ref (ad x i) :: rest) := by
  subst hq
  subst hv
  intro H locs ls ⟨hP, hS⟩ hl
  obtain ⟨q, -, h0⟩ := zw_get (ad := ad) (C := C) hr
  rw [hcell] at h0
  exact va_iald S.1 S.2.1 hK hP q t0 h0 ht hin d (kk H locs ls ⟨hP, hS⟩ hl)
theorem z_iast (S : CallFix p m c cc nL s args Ts own) (hJ : zw_J RL ad) (hK : va_K D cl tys s) {x i : Nat} (hr : (x, i) ∈ RL) (t0 : Nat) {cA : ClassId} {n : Nat} {f : Nat → Int32} (hcell : C x i = .inl (cA, n, .inl f)) (ht : tys[t0]? = some (cA, .int)) {j z w : Int32} (hin : vp_in j n) (hw : z = w) (hC : zw_up C x i (.inl (cA, n, .inl (upd f j.toNatClampNeg w))) = C') (d : decode cc pc = .ok (.iastore, 1)) (q : Nat) (hq : pc + 1 = q)
    (kk : zG p l e R s m args below meth c nL Q (zI D cl RL ad H0 C') 0 0 q lv rest) : zG p l e R s m args below meth c nL Q (zI D cl RL ad H0 C) 0 0 pc lv (.int z :: .int j :: .ref (ad x i) :: rest) := by
  subst hq
  subst hw
  intro H locs ls ⟨hP, hS⟩ hl
  obtain ⟨q, hq, h0⟩ := zw_get (ad := ad) (C := C) hr
  rw [hcell] at h0
  refine va_iast S.1 S.2.1 hK hP (zw_D hJ) hS q t0 h0 ht hin d (fun H1 locs1 hP1 _ hS1 => ?_)
  rw [zw_set hJ hq, hC] at hP1
  exact kk H1 locs1 ls ⟨hP1, hS1⟩ hl
theorem z_zald (S : CallFix p m c cc nL s args Ts own) (hK : va_K D cl tys s) {x i : Nat} (hr : (x, i) ∈ RL) (t0 : Nat) {cA : ClassId} {n : Nat} {f : Nat → Int32} (hcell : C x i = .inl (cA, n, .inl f)) (ht : tys[t0]? = some (cA, .boolean)) {j : Int32} (hin : vp_in j n) (d : decode cc pc = .ok (.baload, 1)) (q : Nat) (hq : pc + 1 = q) (v : Int32) (hv : f j.toNatClampNeg = v)
    (kk : zG p l e R s m args below meth c nL Q (zI D cl RL ad H0 C) 0 0 q lv (.int v :: rest)) : zG p l e R s m args below meth c nL Q (zI D cl RL ad H0 C) 0 0 pc lv (.int j :: .ref (ad x i) :: rest) := by
  subst hq
  subst hv
  intro H locs ls ⟨hP, hS⟩ hl
  obtain ⟨q, -, h0⟩ := zw_get (ad := ad) (C := C) hr
  rw [hcell] at h0
  exact va_zald S.1 S.2.1 hK hP q t0 h0 ht hin d (kk H locs ls ⟨hP, hS⟩ hl)
theorem z_zast (S : CallFix p m c cc nL s args Ts own) (hJ : zw_J RL ad) (hK : va_K D cl tys s) {x i : Nat} (hr : (x, i) ∈ RL) (t0 : Nat) {cA : ClassId} {n : Nat} {f : Nat → Int32} (hcell : C x i = .inl (cA, n, .inl f)) (ht : tys[t0]? = some (cA, .boolean)) {j z w : Int32} (hin : vp_in j n) (hw : vp_nar .boolean z = w) (hC : zw_up C x i (.inl (cA, n, .inl (upd f j.toNatClampNeg w))) = C') (d : decode cc pc = .ok (.bastore, 1)) (q : Nat) (hq : pc + 1 = q)
    (kk : zG p l e R s m args below meth c nL Q (zI D cl RL ad H0 C') 0 0 q lv rest) : zG p l e R s m args below meth c nL Q (zI D cl RL ad H0 C) 0 0 pc lv (.int z :: .int j :: .ref (ad x i) :: rest) := by
  subst hq
  subst hw
  intro H locs ls ⟨hP, hS⟩ hl
  obtain ⟨q, hq, h0⟩ := zw_get (ad := ad) (C := C) hr
  rw [hcell] at h0
  refine va_zast S.1 S.2.1 hK hP (zw_D hJ) hS q t0 h0 ht hin d (fun H1 locs1 hP1 _ hS1 => ?_)
  rw [zw_set hJ hq, hC] at hP1
  exact kk H1 locs1 ls ⟨hP1, hS1⟩ hl
theorem z_sald (S : CallFix p m c cc nL s args Ts own) (hK : va_K D cl tys s) {x i : Nat} (hr : (x, i) ∈ RL) (t0 : Nat) {cA : ClassId} {n : Nat} {f : Nat → Int32} (hcell : C x i = .inl (cA, n, .inl f)) (ht : tys[t0]? = some (cA, .short)) {j : Int32} (hin : vp_in j n) (d : decode cc pc = .ok (.saload, 1)) (q : Nat) (hq : pc + 1 = q) (v : Int32) (hv : f j.toNatClampNeg = v)
    (kk : zG p l e R s m args below meth c nL Q (zI D cl RL ad H0 C) 0 0 q lv (.int v :: rest)) : zG p l e R s m args below meth c nL Q (zI D cl RL ad H0 C) 0 0 pc lv (.int j :: .ref (ad x i) :: rest) := by
  subst hq
  subst hv
  intro H locs ls ⟨hP, hS⟩ hl
  obtain ⟨q, -, h0⟩ := zw_get (ad := ad) (C := C) hr
  rw [hcell] at h0
  exact va_sald S.1 S.2.1 hK hP q t0 h0 ht hin d (kk H locs ls ⟨hP, hS⟩ hl)
theorem z_sast (S : CallFix p m c cc nL s args Ts own) (hJ : zw_J RL ad) (hK : va_K D cl tys s) {x i : Nat} (hr : (x, i) ∈ RL) (t0 : Nat) {cA : ClassId} {n : Nat} {f : Nat → Int32} (hcell : C x i = .inl (cA, n, .inl f)) (ht : tys[t0]? = some (cA, .short)) {j z w : Int32} (hin : vp_in j n) (hw : vp_nar .short z = w) (hC : zw_up C x i (.inl (cA, n, .inl (upd f j.toNatClampNeg w))) = C') (d : decode cc pc = .ok (.sastore, 1)) (q : Nat) (hq : pc + 1 = q)
    (kk : zG p l e R s m args below meth c nL Q (zI D cl RL ad H0 C') 0 0 q lv rest) : zG p l e R s m args below meth c nL Q (zI D cl RL ad H0 C) 0 0 pc lv (.int z :: .int j :: .ref (ad x i) :: rest) := by
  subst hq
  subst hw
  intro H locs ls ⟨hP, hS⟩ hl
  obtain ⟨q, hq, h0⟩ := zw_get (ad := ad) (C := C) hr
  rw [hcell] at h0
  refine va_sast S.1 S.2.1 hK hP (zw_D hJ) hS q t0 h0 ht hin d (fun H1 locs1 hP1 _ hS1 => ?_)
  rw [zw_set hJ hq, hC] at hP1
  exact kk H1 locs1 ls ⟨hP1, hS1⟩ hl
/-- a reference is read out of an array / written to it / lengths / copies / Math -/
theorem z_aald (S : CallFix p m c cc nL s args Ts own) (hK : va_K D cl tys s) {x i : Nat} (hr : (x, i) ∈ RL) (t0 : Nat) {cA : ClassId} {Cn : String} {n y : Nat} {f : Nat → Option Nat} (hcell : C x i = .inl (cA, n, .inr (.inr (.inr (.inr f))))) (ht : tys[t0]? = some (cA, .object Cn)) {j : Int32} (hin : vp_in j n) (hy : f j.toNatClampNeg = some y) (d : decode cc pc = .ok (.aaload, 1)) (q : Nat) (hq : pc + 1 = q)
    (kk : zG p l e R s m args below meth c nL Q (zI D cl RL ad H0 C) 0 0 q lv (.ref y :: rest)) : zG p l e R s m args below meth c nL Q (zI D cl RL ad H0 C) 0 0 pc lv (.int j :: .ref (ad x i) :: rest) := by
  subst hq
  intro H locs ls ⟨hP, hS⟩ hl
  obtain ⟨q, -, h0⟩ := zw_get (ad := ad) (C := C) hr
  rw [hcell] at h0
  refine va_aldq S.1 S.2.1 hK hP q t0 h0 ht hin d ?_
  rw [hy]
  exact kk H locs ls ⟨hP, hS⟩ hl
theorem z_aast (S : CallFix p m c cc nL s args Ts own) (hJ : zw_J RL ad) (hK : va_K D cl tys s) {x i : Nat} (hr : (x, i) ∈ RL) (t0 ci : Nat) {cA : ClassId} {r : vw_C} {n x2 i2 : Nat} {vs : List Value} {f : Nat → Option Nat} (hcell : C x i = .inl (cA, n, .inr (.inr (.inr (.inr f))))) (ht : tys[t0]? = some (cA, .object r.1)) (hr2 : (x2, i2) ∈ RL) (hcell2 : C x2 i2 = .inr (ci, vs)) (hc : cl[ci]? = some r) {j : Int32} (hin : vp_in j n) (hC : zw_up C x i (.inl (cA, n, .inr (.inr (.inr (.inr (va_up f j.toNatClampNeg (some (ad x2 i2)))))))) = C') (d : decode cc pc = .ok (.aastore, 1)) (q : Nat) (hq : pc + 1 = q)
    (kk : zG p l e R s m args below meth c nL Q (zI D cl RL ad H0 C') 0 0 q lv rest) : zG p l e R s m args below meth c nL Q (zI D cl RL ad H0 C) 0 0 pc lv (.ref (ad x2 i2) :: .int j :: .ref (ad x i) :: rest) := by
  subst hq
  intro H locs ls ⟨hP, hS⟩ hl
  obtain ⟨q, hq, h0⟩ := zw_get (ad := ad) (C := C) hr
  obtain ⟨q2, -, h2⟩ := zw_get (ad := ad) (C := C) hr2
  rw [hcell] at h0
  rw [hcell2] at h2
  refine va_astq S.1 S.2.1 hK hP (zw_D hJ) hS q t0 q2 ci h0 ht h2 hc hin d (fun H1 locs1 hP1 _ hS1 => ?_)
  rw [zw_set hJ hq, hC] at hP1
  exact kk H1 locs1 ls ⟨hP1, hS1⟩ hl
theorem z_alen (S : CallFix p m c cc nL s args Ts own) (hK : va_K D cl tys s) {x i : Nat} (hr : (x, i) ∈ RL) (t0 : Nat) {cA : ClassId} {a : vp_A} (hcell : C x i = .inl (cA, a)) {ty : FieldType} (ht : tys[t0]? = some (cA, ty)) {v : Int32} (hv : Int32.ofNat a.1 = v) (d : decode cc pc = .ok (.arraylength, 1)) (q : Nat) (hq : pc + 1 = q)
    (kk : zG p l e R s m args below meth c nL Q (zI D cl RL ad H0 C) 0 0 q lv (.int v :: rest)) : zG p l e R s m args below meth c nL Q (zI D cl RL ad H0 C) 0 0 pc lv (.ref (ad x i) :: rest) := by
  subst hq
  intro H locs ls ⟨hP, hS⟩ hl
  obtain ⟨q, -, h0⟩ := zw_get (ad := ad) (C := C) hr
  rw [hcell] at h0
  exact va_alen S.1 S.2.1 hK hP q t0 h0 ht hv d (kk H locs ls ⟨hP, hS⟩ hl)
theorem z_copyi (S : CallFix p m c cc nL s args Ts own) (hJ : zw_J RL ad) (hK : va_K D cl tys s) {index : Nat} (hlink : (Cond.methodLink own index arraycopyName).before args s = true) (hnat : (Cond.native arraycopyName).before args s = true) (hstat : (Cond.static arraycopyName).before args s = true) (hini : (Cond.initialized "java/lang/System").before args s = true)
    {x0 i0 x i : Nat} (hr0 : (x0, i0) ∈ RL) (hr : (x, i) ∈ RL) (t0 t1 : Nat) {c0 c1 : ClassId} {n0 n1 : Nat} {f g : Nat → Int32} {ty : FieldType} (hcell0 : C x0 i0 = .inl (c0, n0, .inl f)) (hcell : C x i = .inl (c1, n1, .inl g)) (ht0 : tys[t0]? = some (c0, ty)) (ht1 : tys[t1]? = some (c1, ty)) (hprim : refKind ty = false)
    {sp dp n : Int32} (h1 : ¬ sp < 0) (h2 : ¬ dp < 0) (h3 : ¬ n < 0) (h4 : sp.toNatClampNeg + n.toNatClampNeg ≤ n0) (h5 : dp.toNatClampNeg + n.toNatClampNeg ≤ n1) (hfit : ∀ i, i < n.toNatClampNeg → fits ty (.int (f (sp.toNatClampNeg + i))) = true)
    (hframes : 1 ≤ R.frames) (hlocals : (rest.map fun v => v.category).sum + (nativeFrameWords "java/lang/System" "arraycopy" 5 + 11) ≤ R.locals) (hC : zw_up C x i (.inl (c1, n1, .inl (va_cpy f g sp.toNatClampNeg dp.toNatClampNeg n.toNatClampNeg))) = C') (d : decode cc pc = .ok (.invokestatic index, 3)) (q : Nat) (hq : pc + 3 = q)
    (kk : zG p l e R s m args below meth c nL Q (zI D cl RL ad H0 C') 0 0 q lv rest) : zG p l e R s m args below meth c nL Q (zI D cl RL ad H0 C) 0 0 pc lv (.int n :: .int dp :: .ref (ad x i) :: .int sp :: .ref (ad x0 i0) :: rest) := by
  subst hq
  intro H locs ls ⟨hP, hS⟩ hl
  obtain ⟨q0, -, e0⟩ := zw_get (ad := ad) (C := C) hr0
  obtain ⟨q1, hq1, e1⟩ := zw_get (ad := ad) (C := C) hr
  rw [hcell0] at e0
  rw [hcell] at e1
  refine va_copyi S.1 S.2.1 (S.2.2.1.trans hl.1.symm) S.2.2.2.1 hlink hnat hstat hini hK hP (zw_D hJ) hS q0 q1 t0 t1 e0 e1 ht0 ht1 hprim h1 h2 h3 h4 h5 hfit hframes hlocals d (fun H1 locs1 hP1 _ hS1 => ?_)
  rw [zw_set hJ hq1, hC] at hP1
  exact kk H1 locs1 ls ⟨hP1, hS1⟩ hl
theorem z_mmax (S : CallFix p m c cc nL s args Ts own) {index : Nat} (hlink : (Cond.methodLink own index Lib.Math.max.name).before args s = true) (hstat : (Cond.static Lib.Math.max.name).before args s = true) (hini : (Cond.initialized "java/lang/Math").before args s = true) (hcode : (Cond.code Lib.Math.max.name Lib.Math.max.code 2 (some .int)).before args s = true) (hframes : 1 ≤ R.frames) (hlocals : (rest.map fun v => v.category).sum + 13 ≤ R.locals) {x y : Int32} (d : decode cc pc = .ok (.invokestatic index, 3)) (q : Nat) (hq : pc + 3 = q)
    (kk : zG p l e R s m args below meth c nL Q (zI D cl RL ad H0 C) 0 0 q lv (.int (if x < y then y else x) :: rest)) : zG p l e R s m args below meth c nL Q (zI D cl RL ad H0 C) 0 0 pc lv (.int y :: .int x :: rest) := by
  subst hq
  exact fun H locs ls hI hl => va_mmax S.1 S.2.1 (S.2.2.1.trans hl.1.symm) S.2.2.2.1 hlink hstat hini hcode hframes hlocals (Nat.zero_le _) (Nat.zero_le _) d (kk H locs ls hI hl)
/-- a call by contract: the world goes over to the callee's end -/
theorem z_run {v : Option Value} {av : List Value} (q : Nat) (hq : pc + 3 = q) (hr : ∀ (H : Heap) (locs : List Loc) (ls : Array Slot), va_P D cl (zw_W RL ad C) H → lv_has ls nL lv → va_Run p l e R s m args below meth c H locs 0 0 0 0 (F0 m pc ls st) rest (zQ D cl RL ad v C' av.toArray) (zw_A RL ad))
    (kk : zG p l e R s m args below meth c nL Q (zI D cl RL ad H0 C') 0 0 q lv (v.toList ++ rest)) : zG p l e R s m args below meth c nL Q (zI D cl RL ad H0 C) 0 0 pc lv st := by
  subst hq
  intro H locs ls ⟨hP, hS⟩ hl T hT X
  obtain ⟨v', st₀, t, T', L, h0, X', hL, e1, e2, ⟨⟨hv, hB⟩, hz, hk⟩, go⟩ := hr H locs ls hP hl T hT X
  cases hv
  rw [h0] at hz hk
  obtain ⟨t2, a1, b1⟩ := kk T'.heap (locs ++ L) ls ⟨by rw [e1]; exact hB, Nat.le_trans hS.1 (by rw [e1]; exact hz), fun q h1 h2 => by rw [e1, hk q (Nat.lt_of_lt_of_le h1 hS.1) h2]; exact hS.2.1 q h1 h2, fun q hq => by
      rcases List.mem_append.mp hq with h | h
      · exact hS.2.2 q h
      · exact hL q h⟩ hl T' rfl X'
  exact ⟨t2, go t2 a1, b1⟩
theorem z_blind {av : List Value} : FrameBlind (zPc D cl tys RL ad av C) := fun _ U _ _ q => ⟨q.1, q.2.1, va_K.moved (Vm.Alike.refl U.vm) q.2.2⟩
theorem z_callV (S : CallFix p m c cc nL s args Ts own) (hK : va_K D cl tys s) {y : MethodName} {ws : List Cond} {rm : Room} {v : Option Value} {As : List Value} {Cn : String} {T : u_T} {N ci index maxL n x i : Nat} {bytes : ByteArray} {ret : Option FieldType} {fs : List Value}
    (hM : zM l y ws rm D cl tys RL ad (.ref (ad x i) :: As) C v C') (cw : CallW R s args own Cn index y bytes maxL ret ws rm 0 0 n) (hr : (x, i) ∈ RL) (hcell : C x i = .inr (ci, fs)) (hc : cl[ci]? = some (Cn, T, N)) (hn : As.length = n) (hst : st = As.reverse ++ .ref (ad x i) :: rest) (hW : (rest.map fun v => v.category).sum ≤ 8) (d : decode cc pc = .ok (.invokevirtual index, 3)) (q : Nat) (hq : pc + 3 = q) (st' : List Value) (hst' : v.toList ++ rest = st')
    (kk : zG p l e R s m args below meth c nL Q (zI D cl RL ad H0 C') 0 0 q lv st') : zG p l e R s m args below meth c nL Q (zI D cl RL ad H0 C) 0 0 pc lv st := by
  subst hst'
  refine z_run (av := .ref (ad x i) :: As) q hq (fun H locs ls hP hl => ?_) kk
  obtain ⟨j, -, h0⟩ := zw_get (ad := ad) (C := C) hr
  rw [hcell] at h0
  exact va_runV S hM cw ⟨z_blind, va_recv hK hP hc h0, fun U hU hW => ⟨rfl, by rw [hU]; exact hP, va_K.moved hW.alike hK⟩⟩ rfl hn hl.1 hst (lv_room hW) d ⟨Nat.zero_le _, Nat.zero_le _⟩
theorem z_callVN (S : CallFix p m c cc nL s args Ts own) (hK : va_K D cl tys s) {y : MethodName} {ws : List Cond} {rm : Room} {v : Option Value} {As : List Value} {Cn host : String} {T : u_T} {N ci index maxL n x i : Nat} {bytes : ByteArray} {ret : Option FieldType} {fs : List Value}
    (hM : zM l y ws rm D cl tys RL ad (.ref (ad x i) :: As) C v C') (cw : va_CN R s args own index y host bytes maxL ret ws rm 0 0 n ∧ (Cond.instanceMethod y).before args s = true ∧ (Cond.selects Cn y y).before args s = true) (hr : (x, i) ∈ RL) (hcell : C x i = .inr (ci, fs)) (hc : cl[ci]? = some (Cn, T, N)) (hn : As.length = n) (hst : st = As.reverse ++ .ref (ad x i) :: rest) (hW : (rest.map fun v => v.category).sum ≤ 8) (d : decode cc pc = .ok (.invokevirtual index, 3)) (q : Nat) (hq : pc + 3 = q) (st' : List Value) (hst' : v.toList ++ rest = st')
    (kk : zG p l e R s m args below meth c nL Q (zI D cl RL ad H0 C') 0 0 q lv st') : zG p l e R s m args below meth c nL Q (zI D cl RL ad H0 C) 0 0 pc lv st := by
  subst hst'
  refine z_run (av := .ref (ad x i) :: As) q hq (fun H locs ls hP hl => ?_) kk
  obtain ⟨j, -, h0⟩ := zw_get (ad := ad) (C := C) hr
  rw [hcell] at h0
  exact va_runVN S hM cw ⟨z_blind, va_recv hK hP hc h0, fun U hU hW => ⟨rfl, by rw [hU]; exact hP, va_K.moved hW.alike hK⟩⟩ rfl hn hl.1 hst (lv_room hW) d ⟨Nat.zero_le _, Nat.zero_le _⟩
theorem z_iret {x v : Int32} (S : CallFix p m c cc nL s args Ts own) (hr : meth.sig.returnType = some .int) (hlocks : meth.locks = false) (d : decode cc pc = .ok (.ireturn, 1)) (hx : x = v) (hC : C = C') : zG p l e R s m args below meth c nL (MQ below (zQ D cl RL ad (some (.int v)) C') args s 0 0 (zw_A RL ad)) (zI D cl RL ad s.heap C) 0 0 pc lv [.int x] := by
  subst hx
  subst hC
  exact fun H locs ls ⟨hP, hS⟩ hl => W.iret S.1 S.2.1 hr (fun t ht hW => ⟨⟨rfl, by rw [ht]; exact hP⟩, hS.F ht⟩) hS.2.2 d hlocks
theorem z_zret {x v : Int32} {ty : FieldType} (S : CallFix p m c cc nL s args Ts own) (hr : meth.sig.returnType = some ty) (hn : narrow ty (.int x) = .int x) (hlocks : meth.locks = false) (d : decode cc pc = .ok (.ireturn, 1)) (hx : x = v) (hC : C = C') : zG p l e R s m args below meth c nL (MQ below (zQ D cl RL ad (some (.int v)) C') args s 0 0 (zw_A RL ad)) (zI D cl RL ad s.heap C) 0 0 pc lv [.int x] := by
  subst hx
  subst hC
  exact fun H locs ls ⟨hP, hS⟩ hl => W.zret S.1 S.2.1 hr hn (fun t ht hW => ⟨⟨rfl, by rw [ht]; exact hP⟩, hS.F ht⟩) hS.2.2 d hlocks
theorem z_vret (S : CallFix p m c cc nL s args Ts own) (hr : meth.sig.returnType = none) (hlocks : meth.locks = false) (d : decode cc pc = .ok (.return_, 1)) (hC : C = C') : zG p l e R s m args below meth c nL (MQ below (zQ D cl RL ad none C') args s 0 0 (zw_A RL ad)) (zI D cl RL ad s.heap C) 0 0 pc lv [] := by
  subst hC
  exact fun H locs ls ⟨hP, hS⟩ hl => W.vret S.1 S.2.1 hr (fun t ht hW => ⟨⟨rfl, by rw [ht]; exact hP⟩, hS.F ht⟩) hS.2.2 d hlocks
theorem z_aret {a b : Nat} {rt : FieldType} (S : CallFix p m c cc nL s args Ts own) (hr : meth.sig.returnType = some rt) (hrt : (∃ n, rt = .object n) ∨ ∃ t, rt = .array t) (hlocks : meth.locks = false) (d : decode cc pc = .ok (.areturn, 1)) (hx : a = b) (hC : C = C') : zG p l e R s m args below meth c nL (MQ below (zQ D cl RL ad (some (.ref b)) C') args s 0 0 (zw_A RL ad)) (zI D cl RL ad s.heap C) 0 0 pc lv [.ref a] := by
  subst hx
  subst hC
  exact fun H locs ls ⟨hP, hS⟩ hl => W.aret S.1 S.2.1 hr hrt (Or.inr ⟨a, rfl⟩) (fun t ht hW => ⟨⟨rfl, by rw [ht]; exact hP⟩, hS.F ht⟩) hS.2.2 d hlocks
theorem z_to {C2 : Nat → Nat → va_E} (h : C = C2) (k : zG p l e R s m args below meth c nL Q (zI D cl RL ad H0 C2) 0 0 pc lv st) : zG p l e R s m args below meth c nL Q (zI D cl RL ad H0 C) 0 0 pc lv st := h ▸ k
theorem z_iconst (S : CallFix p m c cc nL s args Ts own) {n : Int} (d : decode cc pc = .ok (.iconst n, 1)) (v : Int32) (hv : Int32.ofInt n = v) (q : Nat) (hq : pc + 1 = q) (k : zG p l e R s m args below meth c nL Q I cells slots q lv (.int v :: rest)) : zG p l e R s m args below meth c nL Q I cells slots pc lv rest := by
  subst hq; exact fun H locs ls hI hl => lv_iconst S.1 S.2.1 d hv (k H locs ls hI hl)
theorem z_bipush (S : CallFix p m c cc nL s args Ts own) {n : Int} (d : decode cc pc = .ok (.bipush n, 2)) (v : Int32) (hv : (Int8.ofInt n).toInt32 = v) (q : Nat) (hq : pc + 2 = q) (k : zG p l e R s m args below meth c nL Q I cells slots q lv (.int v :: rest)) : zG p l e R s m args below meth c nL Q I cells slots pc lv rest := by
  subst hq; exact fun H locs ls hI hl => lv_bipush S.1 S.2.1 d hv (k H locs ls hI hl)
theorem z_sipush (S : CallFix p m c cc nL s args Ts own) {n : Int} (d : decode cc pc = .ok (.sipush n, 3)) (v : Int32) (hv : (Int16.ofInt n).toInt32 = v) (q : Nat) (hq : pc + 3 = q) (k : zG p l e R s m args below meth c nL Q I cells slots q lv (.int v :: rest)) : zG p l e R s m args below meth c nL Q I cells slots pc lv rest := by
  subst hq; exact fun H locs ls hI hl => lv_sipush S.1 S.2.1 d hv (k H locs ls hI hl)
theorem z_iload_n (S : CallFix p m c cc nL s args Ts own) {n : Fin 4} {i : Nat} {x : Int32} (d : decode cc pc = .ok (.iload_n n, 1)) (hi : (n : Nat) = i) (j : Nat) (hj : lv[j]? = some (i, .int x)) (q : Nat) (hq : pc + 1 = q) (k : zG p l e R s m args below meth c nL Q I cells slots q lv (.int x :: rest)) : zG p l e R s m args below meth c nL Q I cells slots pc lv rest := by
  subst hq; exact fun H locs ls hI hl => lv_iload_n S.1 S.2.1 d hi (lv_at hl j hj) (k H locs ls hI hl)
theorem z_iload (S : CallFix p m c cc nL s args Ts own) {i : Nat} {x : Int32} (d : decode cc pc = .ok (.iload i, 2)) (j : Nat) (hj : lv[j]? = some (i, .int x)) (q : Nat) (hq : pc + 2 = q) (k : zG p l e R s m args below meth c nL Q I cells slots q lv (.int x :: rest)) : zG p l e R s m args below meth c nL Q I cells slots pc lv rest := by
  subst hq; exact fun H locs ls hI hl => lv_iload S.1 S.2.1 d (lv_at hl j hj) (k H locs ls hI hl)
theorem z_aload_n (S : CallFix p m c cc nL s args Ts own) {n : Fin 4} {i : Nat} {x : Nat} (d : decode cc pc = .ok (.aload_n n, 1)) (hi : (n : Nat) = i) (j : Nat) (hj : lv[j]? = some (i, .ref x)) (q : Nat) (hq : pc + 1 = q) (k : zG p l e R s m args below meth c nL Q I cells slots q lv (.ref x :: rest)) : zG p l e R s m args below meth c nL Q I cells slots pc lv rest := by
  subst hq; exact fun H locs ls hI hl => lv_aload_n S.1 S.2.1 d hi (lv_at hl j hj) (k H locs ls hI hl)
theorem z_aload (S : CallFix p m c cc nL s args Ts own) {i : Nat} {x : Nat} (d : decode cc pc = .ok (.aload i, 2)) (j : Nat) (hj : lv[j]? = some (i, .ref x)) (q : Nat) (hq : pc + 2 = q) (k : zG p l e R s m args below meth c nL Q I cells slots q lv (.ref x :: rest)) : zG p l e R s m args below meth c nL Q I cells slots pc lv rest := by
  subst hq; exact fun H locs ls hI hl => lv_aload S.1 S.2.1 d (lv_at hl j hj) (k H locs ls hI hl)
theorem z_istore_n (S : CallFix p m c cc nL s args Ts own) {n : Fin 4} {i : Nat} {x : Int32} (d : decode cc pc = .ok (.istore_n n, 1)) (hi : (n : Nat) = i) (hn : i < nL) (lv' : List (Nat × Value)) (hl' : (i, Value.int x) :: lv.filter (fun q => !(q.1 == i) && !(q.1 + 1 == i && q.2.category == 2)) = lv') (q : Nat) (hq : pc + 1 = q) (k : zG p l e R s m args below meth c nL Q I cells slots q lv' rest) : zG p l e R s m args below meth c nL Q I cells slots pc lv (.int x :: rest) := by
  subst hq; exact fun H locs ls hI hl => lv_istore_n S.1 S.2.1 d hi hl hn hl' (fun ls' h9 => k H locs ls' hI h9)
theorem z_istore (S : CallFix p m c cc nL s args Ts own) {i : Nat} {x : Int32} (d : decode cc pc = .ok (.istore i, 2)) (hn : i < nL) (lv' : List (Nat × Value)) (hl' : (i, Value.int x) :: lv.filter (fun q => !(q.1 == i) && !(q.1 + 1 == i && q.2.category == 2)) = lv') (q : Nat) (hq : pc + 2 = q) (k : zG p l e R s m args below meth c nL Q I cells slots q lv' rest) : zG p l e R s m args below meth c nL Q I cells slots pc lv (.int x :: rest) := by
  subst hq; exact fun H locs ls hI hl => lv_istore S.1 S.2.1 d hl hn hl' (fun ls' h9 => k H locs ls' hI h9)
theorem z_astore_n (S : CallFix p m c cc nL s args Ts own) {n : Fin 4} {i : Nat} {x : Nat} (d : decode cc pc = .ok (.astore_n n, 1)) (hi : (n : Nat) = i) (hn : i < nL) (lv' : List (Nat × Value)) (hl' : (i, Value.ref x) :: lv.filter (fun q => !(q.1 == i) && !(q.1 + 1 == i && q.2.category == 2)) = lv') (q : Nat) (hq : pc + 1 = q) (k : zG p l e R s m args below meth c nL Q I cells slots q lv' rest) : zG p l e R s m args below meth c nL Q I cells slots pc lv (.ref x :: rest) := by
  subst hq; exact fun H locs ls hI hl => lv_astore_n S.1 S.2.1 d hi hl hn hl' (fun ls' h9 => k H locs ls' hI h9)
theorem z_astore (S : CallFix p m c cc nL s args Ts own) {i : Nat} {x : Nat} (d : decode cc pc = .ok (.astore i, 2)) (hn : i < nL) (lv' : List (Nat × Value)) (hl' : (i, Value.ref x) :: lv.filter (fun q => !(q.1 == i) && !(q.1 + 1 == i && q.2.category == 2)) = lv') (q : Nat) (hq : pc + 2 = q) (k : zG p l e R s m args below meth c nL Q I cells slots q lv' rest) : zG p l e R s m args below meth c nL Q I cells slots pc lv (.ref x :: rest) := by
  subst hq; exact fun H locs ls hI hl => lv_astore S.1 S.2.1 d hl hn hl' (fun ls' h9 => k H locs ls' hI h9)
theorem z_iinc (S : CallFix p m c cc nL s args Ts own) {i : Nat} {n : Int} {x v : Int32} (d : decode cc pc = .ok (.iinc i n, 3)) (j : Nat) (hj : lv[j]? = some (i, .int x)) (hv : x + Int32.ofInt n = v) (hn : i < nL) (lv' : List (Nat × Value)) (hl' : (i, Value.int v) :: lv.filter (fun q => !(q.1 == i) && !(q.1 + 1 == i && q.2.category == 2)) = lv') (q : Nat) (hq : pc + 3 = q) (k : zG p l e R s m args below meth c nL Q I cells slots q lv' rest) : zG p l e R s m args below meth c nL Q I cells slots pc lv rest := by
  subst hq; exact fun H locs ls hI hl => lv_iinc S.1 S.2.1 d hl hj hv hn hl' (fun ls' h9 => k H locs ls' hI h9)
theorem z_iadd (S : CallFix p m c cc nL s args Ts own) {x y : Int32} (d : decode cc pc = .ok (.iadd, 1))  (q : Nat) (hq : pc + 1 = q) (k : zG p l e R s m args below meth c nL Q I cells slots q lv (.int (x + y) :: rest)) : zG p l e R s m args below meth c nL Q I cells slots pc lv (.int y :: .int x :: rest) := by
  subst hq; exact fun H locs ls hI hl => lv_iadd S.1 S.2.1 d (k H locs ls hI hl)
theorem z_isub (S : CallFix p m c cc nL s args Ts own) {x y : Int32} (d : decode cc pc = .ok (.isub, 1))  (q : Nat) (hq : pc + 1 = q) (k : zG p l e R s m args below meth c nL Q I cells slots q lv (.int (x - y) :: rest)) : zG p l e R s m args below meth c nL Q I cells slots pc lv (.int y :: .int x :: rest) := by
  subst hq; exact fun H locs ls hI hl => lv_isub S.1 S.2.1 d (k H locs ls hI hl)
theorem z_imul (S : CallFix p m c cc nL s args Ts own) {x y : Int32} (d : decode cc pc = .ok (.imul, 1))  (q : Nat) (hq : pc + 1 = q) (k : zG p l e R s m args below meth c nL Q I cells slots q lv (.int (x * y) :: rest)) : zG p l e R s m args below meth c nL Q I cells slots pc lv (.int y :: .int x :: rest) := by
  subst hq; exact fun H locs ls hI hl => lv_imul S.1 S.2.1 d (k H locs ls hI hl)
theorem z_iand (S : CallFix p m c cc nL s args Ts own) {x y : Int32} (d : decode cc pc = .ok (.iand, 1))  (q : Nat) (hq : pc + 1 = q) (k : zG p l e R s m args below meth c nL Q I cells slots q lv (.int (x &&& y) :: rest)) : zG p l e R s m args below meth c nL Q I cells slots pc lv (.int y :: .int x :: rest) := by
  subst hq; exact fun H locs ls hI hl => lv_iand S.1 S.2.1 d (k H locs ls hI hl)
theorem z_i2s (S : CallFix p m c cc nL s args Ts own) {x : Int32} (d : decode cc pc = .ok (.i2s, 1)) (v : Int32) (hv : x.toInt16.toInt32 = v) (q : Nat) (hq : pc + 1 = q) (k : zG p l e R s m args below meth c nL Q I cells slots q lv (.int v :: rest)) : zG p l e R s m args below meth c nL Q I cells slots pc lv (.int x :: rest) := by
  subst hq; exact fun H locs ls hI hl => lv_i2s S.1 S.2.1 d hv (k H locs ls hI hl)
theorem z_dup (S : CallFix p m c cc nL s args Ts own) {va : Value} (d : decode cc pc = .ok (.dup, 1)) (hva : va.category = 1) (q : Nat) (hq : pc + 1 = q) (k : zG p l e R s m args below meth c nL Q I cells slots q lv (va :: va :: rest)) : zG p l e R s m args below meth c nL Q I cells slots pc lv (va :: rest) := by
  subst hq; exact fun H locs ls hI hl => lv_dup S.1 S.2.1 d hva (k H locs ls hI hl)
theorem z_pop (S : CallFix p m c cc nL s args Ts own) {va : Value} (d : decode cc pc = .ok (.pop, 1)) (hva : va.category = 1) (q : Nat) (hq : pc + 1 = q) (k : zG p l e R s m args below meth c nL Q I cells slots q lv rest) : zG p l e R s m args below meth c nL Q I cells slots pc lv (va :: rest) := by
  subst hq; exact fun H locs ls hI hl => lv_pop S.1 S.2.1 d hva (k H locs ls hI hl)
theorem z_dup_x1 (S : CallFix p m c cc nL s args Ts own) {va vb : Value} (d : decode cc pc = .ok (.dup_x1, 1)) (hva : va.category = 1) (hvb : vb.category = 1) (q : Nat) (hq : pc + 1 = q) (k : zG p l e R s m args below meth c nL Q I cells slots q lv (va :: vb :: va :: rest)) : zG p l e R s m args below meth c nL Q I cells slots pc lv (va :: vb :: rest) := by
  subst hq; exact fun H locs ls hI hl => lv_dup_x1 S.1 S.2.1 d hva hvb (k H locs ls hI hl)
theorem z_dup_x2 (S : CallFix p m c cc nL s args Ts own) {va vb vd : Value} (d : decode cc pc = .ok (.dup_x2, 1)) (hva : va.category = 1) (hvb : vb.category = 1) (hvd : vd.category = 1) (q : Nat) (hq : pc + 1 = q) (k : zG p l e R s m args below meth c nL Q I cells slots q lv (va :: vb :: vd :: va :: rest)) : zG p l e R s m args below meth c nL Q I cells slots pc lv (va :: vb :: vd :: rest) := by
  subst hq; exact fun H locs ls hI hl => lv_dup_x2 S.1 S.2.1 d hva hvb hvd (k H locs ls hI hl)
theorem z_dup2_11 (S : CallFix p m c cc nL s args Ts own) {va vb : Value} (d : decode cc pc = .ok (.dup2, 1)) (hva : va.category = 1) (hvb : vb.category = 1) (q : Nat) (hq : pc + 1 = q) (k : zG p l e R s m args below meth c nL Q I cells slots q lv (va :: vb :: va :: vb :: rest)) : zG p l e R s m args below meth c nL Q I cells slots pc lv (va :: vb :: rest) := by
  subst hq; exact fun H locs ls hI hl => lv_dup2_11 S.1 S.2.1 d hva hvb (k H locs ls hI hl)
theorem z_if_eq (S : CallFix p m c cc nL s args Ts own) {x : Int32} {off : Int} (d : decode cc pc = .ok (.ifCond .eq off, 3)) (tgt : Nat) (ht : (pc : Int) + off = (tgt : Int)) (q : Nat) (hq : pc + 3 = q) (kt : x = 0 → zG p l e R s m args below meth c nL Q I cells slots tgt lv rest) (kf : ¬ x = 0 → zG p l e R s m args below meth c nL Q I cells slots q lv rest) : zG p l e R s m args below meth c nL Q I cells slots pc lv (.int x :: rest) := by
  subst hq; exact fun H locs ls hI hl => lv_if_eq S.1 S.2.1 d ht (fun h => kt h H locs ls hI hl) (fun h => kf h H locs ls hI hl)
theorem z_icmp_eq (S : CallFix p m c cc nL s args Ts own) {x y : Int32} {off : Int} (d : decode cc pc = .ok (.if_icmp .eq off, 3)) (tgt : Nat) (ht : (pc : Int) + off = (tgt : Int)) (q : Nat) (hq : pc + 3 = q) (kt : x = y → zG p l e R s m args below meth c nL Q I cells slots tgt lv rest) (kf : ¬ x = y → zG p l e R s m args below meth c nL Q I cells slots q lv rest) : zG p l e R s m args below meth c nL Q I cells slots pc lv (.int y :: .int x :: rest) := by
  subst hq; exact fun H locs ls hI hl => lv_icmp_eq S.1 S.2.1 d ht (fun h => kt h H locs ls hI hl) (fun h => kf h H locs ls hI hl)
theorem z_if_ne (S : CallFix p m c cc nL s args Ts own) {x : Int32} {off : Int} (d : decode cc pc = .ok (.ifCond .ne off, 3)) (tgt : Nat) (ht : (pc : Int) + off = (tgt : Int)) (q : Nat) (hq : pc + 3 = q) (kt : ¬ x = 0 → zG p l e R s m args below meth c nL Q I cells slots tgt lv rest) (kf : x = 0 → zG p l e R s m args below meth c nL Q I cells slots q lv rest) : zG p l e R s m args below meth c nL Q I cells slots pc lv (.int x :: rest) := by
  subst hq; exact fun H locs ls hI hl => lv_if_ne S.1 S.2.1 d ht (fun h => kt h H locs ls hI hl) (fun h => kf h H locs ls hI hl)
theorem z_icmp_ne (S : CallFix p m c cc nL s args Ts own) {x y : Int32} {off : Int} (d : decode cc pc = .ok (.if_icmp .ne off, 3)) (tgt : Nat) (ht : (pc : Int) + off = (tgt : Int)) (q : Nat) (hq : pc + 3 = q) (kt : ¬ x = y → zG p l e R s m args below meth c nL Q I cells slots tgt lv rest) (kf : x = y → zG p l e R s m args below meth c nL Q I cells slots q lv rest) : zG p l e R s m args below meth c nL Q I cells slots pc lv (.int y :: .int x :: rest) := by
  subst hq; exact fun H locs ls hI hl => lv_icmp_ne S.1 S.2.1 d ht (fun h => kt h H locs ls hI hl) (fun h => kf h H locs ls hI hl)
theorem z_if_lt (S : CallFix p m c cc nL s args Ts own) {x : Int32} {off : Int} (d : decode cc pc = .ok (.ifCond .lt off, 3)) (tgt : Nat) (ht : (pc : Int) + off = (tgt : Int)) (q : Nat) (hq : pc + 3 = q) (kt : x < 0 → zG p l e R s m args below meth c nL Q I cells slots tgt lv rest) (kf : ¬ x < 0 → zG p l e R s m args below meth c nL Q I cells slots q lv rest) : zG p l e R s m args below meth c nL Q I cells slots pc lv (.int x :: rest) := by
  subst hq; exact fun H locs ls hI hl => lv_if_lt S.1 S.2.1 d ht (fun h => kt h H locs ls hI hl) (fun h => kf h H locs ls hI hl)
theorem z_icmp_lt (S : CallFix p m c cc nL s args Ts own) {x y : Int32} {off : Int} (d : decode cc pc = .ok (.if_icmp .lt off, 3)) (tgt : Nat) (ht : (pc : Int) + off = (tgt : Int)) (q : Nat) (hq : pc + 3 = q) (kt : x < y → zG p l e R s m args below meth c nL Q I cells slots tgt lv rest) (kf : ¬ x < y → zG p l e R s m args below meth c nL Q I cells slots q lv rest) : zG p l e R s m args below meth c nL Q I cells slots pc lv (.int y :: .int x :: rest) := by
  subst hq; exact fun H locs ls hI hl => lv_icmp_lt S.1 S.2.1 d ht (fun h => kt h H locs ls hI hl) (fun h => kf h H locs ls hI hl)
theorem z_if_ge (S : CallFix p m c cc nL s args Ts own) {x : Int32} {off : Int} (d : decode cc pc = .ok (.ifCond .ge off, 3)) (tgt : Nat) (ht : (pc : Int) + off = (tgt : Int)) (q : Nat) (hq : pc + 3 = q) (kt : 0 ≤ x → zG p l e R s m args below meth c nL Q I cells slots tgt lv rest) (kf : ¬ 0 ≤ x → zG p l e R s m args below meth c nL Q I cells slots q lv rest) : zG p l e R s m args below meth c nL Q I cells slots pc lv (.int x :: rest) := by
  subst hq; exact fun H locs ls hI hl => lv_if_ge S.1 S.2.1 d ht (fun h => kt h H locs ls hI hl) (fun h => kf h H locs ls hI hl)
theorem z_icmp_ge (S : CallFix p m c cc nL s args Ts own) {x y : Int32} {off : Int} (d : decode cc pc = .ok (.if_icmp .ge off, 3)) (tgt : Nat) (ht : (pc : Int) + off = (tgt : Int)) (q : Nat) (hq : pc + 3 = q) (kt : y ≤ x → zG p l e R s m args below meth c nL Q I cells slots tgt lv rest) (kf : ¬ y ≤ x → zG p l e R s m args below meth c nL Q I cells slots q lv rest) : zG p l e R s m args below meth c nL Q I cells slots pc lv (.int y :: .int x :: rest) := by
  subst hq; exact fun H locs ls hI hl => lv_icmp_ge S.1 S.2.1 d ht (fun h => kt h H locs ls hI hl) (fun h => kf h H locs ls hI hl)
theorem z_if_gt (S : CallFix p m c cc nL s args Ts own) {x : Int32} {off : Int} (d : decode cc pc = .ok (.ifCond .gt off, 3)) (tgt : Nat) (ht : (pc : Int) + off = (tgt : Int)) (q : Nat) (hq : pc + 3 = q) (kt : 0 < x → zG p l e R s m args below meth c nL Q I cells slots tgt lv rest) (kf : ¬ 0 < x → zG p l e R s m args below meth c nL Q I cells slots q lv rest) : zG p l e R s m args below meth c nL Q I cells slots pc lv (.int x :: rest) := by
  subst hq; exact fun H locs ls hI hl => lv_if_gt S.1 S.2.1 d ht (fun h => kt h H locs ls hI hl) (fun h => kf h H locs ls hI hl)
theorem z_icmp_gt (S : CallFix p m c cc nL s args Ts own) {x y : Int32} {off : Int} (d : decode cc pc = .ok (.if_icmp .gt off, 3)) (tgt : Nat) (ht : (pc : Int) + off = (tgt : Int)) (q : Nat) (hq : pc + 3 = q) (kt : y < x → zG p l e R s m args below meth c nL Q I cells slots tgt lv rest) (kf : ¬ y < x → zG p l e R s m args below meth c nL Q I cells slots q lv rest) : zG p l e R s m args below meth c nL Q I cells slots pc lv (.int y :: .int x :: rest) := by
  subst hq; exact fun H locs ls hI hl => lv_icmp_gt S.1 S.2.1 d ht (fun h => kt h H locs ls hI hl) (fun h => kf h H locs ls hI hl)
theorem z_if_le (S : CallFix p m c cc nL s args Ts own) {x : Int32} {off : Int} (d : decode cc pc = .ok (.ifCond .le off, 3)) (tgt : Nat) (ht : (pc : Int) + off = (tgt : Int)) (q : Nat) (hq : pc + 3 = q) (kt : x ≤ 0 → zG p l e R s m args below meth c nL Q I cells slots tgt lv rest) (kf : ¬ x ≤ 0 → zG p l e R s m args below meth c nL Q I cells slots q lv rest) : zG p l e R s m args below meth c nL Q I cells slots pc lv (.int x :: rest) := by
  subst hq; exact fun H locs ls hI hl => lv_if_le S.1 S.2.1 d ht (fun h => kt h H locs ls hI hl) (fun h => kf h H locs ls hI hl)
theorem z_icmp_le (S : CallFix p m c cc nL s args Ts own) {x y : Int32} {off : Int} (d : decode cc pc = .ok (.if_icmp .le off, 3)) (tgt : Nat) (ht : (pc : Int) + off = (tgt : Int)) (q : Nat) (hq : pc + 3 = q) (kt : x ≤ y → zG p l e R s m args below meth c nL Q I cells slots tgt lv rest) (kf : ¬ x ≤ y → zG p l e R s m args below meth c nL Q I cells slots q lv rest) : zG p l e R s m args below meth c nL Q I cells slots pc lv (.int y :: .int x :: rest) := by
  subst hq; exact fun H locs ls hI hl => lv_icmp_le S.1 S.2.1 d ht (fun h => kt h H locs ls hI hl) (fun h => kf h H locs ls hI hl)
theorem z_goto (S : CallFix p m c cc nL s args Ts own) {off : Int} (d : decode cc pc = .ok (.goto off, 3)) (tgt : Nat) (ht : (pc : Int) + off = (tgt : Int))  (k : zG p l e R s m args below meth c nL Q I cells slots tgt lv rest) : zG p l e R s m args below meth c nL Q I cells slots pc lv rest := by
  exact fun H locs ls hI hl => lv_goto S.1 S.2.1 d ht (k H locs ls hI hl)
theorem z_tableIn (S : CallFix p m c cc nL s args Ts own) {dflt lo hi : Int} {offs : Array Int} {len : Nat} {x : Int32} {off : Int} (d : decode cc pc = .ok (.tableswitch dflt lo hi offs, len)) (h1 : ¬ x.toInt < lo) (h2 : ¬ hi < x.toInt) (ho : offs[(x.toInt - lo).toNat]? = some off) (tgt : Nat) (ht : (pc : Int) + off = (tgt : Int))  (k : zG p l e R s m args below meth c nL Q I cells slots tgt lv rest) : zG p l e R s m args below meth c nL Q I cells slots pc lv (.int x :: rest) := by
  exact fun H locs ls hI hl => lv_tableIn S.1 S.2.1 d h1 h2 ho ht (k H locs ls hI hl)
theorem z_tableOut (S : CallFix p m c cc nL s args Ts own) {dflt lo hi : Int} {offs : Array Int} {len : Nat} {x : Int32} (d : decode cc pc = .ok (.tableswitch dflt lo hi offs, len)) (h : x.toInt < lo ∨ hi < x.toInt) (tgt : Nat) (ht : (pc : Int) + dflt = (tgt : Int))  (k : zG p l e R s m args below meth c nL Q I cells slots tgt lv rest) : zG p l e R s m args below meth c nL Q I cells slots pc lv (.int x :: rest) := by
  exact fun H locs ls hI hl => lv_tableOut S.1 S.2.1 d h ht (k H locs ls hI hl)
end ZR
