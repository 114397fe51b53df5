/-! the law: its script, its two worlds -/
def lI (D : va_G) (R1 : List (Nat × Nat)) (a1 : Nat → Nat → Nat) (C1 : Nat → Nat → va_E) (R2 : List (Nat × Nat)) (a2 : Nat → Nat → Nat) (C2 : Nat → Nat → va_E) (H0 : Heap) : Heap → List Loc → Prop := fun H locs => va_P D zCl (zw_W R1 a1 C1) H ∧ va_P D zCl (zw_W R2 a2 C2) H ∧ va_S (fun q => H0.size ≤ q) H0 H locs
section LR
variable {p : Program} {l : Launch} {e : Env} {R : Room} {s : State} {m : MethodId} {args : Array Value} {below : List Frame} {meth : Method} {c : Code} {nL : Nat} {D : va_G} {tys : List (ClassId × FieldType)} {A : Nat → Prop} {H0 : Heap} {Q : State → Prop} {W W' : va_W} {cells slots pc : Nat} {lv lv' : List (Nat × Value)} {st rest : List Value} {cc : ByteArray} {Ts : List Cond} {own : String} {I : Heap → List Loc → Prop} {R1 R2 : List (Nat × Nat)} {a1 a2 : Nat → Nat → Nat} {C1 C2 C' : Nat → Nat → va_E}
theorem l_sld (S : CallFix p m c cc nL s args Ts own) {b L : Nat} {xs : Nat → Int32} (hX : va_X b L xs s H0) (hbl : b < H0.size) (hbA : ¬ A b) (hIS : ∀ H locs, I H locs → va_S A H0 H locs) {i : Int32} (hin : vp_in i L) (d : decode cc pc = .ok (.iaload, 1)) (q : Nat) (hq : pc + 1 = q)
    (kk : zG p l e R s m args below meth c nL Q I cells slots q lv (.int (xs i.toNatClampNeg) :: rest)) : zG p l e R s m args below meth c nL Q I cells slots pc lv (.int i :: .ref b :: rest) := by
  subst hq
  exact fun H locs ls hI hl => va_sld S.1 S.2.1 hX hbl hbA (hIS H locs hI) hin d (kk H locs ls hI hl)
theorem l_slen (S : CallFix p m c cc nL s args Ts own) {b L : Nat} {xs : Nat → Int32} (hX : va_X b L xs s H0) (hbl : b < H0.size) (hbA : ¬ A b) (hIS : ∀ H locs, I H locs → va_S A H0 H locs) (d : decode cc pc = .ok (.arraylength, 1)) (q : Nat) (hq : pc + 1 = q)
    (kk : zG p l e R s m args below meth c nL Q I cells slots q lv (.int (nI L) :: rest)) : zG p l e R s m args below meth c nL Q I cells slots pc lv (.ref b :: rest) := by
  subst hq
  exact fun H locs ls hI hl => va_slen S.1 S.2.1 hX hbl hbA (hIS H locs hI) d (kk H locs ls hI hl)
theorem l_kept {W : va_W} {H H1 : Heap} {F : Nat → Prop} (hP : va_P D zCl W H) (hF : ∀ (k : Nat) (x : Nat × va_E), W[k]? = some x → ¬ F x.1) (hk : ∀ q : Nat, q < H.size → ¬ F q → H1[q]? = H[q]?) : va_P D zCl W H1 := fun k x hx => (hP k x hx).kept (hk x.1 (hP k x hx).lt (hF k x hx))
theorem l_call1 (S : CallFix p m c cc nL s args Ts own) (hK : va_K D zCl tys s) (hA1 : ∀ q, zw_A R1 a1 q → H0.size ≤ q) (hx12 : ∀ q, zw_A R2 a2 q → ¬ zw_A R1 a1 q) {y : MethodName} {ws : List Cond} {rm : Room} {v : Option Value} {As : List Value} {Cn : String} {T : u_T} {N ci index maxL n x i : Nat} {bytes : ByteArray} {ret : Option FieldType} {fs : List Value}
    (hM : zM l y ws rm D zCl tys R1 a1 (.ref (a1 x i) :: As) C1 v C') (cw : CallW R s args own Cn index y bytes maxL ret ws rm 0 0 n) (hr : (x, i) ∈ R1) (hcell : C1 x i = .inr (ci, fs)) (hc : zCl[ci]? = some (Cn, T, N)) (hn : As.length = n) (hst : st = As.reverse ++ .ref (a1 x i) :: rest) (hW : (rest.map fun v => v.category).sum ≤ 8) (hcR : cells ≤ R.cells) (hsR : slots ≤ R.slots) (d : decode cc pc = .ok (.invokevirtual index, 3)) (q : Nat) (hq : pc + 3 = q) (st' : List Value) (hst' : v.toList ++ rest = st')
    (kk : zG p l e R s m args below meth c nL Q (lI D R1 a1 C' R2 a2 C2 H0) cells slots q lv st') : zG p l e R s m args below meth c nL Q (lI D R1 a1 C1 R2 a2 C2 H0) cells slots pc lv st := by
  subst hq; subst hst'
  intro H locs ls ⟨hP1, hP2, hS⟩ hl T hT X
  obtain ⟨j, -, h0⟩ := zw_get (ad := a1) (C := C1) hr
  rw [hcell] at h0
  obtain ⟨v', st₀, t, T', L, h00, X', hL, e1, e2, ⟨⟨hv, hB⟩, hz, hk⟩, go⟩ := va_runV (rest := rest) S hM cw ⟨z_blind, va_recv hK hP1 hc h0, fun U hU hW => ⟨rfl, by rw [hU]; exact hP1, va_K.moved hW.alike hK⟩⟩ rfl hn hl.1 hst (lv_room hW) d ⟨hcR, hsR⟩ T hT X
  cases hv
  rw [h00] at hz hk
  obtain ⟨t2, b1, b2⟩ := kk T'.heap (locs ++ L) ls ⟨by rw [e1]; exact hB, by
      rw [e1]
      refine l_kept hP2 (fun k x hx => ?_) hk
      obtain ⟨r, hr, rfl⟩ := zw_at hx
      exact hx12 _ ⟨r, List.mem_of_getElem? hr, rfl⟩, Nat.le_trans hS.1 (by rw [e1]; exact hz), fun q h1 h2 => by rw [e1, hk q (Nat.lt_of_lt_of_le h1 hS.1) (fun z => h2 (hA1 q z))]; exact hS.2.1 q h1 h2, fun q hq => by
      rcases List.mem_append.mp hq with h | h
      · exact hS.2.2 q h
      · exact hA1 _ (hL q h)⟩ hl T' rfl X'
  exact ⟨t2, go t2 b1, b2⟩
theorem l_call2 (S : CallFix p m c cc nL s args Ts own) (hK : va_K D zCl tys s) (hA2 : ∀ q, zw_A R2 a2 q → H0.size ≤ q) (hx21 : ∀ q, zw_A R1 a1 q → ¬ zw_A R2 a2 q) {y : MethodName} {ws : List Cond} {rm : Room} {v : Option Value} {As : List Value} {Cn : String} {T : u_T} {N ci index maxL n x i : Nat} {bytes : ByteArray} {ret : Option FieldType} {fs : List Value}
    (hM : zM l y ws rm D zCl tys R2 a2 (.ref (a2 x i) :: As) C2 v C') (cw : CallW R s args own Cn index y bytes maxL ret ws rm 0 0 n) (hr : (x, i) ∈ R2) (hcell : C2 x i = .inr (ci, fs)) (hc : zCl[ci]? = some (Cn, T, N)) (hn : As.length = n) (hst : st = As.reverse ++ .ref (a2 x i) :: rest) (hW : (rest.map fun v => v.category).sum ≤ 8) (hcR : cells ≤ R.cells) (hsR : slots ≤ R.slots) (d : decode cc pc = .ok (.invokevirtual index, 3)) (q : Nat) (hq : pc + 3 = q) (st' : List Value) (hst' : v.toList ++ rest = st')
    (kk : zG p l e R s m args below meth c nL Q (lI D R1 a1 C1 R2 a2 C' H0) cells slots q lv st') : zG p l e R s m args below meth c nL Q (lI D R1 a1 C1 R2 a2 C2 H0) cells slots pc lv st := by
  subst hq; subst hst'
  intro H locs ls ⟨hP1, hP2, hS⟩ hl T hT X
  obtain ⟨j, -, h0⟩ := zw_get (ad := a2) (C := C2) hr
  rw [hcell] at h0
  obtain ⟨v', st₀, t, T', L, h00, X', hL, e1, e2, ⟨⟨hv, hB⟩, hz, hk⟩, go⟩ := va_runV (rest := rest) S hM cw ⟨z_blind, va_recv hK hP2 hc h0, fun U hU hW => ⟨rfl, by rw [hU]; exact hP2, va_K.moved hW.alike hK⟩⟩ rfl hn hl.1 hst (lv_room hW) d ⟨hcR, hsR⟩ T hT X
  cases hv
  rw [h00] at hz hk
  obtain ⟨t2, b1, b2⟩ := kk T'.heap (locs ++ L) ls ⟨by
      rw [e1]
      refine l_kept hP1 (fun k x hx => ?_) hk
      obtain ⟨r, hr, rfl⟩ := zw_at hx
      exact hx21 _ ⟨r, List.mem_of_getElem? hr, rfl⟩, by rw [e1]; exact hB, Nat.le_trans hS.1 (by rw [e1]; exact hz), fun q h1 h2 => by rw [e1, hk q (Nat.lt_of_lt_of_le h1 hS.1) (fun z => h2 (hA2 q z))]; exact hS.2.1 q h1 h2, fun q hq => by
      rcases List.mem_append.mp hq with h | h
      · exact hS.2.2 q h
      · exact hA2 _ (hL q h)⟩ hl T' rfl X'
  exact ⟨t2, go t2 b1, b2⟩
/-- the static method that reads the script's first int -/
def cvF (L : Nat) (xs : Nat → Int32) : Int32 := if nI L ≤ 0 then 0 else xs (0 : Int32).toNatClampNeg
def cvP (b L : Nat) (xs : Nat → Int32) : Array Value → State → Prop := va_Pc [.ref b, .int 0] (fun U => va_X b L xs U U.heap ∧ b < U.heap.size)
def cvQ (L : Nat) (xs : Nat → Int32) : Array Value → State → Outcome → State → Prop := fun _ st oc t => oc = .returned (some (.int (cvF L xs))) ∧ va_F (fun _ => False) st t
end LR
theorem d_Law_cell_0 : decode method_2_code 0 = .ok (.iload_n 1, 1) := by decide +kernel
theorem d_Law_cell_1 : decode method_2_code 1 = .ok (.aload_n 0, 1) := by decide +kernel
theorem d_Law_cell_2 : decode method_2_code 2 = .ok (.arraylength, 1) := by decide +kernel
theorem d_Law_cell_3 : decode method_2_code 3 = .ok (.if_icmp .ge 9, 3) := by decide +kernel
theorem d_Law_cell_6 : decode method_2_code 6 = .ok (.aload_n 0, 1) := by decide +kernel
theorem d_Law_cell_7 : decode method_2_code 7 = .ok (.iload_n 1, 1) := by decide +kernel
theorem d_Law_cell_8 : decode method_2_code 8 = .ok (.iaload, 1) := by decide +kernel
theorem d_Law_cell_9 : decode method_2_code 9 = .ok (.goto 4, 3) := by decide +kernel
theorem d_Law_cell_12 : decode method_2_code 12 = .ok (.iconst 0, 1) := by decide +kernel
theorem d_Law_cell_13 : decode method_2_code 13 = .ok (.ireturn, 1) := by decide +kernel
set_option maxRecDepth 100000 in
theorem c_Law_cell {l : Launch} {b L : Nat} {xs : Nat → Int32} (hL : L ≤ 2561) : Met l y_Law_cell ws_Law_cell ({ frames := 0, cells := 0, slots := 0, locals := 0 }) (cvP b L xs) (cvQ L xs) 0 0 (fun _ => False) := by
  refine Met.ofW (cc := method_2_code) (maxL := 2) (ret := some .int) (by decide) rfl ?_
  intro p e s m args below meth c s₁ B hml hv
  obtain ⟨rfl, hX, hbl⟩ := hv
  have hl := lv_entry ([.ref b, .int 0]) (n := 2) (Nat.le_of_ble_eq_true rfl)
  rw [lg_entry_eq]
  have S : CallFix p m c method_2_code 2 s ([.ref b, .int 0] : List Value).toArray ws_Law_cell y_Law_cell.cls := ⟨B.exec, B.bytes, hml, findClass_of_methodNamed B.named, atoms_spec (ws := ws_Law_cell) B.pre⟩
  have hr := B.returns
  have hlk := B.notSynchronized
  have key : zG p l e (headSpec ws_Law_cell ({ frames := 0, cells := 0, slots := 0, locals := 0 })).room s m ([.ref b, .int 0] : List Value).toArray below meth c 2 (MQ below (cvQ L xs) ([.ref b, .int 0] : List Value).toArray s 0 0 (fun _ => False)) (fun H locs => va_S (fun _ => False) s.heap H locs) 0 0 0 [(0, .ref b), (1, .int 0)] [] := by
    refine z_iload_n S d_Law_cell_0 rfl 1 rfl 1 rfl ?_
    refine z_aload_n S d_Law_cell_1 rfl 0 rfl 2 rfl ?_
    refine l_slen S hX hbl (fun h => h) (fun _ _ h => h) d_Law_cell_2 3 rfl ?_
    refine z_icmp_ge S d_Law_cell_3 12 (by decide) 6 rfl (fun h1 => ?_) (fun h1 => ?_)
    · refine z_iconst S d_Law_cell_12 0 (by decide) 13 rfl ?_
      intro H locs ls hS hl
      exact W.iret S.1 S.2.1 hr (fun t ht hW => ⟨by rw [cvF, if_pos h1], hS.F ht⟩) hS.2.2 d_Law_cell_13 hlk
    · refine z_aload_n S d_Law_cell_6 rfl 0 rfl 7 rfl ?_
      refine z_iload_n S d_Law_cell_7 rfl 1 rfl 8 rfl ?_
      have hin : vp_in 0 L := by
        by_cases h0 : L = 0
        · subst h0; exact absurd (by decide) h1
        · exact vp_c (c := 0) (by omega) (by omega)
      refine l_sld S hX hbl (fun h => h) (fun _ _ h => h) hin d_Law_cell_8 9 rfl ?_
      refine z_goto S d_Law_cell_9 13 (by decide) ?_
      intro H locs ls hS hl
      exact W.iret S.1 S.2.1 hr (fun t ht hW => ⟨by rw [cvF, if_neg h1], hS.F ht⟩) hS.2.2 d_Law_cell_13 hlk
  exact key s.heap [] _ va_S.rf hl
section LR2
variable {p : Program} {l : Launch} {e : Env} {R : Room} {s : State} {m : MethodId} {args : Array Value} {below : List Frame} {meth : Method} {c : Code} {nL : Nat} {D : va_G} {A : Nat → Prop} {Q : State → Prop} {W : va_W} {cells slots pc : Nat} {lv : List (Nat × Value)} {rest : List Value} {cc : ByteArray} {c0 : Cond}
theorem l_cell (S : CallFix p m c cc nL s args (c0 :: zWs) "LeasedViewStoreLaw") {b L : Nat} {xs : Nat → Int32} (hX : va_X b L xs s s.heap) (hbl : b < s.heap.size) (hbA : ¬ A b) (hL : L ≤ 2561) (hfr : 1 ≤ R.frames) (hlo : 21 ≤ R.locals) (hcR : cells ≤ R.cells) (hsR : slots ≤ R.slots) (hW : (rest.map fun v => v.category).sum ≤ 8) (d : decode cc pc = .ok (.invokestatic 9, 3)) (q : Nat) (hq : pc + 3 = q)
    (kk : zG p l e R s m args below meth c nL Q (cI D A s.heap W) cells slots q lv (.int (cvF L xs) :: rest)) : zG p l e R s m args below meth c nL Q (cI D A s.heap W) cells slots pc lv (.int 0 :: .ref b :: rest) := by
  subst hq
  intro H locs ls ⟨hP, hD, hS⟩ hl T hT X
  have hts := S.2.2.2.2
  have hG : GoodIn (c0 :: zWs) (wsS "LeasedViewStoreLaw" 9 y_Law_cell ws_Law_cell) := by
    intro w hw
    have hz : w ∈ zWs := by
      unfold wsS ws_Law_cell at hw
      simp only [List.cons_append, List.nil_append, List.mem_cons] at hw
      rcases hw with rfl | rfl | rfl | rfl | h
      · exact w_531
      · exact w_532
      · exact w_0
      · exact w_533
      · exact h
    exact ⟨List.mem_cons_of_mem _ hz, zWs_good w hz⟩
  have cw := cwS (R := R) (s := s) (args := args) (own := "LeasedViewStoreLaw") (index := 9) (y := y_Law_cell) (bytes := method_2_code) (maxL := 2) (ret := some .int) (ws := ws_Law_cell) (rm := { frames := 0, cells := 0, slots := 0, locals := 0 }) (mc := 0) (ms := 0) 2 hts hG rfl rfl rfl (by decide +kernel) ⟨hfr, hlo⟩
  obtain ⟨v', st₀, t, T', LL, h00, X', hLL, e1, e2, ⟨hv, hz, hk⟩, go⟩ := va_runS (rest := rest) (As := [.ref b, .int 0]) S (c_Law_cell (l := l) (b := b) (xs := xs) hL) cw ⟨fun a U g mk q => ⟨q.1, va_X.moved (Vm.Alike.refl U.vm) q.2.1, q.2.2⟩, fun U hU hW => ⟨rfl, by rw [hU]; exact (va_X.moved hW.alike hX).kept (hS.2.1 b hbl hbA), by rw [hU]; exact Nat.lt_of_lt_of_le hbl hS.1⟩⟩ rfl rfl hl.1 rfl (lv_room hW) d ⟨hcR, hsR⟩ T hT X
  cases hv
  rw [h00] at hz hk
  have hk1 : ∀ q : Nat, q < H.size → T'.heap[q]? = H[q]? := fun q hq => by rw [e1]; exact hk q hq (fun h => h)
  obtain ⟨t2, b1, b2⟩ := kk T'.heap (locs ++ LL) ls ⟨fun k x hx => (hP k x hx).kept (hk1 _ (hP k x hx).lt), hD, Nat.le_trans hS.1 (by rw [e1]; exact hz), fun q h1 h2 => by rw [hk1 q (Nat.lt_of_lt_of_le h1 hS.1)]; exact hS.2.1 q h1 h2, fun q hq => by
      rcases List.mem_append.mp hq with h | h
      · exact hS.2.2 q h
      · exact absurd (hLL q h) (fun h => h)⟩ hl T' rfl X'
  exact ⟨t2, go t2 b1, b2⟩
end LR2
theorem l_nX {s : State} {A : Array Value} (hts : ∀ w ∈ lw_tbl, w.before A s = true) : nX s := ⟨va_Nw.of rfl (hts _ (List.mem_append_right _ (List.mem_append_left _ (List.mem_of_getElem? (i := 36) rfl)))), va_Nw.of rfl (hts _ (List.mem_append_right _ (List.mem_append_left _ (List.mem_of_getElem? (i := 61) rfl)))), va_Nw.of rfl (hts _ (List.mem_append_right _ (List.mem_append_left _ (List.mem_of_getElem? (i := 85) rfl)))), va_Nw.of rfl (hts _ (List.mem_append_right _ (List.mem_append_left _ (List.mem_of_getElem? (i := 166) rfl)))), va_Nw.of rfl (hts _ (List.mem_append_right _ (List.mem_append_left _ (List.mem_of_getElem? (i := 191) rfl)))), va_Nw.of rfl (hts _ (List.mem_append_right _ (List.mem_append_left _ (List.mem_of_getElem? (i := 213) rfl)))), va_Nw.of rfl (hts _ (List.mem_append_right _ (List.mem_append_left _ (List.mem_of_getElem? (i := 218) rfl)))), va_Nw.of rfl (hts _ (List.mem_append_right _ (List.mem_append_left _ (List.mem_of_getElem? (i := 220) rfl)))), va_Nw.of rfl (hts _ (List.mem_append_right _ (List.mem_append_left _ (List.mem_of_getElem? (i := 222) rfl)))), va_AO.of (hts _ (List.mem_append_right _ (List.mem_append_left _ (List.mem_of_getElem? (i := 28) rfl)))), va_AO.of (hts _ (List.mem_append_right _ (List.mem_append_left _ (List.mem_of_getElem? (i := 159) rfl)))), va_AO.of (hts _ (List.mem_append_right _ (List.mem_append_left _ (List.mem_of_getElem? (i := 211) rfl))))⟩
theorem l_prim {s : State} {A : Array Value} {ty : FieldType} (h : (Cond.arrayClass ty).before A s = true) : ∃ cA : ClassId, ArrOfT s cA ty ∧ s.vm.findClass ("[" ++ ty.toString) = some cA := by
  obtain ⟨c, k, comp, h1, h2, h3⟩ := Cond.arrayClass_spec h
  exact ⟨c, fun n z => ⟨fun k h => (by cases h), k, h2, comp, h3⟩, h1⟩
theorem l_ref {s : State} {C : String} (h : va_AO C s) : ∃ cA : ClassId, ArrOfT s cA (.object C) ∧ va_RA s cA (.object C) := by
  obtain ⟨comp, c, k, h1, h2, h3, h4, h5⟩ := Cond.arrayOver_spec h
  exact ⟨c, fun n z => ⟨fun k h => (by cases h), k, h3, comp, h4⟩, k, comp, h3, h4, h1, h5⟩
set_option maxRecDepth 100000 in
theorem l_K {s : State} {A : Array Value} (hts : ∀ w ∈ zWs, w.before A s = true) (hX : nX s) : ∃ (D : va_G) (K : Nat → ClassId), va_K D zCl (zTys K) s := by
  have hc : ∀ w ∈ Cond.initialized "LeasedViewStoreLaw" :: zWs, w.before A s = true := fun w h => (List.mem_cons.mp h).elim (fun e => by rw [e]; exact hts _ w_0) (hts w)
  obtain ⟨c0, i0, h0⟩ := u_known hc (hin_Store (c := Cond.initialized "LeasedViewStoreLaw")) (hts _ w_14)
  obtain ⟨c1, i1, h1⟩ := u_known hc (hin_Server (c := Cond.initialized "LeasedViewStoreLaw")) (hts _ w_29)
  obtain ⟨c2, i2, h2⟩ := u_known hc (hin_Client (c := Cond.initialized "LeasedViewStoreLaw")) (hts _ w_160)
  obtain ⟨c3, i3, h3⟩ := u_known hc (hin_Service (c := Cond.initialized "LeasedViewStoreLaw")) (hts _ w_185)
  obtain ⟨c4, i4, h4⟩ := u_known hc (hin_Post (c := Cond.initialized "LeasedViewStoreLaw")) (hts _ w_205)
  obtain ⟨c5, i5, h5⟩ := u_known hc (hin_Letter (c := Cond.initialized "LeasedViewStoreLaw")) (hts _ w_212)
  obtain ⟨c6, i6, h6⟩ := u_known hc (hin_View (c := Cond.initialized "LeasedViewStoreLaw")) (hts _ w_35)
  obtain ⟨c7, i7, h7⟩ := u_known hc (hin_Operation (c := Cond.initialized "LeasedViewStoreLaw")) (hts _ w_84)
  obtain ⟨c8, i8, h8⟩ := u_known hc (hin_State (c := Cond.initialized "LeasedViewStoreLaw")) (hts _ w_60)
  obtain ⟨c9, i9, h9⟩ := u_known hc (hin_Model (c := Cond.initialized "LeasedViewStoreLaw")) (hts _ w_535)
  obtain ⟨k0, a0, b0⟩ := l_prim (hts _ w_82)
  obtain ⟨k1, a1, b1⟩ := l_prim (hts _ w_652)
  obtain ⟨k2, a2, b2⟩ := l_prim (hts _ w_653)
  obtain ⟨k3, a3, b3⟩ := l_ref hX.2.2.2.2.2.2.2.2.2.1
  obtain ⟨k4, a4, b4⟩ := l_ref hX.2.2.2.2.2.2.2.2.2.2.1
  obtain ⟨k5, a5, b5⟩ := l_ref hX.2.2.2.2.2.2.2.2.2.2.2
  refine ⟨(fun c => ([c0, c1, c2, c3, c4, c5, c6, c7, c8, c9] : List ClassId).getD c c0, fun c => ([i0, i1, i2, i3, i4, i5, i6, i7, i8, i9] : List (Nat → Nat)).getD c i0), fun k => ([k0, k1, k2, k3, k4, k5] : List ClassId).getD k k0, ?_, ?_⟩
  · intro c q hq
    have hlt : c < 10 := (List.getElem?_eq_some_iff.mp hq).1
    match c, hlt, hq with
    | 0, _, hq => cases hq; exact h0
    | 1, _, hq => cases hq; exact h1
    | 2, _, hq => cases hq; exact h2
    | 3, _, hq => cases hq; exact h3
    | 4, _, hq => cases hq; exact h4
    | 5, _, hq => cases hq; exact h5
    | 6, _, hq => cases hq; exact h6
    | 7, _, hq => cases hq; exact h7
    | 8, _, hq => cases hq; exact h8
    | 9, _, hq => cases hq; exact h9
  · intro k q hq
    have hlt : k < 6 := (List.getElem?_eq_some_iff.mp hq).1
    match k, hlt, hq with
    | 0, _, hq => cases hq; exact ⟨a0, b0⟩
    | 1, _, hq => cases hq; exact ⟨a1, b1⟩
    | 2, _, hq => cases hq; exact ⟨a2, b2⟩
    | 3, _, hq => cases hq; exact ⟨a3, b3⟩
    | 4, _, hq => cases hq; exact ⟨a4, b4⟩
    | 5, _, hq => cases hq; exact ⟨a5, b5⟩
