section NR2
variable {p : Program} {l : Launch} {e : Env} {R : Room} {s : State} {m : MethodId} {args : Array Value} {below : List Frame} {meth : Method} {c : Code} {nL : Nat} {D : va_G} {tys : List (ClassId × FieldType)} {A : Nat → Prop} {H0 : Heap} {Q : State → Prop} {W W' : va_W} {cells slots pc : Nat} {lv lv' : List (Nat × Value)} {st rest : List Value} {cc : ByteArray} {Ts : List Cond} {own : String} {I : Heap → List Loc → Prop}
theorem n_widen {c2 s2 : Nat} (h1 : cells ≤ c2) (h2 : slots ≤ s2) (k : zG p l e R s m args below meth c nL Q I c2 s2 pc lv st) : zG p l e R s m args below meth c nL Q I cells slots pc lv st :=
  fun H locs ls hI hl => W.widen h1 h2 (k H locs ls hI hl)
theorem n_mem {H : Heap} : va_P D zCl W H ↔ ∀ q ∈ W, va_at D zCl q H := ⟨fun h q hq => by
  obtain ⟨k, hk⟩ := List.getElem?_of_mem hq
  exact h k q hk, fun h k q hk => h q (List.mem_of_getElem? hk)⟩
theorem n_nd {W : va_W} : (∀ (i j : Nat) (p q : Nat × va_E), W[i]? = some p → W[j]? = some q → p.1 = q.1 → i = j) ↔ (W.map Prod.fst).Nodup := by
  constructor
  · intro h
    rw [List.Nodup, List.pairwise_iff_getElem]
    intro i j hi hj hij e
    simp only [List.length_map] at hi hj
    simp only [List.getElem_map] at e
    have := h i j W[i] W[j] (List.getElem?_eq_getElem hi) (List.getElem?_eq_getElem hj) e
    omega
  · intro h i j x y hi hj hxy
    rw [List.Nodup, List.pairwise_iff_getElem] at h
    obtain ⟨a1, b1⟩ := List.getElem?_eq_some_iff.mp hi
    obtain ⟨a2, b2⟩ := List.getElem?_eq_some_iff.mp hj
    rcases Nat.lt_trichotomy i j with hl | hl | hl
    · have h9 := h i j (by simpa using a1) (by simpa using a2) hl
      simp only [List.getElem_map] at h9
      exact absurd (by rw [b1, b2]; exact hxy) h9
    · exact hl
    · have h9 := h j i (by simpa using a2) (by simpa using a1) hl
      simp only [List.getElem_map] at h9
      exact absurd (by rw [b1, b2]; exact hxy.symm) h9
theorem n_perm {W2 : va_W} (h : W.Perm W2) (k : zG p l e R s m args below meth c nL Q (cI D A H0 W2) cells slots pc lv st) : zG p l e R s m args below meth c nL Q (cI D A H0 W) cells slots pc lv st := by
  intro H locs ls ⟨hP, hD, hS⟩ hl
  refine k H locs ls ⟨n_mem.mpr (fun q hq => n_mem.mp hP q (h.mem_iff.mpr hq)), ⟨n_nd.mpr ?_, fun j q hq => ?_⟩, hS⟩ hl
  · exact (List.Perm.nodup_iff (h.map Prod.fst)).mp (n_nd.mp hD.1)
  · obtain ⟨i, hi⟩ := List.getElem?_of_mem (h.mem_iff.mpr (List.mem_of_getElem? hq))
    exact hD.2 i q hi
theorem arrV_ext {cA : ClassId} {n : Nat} {f g : Nat → Value} (h : ∀ i, i < n → f i = g i) : arrV cA n f = arrV cA n g := by
  unfold arrV
  congr 2
  funext j
  exact h j.val j.isLt
theorem n_exti {a : Nat} (j : Nat) {cA : ClassId} {n : Nat} {f : Nat → Int32} (g : Nat → Int32) (he : W[j]? = some (a, .inl (cA, n, .inl f))) (hfg : ∀ i, i < n → f i = g i) (W' : va_W) (hW : W.set j (a, .inl (cA, n, .inl g)) = W') (k : zG p l e R s m args below meth c nL Q (cI D A H0 W') cells slots pc lv st) : zG p l e R s m args below meth c nL Q (cI D A H0 W) cells slots pc lv st := by
  subst hW
  intro H locs ls ⟨hP, hD, hS⟩ hl
  refine k H locs ls ⟨hP.set hD he ?_ (fun _ _ => rfl), hD.set he, hS⟩ hl
  have h1 : H[a]? = some (vp_cell cA (n, .inl f)) := hP j _ he
  show H[a]? = some (vp_cell cA (n, .inl g))
  rw [h1, vp_cell_i, vp_cell_i, arrV_ext (fun i hi => by rw [hfg i hi])]
theorem n_extq {a : Nat} (j : Nat) {cA : ClassId} {n : Nat} {f : Nat → Option Nat} (g : Nat → Option Nat) (he : W[j]? = some (a, .inl (cA, n, .inr (.inr (.inr (.inr f)))))) (hfg : ∀ i, i < n → f i = g i) (W' : va_W) (hW : W.set j (a, .inl (cA, n, .inr (.inr (.inr (.inr g))))) = W') (k : zG p l e R s m args below meth c nL Q (cI D A H0 W') cells slots pc lv st) : zG p l e R s m args below meth c nL Q (cI D A H0 W) cells slots pc lv st := by
  subst hW
  intro H locs ls ⟨hP, hD, hS⟩ hl
  refine k H locs ls ⟨hP.set hD he ?_ (fun _ _ => rfl), hD.set he, hS⟩ hl
  have h1 : H[a]? = some (vp_cell cA (n, .inr (.inr (.inr (.inr f))))) := hP j _ he
  show H[a]? = some (vp_cell cA (n, .inr (.inr (.inr (.inr g)))))
  rw [h1, vp_cell_q, vp_cell_q, arrV_ext (fun i hi => by rw [hfg i hi])]
theorem n_mmax (S : CallFix p m c cc nL s args Ts own) {index : Nat} (hlink : (Cond.methodLink own index Lib.Math.max.name).before args s = true) (hstat : (Cond.static Lib.Math.max.name).before args s = true) (hini : (Cond.initialized "java/lang/Math").before args s = true) (hcode : (Cond.code Lib.Math.max.name Lib.Math.max.code 2 (some .int)).before args s = true) (hframes : 1 ≤ R.frames) (hlocals : (rest.map fun v => v.category).sum + 13 ≤ R.locals) (hcR : cells ≤ R.cells) (hsR : slots ≤ R.slots) {x y : Int32} (d : decode cc pc = .ok (.invokestatic index, 3)) (q : Nat) (hq : pc + 3 = q)
    (kk : zG p l e R s m args below meth c nL Q I cells slots q lv (.int (if x < y then y else x) :: rest)) : zG p l e R s m args below meth c nL Q I cells slots pc lv (.int y :: .int x :: rest) := by
  subst hq
  exact fun H locs ls hI hl => va_mmax S.1 S.2.1 (S.2.2.1.trans hl.1.symm) S.2.2.2.1 hlink hstat hini hcode hframes hlocals hcR hsR d (kk H locs ls hI hl)
theorem n_mmin (S : CallFix p m c cc nL s args Ts own) {index : Nat} (hlink : (Cond.methodLink own index Lib.Math.min.name).before args s = true) (hstat : (Cond.static Lib.Math.min.name).before args s = true) (hini : (Cond.initialized "java/lang/Math").before args s = true) (hcode : (Cond.code Lib.Math.min.name Lib.Math.min.code 2 (some .int)).before args s = true) (hframes : 1 ≤ R.frames) (hlocals : (rest.map fun v => v.category).sum + 13 ≤ R.locals) (hcR : cells ≤ R.cells) (hsR : slots ≤ R.slots) {x y : Int32} (d : decode cc pc = .ok (.invokestatic index, 3)) (q : Nat) (hq : pc + 3 = q)
    (kk : zG p l e R s m args below meth c nL Q I cells slots q lv (.int (if y < x then y else x) :: rest)) : zG p l e R s m args below meth c nL Q I cells slots pc lv (.int y :: .int x :: rest) := by
  subst hq
  exact fun H locs ls hI hl => va_mmin S.1 S.2.1 (S.2.2.1.trans hl.1.symm) S.2.2.2.1 hlink hstat hini hcode hframes hlocals hcR hsR d (kk H locs ls hI hl)
end NR2
theorem fm_congr {α β : Type} {l : List α} {f g : α → List β} (h : ∀ x ∈ l, f x = g x) : l.flatMap f = l.flatMap g := by
  induction l with
  | nil => rfl
  | cons a t ih =>
    rw [List.flatMap_cons, List.flatMap_cons, h a (by simp), ih (fun x hx => h x (by simp [hx]))]
theorem fm_succ {β : Type} {j : Nat} {f : Nat → List β} : (List.range (j + 1)).flatMap f = (List.range j).flatMap f ++ f j := by
  rw [List.range_succ, List.flatMap_append]
  simp
theorem wLetter_congr {K : Nat → ClassId} {f g : Nat → Nat} (h : ∀ k, k < 7 → f k = g k) : wLetter K f = wLetter K g := by
  unfold wLetter
  rw [h 0 (by omega), h 1 (by omega), h 2 (by omega), h 3 (by omega), h 4 (by omega), h 5 (by omega), h 6 (by omega)]
theorem wServer_congr {K : Nat → ClassId} {x : Int32} {f g : Nat → Nat} (h : ∀ k, k < 7 → f k = g k) : wServer K x f = wServer K x g := by
  unfold wServer
  rw [h 0 (by omega), h 1 (by omega), h 2 (by omega), h 3 (by omega), h 4 (by omega), h 5 (by omega), h 6 (by omega)]
theorem wClient_congr {x : Int32} {f g : Nat → Nat} (h : ∀ k, k < 2 → f k = g k) : wClient x f = wClient x g := by
  unfold wClient
  rw [h 0 (by omega), h 1 (by omega)]
def wService (K : Nat → ClassId) (n : Nat) (f : Nat → Nat) : va_W := [(f 0, .inr (3, [.ref (f 1), .ref (f 2), .int 0])), (f 1, .inr (6, [.int 0, .int 7, .int 7])), (f 2, .inl (K 0, n, .inl (fun _ => -1)))]
def rowF (j : Nat) (F : Nat → Nat) : Nat → Option Nat := fun x => if x < j then some (F (9 + 7 * x)) else none
/-- the post when j letters of its row are made -/
def wPostJ (K : Nat → ClassId) (j : Nat) (F : Nat → Nat) : va_W := (F 0, .inr (4, [.ref (F 1), .ref (F 2), .int 0])) :: (F 1, .inl (K 5, 33, .inr (.inr (.inr (.inr (rowF j F)))))) :: (wLetter K (fun k => F (2 + k)) ++ (List.range j).flatMap (fun x => wLetter K (fun k => F (9 + 7 * x + k))))
theorem wPost_step {K : Nat → ClassId} {j : Nat} {F g : Nat → Nat} : (F 0, .inr (4, [.ref (F 1), .ref (F 2), .int 0])) :: (F 1, .inl (K 5, 33, .inr (.inr (.inr (.inr (va_up (rowF j F) j (some (g 0)))))))) :: ((wLetter K (fun k => F (2 + k)) ++ (List.range j).flatMap (fun x => wLetter K (fun k => F (9 + 7 * x + k)))) ++ wLetter K g) = wPostJ K (j + 1) (fun k => if k < 9 + 7 * j then F k else g (k - (9 + 7 * j))) := by
  unfold wPostJ
  have e0 : ∀ k, k < 9 + 7 * j → (fun k => if k < 9 + 7 * j then F k else g (k - (9 + 7 * j))) k = F k := fun k hk => if_pos hk
  have e1 : ∀ k, (fun k => if k < 9 + 7 * j then F k else g (k - (9 + 7 * j))) (9 + 7 * j + k) = g k := fun k => by
    show (if 9 + 7 * j + k < 9 + 7 * j then _ else _) = _
    rw [if_neg (by omega), Nat.add_sub_cancel_left]
  generalize (fun k => if k < 9 + 7 * j then F k else g (k - (9 + 7 * j))) = F' at e0 e1
  have hr : va_up (rowF j F) j (some (g 0)) = rowF (j + 1) F' := by
    funext x
    unfold va_up rowF
    by_cases hx : x = j
    · subst hx
      rw [if_pos rfl, if_pos (by omega)]
      have := e1 0
      rw [Nat.add_zero] at this
      rw [this]
    · rw [if_neg hx]
      by_cases h2 : x < j
      · rw [if_pos h2, if_pos (by omega), e0 _ (by omega)]
      · rw [if_neg h2, if_neg (by omega)]
  rw [hr, e0 0 (by omega), e0 1 (by omega), e0 2 (by omega), fm_succ, List.append_assoc]
  congr 2
  rw [wLetter_congr (f := fun k => F (2 + k)) (g := fun k => F' (2 + k)) (fun k hk => (e0 _ (by omega)).symm),
    fm_congr (f := fun x => wLetter K (fun k => F (9 + 7 * x + k))) (g := fun x => wLetter K (fun k => F' (9 + 7 * x + k))) (fun x hx => wLetter_congr (fun k hk => (e0 _ (by have := List.mem_range.mp hx; omega)).symm)),
    wLetter_congr (f := g) (g := fun k => F' (9 + 7 * j + k)) (fun k hk => (e1 k).symm)]
theorem d_Service_init_0 : decode prog_7_method_1_code 0 = .ok (.aload_n 0, 1) := by decide +kernel
theorem d_Service_init_1 : decode prog_7_method_1_code 1 = .ok (.invokespecial 3, 3) := by decide +kernel
theorem d_Service_init_4 : decode prog_7_method_1_code 4 = .ok (.aload_n 0, 1) := by decide +kernel
theorem d_Service_init_5 : decode prog_7_method_1_code 5 = .ok (.new 9, 3) := by decide +kernel
theorem d_Service_init_8 : decode prog_7_method_1_code 8 = .ok (.dup, 1) := by decide +kernel
theorem d_Service_init_9 : decode prog_7_method_1_code 9 = .ok (.invokespecial 11, 3) := by decide +kernel
theorem d_Service_init_12 : decode prog_7_method_1_code 12 = .ok (.putfield 12, 3) := by decide +kernel
theorem d_Service_init_15 : decode prog_7_method_1_code 15 = .ok (.aload_n 0, 1) := by decide +kernel
theorem d_Service_init_16 : decode prog_7_method_1_code 16 = .ok (.iconst 0, 1) := by decide +kernel
theorem d_Service_init_17 : decode prog_7_method_1_code 17 = .ok (.putfield 18, 3) := by decide +kernel
theorem d_Service_init_20 : decode prog_7_method_1_code 20 = .ok (.aload_n 0, 1) := by decide +kernel
theorem d_Service_init_21 : decode prog_7_method_1_code 21 = .ok (.iload_n 1, 1) := by decide +kernel
theorem d_Service_init_22 : decode prog_7_method_1_code 22 = .ok (.newarray .int, 2) := by decide +kernel
theorem d_Service_init_24 : decode prog_7_method_1_code 24 = .ok (.putfield 22, 3) := by decide +kernel
theorem d_Service_init_27 : decode prog_7_method_1_code 27 = .ok (.iconst 0, 1) := by decide +kernel
theorem d_Service_init_28 : decode prog_7_method_1_code 28 = .ok (.istore_n 2, 1) := by decide +kernel
theorem d_Service_init_29 : decode prog_7_method_1_code 29 = .ok (.iload_n 2, 1) := by decide +kernel
theorem d_Service_init_30 : decode prog_7_method_1_code 30 = .ok (.iload_n 1, 1) := by decide +kernel
theorem d_Service_init_31 : decode prog_7_method_1_code 31 = .ok (.if_icmp .ge 16, 3) := by decide +kernel
theorem d_Service_init_34 : decode prog_7_method_1_code 34 = .ok (.aload_n 0, 1) := by decide +kernel
theorem d_Service_init_35 : decode prog_7_method_1_code 35 = .ok (.getfield 22, 3) := by decide +kernel
theorem d_Service_init_38 : decode prog_7_method_1_code 38 = .ok (.iload_n 2, 1) := by decide +kernel
theorem d_Service_init_39 : decode prog_7_method_1_code 39 = .ok (.iconst (-1), 1) := by decide +kernel
theorem d_Service_init_40 : decode prog_7_method_1_code 40 = .ok (.iastore, 1) := by decide +kernel
theorem d_Service_init_41 : decode prog_7_method_1_code 41 = .ok (.iinc 2 1, 3) := by decide +kernel
theorem d_Service_init_44 : decode prog_7_method_1_code 44 = .ok (.goto (-15), 3) := by decide +kernel
theorem d_Service_init_47 : decode prog_7_method_1_code 47 = .ok (.return_, 1) := by decide +kernel
set_option maxHeartbeats 4000000 in
set_option maxRecDepth 100000 in
theorem n_Service {l : Launch} {D : va_G} {K : Nat → ClassId} {h0 N : Nat} (hN5 : N ≤ 5) : zN l y_Service_init ws_Service_init ({ frames := 2, cells := 2, slots := 8, locals := 40 }) D (zTys K) [.ref h0, .int (nI N)] h0 (.inr (3, [.null, .null, .int 0])) (wService K N) 2 8 := by
  refine zN.of (cc := prog_7_method_1_code) (maxL := 3) (by decide) rfl rfl (Nat.le_of_ble_eq_true rfl) ?_
  intro pP eE U mM bL mT cO A S hr hlk hnm0 hK hX hA
  have hts := S.2.2.2.2
  have ht := fun w h => hts w (List.mem_cons_of_mem _ h)
  refine z_aload_n S d_Service_init_0 rfl 0 rfl 1 rfl ?_
  refine n_obj S (ht _ w_189) (ht _ w_19) (ht _ w_20) (Nat.le_of_ble_eq_true rfl) (Nat.le_of_ble_eq_true rfl) d_Service_init_1 4 rfl ?_
  refine z_aload_n S d_Service_init_4 rfl 0 rfl 5 rfl ?_
  refine n_new S hK hA hin_View t_View ok_View (ht _ w_190) (ht _ w_35) (ht _ w_4) (ci := 6) rfl [.int 0, .int 0, .int 0] (by decide) d_Service_init_5 8 rfl 1 3 rfl rfl (by first | exact Nat.le_of_ble_eq_true rfl | (show _ ≤ 8; omega)) (by first | exact Nat.le_of_ble_eq_true rfl | (show _ ≤ 8; omega)) (fun q1 => ?_)
  refine z_dup S d_Service_init_8 rfl 9 rfl ?_
  refine n_initN S hK hX hA (As := []) (rest := [.ref q1, .ref h0]) ([(h0, .inr (3, [.null, .null, .int 0]))]) rfl (n_View) (n_cwN hts hX.2.2.2.2.1 w_37 w_4 w_38 rfl (by decide) rfl rfl ⟨(Nat.le_of_ble_eq_true rfl), (Nat.le_of_ble_eq_true rfl)⟩) rfl rfl (Nat.le_of_ble_eq_true rfl) d_Service_init_9 12 rfl 1 3 rfl rfl (by first | exact Nat.le_of_ble_eq_true rfl | (show _ ≤ 8; omega)) (by first | exact Nat.le_of_ble_eq_true rfl | (show _ ≤ 8; omega)) (fun f2 hf3 => ?_)
  subst hf3
  refine n_putF S hK hnm0 hin_Service t_Service ok_Service nm_Service 0 rfl rfl 0 (Nat.le_of_ble_eq_true rfl) (ht _ w_192) (fun _ h => h) rfl rfl rfl rfl (Nat.le_of_ble_eq_true rfl) d_Service_init_12 15 rfl ([(h0, .inr (3, [.ref (f2 0), .null, .int 0])), (f2 0, .inr (6, [.int 0, .int 7, .int 7]))]) rfl ?_
  refine z_aload_n S d_Service_init_15 rfl 0 rfl 16 rfl ?_
  refine z_iconst S d_Service_init_16 0 (by decide) 17 rfl ?_
  refine n_put S hK hin_Service t_Service ok_Service nm_Service 0 rfl rfl 2 (Nat.le_of_ble_eq_true rfl) (ht _ w_195) (fun _ h => h) rfl (zb_n zb_0) (zb_f zb_0) (Nat.le_of_ble_eq_true rfl) d_Service_init_17 20 rfl ([(h0, .inr (3, [.ref (f2 0), .null, .int 0])), (f2 0, .inr (6, [.int 0, .int 7, .int 7]))]) rfl ?_
  refine z_aload_n S d_Service_init_20 rfl 0 rfl 21 rfl ?_
  refine z_iload_n S d_Service_init_21 rfl 1 rfl 22 rfl ?_
  refine n_newa (atype := .int) S hK hA (ht _ w_82) rfl 0 rfl (fun _ _ _ => ra_int) rfl N (nI_pos (by omega)) (nI_clamp (by omega)) (by show N * 4 ≤ 536870912; omega) d_Service_init_22 24 rfl 2 (3 + N) rfl rfl (by first | exact Nat.le_of_ble_eq_true rfl | (show _ ≤ 8; omega)) (by first | exact Nat.le_of_ble_eq_true rfl | (show _ ≤ 8; omega)) (fun q4 => ?_)
  refine n_putF S hK hnm0 hin_Service t_Service ok_Service nm_Service 0 rfl rfl 1 (Nat.le_of_ble_eq_true rfl) (ht _ w_194) (fun _ h => h) rfl rfl rfl rfl (Nat.le_of_ble_eq_true rfl) d_Service_init_24 27 rfl ([(h0, .inr (3, [.ref (f2 0), .ref q4, .int 0])), (f2 0, .inr (6, [.int 0, .int 7, .int 7])), (q4, .inl (K 0, N, .inl (fun _ => 0)))]) rfl ?_
  refine z_iconst S d_Service_init_27 0 (by decide) 28 rfl ?_
  refine z_istore_n S d_Service_init_28 rfl (Nat.le_of_ble_eq_true rfl) [(2, .int 0), (0, .ref h0), (1, .int (nI N))] rfl 29 rfl ?_
  refine n_widen (c2 := 2) (s2 := 8) (by omega) (by omega) ?_
  have loop : ∀ (k j : Nat) (g : Nat → Int32), j + k = N → (∀ i, i < j → g i = -1) → zG pP l eE (headSpec ws_Service_init ({ frames := 2, cells := 2, slots := 8, locals := 40 })).room U mM ([.ref h0, .int (nI N)] : List Value).toArray bL mT cO 3 (MQ bL (zNQ D h0 (wService K N) A) ([.ref h0, .int (nI N)] : List Value).toArray U 2 8 A) (cI D A U.heap ([(h0, .inr (3, [.ref (f2 0), .ref q4, .int 0])), (f2 0, .inr (6, [.int 0, .int 7, .int 7])), (q4, .inl (K 0, N, .inl g))])) 2 8 29 [(2, .int (nI j)), (0, .ref h0), (1, .int (nI N))] [] := by
    intro k
    induction k with
    | zero =>
      intro j g hj hg
      refine z_iload_n S d_Service_init_29 rfl 0 rfl 30 rfl ?_
      refine z_iload_n S d_Service_init_30 rfl 2 rfl 31 rfl ?_
      refine z_icmp_ge S d_Service_init_31 47 (by decide) 34 rfl (fun h1 => ?_) (fun h1 => ?_)
      · refine n_exti 2 (fun _ => -1) rfl (fun i hi => hg i (by omega)) _ rfl ?_
        exact n_vret S hr hlk d_Service_init_47 (fun k => ([h0, f2 0, q4] : List Nat).getD k 0) rfl rfl
      · exact absurd (nI_le (by omega) (by omega)) h1
    | succ k ih =>
      intro j g hj hg
      refine z_iload_n S d_Service_init_29 rfl 0 rfl 30 rfl ?_
      refine z_iload_n S d_Service_init_30 rfl 2 rfl 31 rfl ?_
      refine z_icmp_ge S d_Service_init_31 47 (by decide) 34 rfl (fun h1 => ?_) (fun h1 => ?_)
      · exact absurd h1 (nI_ge (by omega) (by omega))
      · refine z_aload_n S d_Service_init_34 rfl 1 rfl 35 rfl ?_
        refine n_get S hK hin_Service 0 rfl rfl 1 (Nat.le_of_ble_eq_true rfl) (ht _ w_194) (fun _ h => h) d_Service_init_35 38 rfl (.ref q4) rfl ?_
        refine z_iload_n S d_Service_init_38 rfl 0 rfl 39 rfl ?_
        refine z_iconst S d_Service_init_39 (-1) (by decide) 40 rfl ?_
        refine n_iast S hK 2 0 rfl rfl (nI_in (by omega) (by omega)) d_Service_init_40 41 rfl _ rfl ?_
        refine z_iinc S d_Service_init_41 0 rfl (nI_i1 _) (Nat.le_of_ble_eq_true rfl) [(2, .int (nI (j + 1))), (0, .ref h0), (1, .int (nI N))] rfl 44 rfl ?_
        refine z_goto S d_Service_init_44 29 (by decide) ?_
        exact ih (j + 1) _ (by omega) (fun i hi => by unfold upd; rw [nI_clamp (by omega)]; split; rfl; exact hg i (by omega))
  exact loop N 0 _ (by omega) (fun i hi => by omega)
theorem d_Post_init_0 : decode prog_5_method_1_code 0 = .ok (.aload_n 0, 1) := by decide +kernel
theorem d_Post_init_1 : decode prog_5_method_1_code 1 = .ok (.invokespecial 3, 3) := by decide +kernel
theorem d_Post_init_4 : decode prog_5_method_1_code 4 = .ok (.aload_n 0, 1) := by decide +kernel
theorem d_Post_init_5 : decode prog_5_method_1_code 5 = .ok (.bipush 33, 2) := by decide +kernel
theorem d_Post_init_7 : decode prog_5_method_1_code 7 = .ok (.anewarray 9, 3) := by decide +kernel
theorem d_Post_init_10 : decode prog_5_method_1_code 10 = .ok (.putfield 11, 3) := by decide +kernel
theorem d_Post_init_13 : decode prog_5_method_1_code 13 = .ok (.aload_n 0, 1) := by decide +kernel
theorem d_Post_init_14 : decode prog_5_method_1_code 14 = .ok (.new 9, 3) := by decide +kernel
theorem d_Post_init_17 : decode prog_5_method_1_code 17 = .ok (.dup, 1) := by decide +kernel
theorem d_Post_init_18 : decode prog_5_method_1_code 18 = .ok (.invokespecial 17, 3) := by decide +kernel
theorem d_Post_init_21 : decode prog_5_method_1_code 21 = .ok (.putfield 18, 3) := by decide +kernel
theorem d_Post_init_24 : decode prog_5_method_1_code 24 = .ok (.aload_n 0, 1) := by decide +kernel
theorem d_Post_init_25 : decode prog_5_method_1_code 25 = .ok (.iconst 0, 1) := by decide +kernel
theorem d_Post_init_26 : decode prog_5_method_1_code 26 = .ok (.putfield 22, 3) := by decide +kernel
theorem d_Post_init_29 : decode prog_5_method_1_code 29 = .ok (.iconst 0, 1) := by decide +kernel
theorem d_Post_init_30 : decode prog_5_method_1_code 30 = .ok (.istore_n 1, 1) := by decide +kernel
theorem d_Post_init_31 : decode prog_5_method_1_code 31 = .ok (.iload_n 1, 1) := by decide +kernel
theorem d_Post_init_32 : decode prog_5_method_1_code 32 = .ok (.aload_n 0, 1) := by decide +kernel
theorem d_Post_init_33 : decode prog_5_method_1_code 33 = .ok (.getfield 11, 3) := by decide +kernel
theorem d_Post_init_36 : decode prog_5_method_1_code 36 = .ok (.arraylength, 1) := by decide +kernel
theorem d_Post_init_37 : decode prog_5_method_1_code 37 = .ok (.if_icmp .ge 22, 3) := by decide +kernel
theorem d_Post_init_40 : decode prog_5_method_1_code 40 = .ok (.aload_n 0, 1) := by decide +kernel
theorem d_Post_init_41 : decode prog_5_method_1_code 41 = .ok (.getfield 11, 3) := by decide +kernel
theorem d_Post_init_44 : decode prog_5_method_1_code 44 = .ok (.iload_n 1, 1) := by decide +kernel
theorem d_Post_init_45 : decode prog_5_method_1_code 45 = .ok (.new 9, 3) := by decide +kernel
theorem d_Post_init_48 : decode prog_5_method_1_code 48 = .ok (.dup, 1) := by decide +kernel
theorem d_Post_init_49 : decode prog_5_method_1_code 49 = .ok (.invokespecial 17, 3) := by decide +kernel
theorem d_Post_init_52 : decode prog_5_method_1_code 52 = .ok (.aastore, 1) := by decide +kernel
theorem d_Post_init_53 : decode prog_5_method_1_code 53 = .ok (.iinc 1 1, 3) := by decide +kernel
theorem d_Post_init_56 : decode prog_5_method_1_code 56 = .ok (.goto (-25), 3) := by decide +kernel
theorem d_Post_init_59 : decode prog_5_method_1_code 59 = .ok (.return_, 1) := by decide +kernel
set_option maxHeartbeats 4000000 in
set_option maxRecDepth 100000 in
theorem n_Post {l : Launch} {D : va_G} {K : Nat → ClassId} {h0 : Nat} : zN l y_Post_init ws_Post_init ({ frames := 3, cells := 239, slots := 1087, locals := 60 }) D (zTys K) [.ref h0] h0 (.inr (4, [.null, .null, .int 0])) (wPostJ K 33) 239 1087 := by
  refine zN.of (cc := prog_5_method_1_code) (maxL := 2) (by decide) rfl rfl (Nat.le_of_ble_eq_true rfl) ?_
  intro pP eE U mM bL mT cO A S hr hlk hnm0 hK hX hA
  have hts := S.2.2.2.2
  have ht := fun w h => hts w (List.mem_cons_of_mem _ h)
  refine z_aload_n S d_Post_init_0 rfl 0 rfl 1 rfl ?_
  refine n_obj S (ht _ w_209) (ht _ w_19) (ht _ w_20) (Nat.le_of_ble_eq_true rfl) (Nat.le_of_ble_eq_true rfl) d_Post_init_1 4 rfl ?_
  refine z_aload_n S d_Post_init_4 rfl 0 rfl 5 rfl ?_
  refine z_bipush S d_Post_init_5 33 (by decide) 7 rfl ?_
  refine n_newq S hK hA (ht _ w_210) hX.2.2.2.2.2.2.2.2.2.2.2 5 rfl 33 (by decide) rfl (by decide) d_Post_init_7 10 rfl 1 33 rfl rfl (Nat.le_of_ble_eq_true rfl) (Nat.le_of_ble_eq_true rfl) (fun q1 => ?_)
  refine n_putF S hK hnm0 hin_Post t_Post ok_Post nm_Post 0 rfl rfl 0 (Nat.le_of_ble_eq_true rfl) (ht _ w_266) (fun _ h => h) rfl rfl rfl rfl (Nat.le_of_ble_eq_true rfl) d_Post_init_10 13 rfl ([(h0, .inr (4, [.ref q1, .null, .int 0])), (q1, .inl (K 5, 33, .inr (.inr (.inr (.inr (fun _ => none))))))]) rfl ?_
  refine z_aload_n S d_Post_init_13 rfl 0 rfl 14 rfl ?_
  refine n_new S hK hA hin_Letter t_Letter ok_Letter (ht _ w_210) (ht _ w_212) (ht _ w_10) (ci := 5) rfl [.null, .null, .null, .int 0, .int 0, .int 0, .int 0, .int 0, .int 0] (by decide) d_Post_init_14 17 rfl 2 42 rfl rfl (Nat.le_of_ble_eq_true rfl) (Nat.le_of_ble_eq_true rfl) (fun q2 => ?_)
  refine z_dup S d_Post_init_17 rfl 18 rfl ?_
  refine n_initN S hK hX hA (As := []) (rest := [.ref q2, .ref h0]) ([(h0, .inr (4, [.ref q1, .null, .int 0])), (q1, .inl (K 5, 33, .inr (.inr (.inr (.inr (fun _ => none))))))]) rfl (n_Letter) (n_cwN hts hX.2.2.2.2.2.1 w_214 w_10 w_215 rfl (by decide) rfl rfl ⟨(Nat.le_of_ble_eq_true rfl), (Nat.le_of_ble_eq_true rfl)⟩) rfl rfl (Nat.le_of_ble_eq_true rfl) d_Post_init_18 21 rfl 8 64 rfl rfl (Nat.le_of_ble_eq_true rfl) (Nat.le_of_ble_eq_true rfl) (fun f3 hf4 => ?_)
  subst hf4
  refine n_putF S hK hnm0 hin_Post t_Post ok_Post nm_Post 0 rfl rfl 1 (Nat.le_of_ble_eq_true rfl) (ht _ w_268) (fun _ h => h) rfl rfl rfl rfl (Nat.le_of_ble_eq_true rfl) d_Post_init_21 24 rfl ([(h0, .inr (4, [.ref q1, .ref (f3 0), .int 0])), (q1, .inl (K 5, 33, .inr (.inr (.inr (.inr (fun _ => none))))))] ++ wLetter K f3) rfl ?_
  refine z_aload_n S d_Post_init_24 rfl 0 rfl 25 rfl ?_
  refine z_iconst S d_Post_init_25 0 (by decide) 26 rfl ?_
  refine n_put S hK hin_Post t_Post ok_Post nm_Post 0 rfl rfl 2 (Nat.le_of_ble_eq_true rfl) (ht _ w_269) (fun _ h => h) rfl rfl rfl (Nat.le_of_ble_eq_true rfl) d_Post_init_26 29 rfl ([(h0, .inr (4, [.ref q1, .ref (f3 0), .int 0])), (q1, .inl (K 5, 33, .inr (.inr (.inr (.inr (fun _ => none))))))] ++ wLetter K f3) rfl ?_
  refine z_iconst S d_Post_init_29 0 (by decide) 30 rfl ?_
  refine z_istore_n S d_Post_init_30 rfl (Nat.le_of_ble_eq_true rfl) [(1, .int 0), (0, .ref h0)] rfl 31 rfl ?_
  have loop : ∀ (k j : Nat) (F : Nat → Nat), j + k = 33 → F 0 = h0 → zG pP l eE (headSpec ws_Post_init ({ frames := 3, cells := 239, slots := 1087, locals := 60 })).room U mM ([.ref h0] : List Value).toArray bL mT cO 2 (MQ bL (zNQ D h0 (wPostJ K 33) A) ([.ref h0] : List Value).toArray U 239 1087 A) (cI D A U.heap (wPostJ K j F)) (8 + 7 * j) (64 + 31 * j) 31 [(1, .int (nI j)), (0, .ref (F 0))] [] := by
    intro k
    induction k with
    | zero =>
      intro j F hj hF
      refine z_iload_n S d_Post_init_31 rfl 0 rfl 32 rfl ?_
      refine z_aload_n S d_Post_init_32 rfl 1 rfl 33 rfl ?_
      refine n_get S hK hin_Post 0 rfl rfl 0 (Nat.le_of_ble_eq_true rfl) (ht _ w_266) (fun _ h => h) d_Post_init_33 36 rfl (.ref (F 1)) rfl ?_
      refine n_alen S hK 1 5 rfl rfl (v := nI 33) rfl d_Post_init_36 37 rfl ?_
      refine z_icmp_ge S d_Post_init_37 59 (by decide) 40 rfl (fun h1 => ?_) (fun h1 => ?_)
      · obtain rfl : j = 33 := by omega
        exact n_vret S hr hlk d_Post_init_59 F hF rfl
      · exact absurd (nI_le (by omega) (by omega)) h1
    | succ k ih =>
      intro j F hj hF
      refine z_iload_n S d_Post_init_31 rfl 0 rfl 32 rfl ?_
      refine z_aload_n S d_Post_init_32 rfl 1 rfl 33 rfl ?_
      refine n_get S hK hin_Post 0 rfl rfl 0 (Nat.le_of_ble_eq_true rfl) (ht _ w_266) (fun _ h => h) d_Post_init_33 36 rfl (.ref (F 1)) rfl ?_
      refine n_alen S hK 1 5 rfl rfl (v := nI 33) rfl d_Post_init_36 37 rfl ?_
      refine z_icmp_ge S d_Post_init_37 59 (by decide) 40 rfl (fun h1 => ?_) (fun h1 => ?_)
      · exact absurd h1 (nI_ge (by omega) (by omega))
      · refine z_aload_n S d_Post_init_40 rfl 1 rfl 41 rfl ?_
        refine n_get S hK hin_Post 0 rfl rfl 0 (Nat.le_of_ble_eq_true rfl) (ht _ w_266) (fun _ h => h) d_Post_init_41 44 rfl (.ref (F 1)) rfl ?_
        refine z_iload_n S d_Post_init_44 rfl 0 rfl 45 rfl ?_
        refine n_new S hK hA hin_Letter t_Letter ok_Letter (ht _ w_210) (ht _ w_212) (ht _ w_10) (ci := 5) rfl [.null, .null, .null, .int 0, .int 0, .int 0, .int 0, .int 0, .int 0] (by decide) d_Post_init_45 48 rfl (9 + 7 * j) (73 + 31 * j) (by omega) (by omega) (by show 9 + 7 * j ≤ 239; omega) (by show 73 + 31 * j ≤ 1087; omega) (fun qn => ?_)
        refine z_dup S d_Post_init_48 rfl 49 rfl ?_
        refine n_initN S hK hX hA (As := []) (rest := [.ref qn, .int (nI j), .ref (F 1)]) (wPostJ K j F) rfl n_Letter (n_cwN hts hX.2.2.2.2.2.1 w_214 w_10 w_215 rfl (by decide) rfl rfl ⟨(Nat.le_of_ble_eq_true rfl), (Nat.le_of_ble_eq_true rfl)⟩) rfl rfl (Nat.le_of_ble_eq_true rfl) d_Post_init_49 52 rfl (8 + 7 * (j + 1)) (64 + 31 * (j + 1)) (by omega) (by omega) (by show 8 + 7 * (j + 1) ≤ 239; omega) (by show 64 + 31 * (j + 1) ≤ 1087; omega) (fun g hg => ?_)
        subst hg
        refine n_aast S hK 1 5 5 rfl rfl (List.mem_append_right _ List.mem_cons_self) rfl (nI_in (by omega) (by omega)) d_Post_init_52 53 rfl _ rfl ?_
        refine z_iinc S d_Post_init_53 0 rfl (nI_i1 _) (Nat.le_of_ble_eq_true rfl) [(1, .int (nI (j + 1))), (0, .ref (F 0))] rfl 56 rfl ?_
        refine z_goto S d_Post_init_56 31 (by decide) ?_
        rw [nI_clamp (show j < 2 ^ 31 by omega)]
        refine n_w (W2 := wPostJ K (j + 1) (fun k => if k < 9 + 7 * j then F k else g (k - (9 + 7 * j)))) wPost_step ?_
        have h00 : (fun k => if k < 9 + 7 * j then F k else g (k - (9 + 7 * j))) 0 = F 0 := if_pos (by omega)
        rw [← h00]
        exact ih (j + 1) (fun k => if k < 9 + 7 * j then F k else g (k - (9 + 7 * j))) (by omega) (h00.trans hF)
  exact loop 33 0 (fun k => if k = 0 then h0 else if k = 1 then q1 else f3 (k - 2)) (by omega) rfl
