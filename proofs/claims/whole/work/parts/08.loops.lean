theorem nI_i1 (a : Nat) : nI a + Int32.ofInt 1 = nI (a + 1) := nI_1 a
theorem nI_im1 (a : Nat) : nI (a + 1) + Int32.ofInt (-1) = nI a := by
  rw [← nI_1, Int32.add_assoc]
  exact Int32.add_zero _
theorem kC_eq2 {K : Nat → ClassId} {ad : Nat → Nat → Nat} {n : Nat} {s s' : S3} {π π' : Nat → Nat} (h : s = s') (h2 : π = π') : kC K ad n s π = kC K ad n s' π' := by rw [h, h2]
theorem vp_eq {x : Int32} {n : Nat} (h : vp_in x n) : x = nI x.toNatClampNeg := by
  obtain ⟨j, -, hj, rfl⟩ := vp_nI h
  rw [nI_clamp hj]
/-- the first fresh server that is neither primary nor backup -/
def ncF (pr bk : Int32) (g : Nat → Int32) (t : Int32) : Nat → Nat → Int32
  | 0, _ => 7
  | k + 1, j => if nI j = pr then ncF pr bk g t k (j + 1) else if nI j = bk then ncF pr bk g t k (j + 1) else if v_Service_isFresh (g (nI j).toNatClampNeg) t = 0 then ncF pr bk g t k (j + 1) else nI j
/-- the row from place j on moves up by one, k places -/
def tkR : Nat → Nat → (Nat → Nat) → Nat → Nat
  | 0, _, p => p
  | k + 1, j, p => tkR k (j + 1) (va_up p j (p (j + 1)))
def tkP (π : Nat → Nat) (x : Nat) : Nat → Nat := va_up (tkR (32 - x) x π) 32 (π x)
theorem tkR_lt {k j : Nat} {p : Nat → Nat} (h : ∀ i, p i < 34) : ∀ i, tkR k j p i < 34 := by
  induction k generalizing j p with
  | zero => exact h
  | succ k ih =>
    refine ih (fun i => ?_)
    unfold va_up
    split
    · exact h _
    · exact h _
theorem tkP_lt {π : Nat → Nat} {x : Nat} (h : ∀ i, π i < 34) : ∀ i, tkP π x i < 34 := by
  intro i
  unfold tkP va_up
  split
  · exact h _
  · exact tkR_lt h i
theorem d_Service_freshNewcomer_0 : decode prog_7_method_6_code 0 = .ok (.iconst 0, 1) := by decide +kernel
theorem d_Service_freshNewcomer_1 : decode prog_7_method_6_code 1 = .ok (.istore_n 2, 1) := by decide +kernel
theorem d_Service_freshNewcomer_2 : decode prog_7_method_6_code 2 = .ok (.iload_n 2, 1) := by decide +kernel
theorem d_Service_freshNewcomer_3 : decode prog_7_method_6_code 3 = .ok (.aload_n 0, 1) := by decide +kernel
theorem d_Service_freshNewcomer_4 : decode prog_7_method_6_code 4 = .ok (.getfield 22, 3) := by decide +kernel
theorem d_Service_freshNewcomer_7 : decode prog_7_method_6_code 7 = .ok (.arraylength, 1) := by decide +kernel
theorem d_Service_freshNewcomer_8 : decode prog_7_method_6_code 8 = .ok (.if_icmp .ge 42, 3) := by decide +kernel
theorem d_Service_freshNewcomer_11 : decode prog_7_method_6_code 11 = .ok (.iload_n 2, 1) := by decide +kernel
theorem d_Service_freshNewcomer_12 : decode prog_7_method_6_code 12 = .ok (.aload_n 0, 1) := by decide +kernel
theorem d_Service_freshNewcomer_13 : decode prog_7_method_6_code 13 = .ok (.getfield 12, 3) := by decide +kernel
theorem d_Service_freshNewcomer_16 : decode prog_7_method_6_code 16 = .ok (.getfield 39, 3) := by decide +kernel
theorem d_Service_freshNewcomer_19 : decode prog_7_method_6_code 19 = .ok (.if_icmp .eq 25, 3) := by decide +kernel
theorem d_Service_freshNewcomer_22 : decode prog_7_method_6_code 22 = .ok (.iload_n 2, 1) := by decide +kernel
theorem d_Service_freshNewcomer_23 : decode prog_7_method_6_code 23 = .ok (.aload_n 0, 1) := by decide +kernel
theorem d_Service_freshNewcomer_24 : decode prog_7_method_6_code 24 = .ok (.getfield 12, 3) := by decide +kernel
theorem d_Service_freshNewcomer_27 : decode prog_7_method_6_code 27 = .ok (.getfield 52, 3) := by decide +kernel
theorem d_Service_freshNewcomer_30 : decode prog_7_method_6_code 30 = .ok (.if_icmp .eq 14, 3) := by decide +kernel
theorem d_Service_freshNewcomer_33 : decode prog_7_method_6_code 33 = .ok (.aload_n 0, 1) := by decide +kernel
theorem d_Service_freshNewcomer_34 : decode prog_7_method_6_code 34 = .ok (.iload_n 2, 1) := by decide +kernel
theorem d_Service_freshNewcomer_35 : decode prog_7_method_6_code 35 = .ok (.iload_n 1, 1) := by decide +kernel
theorem d_Service_freshNewcomer_36 : decode prog_7_method_6_code 36 = .ok (.invokevirtual 44, 3) := by decide +kernel
theorem d_Service_freshNewcomer_39 : decode prog_7_method_6_code 39 = .ok (.ifCond .eq 5, 3) := by decide +kernel
theorem d_Service_freshNewcomer_42 : decode prog_7_method_6_code 42 = .ok (.iload_n 2, 1) := by decide +kernel
theorem d_Service_freshNewcomer_43 : decode prog_7_method_6_code 43 = .ok (.ireturn, 1) := by decide +kernel
theorem d_Service_freshNewcomer_44 : decode prog_7_method_6_code 44 = .ok (.iinc 2 1, 3) := by decide +kernel
theorem d_Service_freshNewcomer_47 : decode prog_7_method_6_code 47 = .ok (.goto (-45), 3) := by decide +kernel
theorem d_Service_freshNewcomer_50 : decode prog_7_method_6_code 50 = .ok (.bipush 7, 2) := by decide +kernel
theorem d_Service_freshNewcomer_52 : decode prog_7_method_6_code 52 = .ok (.ireturn, 1) := by decide +kernel
set_option maxHeartbeats 4000000 in
set_option maxRecDepth 100000 in
theorem c_Service_freshNewcomer_V {l : Launch} {D : va_G} {K : Nat → ClassId} {ad : Nat → Nat → Nat} {n : Nat} {π : Nat → Nat} {s : S3} {t : Int32} {V : Int32} (hV : ncF (s 6 1 7) (s 6 2 7) (s 15 0) t n 0 = V) (hJ : zw_J (cRL n) ad) (hn5 : n ≤ 5) : zM l y_Service_freshNewcomer ws_Service_freshNewcomer ({ frames := 1, cells := 0, slots := 0, locals := 22 }) D zCl (zTys K) (cRL n) ad [.ref (ad 3 0), .int t] (kC K ad n s π) (some (.int V)) (kC K ad n (s) π) := by
  refine zM.of (cc := prog_7_method_6_code) (maxL := 3) (ret := (Option.some Jvm.ClassFile.FieldType.int)) (by decide) rfl (Nat.le_of_ble_eq_true rfl) ?_
  intro pP eE U mM bL mT cO S hr hlk hK
  have hts := S.2.2.2.2
  have ht := fun w h => hts w (List.mem_cons_of_mem _ h)
  refine z_iconst S d_Service_freshNewcomer_0 0 (by decide) 1 rfl ?_
  refine z_istore_n S d_Service_freshNewcomer_1 rfl (Nat.le_of_ble_eq_true rfl) [(2, .int 0), (0, .ref (ad 3 0)), (1, .int t)] rfl 2 rfl ?_
  have loop : ∀ (k j : Nat), j + k = n → ncF (s 6 1 7) (s 6 2 7) (s 15 0) t k j = V → zG pP l eE (headSpec ws_Service_freshNewcomer ({ frames := 1, cells := 0, slots := 0, locals := 22 })).room U mM ([.ref (ad 3 0), .int t] : List Value).toArray bL mT cO 3 (MQ bL (zQ D zCl (cRL n) ad (some (.int V)) (kC K ad n (s) π)) ([.ref (ad 3 0), .int t] : List Value).toArray U 0 0 (zw_A (cRL n) ad)) (zI D zCl (cRL n) ad U.heap (kC K ad n (s) (π))) 0 0 2 [(2, .int (nI j)), (0, .ref (ad 3 0)), (1, .int t)] [] := by
    intro k
    induction k with
    | zero =>
      intro j hj hv
      refine z_iload_n S d_Service_freshNewcomer_2 rfl 0 rfl 3 rfl ?_
      refine z_aload_n S d_Service_freshNewcomer_3 rfl 1 rfl 4 rfl ?_
      refine z_get S hK hin_Service rl_3 kC_3 rfl 1 (Nat.le_of_ble_eq_true rfl) (ht _ w_194) (fun _ h => h) d_Service_freshNewcomer_4 7 rfl (.ref (ad 15 0)) rfl ?_
      refine z_alen S hK rl_15 0 kC_15 rfl (v := nI n) rfl d_Service_freshNewcomer_7 8 rfl ?_
      refine z_icmp_ge S d_Service_freshNewcomer_8 50 (by decide) 11 rfl (fun h1 => ?_) (fun h1 => ?_)
      · refine z_bipush S d_Service_freshNewcomer_50 7 (by decide) 52 rfl ?_
        exact z_iret S hr hlk d_Service_freshNewcomer_52 (by rw [← hv]; simp only [ncF, if_pos h1]) rfl
      · exact absurd (nI_le (by omega) (by omega)) h1
    | succ k ih =>
      intro j hj hv
      refine z_iload_n S d_Service_freshNewcomer_2 rfl 0 rfl 3 rfl ?_
      refine z_aload_n S d_Service_freshNewcomer_3 rfl 1 rfl 4 rfl ?_
      refine z_get S hK hin_Service rl_3 kC_3 rfl 1 (Nat.le_of_ble_eq_true rfl) (ht _ w_194) (fun _ h => h) d_Service_freshNewcomer_4 7 rfl (.ref (ad 15 0)) rfl ?_
      refine z_alen S hK rl_15 0 kC_15 rfl (v := nI n) rfl d_Service_freshNewcomer_7 8 rfl ?_
      refine z_icmp_ge S d_Service_freshNewcomer_8 50 (by decide) 11 rfl (fun h2 => ?_) (fun h2 => ?_)
      · exact absurd h2 (nI_ge (by omega) (by omega))
      · refine z_iload_n S d_Service_freshNewcomer_11 rfl 0 rfl 12 rfl ?_
        refine z_aload_n S d_Service_freshNewcomer_12 rfl 1 rfl 13 rfl ?_
        refine z_get S hK hin_Service rl_3 kC_3 rfl 0 (Nat.le_of_ble_eq_true rfl) (ht _ w_192) (fun _ h => h) d_Service_freshNewcomer_13 16 rfl (.ref (ad 6 7)) rfl ?_
        refine z_get S hK hin_View rl_67 kC_6 rfl 1 (Nat.le_of_ble_eq_true rfl) (ht _ w_46) (fun _ h => h) d_Service_freshNewcomer_16 19 rfl (.int (s 6 1 7)) rfl ?_
        refine z_icmp_eq S d_Service_freshNewcomer_19 44 (by decide) 22 rfl (fun h3 => ?_) (fun h3 => ?_)
        · refine z_iinc S d_Service_freshNewcomer_44 0 rfl (nI_i1 _) (Nat.le_of_ble_eq_true rfl) [(2, .int (nI (j + 1))), (0, .ref (ad 3 0)), (1, .int t)] rfl 47 rfl ?_
          refine z_goto S d_Service_freshNewcomer_47 2 (by decide) ?_
          exact ih (j + 1) (by omega) (by rw [← hv]; simp only [ncF, if_neg h2, if_pos h3])
        · refine z_iload_n S d_Service_freshNewcomer_22 rfl 0 rfl 23 rfl ?_
          refine z_aload_n S d_Service_freshNewcomer_23 rfl 1 rfl 24 rfl ?_
          refine z_get S hK hin_Service rl_3 kC_3 rfl 0 (Nat.le_of_ble_eq_true rfl) (ht _ w_192) (fun _ h => h) d_Service_freshNewcomer_24 27 rfl (.ref (ad 6 7)) rfl ?_
          refine z_get S hK hin_View rl_67 kC_6 rfl 2 (Nat.le_of_ble_eq_true rfl) (ht _ w_49) (fun _ h => h) d_Service_freshNewcomer_27 30 rfl (.int (s 6 2 7)) rfl ?_
          refine z_icmp_eq S d_Service_freshNewcomer_30 44 (by decide) 33 rfl (fun h4 => ?_) (fun h4 => ?_)
          · refine z_iinc S d_Service_freshNewcomer_44 0 rfl (nI_i1 _) (Nat.le_of_ble_eq_true rfl) [(2, .int (nI (j + 1))), (0, .ref (ad 3 0)), (1, .int t)] rfl 47 rfl ?_
            refine z_goto S d_Service_freshNewcomer_47 2 (by decide) ?_
            exact ih (j + 1) (by omega) (by rw [← hv]; simp only [ncF, if_neg h2, if_neg h3, if_pos h4])
          · refine z_aload_n S d_Service_freshNewcomer_33 rfl 1 rfl 34 rfl ?_
            refine z_iload_n S d_Service_freshNewcomer_34 rfl 0 rfl 35 rfl ?_
            refine z_iload_n S d_Service_freshNewcomer_35 rfl 2 rfl 36 rfl ?_
            refine z_callV S hK (As := [.int (nI j), .int t]) (rest := []) (c_Service_isFresh (x := nI j) (t := t) hJ (nI_in (by omega) (by omega))) (cw_Service_isFresh hts w_334 rfl rfl ⟨(Nat.le_of_ble_eq_true rfl), (Nat.le_of_ble_eq_true rfl)⟩) rl_3 kC_3 rfl rfl rfl (Nat.le_of_ble_eq_true rfl) d_Service_freshNewcomer_36 39 rfl [.int (v_Service_isFresh (s 15 0 ((nI j).toNatClampNeg)) t)] rfl ?_
            refine z_if_eq S d_Service_freshNewcomer_39 44 (by decide) 42 rfl (fun h5 => ?_) (fun h5 => ?_)
            · refine z_iinc S d_Service_freshNewcomer_44 0 rfl (nI_i1 _) (Nat.le_of_ble_eq_true rfl) [(2, .int (nI (j + 1))), (0, .ref (ad 3 0)), (1, .int t)] rfl 47 rfl ?_
              refine z_goto S d_Service_freshNewcomer_47 2 (by decide) ?_
              exact ih (j + 1) (by omega) (by rw [← hv]; simp only [ncF, if_neg h2, if_neg h3, if_neg h4, if_pos h5])
            · refine z_iload_n S d_Service_freshNewcomer_42 rfl 0 rfl 43 rfl ?_
              exact z_iret S hr hlk d_Service_freshNewcomer_43 (by rw [← hv]; simp only [ncF, if_neg h2, if_neg h3, if_neg h4, if_neg h5]) rfl
  exact loop n 0 (by omega) hV
theorem c_Service_freshNewcomer {l : Launch} {D : va_G} {K : Nat → ClassId} {ad : Nat → Nat → Nat} {n : Nat} {π : Nat → Nat} {s : S3} {t : Int32} (hJ : zw_J (cRL n) ad) (hn5 : n ≤ 5) : zM l y_Service_freshNewcomer ws_Service_freshNewcomer ({ frames := 1, cells := 0, slots := 0, locals := 22 }) D zCl (zTys K) (cRL n) ad [.ref (ad 3 0), .int t] (kC K ad n s π) (some (.int (ncF (s 6 1 7) (s 6 2 7) (s 15 0) t n 0))) (kC K ad n s π) := c_Service_freshNewcomer_V rfl hJ hn5
theorem d_Post_take_0 : decode prog_5_method_4_code 0 = .ok (.aload_n 0, 1) := by decide +kernel
theorem d_Post_take_1 : decode prog_5_method_4_code 1 = .ok (.getfield 11, 3) := by decide +kernel
theorem d_Post_take_4 : decode prog_5_method_4_code 4 = .ok (.iload_n 1, 1) := by decide +kernel
theorem d_Post_take_5 : decode prog_5_method_4_code 5 = .ok (.aaload, 1) := by decide +kernel
theorem d_Post_take_6 : decode prog_5_method_4_code 6 = .ok (.astore_n 2, 1) := by decide +kernel
theorem d_Post_take_7 : decode prog_5_method_4_code 7 = .ok (.iload_n 1, 1) := by decide +kernel
theorem d_Post_take_8 : decode prog_5_method_4_code 8 = .ok (.istore_n 3, 1) := by decide +kernel
theorem d_Post_take_9 : decode prog_5_method_4_code 9 = .ok (.iload_n 3, 1) := by decide +kernel
theorem d_Post_take_10 : decode prog_5_method_4_code 10 = .ok (.bipush 32, 2) := by decide +kernel
theorem d_Post_take_12 : decode prog_5_method_4_code 12 = .ok (.if_icmp .ge 23, 3) := by decide +kernel
theorem d_Post_take_15 : decode prog_5_method_4_code 15 = .ok (.aload_n 0, 1) := by decide +kernel
theorem d_Post_take_16 : decode prog_5_method_4_code 16 = .ok (.getfield 11, 3) := by decide +kernel
theorem d_Post_take_19 : decode prog_5_method_4_code 19 = .ok (.iload_n 3, 1) := by decide +kernel
theorem d_Post_take_20 : decode prog_5_method_4_code 20 = .ok (.aload_n 0, 1) := by decide +kernel
theorem d_Post_take_21 : decode prog_5_method_4_code 21 = .ok (.getfield 11, 3) := by decide +kernel
theorem d_Post_take_24 : decode prog_5_method_4_code 24 = .ok (.iload_n 3, 1) := by decide +kernel
theorem d_Post_take_25 : decode prog_5_method_4_code 25 = .ok (.iconst 1, 1) := by decide +kernel
theorem d_Post_take_26 : decode prog_5_method_4_code 26 = .ok (.iadd, 1) := by decide +kernel
theorem d_Post_take_27 : decode prog_5_method_4_code 27 = .ok (.aaload, 1) := by decide +kernel
theorem d_Post_take_28 : decode prog_5_method_4_code 28 = .ok (.aastore, 1) := by decide +kernel
theorem d_Post_take_29 : decode prog_5_method_4_code 29 = .ok (.iinc 3 1, 3) := by decide +kernel
theorem d_Post_take_32 : decode prog_5_method_4_code 32 = .ok (.goto (-23), 3) := by decide +kernel
theorem d_Post_take_35 : decode prog_5_method_4_code 35 = .ok (.aload_n 0, 1) := by decide +kernel
theorem d_Post_take_36 : decode prog_5_method_4_code 36 = .ok (.getfield 11, 3) := by decide +kernel
theorem d_Post_take_39 : decode prog_5_method_4_code 39 = .ok (.bipush 32, 2) := by decide +kernel
theorem d_Post_take_41 : decode prog_5_method_4_code 41 = .ok (.aload_n 2, 1) := by decide +kernel
theorem d_Post_take_42 : decode prog_5_method_4_code 42 = .ok (.aastore, 1) := by decide +kernel
theorem d_Post_take_43 : decode prog_5_method_4_code 43 = .ok (.aload_n 0, 1) := by decide +kernel
theorem d_Post_take_44 : decode prog_5_method_4_code 44 = .ok (.dup, 1) := by decide +kernel
theorem d_Post_take_45 : decode prog_5_method_4_code 45 = .ok (.getfield 22, 3) := by decide +kernel
theorem d_Post_take_48 : decode prog_5_method_4_code 48 = .ok (.iconst 1, 1) := by decide +kernel
theorem d_Post_take_49 : decode prog_5_method_4_code 49 = .ok (.isub, 1) := by decide +kernel
theorem d_Post_take_50 : decode prog_5_method_4_code 50 = .ok (.putfield 22, 3) := by decide +kernel
theorem d_Post_take_53 : decode prog_5_method_4_code 53 = .ok (.aload_n 2, 1) := by decide +kernel
theorem d_Post_take_54 : decode prog_5_method_4_code 54 = .ok (.areturn, 1) := by decide +kernel
set_option maxHeartbeats 4000000 in
set_option maxRecDepth 100000 in
theorem c_Post_take {l : Launch} {D : va_G} {K : Nat → ClassId} {ad : Nat → Nat → Nat} {n : Nat} {π : Nat → Nat} {s : S3} {x : Int32}  (hJ : zw_J (cRL n) ad) (hπ : ∀ j, π j < 34) (hx : vp_in x 33) : zM l y_Post_take ws_Post_take ({ frames := 0, cells := 0, slots := 0, locals := 0 }) D zCl (zTys K) (cRL n) ad [.ref (ad 4 0), .int x] (kC K ad n s π) (some (.ref (ad 5 (π x.toNatClampNeg)))) (kC K ad n (u3 s 4 2 0 ((s 4 2 0) - 1)) (tkP π x.toNatClampNeg)) := by
  refine zM.of (cc := prog_5_method_4_code) (maxL := 4) (ret := (Option.some (Jvm.ClassFile.FieldType.object "LeasedViewStore$Letter"))) (by decide) rfl (Nat.le_of_ble_eq_true rfl) ?_
  intro pP eE U mM bL mT cO S hr hlk hK
  have hts := S.2.2.2.2
  have ht := fun w h => hts w (List.mem_cons_of_mem _ h)
  refine z_aload_n S d_Post_take_0 rfl 0 rfl 1 rfl ?_
  refine z_get S hK hin_Post rl_4 kC_4 rfl 0 (Nat.le_of_ble_eq_true rfl) (ht _ w_266) (fun _ h => h) d_Post_take_1 4 rfl (.ref (ad 12 0)) rfl ?_
  refine z_iload_n S d_Post_take_4 rfl 1 rfl 5 rfl ?_
  refine z_aald S hK rl_12 5 kC_12 rfl hx rfl d_Post_take_5 6 rfl ?_
  refine z_astore_n S d_Post_take_6 rfl (Nat.le_of_ble_eq_true rfl) [(2, .ref (ad 5 (π x.toNatClampNeg))), (0, .ref (ad 4 0)), (1, .int x)] rfl 7 rfl ?_
  refine z_iload_n S d_Post_take_7 rfl 2 rfl 8 rfl ?_
  refine z_istore_n S d_Post_take_8 rfl (Nat.le_of_ble_eq_true rfl) [(3, .int x), (2, .ref (ad 5 (π x.toNatClampNeg))), (0, .ref (ad 4 0)), (1, .int x)] rfl 9 rfl ?_
  have loop : ∀ (k j : Nat) (z : Int32) (π1 : Nat → Nat), z = nI j → j + k = 32 → (∀ i, π1 i < 34) → tkR k j π1 = tkR (32 - x.toNatClampNeg) x.toNatClampNeg π → zG pP l eE (headSpec ws_Post_take ({ frames := 0, cells := 0, slots := 0, locals := 0 })).room U mM ([.ref (ad 4 0), .int x] : List Value).toArray bL mT cO 4 (MQ bL (zQ D zCl (cRL n) ad (some (.ref (ad 5 (π x.toNatClampNeg)))) (kC K ad n (u3 s 4 2 0 ((s 4 2 0) - 1)) (tkP π x.toNatClampNeg))) ([.ref (ad 4 0), .int x] : List Value).toArray U 0 0 (zw_A (cRL n) ad)) (zI D zCl (cRL n) ad U.heap (kC K ad n (s) (π1))) 0 0 9 [(3, .int z), (2, .ref (ad 5 (π x.toNatClampNeg))), (0, .ref (ad 4 0)), (1, .int x)] [] := by
    intro k
    induction k with
    | zero =>
      intro j z π1 hz hj hπ1 hT
      subst hz
      refine z_iload_n S d_Post_take_9 rfl 0 rfl 10 rfl ?_
      refine z_bipush S d_Post_take_10 32 (by decide) 12 rfl ?_
      refine z_icmp_ge S d_Post_take_12 35 (by decide) 15 rfl (fun h1 => ?_) (fun h1 => ?_)
      · refine z_aload_n S d_Post_take_35 rfl 2 rfl 36 rfl ?_
        refine z_get S hK hin_Post rl_4 kC_4 rfl 0 (Nat.le_of_ble_eq_true rfl) (ht _ w_266) (fun _ h => h) d_Post_take_36 39 rfl (.ref (ad 12 0)) rfl ?_
        refine z_bipush S d_Post_take_39 32 (by decide) 41 rfl ?_
        refine z_aload_n S d_Post_take_41 rfl 1 rfl 42 rfl ?_
        refine z_aast S hJ hK rl_12 5 5 kC_12 rfl (rl_let (hπ _)) kC_5 rfl (nI_in (c := 32) (N := 33) (by omega) (by omega)) upP d_Post_take_42 43 rfl ?_
        refine z_aload_n S d_Post_take_43 rfl 2 rfl 44 rfl ?_
        refine z_dup S d_Post_take_44 rfl 45 rfl ?_
        refine z_get S hK hin_Post rl_4 kC_4 rfl 2 (Nat.le_of_ble_eq_true rfl) (ht _ w_269) (fun _ h => h) d_Post_take_45 48 rfl (.int (s 4 2 0)) rfl ?_
        refine z_iconst S d_Post_take_48 1 (by decide) 49 rfl ?_
        refine z_isub S d_Post_take_49 50 rfl ?_
        refine z_put S hJ hK hin_Post t_Post ok_Post nm_Post rl_4 kC_4 rfl 2 (Nat.le_of_ble_eq_true rfl) (ht _ w_269) (fun _ h => h) rfl rfl rfl (Nat.le_of_ble_eq_true rfl) up_4_2 d_Post_take_50 53 rfl ?_
        refine z_aload_n S d_Post_take_53 rfl 1 rfl 54 rfl ?_
        exact z_aret S hr (Or.inl ⟨_, rfl⟩) hlk d_Post_take_54 rfl (kC_eq2 rfl (by rw [tkP, ← hT]; rfl))
      · exact absurd (nI_le (a := 32) (by omega) (by omega)) h1
    | succ k ih =>
      intro j z π1 hz hj hπ1 hT
      subst hz
      refine z_iload_n S d_Post_take_9 rfl 0 rfl 10 rfl ?_
      refine z_bipush S d_Post_take_10 32 (by decide) 12 rfl ?_
      refine z_icmp_ge S d_Post_take_12 35 (by decide) 15 rfl (fun h2 => ?_) (fun h2 => ?_)
      · exact absurd h2 (nI_ge (b := 32) (by omega) (by omega))
      · refine z_aload_n S d_Post_take_15 rfl 2 rfl 16 rfl ?_
        refine z_get S hK hin_Post rl_4 kC_4 rfl 0 (Nat.le_of_ble_eq_true rfl) (ht _ w_266) (fun _ h => h) d_Post_take_16 19 rfl (.ref (ad 12 0)) rfl ?_
        refine z_iload_n S d_Post_take_19 rfl 0 rfl 20 rfl ?_
        refine z_aload_n S d_Post_take_20 rfl 2 rfl 21 rfl ?_
        refine z_get S hK hin_Post rl_4 kC_4 rfl 0 (Nat.le_of_ble_eq_true rfl) (ht _ w_266) (fun _ h => h) d_Post_take_21 24 rfl (.ref (ad 12 0)) rfl ?_
        refine z_iload_n S d_Post_take_24 rfl 0 rfl 25 rfl ?_
        refine z_iconst S d_Post_take_25 1 (by decide) 26 rfl ?_
        refine z_iadd S d_Post_take_26 27 rfl ?_
        refine z_aald S hK rl_12 5 kC_12 rfl (by rw [nI_1]; exact nI_in (by omega) (by omega)) rfl d_Post_take_27 28 rfl ?_
        refine z_aast S hJ hK rl_12 5 5 kC_12 rfl (rl_let (hπ1 _)) kC_5 rfl (nI_in (by omega) (by omega)) upP d_Post_take_28 29 rfl ?_
        refine z_iinc S d_Post_take_29 0 rfl (nI_i1 _) (Nat.le_of_ble_eq_true rfl) [(3, .int (nI (j + 1))), (2, .ref (ad 5 (π x.toNatClampNeg))), (0, .ref (ad 4 0)), (1, .int x)] rfl 32 rfl ?_
        refine z_goto S d_Post_take_32 9 (by decide) ?_
        rw [show (nI j).toNatClampNeg = j from nI_clamp (by omega), show (nI j + 1).toNatClampNeg = j + 1 from by rw [nI_1]; exact nI_clamp (by omega)]
        exact ih (j + 1) _ _ rfl (by omega) (fun i => by unfold va_up; split <;> exact hπ1 _) hT
  exact loop _ _ x π (vp_eq hx) (by have := vp_lt hx; omega) hπ rfl
theorem hasB {x : Int32} (h : ¬ v_View_hasBackup x = 0) : ¬ x = 7 := fun e => h (by rw [e]; rfl)
theorem d_Service_reviseView_0 : decode prog_7_method_3_code 0 = .ok (.aload_n 0, 1) := by decide +kernel
theorem d_Service_reviseView_1 : decode prog_7_method_3_code 1 = .ok (.aload_n 0, 1) := by decide +kernel
theorem d_Service_reviseView_2 : decode prog_7_method_3_code 2 = .ok (.getfield 12, 3) := by decide +kernel
theorem d_Service_reviseView_5 : decode prog_7_method_3_code 5 = .ok (.getfield 39, 3) := by decide +kernel
theorem d_Service_reviseView_8 : decode prog_7_method_3_code 8 = .ok (.iload_n 1, 1) := by decide +kernel
theorem d_Service_reviseView_9 : decode prog_7_method_3_code 9 = .ok (.invokevirtual 44, 3) := by decide +kernel
theorem d_Service_reviseView_12 : decode prog_7_method_3_code 12 = .ok (.istore_n 2, 1) := by decide +kernel
theorem d_Service_reviseView_13 : decode prog_7_method_3_code 13 = .ok (.aload_n 0, 1) := by decide +kernel
theorem d_Service_reviseView_14 : decode prog_7_method_3_code 14 = .ok (.getfield 12, 3) := by decide +kernel
theorem d_Service_reviseView_17 : decode prog_7_method_3_code 17 = .ok (.invokevirtual 48, 3) := by decide +kernel
theorem d_Service_reviseView_20 : decode prog_7_method_3_code 20 = .ok (.ifCond .eq 22, 3) := by decide +kernel
theorem d_Service_reviseView_23 : decode prog_7_method_3_code 23 = .ok (.aload_n 0, 1) := by decide +kernel
theorem d_Service_reviseView_24 : decode prog_7_method_3_code 24 = .ok (.aload_n 0, 1) := by decide +kernel
theorem d_Service_reviseView_25 : decode prog_7_method_3_code 25 = .ok (.getfield 12, 3) := by decide +kernel
theorem d_Service_reviseView_28 : decode prog_7_method_3_code 28 = .ok (.getfield 52, 3) := by decide +kernel
theorem d_Service_reviseView_31 : decode prog_7_method_3_code 31 = .ok (.iload_n 1, 1) := by decide +kernel
theorem d_Service_reviseView_32 : decode prog_7_method_3_code 32 = .ok (.invokevirtual 44, 3) := by decide +kernel
theorem d_Service_reviseView_35 : decode prog_7_method_3_code 35 = .ok (.ifCond .eq 7, 3) := by decide +kernel
theorem d_Service_reviseView_38 : decode prog_7_method_3_code 38 = .ok (.iconst 1, 1) := by decide +kernel
theorem d_Service_reviseView_39 : decode prog_7_method_3_code 39 = .ok (.goto 4, 3) := by decide +kernel
theorem d_Service_reviseView_42 : decode prog_7_method_3_code 42 = .ok (.iconst 0, 1) := by decide +kernel
theorem d_Service_reviseView_43 : decode prog_7_method_3_code 43 = .ok (.istore_n 3, 1) := by decide +kernel
theorem d_Service_reviseView_44 : decode prog_7_method_3_code 44 = .ok (.aload_n 0, 1) := by decide +kernel
theorem d_Service_reviseView_45 : decode prog_7_method_3_code 45 = .ok (.iload_n 1, 1) := by decide +kernel
theorem d_Service_reviseView_46 : decode prog_7_method_3_code 46 = .ok (.invokevirtual 55, 3) := by decide +kernel
theorem d_Service_reviseView_49 : decode prog_7_method_3_code 49 = .ok (.istore 4, 2) := by decide +kernel
theorem d_Service_reviseView_51 : decode prog_7_method_3_code 51 = .ok (.iload_n 2, 1) := by decide +kernel
theorem d_Service_reviseView_52 : decode prog_7_method_3_code 52 = .ok (.ifCond .ne 23, 3) := by decide +kernel
theorem d_Service_reviseView_55 : decode prog_7_method_3_code 55 = .ok (.iload_n 3, 1) := by decide +kernel
theorem d_Service_reviseView_56 : decode prog_7_method_3_code 56 = .ok (.ifCond .eq 19, 3) := by decide +kernel
theorem d_Service_reviseView_59 : decode prog_7_method_3_code 59 = .ok (.aload_n 0, 1) := by decide +kernel
theorem d_Service_reviseView_60 : decode prog_7_method_3_code 60 = .ok (.aload_n 0, 1) := by decide +kernel
theorem d_Service_reviseView_61 : decode prog_7_method_3_code 61 = .ok (.getfield 12, 3) := by decide +kernel
theorem d_Service_reviseView_64 : decode prog_7_method_3_code 64 = .ok (.getfield 52, 3) := by decide +kernel
theorem d_Service_reviseView_67 : decode prog_7_method_3_code 67 = .ok (.iload 4, 2) := by decide +kernel
theorem d_Service_reviseView_69 : decode prog_7_method_3_code 69 = .ok (.invokevirtual 35, 3) := by decide +kernel
theorem d_Service_reviseView_72 : decode prog_7_method_3_code 72 = .ok (.goto 41, 3) := by decide +kernel
theorem d_Service_reviseView_75 : decode prog_7_method_3_code 75 = .ok (.iload_n 2, 1) := by decide +kernel
theorem d_Service_reviseView_76 : decode prog_7_method_3_code 76 = .ok (.ifCond .eq 37, 3) := by decide +kernel
theorem d_Service_reviseView_79 : decode prog_7_method_3_code 79 = .ok (.iload_n 3, 1) := by decide +kernel
theorem d_Service_reviseView_80 : decode prog_7_method_3_code 80 = .ok (.ifCond .ne 33, 3) := by decide +kernel
theorem d_Service_reviseView_83 : decode prog_7_method_3_code 83 = .ok (.aload_n 0, 1) := by decide +kernel
theorem d_Service_reviseView_84 : decode prog_7_method_3_code 84 = .ok (.getfield 12, 3) := by decide +kernel
theorem d_Service_reviseView_87 : decode prog_7_method_3_code 87 = .ok (.invokevirtual 48, 3) := by decide +kernel
theorem d_Service_reviseView_90 : decode prog_7_method_3_code 90 = .ok (.ifCond .ne 10, 3) := by decide +kernel
theorem d_Service_reviseView_93 : decode prog_7_method_3_code 93 = .ok (.iload 4, 2) := by decide +kernel
theorem d_Service_reviseView_95 : decode prog_7_method_3_code 95 = .ok (.bipush 7, 2) := by decide +kernel
theorem d_Service_reviseView_97 : decode prog_7_method_3_code 97 = .ok (.if_icmp .eq 16, 3) := by decide +kernel
theorem d_Service_reviseView_100 : decode prog_7_method_3_code 100 = .ok (.aload_n 0, 1) := by decide +kernel
theorem d_Service_reviseView_101 : decode prog_7_method_3_code 101 = .ok (.aload_n 0, 1) := by decide +kernel
theorem d_Service_reviseView_102 : decode prog_7_method_3_code 102 = .ok (.getfield 12, 3) := by decide +kernel
theorem d_Service_reviseView_105 : decode prog_7_method_3_code 105 = .ok (.getfield 39, 3) := by decide +kernel
theorem d_Service_reviseView_108 : decode prog_7_method_3_code 108 = .ok (.iload 4, 2) := by decide +kernel
theorem d_Service_reviseView_110 : decode prog_7_method_3_code 110 = .ok (.invokevirtual 35, 3) := by decide +kernel
theorem d_Service_reviseView_113 : decode prog_7_method_3_code 113 = .ok (.return_, 1) := by decide +kernel
def S_Service_reviseView (n : Nat) (π : Nat → Nat) (s : S3) (t : Int32) : S3 := if (v_View_hasBackup (s 6 2 7)) = 0 then (if (v_Service_isFresh (s 15 0 ((s 6 1 7).toNatClampNeg)) t) = 0 then s else if (ncF (s 6 1 7) (s 6 2 7) (s 15 0) t n 0) = 7 then s else S_Service_changeView π s (s 6 1 7) (ncF (s 6 1 7) (s 6 2 7) (s 15 0) t n 0)) else if (v_Service_isFresh (s 15 0 ((s 6 2 7).toNatClampNeg)) t) = 0 then (if (v_Service_isFresh (s 15 0 ((s 6 1 7).toNatClampNeg)) t) = 0 then s else S_Service_changeView π s (s 6 1 7) (ncF (s 6 1 7) (s 6 2 7) (s 15 0) t n 0)) else if (v_Service_isFresh (s 15 0 ((s 6 1 7).toNatClampNeg)) t) = 0 then (S_Service_changeView π s (s 6 2 7) (ncF (s 6 1 7) (s 6 2 7) (s 15 0) t n 0)) else s
set_option maxHeartbeats 4000000 in
set_option maxRecDepth 100000 in
theorem c_Service_reviseView {l : Launch} {D : va_G} {K : Nat → ClassId} {ad : Nat → Nat → Nat} {n : Nat} {π : Nat → Nat} {s : S3} {t : Int32} (hJ : zw_J (cRL n) ad) (hn5 : n ≤ 5) (hp : vp_in (s 6 1 7) n) (hb : ¬ s 6 2 7 = 7 → vp_in (s 6 2 7) n) : zM l y_Service_reviseView ws_Service_reviseView ({ frames := 2, cells := 0, slots := 0, locals := 44 }) D zCl (zTys K) (cRL n) ad [.ref (ad 3 0), .int t] (kC K ad n s π) (none) (kC K ad n (S_Service_reviseView n π s t) π) := by
  refine zM.of (cc := prog_7_method_3_code) (maxL := 5) (ret := (Option.none : Option Jvm.ClassFile.FieldType)) (by decide) rfl (Nat.le_of_ble_eq_true rfl) ?_
  intro pP eE U mM bL mT cO S hr hlk hK
  have hts := S.2.2.2.2
  have ht := fun w h => hts w (List.mem_cons_of_mem _ h)
  refine z_aload_n S d_Service_reviseView_0 rfl 0 rfl 1 rfl ?_
  refine z_aload_n S d_Service_reviseView_1 rfl 0 rfl 2 rfl ?_
  refine z_get S hK hin_Service rl_3 kC_3 rfl 0 (Nat.le_of_ble_eq_true rfl) (ht _ w_192) (fun _ h => h) d_Service_reviseView_2 5 rfl (.ref (ad 6 7)) rfl ?_
  refine z_get S hK hin_View rl_67 kC_6 rfl 1 (Nat.le_of_ble_eq_true rfl) (ht _ w_46) (fun _ h => h) d_Service_reviseView_5 8 rfl (.int (s 6 1 7)) rfl ?_
  refine z_iload_n S d_Service_reviseView_8 rfl 1 rfl 9 rfl ?_
  refine z_callV S hK (As := [.int (s 6 1 7), .int t]) (rest := []) (c_Service_isFresh (x := s 6 1 7) (t := t) hJ hp) (cw_Service_isFresh hts w_334 rfl rfl ⟨(Nat.le_of_ble_eq_true rfl), (Nat.le_of_ble_eq_true rfl)⟩) rl_3 kC_3 rfl rfl rfl (Nat.le_of_ble_eq_true rfl) d_Service_reviseView_9 12 rfl [.int (v_Service_isFresh (s 15 0 ((s 6 1 7).toNatClampNeg)) t)] rfl ?_
  refine z_istore_n S d_Service_reviseView_12 rfl (Nat.le_of_ble_eq_true rfl) [(2, .int (v_Service_isFresh (s 15 0 ((s 6 1 7).toNatClampNeg)) t)), (0, .ref (ad 3 0)), (1, .int t)] rfl 13 rfl ?_
  refine z_aload_n S d_Service_reviseView_13 rfl 1 rfl 14 rfl ?_
  refine z_get S hK hin_Service rl_3 kC_3 rfl 0 (Nat.le_of_ble_eq_true rfl) (ht _ w_192) (fun _ h => h) d_Service_reviseView_14 17 rfl (.ref (ad 6 7)) rfl ?_
  refine z_callV S hK (As := []) (rest := []) (c_View_hasBackup (a := 7) hJ rl_67) (cw_View_hasBackup hts w_338 rfl rfl ⟨(Nat.le_of_ble_eq_true rfl), (Nat.le_of_ble_eq_true rfl)⟩) rl_67 kC_6 rfl rfl rfl (Nat.le_of_ble_eq_true rfl) d_Service_reviseView_17 20 rfl [.int (v_View_hasBackup (s 6 2 7))] rfl ?_
  refine z_if_eq S d_Service_reviseView_20 42 (by decide) 23 rfl (fun h1 => ?_) (fun h1 => ?_)
  · refine z_iconst S d_Service_reviseView_42 0 (by decide) 43 rfl ?_
    refine z_istore_n S d_Service_reviseView_43 rfl (Nat.le_of_ble_eq_true rfl) [(3, .int 0), (2, .int (v_Service_isFresh (s 15 0 ((s 6 1 7).toNatClampNeg)) t)), (0, .ref (ad 3 0)), (1, .int t)] rfl 44 rfl ?_
    refine z_aload_n S d_Service_reviseView_44 rfl 2 rfl 45 rfl ?_
    refine z_iload_n S d_Service_reviseView_45 rfl 3 rfl 46 rfl ?_
    refine z_callV S hK (As := [.int t]) (rest := []) (c_Service_freshNewcomer (t := t) hJ hn5) (cw_Service_freshNewcomer hts w_342 rfl rfl ⟨(Nat.le_of_ble_eq_true rfl), (Nat.le_of_ble_eq_true rfl)⟩) rl_3 kC_3 rfl rfl rfl (Nat.le_of_ble_eq_true rfl) d_Service_reviseView_46 49 rfl [.int (ncF (s 6 1 7) (s 6 2 7) (s 15 0) t n 0)] rfl ?_
    refine z_istore S d_Service_reviseView_49 (Nat.le_of_ble_eq_true rfl) [(4, .int (ncF (s 6 1 7) (s 6 2 7) (s 15 0) t n 0)), (3, .int 0), (2, .int (v_Service_isFresh (s 15 0 ((s 6 1 7).toNatClampNeg)) t)), (0, .ref (ad 3 0)), (1, .int t)] rfl 51 rfl ?_
    refine z_iload_n S d_Service_reviseView_51 rfl 2 rfl 52 rfl ?_
    refine z_if_ne S d_Service_reviseView_52 75 (by decide) 55 rfl (fun h2 => ?_) (fun h2 => ?_)
    · refine z_iload_n S d_Service_reviseView_75 rfl 2 rfl 76 rfl ?_
      refine z_if_eq S d_Service_reviseView_76 113 (by decide) 79 rfl (fun h3 => ?_) (fun h3 => ?_)
      · exact absurd h3 h2
      · refine z_iload_n S d_Service_reviseView_79 rfl 1 rfl 80 rfl ?_
        refine z_if_ne S d_Service_reviseView_80 113 (by decide) 83 rfl (fun h4 => ?_) (fun h4 => ?_)
        · exact absurd (by decide) h4
        · refine z_aload_n S d_Service_reviseView_83 rfl 3 rfl 84 rfl ?_
          refine z_get S hK hin_Service rl_3 kC_3 rfl 0 (Nat.le_of_ble_eq_true rfl) (ht _ w_192) (fun _ h => h) d_Service_reviseView_84 87 rfl (.ref (ad 6 7)) rfl ?_
          refine z_callV S hK (As := []) (rest := []) (c_View_hasBackup (a := 7) hJ rl_67) (cw_View_hasBackup hts w_338 rfl rfl ⟨(Nat.le_of_ble_eq_true rfl), (Nat.le_of_ble_eq_true rfl)⟩) rl_67 kC_6 rfl rfl rfl (Nat.le_of_ble_eq_true rfl) d_Service_reviseView_87 90 rfl [.int (v_View_hasBackup (s 6 2 7))] rfl ?_
          refine z_if_ne S d_Service_reviseView_90 100 (by decide) 93 rfl (fun h5 => ?_) (fun h5 => ?_)
          · exact absurd h1 h5
          · refine z_iload S d_Service_reviseView_93 0 rfl 95 rfl ?_
            refine z_bipush S d_Service_reviseView_95 7 (by decide) 97 rfl ?_
            refine z_icmp_eq S d_Service_reviseView_97 113 (by decide) 100 rfl (fun h6 => ?_) (fun h6 => ?_)
            · exact z_vret S hr hlk d_Service_reviseView_113 (kC_eq (by unfold S_Service_reviseView; simp only [if_pos h1, if_neg h2, if_pos h6]))
            · refine z_aload_n S d_Service_reviseView_100 rfl 3 rfl 101 rfl ?_
              refine z_aload_n S d_Service_reviseView_101 rfl 3 rfl 102 rfl ?_
              refine z_get S hK hin_Service rl_3 kC_3 rfl 0 (Nat.le_of_ble_eq_true rfl) (ht _ w_192) (fun _ h => h) d_Service_reviseView_102 105 rfl (.ref (ad 6 7)) rfl ?_
              refine z_get S hK hin_View rl_67 kC_6 rfl 1 (Nat.le_of_ble_eq_true rfl) (ht _ w_46) (fun _ h => h) d_Service_reviseView_105 108 rfl (.int (s 6 1 7)) rfl ?_
              refine z_iload S d_Service_reviseView_108 0 rfl 110 rfl ?_
              refine z_callV S hK (As := [.int (s 6 1 7), .int (ncF (s 6 1 7) (s 6 2 7) (s 15 0) t n 0)]) (rest := []) (c_Service_changeView (x := s 6 1 7) (y := ncF (s 6 1 7) (s 6 2 7) (s 15 0) t n 0) hJ) (cw_Service_changeView hts w_346 rfl rfl ⟨(Nat.le_of_ble_eq_true rfl), (Nat.le_of_ble_eq_true rfl)⟩) rl_3 kC_3 rfl rfl rfl (Nat.le_of_ble_eq_true rfl) d_Service_reviseView_110 113 rfl [] rfl ?_
              exact z_vret S hr hlk d_Service_reviseView_113 (kC_eq (by unfold S_Service_reviseView; simp only [if_pos h1, if_neg h2, if_neg h6]))
    · refine z_iload_n S d_Service_reviseView_55 rfl 1 rfl 56 rfl ?_
      refine z_if_eq S d_Service_reviseView_56 75 (by decide) 59 rfl (fun h7 => ?_) (fun h7 => ?_)
      · refine z_iload_n S d_Service_reviseView_75 rfl 2 rfl 76 rfl ?_
        refine z_if_eq S d_Service_reviseView_76 113 (by decide) 79 rfl (fun h8 => ?_) (fun h8 => ?_)
        · exact z_vret S hr hlk d_Service_reviseView_113 (kC_eq (by unfold S_Service_reviseView; simp only [if_pos h1, if_pos h2]))
        · exact absurd h2 h8
      · exact absurd (by decide) h7
  · refine z_aload_n S d_Service_reviseView_23 rfl 1 rfl 24 rfl ?_
    refine z_aload_n S d_Service_reviseView_24 rfl 1 rfl 25 rfl ?_
    refine z_get S hK hin_Service rl_3 kC_3 rfl 0 (Nat.le_of_ble_eq_true rfl) (ht _ w_192) (fun _ h => h) d_Service_reviseView_25 28 rfl (.ref (ad 6 7)) rfl ?_
    refine z_get S hK hin_View rl_67 kC_6 rfl 2 (Nat.le_of_ble_eq_true rfl) (ht _ w_49) (fun _ h => h) d_Service_reviseView_28 31 rfl (.int (s 6 2 7)) rfl ?_
    refine z_iload_n S d_Service_reviseView_31 rfl 2 rfl 32 rfl ?_
    refine z_callV S hK (As := [.int (s 6 2 7), .int t]) (rest := []) (c_Service_isFresh (x := s 6 2 7) (t := t) hJ (hb (hasB h1))) (cw_Service_isFresh hts w_334 rfl rfl ⟨(Nat.le_of_ble_eq_true rfl), (Nat.le_of_ble_eq_true rfl)⟩) rl_3 kC_3 rfl rfl rfl (Nat.le_of_ble_eq_true rfl) d_Service_reviseView_32 35 rfl [.int (v_Service_isFresh (s 15 0 ((s 6 2 7).toNatClampNeg)) t)] rfl ?_
    refine z_if_eq S d_Service_reviseView_35 42 (by decide) 38 rfl (fun h9 => ?_) (fun h9 => ?_)
    · refine z_iconst S d_Service_reviseView_42 0 (by decide) 43 rfl ?_
      refine z_istore_n S d_Service_reviseView_43 rfl (Nat.le_of_ble_eq_true rfl) [(3, .int 0), (2, .int (v_Service_isFresh (s 15 0 ((s 6 1 7).toNatClampNeg)) t)), (0, .ref (ad 3 0)), (1, .int t)] rfl 44 rfl ?_
      refine z_aload_n S d_Service_reviseView_44 rfl 2 rfl 45 rfl ?_
      refine z_iload_n S d_Service_reviseView_45 rfl 3 rfl 46 rfl ?_
      refine z_callV S hK (As := [.int t]) (rest := []) (c_Service_freshNewcomer (t := t) hJ hn5) (cw_Service_freshNewcomer hts w_342 rfl rfl ⟨(Nat.le_of_ble_eq_true rfl), (Nat.le_of_ble_eq_true rfl)⟩) rl_3 kC_3 rfl rfl rfl (Nat.le_of_ble_eq_true rfl) d_Service_reviseView_46 49 rfl [.int (ncF (s 6 1 7) (s 6 2 7) (s 15 0) t n 0)] rfl ?_
      refine z_istore S d_Service_reviseView_49 (Nat.le_of_ble_eq_true rfl) [(4, .int (ncF (s 6 1 7) (s 6 2 7) (s 15 0) t n 0)), (3, .int 0), (2, .int (v_Service_isFresh (s 15 0 ((s 6 1 7).toNatClampNeg)) t)), (0, .ref (ad 3 0)), (1, .int t)] rfl 51 rfl ?_
      refine z_iload_n S d_Service_reviseView_51 rfl 2 rfl 52 rfl ?_
      refine z_if_ne S d_Service_reviseView_52 75 (by decide) 55 rfl (fun h10 => ?_) (fun h10 => ?_)
      · refine z_iload_n S d_Service_reviseView_75 rfl 2 rfl 76 rfl ?_
        refine z_if_eq S d_Service_reviseView_76 113 (by decide) 79 rfl (fun h11 => ?_) (fun h11 => ?_)
        · exact absurd h11 h10
        · refine z_iload_n S d_Service_reviseView_79 rfl 1 rfl 80 rfl ?_
          refine z_if_ne S d_Service_reviseView_80 113 (by decide) 83 rfl (fun h12 => ?_) (fun h12 => ?_)
          · exact absurd (by decide) h12
          · refine z_aload_n S d_Service_reviseView_83 rfl 3 rfl 84 rfl ?_
            refine z_get S hK hin_Service rl_3 kC_3 rfl 0 (Nat.le_of_ble_eq_true rfl) (ht _ w_192) (fun _ h => h) d_Service_reviseView_84 87 rfl (.ref (ad 6 7)) rfl ?_
            refine z_callV S hK (As := []) (rest := []) (c_View_hasBackup (a := 7) hJ rl_67) (cw_View_hasBackup hts w_338 rfl rfl ⟨(Nat.le_of_ble_eq_true rfl), (Nat.le_of_ble_eq_true rfl)⟩) rl_67 kC_6 rfl rfl rfl (Nat.le_of_ble_eq_true rfl) d_Service_reviseView_87 90 rfl [.int (v_View_hasBackup (s 6 2 7))] rfl ?_
            refine z_if_ne S d_Service_reviseView_90 100 (by decide) 93 rfl (fun h13 => ?_) (fun h13 => ?_)
            · refine z_aload_n S d_Service_reviseView_100 rfl 3 rfl 101 rfl ?_
              refine z_aload_n S d_Service_reviseView_101 rfl 3 rfl 102 rfl ?_
              refine z_get S hK hin_Service rl_3 kC_3 rfl 0 (Nat.le_of_ble_eq_true rfl) (ht _ w_192) (fun _ h => h) d_Service_reviseView_102 105 rfl (.ref (ad 6 7)) rfl ?_
              refine z_get S hK hin_View rl_67 kC_6 rfl 1 (Nat.le_of_ble_eq_true rfl) (ht _ w_46) (fun _ h => h) d_Service_reviseView_105 108 rfl (.int (s 6 1 7)) rfl ?_
              refine z_iload S d_Service_reviseView_108 0 rfl 110 rfl ?_
              refine z_callV S hK (As := [.int (s 6 1 7), .int (ncF (s 6 1 7) (s 6 2 7) (s 15 0) t n 0)]) (rest := []) (c_Service_changeView (x := s 6 1 7) (y := ncF (s 6 1 7) (s 6 2 7) (s 15 0) t n 0) hJ) (cw_Service_changeView hts w_346 rfl rfl ⟨(Nat.le_of_ble_eq_true rfl), (Nat.le_of_ble_eq_true rfl)⟩) rl_3 kC_3 rfl rfl rfl (Nat.le_of_ble_eq_true rfl) d_Service_reviseView_110 113 rfl [] rfl ?_
              exact z_vret S hr hlk d_Service_reviseView_113 (kC_eq (by unfold S_Service_reviseView; simp only [if_neg h1, if_pos h9, if_neg h10]))
            · exact absurd h13 h1
      · refine z_iload_n S d_Service_reviseView_55 rfl 1 rfl 56 rfl ?_
        refine z_if_eq S d_Service_reviseView_56 75 (by decide) 59 rfl (fun h14 => ?_) (fun h14 => ?_)
        · refine z_iload_n S d_Service_reviseView_75 rfl 2 rfl 76 rfl ?_
          refine z_if_eq S d_Service_reviseView_76 113 (by decide) 79 rfl (fun h15 => ?_) (fun h15 => ?_)
          · exact z_vret S hr hlk d_Service_reviseView_113 (kC_eq (by unfold S_Service_reviseView; simp only [if_neg h1, if_pos h9, if_pos h10]))
          · exact absurd h10 h15
        · exact absurd (by decide) h14
    · refine z_iconst S d_Service_reviseView_38 1 (by decide) 39 rfl ?_
      refine z_goto S d_Service_reviseView_39 43 (by decide) ?_
      refine z_istore_n S d_Service_reviseView_43 rfl (Nat.le_of_ble_eq_true rfl) [(3, .int 1), (2, .int (v_Service_isFresh (s 15 0 ((s 6 1 7).toNatClampNeg)) t)), (0, .ref (ad 3 0)), (1, .int t)] rfl 44 rfl ?_
      refine z_aload_n S d_Service_reviseView_44 rfl 2 rfl 45 rfl ?_
      refine z_iload_n S d_Service_reviseView_45 rfl 3 rfl 46 rfl ?_
      refine z_callV S hK (As := [.int t]) (rest := []) (c_Service_freshNewcomer (t := t) hJ hn5) (cw_Service_freshNewcomer hts w_342 rfl rfl ⟨(Nat.le_of_ble_eq_true rfl), (Nat.le_of_ble_eq_true rfl)⟩) rl_3 kC_3 rfl rfl rfl (Nat.le_of_ble_eq_true rfl) d_Service_reviseView_46 49 rfl [.int (ncF (s 6 1 7) (s 6 2 7) (s 15 0) t n 0)] rfl ?_
      refine z_istore S d_Service_reviseView_49 (Nat.le_of_ble_eq_true rfl) [(4, .int (ncF (s 6 1 7) (s 6 2 7) (s 15 0) t n 0)), (3, .int 1), (2, .int (v_Service_isFresh (s 15 0 ((s 6 1 7).toNatClampNeg)) t)), (0, .ref (ad 3 0)), (1, .int t)] rfl 51 rfl ?_
      refine z_iload_n S d_Service_reviseView_51 rfl 2 rfl 52 rfl ?_
      refine z_if_ne S d_Service_reviseView_52 75 (by decide) 55 rfl (fun h16 => ?_) (fun h16 => ?_)
      · refine z_iload_n S d_Service_reviseView_75 rfl 2 rfl 76 rfl ?_
        refine z_if_eq S d_Service_reviseView_76 113 (by decide) 79 rfl (fun h17 => ?_) (fun h17 => ?_)
        · exact absurd h17 h16
        · refine z_iload_n S d_Service_reviseView_79 rfl 1 rfl 80 rfl ?_
          refine z_if_ne S d_Service_reviseView_80 113 (by decide) 83 rfl (fun h18 => ?_) (fun h18 => ?_)
          · exact z_vret S hr hlk d_Service_reviseView_113 (kC_eq (by unfold S_Service_reviseView; simp only [if_neg h1, if_neg h9, if_neg h16]))
          · exact absurd h18 (by decide)
      · refine z_iload_n S d_Service_reviseView_55 rfl 1 rfl 56 rfl ?_
        refine z_if_eq S d_Service_reviseView_56 75 (by decide) 59 rfl (fun h19 => ?_) (fun h19 => ?_)
        · exact absurd h19 (by decide)
        · refine z_aload_n S d_Service_reviseView_59 rfl 3 rfl 60 rfl ?_
          refine z_aload_n S d_Service_reviseView_60 rfl 3 rfl 61 rfl ?_
          refine z_get S hK hin_Service rl_3 kC_3 rfl 0 (Nat.le_of_ble_eq_true rfl) (ht _ w_192) (fun _ h => h) d_Service_reviseView_61 64 rfl (.ref (ad 6 7)) rfl ?_
          refine z_get S hK hin_View rl_67 kC_6 rfl 2 (Nat.le_of_ble_eq_true rfl) (ht _ w_49) (fun _ h => h) d_Service_reviseView_64 67 rfl (.int (s 6 2 7)) rfl ?_
          refine z_iload S d_Service_reviseView_67 0 rfl 69 rfl ?_
          refine z_callV S hK (As := [.int (s 6 2 7), .int (ncF (s 6 1 7) (s 6 2 7) (s 15 0) t n 0)]) (rest := []) (c_Service_changeView (x := s 6 2 7) (y := ncF (s 6 1 7) (s 6 2 7) (s 15 0) t n 0) hJ) (cw_Service_changeView hts w_346 rfl rfl ⟨(Nat.le_of_ble_eq_true rfl), (Nat.le_of_ble_eq_true rfl)⟩) rl_3 kC_3 rfl rfl rfl (Nat.le_of_ble_eq_true rfl) d_Service_reviseView_69 72 rfl [] rfl ?_
          refine z_goto S d_Service_reviseView_72 113 (by decide) ?_
          exact z_vret S hr hlk d_Service_reviseView_113 (kC_eq (by unfold S_Service_reviseView; simp only [if_neg h1, if_neg h9, if_pos h16]))
theorem d_Store_check_0 : decode prog_1_method_5_code 0 = .ok (.aload_n 0, 1) := by decide +kernel
theorem d_Store_check_1 : decode prog_1_method_5_code 1 = .ok (.getfield 37, 3) := by decide +kernel
theorem d_Store_check_4 : decode prog_1_method_5_code 4 = .ok (.getfield 83, 3) := by decide +kernel
theorem d_Store_check_7 : decode prog_1_method_5_code 7 = .ok (.ifCond .eq 14, 3) := by decide +kernel
theorem d_Store_check_10 : decode prog_1_method_5_code 10 = .ok (.aload_n 0, 1) := by decide +kernel
theorem d_Store_check_11 : decode prog_1_method_5_code 11 = .ok (.getfield 37, 3) := by decide +kernel
theorem d_Store_check_14 : decode prog_1_method_5_code 14 = .ok (.aload_n 0, 1) := by decide +kernel
theorem d_Store_check_15 : decode prog_1_method_5_code 15 = .ok (.getfield 48, 3) := by decide +kernel
theorem d_Store_check_18 : decode prog_1_method_5_code 18 = .ok (.invokevirtual 85, 3) := by decide +kernel
theorem d_Store_check_21 : decode prog_1_method_5_code 21 = .ok (.aload_n 0, 1) := by decide +kernel
theorem d_Store_check_22 : decode prog_1_method_5_code 22 = .ok (.getfield 37, 3) := by decide +kernel
theorem d_Store_check_25 : decode prog_1_method_5_code 25 = .ok (.getfield 88, 3) := by decide +kernel
theorem d_Store_check_28 : decode prog_1_method_5_code 28 = .ok (.getfield 92, 3) := by decide +kernel
theorem d_Store_check_31 : decode prog_1_method_5_code 31 = .ok (.ireturn, 1) := by decide +kernel
def S_Store_check (n : Nat) (π : Nat → Nat) (s : S3)  : S3 := if (s 3 2 0) = 0 then s else S_Service_reviseView n π s (s 0 4 0)
def v_Store_check (n : Nat) (π : Nat → Nat) (s : S3)  : Int32 := if (s 3 2 0) = 0 then (s 6 0 7) else (S_Service_reviseView n π s (s 0 4 0)) 6 0 7
set_option maxHeartbeats 4000000 in
set_option maxRecDepth 100000 in
theorem c_Store_check {l : Launch} {D : va_G} {K : Nat → ClassId} {ad : Nat → Nat → Nat} {n : Nat} {π : Nat → Nat} {s : S3} (hJ : zw_J (cRL n) ad) (hn5 : n ≤ 5) (hc : ¬ s 3 2 0 = 0 → vp_in (s 6 1 7) n ∧ (¬ s 6 2 7 = 7 → vp_in (s 6 2 7) n)) : zM l y_Store_check ws_Store_check ({ frames := 3, cells := 0, slots := 0, locals := 68 }) D zCl (zTys K) (cRL n) ad [.ref (ad 0 0)] (kC K ad n s π) (some (.int (v_Store_check n π s ))) (kC K ad n (S_Store_check n π s ) π) := by
  refine zM.of (cc := prog_1_method_5_code) (maxL := 1) (ret := (Option.some Jvm.ClassFile.FieldType.int)) (by decide) rfl (Nat.le_of_ble_eq_true rfl) ?_
  intro pP eE U mM bL mT cO S hr hlk hK
  have hts := S.2.2.2.2
  have ht := fun w h => hts w (List.mem_cons_of_mem _ h)
  refine z_aload_n S d_Store_check_0 rfl 0 rfl 1 rfl ?_
  refine z_get S hK hin_Store rl_0 kC_0 rfl 2 (Nat.le_of_ble_eq_true rfl) (ht _ w_280) (fun _ h => h) d_Store_check_1 4 rfl (.ref (ad 3 0)) rfl ?_
  refine z_get S hK hin_Service rl_3 kC_3 rfl 2 (Nat.le_of_ble_eq_true rfl) (ht _ w_196) (fun _ h => h) d_Store_check_4 7 rfl (.int (s 3 2 0)) rfl ?_
  refine z_if_eq S d_Store_check_7 21 (by decide) 10 rfl (fun h1 => ?_) (fun h1 => ?_)
  · refine z_aload_n S d_Store_check_21 rfl 0 rfl 22 rfl ?_
    refine z_get S hK hin_Store rl_0 kC_0 rfl 2 (Nat.le_of_ble_eq_true rfl) (ht _ w_280) (fun _ h => h) d_Store_check_22 25 rfl (.ref (ad 3 0)) rfl ?_
    refine z_get S hK hin_Service rl_3 kC_3 rfl 0 (Nat.le_of_ble_eq_true rfl) (ht _ w_193) (fun _ h => h) d_Store_check_25 28 rfl (.ref (ad 6 7)) rfl ?_
    refine z_get S hK hin_View rl_67 kC_6 rfl 0 (Nat.le_of_ble_eq_true rfl) (ht _ w_43) (fun _ h => h) d_Store_check_28 31 rfl (.int (s 6 0 7)) rfl ?_
    exact z_iret S hr hlk d_Store_check_31 (by unfold v_Store_check; simp only [if_pos h1]) (kC_eq (by unfold S_Store_check; simp only [if_pos h1]))
  · refine z_aload_n S d_Store_check_10 rfl 0 rfl 11 rfl ?_
    refine z_get S hK hin_Store rl_0 kC_0 rfl 2 (Nat.le_of_ble_eq_true rfl) (ht _ w_280) (fun _ h => h) d_Store_check_11 14 rfl (.ref (ad 3 0)) rfl ?_
    refine z_aload_n S d_Store_check_14 rfl 0 rfl 15 rfl ?_
    refine z_get S hK hin_Store rl_0 kC_0 rfl 4 (Nat.le_of_ble_eq_true rfl) (ht _ w_282) (fun _ h => h) d_Store_check_15 18 rfl (.int (s 0 4 0)) rfl ?_
    refine z_callV S hK (As := [.int (s 0 4 0)]) (rest := []) (c_Service_reviseView (t := s 0 4 0) hJ hn5 ((hc h1).1) ((hc h1).2)) (cw_Service_reviseView hts w_330 rfl rfl ⟨(Nat.le_of_ble_eq_true rfl), (Nat.le_of_ble_eq_true rfl)⟩) rl_3 kC_3 rfl rfl rfl (Nat.le_of_ble_eq_true rfl) d_Store_check_18 21 rfl [] rfl ?_
    refine z_aload_n S d_Store_check_21 rfl 0 rfl 22 rfl ?_
    refine z_get S hK hin_Store rl_0 kC_0 rfl 2 (Nat.le_of_ble_eq_true rfl) (ht _ w_280) (fun _ h => h) d_Store_check_22 25 rfl (.ref (ad 3 0)) rfl ?_
    refine z_get S hK hin_Service rl_3 kC_3 rfl 0 (Nat.le_of_ble_eq_true rfl) (ht _ w_193) (fun _ h => h) d_Store_check_25 28 rfl (.ref (ad 6 7)) rfl ?_
    refine z_get S hK hin_View rl_67 kC_6 rfl 0 (Nat.le_of_ble_eq_true rfl) (ht _ w_43) (fun _ h => h) d_Store_check_28 31 rfl (.int ((S_Service_reviseView n π s (s 0 4 0)) 6 0 7)) rfl ?_
    exact z_iret S hr hlk d_Store_check_31 (by unfold v_Store_check; simp only [if_neg h1]) (kC_eq (by unfold S_Store_check; simp only [if_neg h1]))
theorem hw_take {w x : Int32} (hw : vp_in w 33) (h : ¬ v_Post_has w x = 0) : vp_in (w - 1) 33 := by
  unfold v_Post_has at h
  by_cases h1 : x < 0
  · simp [h1] at h
  · by_cases h2 : w ≤ x
    · simp [h2] at h
    · obtain ⟨j, hj, rfl⟩ := nI_of h1
      obtain ⟨k, hk, hk2, rfl⟩ := vp_nI hw
      rw [nI_leI hk2 hj] at h2
      obtain ⟨k, rfl⟩ : ∃ k', k = k' + 1 := ⟨k - 1, by omega⟩
      rw [nI_pred]
      exact nI_in (by omega) (by omega)
theorem d_Store_deliver_0 : decode prog_1_method_9_code 0 = .ok (.aload_n 0, 1) := by decide +kernel
theorem d_Store_deliver_1 : decode prog_1_method_9_code 1 = .ok (.getfield 44, 3) := by decide +kernel
theorem d_Store_deliver_4 : decode prog_1_method_9_code 4 = .ok (.iload_n 1, 1) := by decide +kernel
theorem d_Store_deliver_5 : decode prog_1_method_9_code 5 = .ok (.invokevirtual 145, 3) := by decide +kernel
theorem d_Store_deliver_8 : decode prog_1_method_9_code 8 = .ok (.ifCond .ne 5, 3) := by decide +kernel
theorem d_Store_deliver_11 : decode prog_1_method_9_code 11 = .ok (.iconst (-1), 1) := by decide +kernel
theorem d_Store_deliver_12 : decode prog_1_method_9_code 12 = .ok (.ireturn, 1) := by decide +kernel
theorem d_Store_deliver_13 : decode prog_1_method_9_code 13 = .ok (.aload_n 0, 1) := by decide +kernel
theorem d_Store_deliver_14 : decode prog_1_method_9_code 14 = .ok (.getfield 44, 3) := by decide +kernel
theorem d_Store_deliver_17 : decode prog_1_method_9_code 17 = .ok (.iload_n 1, 1) := by decide +kernel
theorem d_Store_deliver_18 : decode prog_1_method_9_code 18 = .ok (.invokevirtual 148, 3) := by decide +kernel
theorem d_Store_deliver_21 : decode prog_1_method_9_code 21 = .ok (.astore_n 2, 1) := by decide +kernel
theorem d_Store_deliver_22 : decode prog_1_method_9_code 22 = .ok (.aload_n 0, 1) := by decide +kernel
theorem d_Store_deliver_23 : decode prog_1_method_9_code 23 = .ok (.aload_n 2, 1) := by decide +kernel
theorem d_Store_deliver_24 : decode prog_1_method_9_code 24 = .ok (.invokevirtual 152, 3) := by decide +kernel
theorem d_Store_deliver_27 : decode prog_1_method_9_code 27 = .ok (.ifCond .eq 10, 3) := by decide +kernel
theorem d_Store_deliver_30 : decode prog_1_method_9_code 30 = .ok (.aload_n 2, 1) := by decide +kernel
theorem d_Store_deliver_31 : decode prog_1_method_9_code 31 = .ok (.getfield 156, 3) := by decide +kernel
theorem d_Store_deliver_34 : decode prog_1_method_9_code 34 = .ok (.goto 10, 3) := by decide +kernel
theorem d_Store_deliver_37 : decode prog_1_method_9_code 37 = .ok (.aload_n 2, 1) := by decide +kernel
theorem d_Store_deliver_38 : decode prog_1_method_9_code 38 = .ok (.getfield 156, 3) := by decide +kernel
theorem d_Store_deliver_41 : decode prog_1_method_9_code 41 = .ok (.bipush 8, 2) := by decide +kernel
theorem d_Store_deliver_43 : decode prog_1_method_9_code 43 = .ok (.iadd, 1) := by decide +kernel
theorem d_Store_deliver_44 : decode prog_1_method_9_code 44 = .ok (.ireturn, 1) := by decide +kernel
def S_Store_deliver (n : Nat) (π : Nat → Nat) (s : S3) (x : Int32) : S3 := if (v_Post_has (s 4 2 0) x) = 0 then s else if (v_Store_takesEffect n (tkP π x.toNatClampNeg) (u3 s 4 2 0 ((s 4 2 0) - 1)) (π x.toNatClampNeg)) = 0 then (S_Store_takesEffect n (tkP π x.toNatClampNeg) (u3 s 4 2 0 ((s 4 2 0) - 1)) (π x.toNatClampNeg)) else S_Store_takesEffect n (tkP π x.toNatClampNeg) (u3 s 4 2 0 ((s 4 2 0) - 1)) (π x.toNatClampNeg)
def v_Store_deliver (n : Nat) (π : Nat → Nat) (s : S3) (x : Int32) : Int32 := if (v_Post_has (s 4 2 0) x) = 0 then (-1) else if (v_Store_takesEffect n (tkP π x.toNatClampNeg) (u3 s 4 2 0 ((s 4 2 0) - 1)) (π x.toNatClampNeg)) = 0 then (((S_Store_takesEffect n (tkP π x.toNatClampNeg) (u3 s 4 2 0 ((s 4 2 0) - 1)) (π x.toNatClampNeg)) 5 3 (π x.toNatClampNeg)) + 8) else (S_Store_takesEffect n (tkP π x.toNatClampNeg) (u3 s 4 2 0 ((s 4 2 0) - 1)) (π x.toNatClampNeg)) 5 3 (π x.toNatClampNeg)
def P_Store_deliver (n : Nat) (π : Nat → Nat) (s : S3) (x : Int32) : Nat → Nat := if (v_Post_has (s 4 2 0) x) = 0 then π else if (v_Store_takesEffect n (tkP π x.toNatClampNeg) (u3 s 4 2 0 ((s 4 2 0) - 1)) (π x.toNatClampNeg)) = 0 then (tkP π x.toNatClampNeg) else tkP π x.toNatClampNeg
set_option maxHeartbeats 4000000 in
set_option maxRecDepth 100000 in
theorem c_Store_deliver {l : Launch} {D : va_G} {K : Nat → ClassId} {ad : Nat → Nat → Nat} {n : Nat} {π : Nat → Nat} {s : S3} {x : Int32} (hJ : zw_J (cRL n) ad) (hw : vp_in (s 4 2 0) 33) (hπ : ∀ j, π j < 34) (hop : opOK s) (hpd : ¬ v_Post_has (s 4 2 0) x = 0 → (¬ s 5 3 (π x.toNatClampNeg) = 8 → vp_in (s 5 4 (π x.toNatClampNeg)) n) ∧ (s 5 3 (π x.toNatClampNeg) = 8 → vp_in (s 5 4 (π x.toNatClampNeg)) 3)) : zM l y_Store_deliver ws_Store_deliver ({ frames := 6, cells := 0, slots := 0, locals := 189 }) D zCl (zTys K) (cRL n) ad [.ref (ad 0 0), .int x] (kC K ad n s π) (some (.int (v_Store_deliver n π s x))) (kC K ad n (S_Store_deliver n π s x) (P_Store_deliver n π s x)) := by
  refine zM.of (cc := prog_1_method_9_code) (maxL := 3) (ret := (Option.some Jvm.ClassFile.FieldType.int)) (by decide) rfl (Nat.le_of_ble_eq_true rfl) ?_
  intro pP eE U mM bL mT cO S hr hlk hK
  have hts := S.2.2.2.2
  have ht := fun w h => hts w (List.mem_cons_of_mem _ h)
  refine z_aload_n S d_Store_deliver_0 rfl 0 rfl 1 rfl ?_
  refine z_get S hK hin_Store rl_0 kC_0 rfl 3 (Nat.le_of_ble_eq_true rfl) (ht _ w_281) (fun _ h => h) d_Store_deliver_1 4 rfl (.ref (ad 4 0)) rfl ?_
  refine z_iload_n S d_Store_deliver_4 rfl 1 rfl 5 rfl ?_
  refine z_callV S hK (As := [.int x]) (rest := []) (c_Post_has (x := x) hJ) (cw_Post_has hts w_403 rfl rfl ⟨(Nat.le_of_ble_eq_true rfl), (Nat.le_of_ble_eq_true rfl)⟩) rl_4 kC_4 rfl rfl rfl (Nat.le_of_ble_eq_true rfl) d_Store_deliver_5 8 rfl [.int (v_Post_has (s 4 2 0) x)] rfl ?_
  refine z_if_ne S d_Store_deliver_8 13 (by decide) 11 rfl (fun h1 => ?_) (fun h1 => ?_)
  · refine z_aload_n S d_Store_deliver_13 rfl 0 rfl 14 rfl ?_
    refine z_get S hK hin_Store rl_0 kC_0 rfl 3 (Nat.le_of_ble_eq_true rfl) (ht _ w_281) (fun _ h => h) d_Store_deliver_14 17 rfl (.ref (ad 4 0)) rfl ?_
    refine z_iload_n S d_Store_deliver_17 rfl 1 rfl 18 rfl ?_
    refine z_callV S hK (As := [.int x]) (rest := []) (c_Post_take (x := x) hJ hπ (in_has hw h1)) (cw_Post_take hts w_407 rfl rfl ⟨(Nat.le_of_ble_eq_true rfl), (Nat.le_of_ble_eq_true rfl)⟩) rl_4 kC_4 rfl rfl rfl (Nat.le_of_ble_eq_true rfl) d_Store_deliver_18 21 rfl [.ref (ad 5 (π x.toNatClampNeg))] rfl ?_
    refine z_astore_n S d_Store_deliver_21 rfl (Nat.le_of_ble_eq_true rfl) [(2, .ref (ad 5 (π x.toNatClampNeg))), (0, .ref (ad 0 0)), (1, .int x)] rfl 22 rfl ?_
    refine z_aload_n S d_Store_deliver_22 rfl 1 rfl 23 rfl ?_
    refine z_aload_n S d_Store_deliver_23 rfl 0 rfl 24 rfl ?_
    refine z_callV S hK (As := [.ref (ad 5 (π x.toNatClampNeg))]) (rest := []) (c_Store_takesEffect (L := π x.toNatClampNeg) hJ (rl_let (hπ _)) (hw_take hw h1) (tkP_lt hπ) hop (hpd h1)) (cw_Store_takesEffect hts w_411 rfl rfl ⟨(Nat.le_of_ble_eq_true rfl), (Nat.le_of_ble_eq_true rfl)⟩) rl_0 kC_0 rfl rfl rfl (Nat.le_of_ble_eq_true rfl) d_Store_deliver_24 27 rfl [.int (v_Store_takesEffect n (tkP π x.toNatClampNeg) (u3 s 4 2 0 ((s 4 2 0) - 1)) (π x.toNatClampNeg))] rfl ?_
    refine z_if_eq S d_Store_deliver_27 37 (by decide) 30 rfl (fun h2 => ?_) (fun h2 => ?_)
    · refine z_aload_n S d_Store_deliver_37 rfl 0 rfl 38 rfl ?_
      refine z_get S hK hin_Letter (rl_let (hπ _)) kC_5 rfl 3 (Nat.le_of_ble_eq_true rfl) (ht _ w_232) (fun _ h => h) d_Store_deliver_38 41 rfl (.int ((S_Store_takesEffect n (tkP π x.toNatClampNeg) (u3 s 4 2 0 ((s 4 2 0) - 1)) (π x.toNatClampNeg)) 5 3 (π x.toNatClampNeg))) rfl ?_
      refine z_bipush S d_Store_deliver_41 8 (by decide) 43 rfl ?_
      refine z_iadd S d_Store_deliver_43 44 rfl ?_
      exact z_iret S hr hlk d_Store_deliver_44 (by unfold v_Store_deliver; simp only [if_neg h1, if_pos h2]) (kC_eq2 (by unfold S_Store_deliver; simp only [if_neg h1, if_pos h2]) (by unfold P_Store_deliver; simp only [if_neg h1, if_pos h2]))
    · refine z_aload_n S d_Store_deliver_30 rfl 0 rfl 31 rfl ?_
      refine z_get S hK hin_Letter (rl_let (hπ _)) kC_5 rfl 3 (Nat.le_of_ble_eq_true rfl) (ht _ w_232) (fun _ h => h) d_Store_deliver_31 34 rfl (.int ((S_Store_takesEffect n (tkP π x.toNatClampNeg) (u3 s 4 2 0 ((s 4 2 0) - 1)) (π x.toNatClampNeg)) 5 3 (π x.toNatClampNeg))) rfl ?_
      refine z_goto S d_Store_deliver_34 44 (by decide) ?_
      exact z_iret S hr hlk d_Store_deliver_44 (by unfold v_Store_deliver; simp only [if_neg h1, if_neg h2]) (kC_eq2 (by unfold S_Store_deliver; simp only [if_neg h1, if_neg h2]) (by unfold P_Store_deliver; simp only [if_neg h1, if_neg h2]))
  · refine z_iconst S d_Store_deliver_11 (-1) (by decide) 12 rfl ?_
    exact z_iret S hr hlk d_Store_deliver_12 (by unfold v_Store_deliver; simp only [if_pos h1]) (kC_eq2 (by unfold S_Store_deliver; simp only [if_pos h1]) (by unfold P_Store_deliver; simp only [if_pos h1]))
theorem d_Store_lose_0 : decode prog_1_method_10_code 0 = .ok (.aload_n 0, 1) := by decide +kernel
theorem d_Store_lose_1 : decode prog_1_method_10_code 1 = .ok (.getfield 44, 3) := by decide +kernel
theorem d_Store_lose_4 : decode prog_1_method_10_code 4 = .ok (.iload_n 1, 1) := by decide +kernel
theorem d_Store_lose_5 : decode prog_1_method_10_code 5 = .ok (.invokevirtual 145, 3) := by decide +kernel
theorem d_Store_lose_8 : decode prog_1_method_10_code 8 = .ok (.ifCond .ne 5, 3) := by decide +kernel
theorem d_Store_lose_11 : decode prog_1_method_10_code 11 = .ok (.iconst 0, 1) := by decide +kernel
theorem d_Store_lose_12 : decode prog_1_method_10_code 12 = .ok (.ireturn, 1) := by decide +kernel
theorem d_Store_lose_13 : decode prog_1_method_10_code 13 = .ok (.aload_n 0, 1) := by decide +kernel
theorem d_Store_lose_14 : decode prog_1_method_10_code 14 = .ok (.getfield 44, 3) := by decide +kernel
theorem d_Store_lose_17 : decode prog_1_method_10_code 17 = .ok (.iload_n 1, 1) := by decide +kernel
theorem d_Store_lose_18 : decode prog_1_method_10_code 18 = .ok (.invokevirtual 148, 3) := by decide +kernel
theorem d_Store_lose_21 : decode prog_1_method_10_code 21 = .ok (.pop, 1) := by decide +kernel
theorem d_Store_lose_22 : decode prog_1_method_10_code 22 = .ok (.iconst 1, 1) := by decide +kernel
theorem d_Store_lose_23 : decode prog_1_method_10_code 23 = .ok (.ireturn, 1) := by decide +kernel
def S_Store_lose (n : Nat) (π : Nat → Nat) (s : S3) (x : Int32) : S3 := if (v_Post_has (s 4 2 0) x) = 0 then s else u3 s 4 2 0 ((s 4 2 0) - 1)
def v_Store_lose (n : Nat) (π : Nat → Nat) (s : S3) (x : Int32) : Int32 := if (v_Post_has (s 4 2 0) x) = 0 then 0 else 1
theorem zbv_Store_lose {n : Nat} {π : Nat → Nat} {s : S3} {x : Int32} : zb (v_Store_lose n π s x) := by
  unfold v_Store_lose
  repeat' split
  all_goals first | with_reducible exact zb_0 | with_reducible exact zb_1 | with_reducible exact zbv_View_hasBackup | with_reducible exact zbv_Server_isPrimary | with_reducible exact zbv_Server_isPrimaryOf | with_reducible exact zbv_Server_isBackupOf | with_reducible exact zbv_Client_takeAnswer | with_reducible exact zbv_Service_isFresh | with_reducible exact zbv_Post_has | with_reducible exact zbv_Store_isServer | with_reducible exact zbv_Store_isClient | with_reducible exact zbv_Store_isCell | with_reducible exact zbv_Store_takeRead | with_reducible exact zbv_Store_takeWrite | with_reducible exact zbv_Store_takeAsk | with_reducible exact zbv_Store_takePassed | with_reducible exact zbv_Store_takePass | with_reducible exact zbv_Store_takeFilled | with_reducible exact zbv_Store_takeFill | with_reducible exact zbv_Store_takeView | with_reducible exact zbv_Store_takePing | with_reducible exact zbv_Store_takesEffect | with_reducible exact zbv_Store_skew | with_reducible exact zbv_Store_ping | with_reducible exact zbv_Store_push | with_reducible exact zbv_Store_crash | with_reducible exact zbv_Store_send
def P_Store_lose (n : Nat) (π : Nat → Nat) (s : S3) (x : Int32) : Nat → Nat := if (v_Post_has (s 4 2 0) x) = 0 then π else tkP π x.toNatClampNeg
set_option maxHeartbeats 4000000 in
set_option maxRecDepth 100000 in
theorem c_Store_lose {l : Launch} {D : va_G} {K : Nat → ClassId} {ad : Nat → Nat → Nat} {n : Nat} {π : Nat → Nat} {s : S3} {x : Int32} (hJ : zw_J (cRL n) ad) (hw : vp_in (s 4 2 0) 33) (hπ : ∀ j, π j < 34) : zM l y_Store_lose ws_Store_lose ({ frames := 1, cells := 0, slots := 0, locals := 23 }) D zCl (zTys K) (cRL n) ad [.ref (ad 0 0), .int x] (kC K ad n s π) (some (.int (v_Store_lose n π s x))) (kC K ad n (S_Store_lose n π s x) (P_Store_lose n π s x)) := by
  refine zM.of (cc := prog_1_method_10_code) (maxL := 2) (ret := (Option.some Jvm.ClassFile.FieldType.boolean)) (by decide) rfl (Nat.le_of_ble_eq_true rfl) ?_
  intro pP eE U mM bL mT cO S hr hlk hK
  have hts := S.2.2.2.2
  have ht := fun w h => hts w (List.mem_cons_of_mem _ h)
  refine z_aload_n S d_Store_lose_0 rfl 0 rfl 1 rfl ?_
  refine z_get S hK hin_Store rl_0 kC_0 rfl 3 (Nat.le_of_ble_eq_true rfl) (ht _ w_281) (fun _ h => h) d_Store_lose_1 4 rfl (.ref (ad 4 0)) rfl ?_
  refine z_iload_n S d_Store_lose_4 rfl 1 rfl 5 rfl ?_
  refine z_callV S hK (As := [.int x]) (rest := []) (c_Post_has (x := x) hJ) (cw_Post_has hts w_403 rfl rfl ⟨(Nat.le_of_ble_eq_true rfl), (Nat.le_of_ble_eq_true rfl)⟩) rl_4 kC_4 rfl rfl rfl (Nat.le_of_ble_eq_true rfl) d_Store_lose_5 8 rfl [.int (v_Post_has (s 4 2 0) x)] rfl ?_
  refine z_if_ne S d_Store_lose_8 13 (by decide) 11 rfl (fun h1 => ?_) (fun h1 => ?_)
  · refine z_aload_n S d_Store_lose_13 rfl 0 rfl 14 rfl ?_
    refine z_get S hK hin_Store rl_0 kC_0 rfl 3 (Nat.le_of_ble_eq_true rfl) (ht _ w_281) (fun _ h => h) d_Store_lose_14 17 rfl (.ref (ad 4 0)) rfl ?_
    refine z_iload_n S d_Store_lose_17 rfl 1 rfl 18 rfl ?_
    refine z_callV S hK (As := [.int x]) (rest := []) (c_Post_take (x := x) hJ hπ (in_has hw h1)) (cw_Post_take hts w_407 rfl rfl ⟨(Nat.le_of_ble_eq_true rfl), (Nat.le_of_ble_eq_true rfl)⟩) rl_4 kC_4 rfl rfl rfl (Nat.le_of_ble_eq_true rfl) d_Store_lose_18 21 rfl [.ref (ad 5 (π x.toNatClampNeg))] rfl ?_
    refine z_pop S d_Store_lose_21 rfl 22 rfl ?_
    refine z_iconst S d_Store_lose_22 1 (by decide) 23 rfl ?_
    exact z_zret S hr (zb_n zb_1) hlk d_Store_lose_23 (by unfold v_Store_lose; simp only [if_neg h1]) (kC_eq2 (by unfold S_Store_lose; simp only [if_neg h1]) (by unfold P_Store_lose; simp only [if_neg h1]))
  · refine z_iconst S d_Store_lose_11 0 (by decide) 12 rfl ?_
    exact z_zret S hr (zb_n zb_0) hlk d_Store_lose_12 (by unfold v_Store_lose; simp only [if_pos h1]) (kC_eq2 (by unfold S_Store_lose; simp only [if_pos h1]) (by unfold P_Store_lose; simp only [if_pos h1]))
