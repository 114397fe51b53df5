theorem d_Model_held_0 : decode prog_11_method_9_code 0 = .ok (.iload_n 3, 1) := by decide +kernel
theorem d_Model_held_1 : decode prog_11_method_9_code 1 = .ok (.iconst 1, 1) := by decide +kernel
theorem d_Model_held_2 : decode prog_11_method_9_code 2 = .ok (.isub, 1) := by decide +kernel
theorem d_Model_held_3 : decode prog_11_method_9_code 3 = .ok (.istore 4, 2) := by decide +kernel
theorem d_Model_held_5 : decode prog_11_method_9_code 5 = .ok (.iload 4, 2) := by decide +kernel
theorem d_Model_held_7 : decode prog_11_method_9_code 7 = .ok (.ifCond .lt 43, 3) := by decide +kernel
theorem d_Model_held_10 : decode prog_11_method_9_code 10 = .ok (.aload_n 0, 1) := by decide +kernel
theorem d_Model_held_11 : decode prog_11_method_9_code 11 = .ok (.getfield 59, 3) := by decide +kernel
theorem d_Model_held_14 : decode prog_11_method_9_code 14 = .ok (.sipush 180, 3) := by decide +kernel
theorem d_Model_held_17 : decode prog_11_method_9_code 17 = .ok (.iload_n 1, 1) := by decide +kernel
theorem d_Model_held_18 : decode prog_11_method_9_code 18 = .ok (.imul, 1) := by decide +kernel
theorem d_Model_held_19 : decode prog_11_method_9_code 19 = .ok (.iload 4, 2) := by decide +kernel
theorem d_Model_held_21 : decode prog_11_method_9_code 21 = .ok (.iadd, 1) := by decide +kernel
theorem d_Model_held_22 : decode prog_11_method_9_code 22 = .ok (.saload, 1) := by decide +kernel
theorem d_Model_held_23 : decode prog_11_method_9_code 23 = .ok (.istore 5, 2) := by decide +kernel
theorem d_Model_held_25 : decode prog_11_method_9_code 25 = .ok (.aload_n 0, 1) := by decide +kernel
theorem d_Model_held_26 : decode prog_11_method_9_code 26 = .ok (.getfield 16, 3) := by decide +kernel
theorem d_Model_held_29 : decode prog_11_method_9_code 29 = .ok (.iload 5, 2) := by decide +kernel
theorem d_Model_held_31 : decode prog_11_method_9_code 31 = .ok (.iaload, 1) := by decide +kernel
theorem d_Model_held_32 : decode prog_11_method_9_code 32 = .ok (.iload_n 2, 1) := by decide +kernel
theorem d_Model_held_33 : decode prog_11_method_9_code 33 = .ok (.if_icmp .ne 11, 3) := by decide +kernel
theorem d_Model_held_36 : decode prog_11_method_9_code 36 = .ok (.aload_n 0, 1) := by decide +kernel
theorem d_Model_held_37 : decode prog_11_method_9_code 37 = .ok (.getfield 19, 3) := by decide +kernel
theorem d_Model_held_40 : decode prog_11_method_9_code 40 = .ok (.iload 5, 2) := by decide +kernel
theorem d_Model_held_42 : decode prog_11_method_9_code 42 = .ok (.iaload, 1) := by decide +kernel
theorem d_Model_held_43 : decode prog_11_method_9_code 43 = .ok (.ireturn, 1) := by decide +kernel
theorem d_Model_held_44 : decode prog_11_method_9_code 44 = .ok (.iinc 4 (-1), 3) := by decide +kernel
theorem d_Model_held_47 : decode prog_11_method_9_code 47 = .ok (.goto (-42), 3) := by decide +kernel
theorem d_Model_held_50 : decode prog_11_method_9_code 50 = .ok (.iconst 0, 1) := by decide +kernel
theorem d_Model_held_51 : decode prog_11_method_9_code 51 = .ok (.ireturn, 1) := by decide +kernel
set_option maxHeartbeats 4000000 in
set_option maxRecDepth 100000 in
theorem c_Model_held_V {l : Launch} {D : va_G} {K : Nat → ClassId} {ad : Nat → Nat → Nat} {s : S3} {x k m : Int32} {V : Int32} (hV : hdF (s 5 0) (s 6 0) (s 20 0) x k m.toNatClampNeg = V) (hJ : zw_J (rRL) ad) (hx : vp_in x 5) (hm : vp_in m 181) (hd : ∀ j, vp_in (s 20 0 j) 512) : zM l y_Model_held ws_Model_held ({ frames := 0, cells := 0, slots := 0, locals := 0 }) D zCl (zTys K) (rRL) ad [.ref (ad 0 0), .int x, .int k, .int m] (rC K ad s) (some (.int V)) (rC K ad s) := by
  refine zM.of (cc := prog_11_method_9_code) (maxL := 6) (ret := (Option.some Jvm.ClassFile.FieldType.int)) (by decide) rfl (Nat.le_of_ble_eq_true rfl) ?_
  intro pP eE U mM bL mT cO S hr hlk hK
  have hts := S.2.2.2.2
  have ht := fun w h => hts w (List.mem_cons_of_mem _ h)
  refine z_iload_n S d_Model_held_0 rfl 3 rfl 1 rfl ?_
  refine z_iconst S d_Model_held_1 1 (by decide) 2 rfl ?_
  refine z_isub S d_Model_held_2 3 rfl ?_
  refine z_istore S d_Model_held_3 (Nat.le_of_ble_eq_true rfl) [(4, .int (m - 1)), (0, .ref (ad 0 0)), (1, .int x), (2, .int k), (3, .int m)] rfl 5 rfl ?_
  have loop : ∀ (j : Nat) (z : Int32), z = nI j - 1 → j ≤ 180 → hdF (s 5 0) (s 6 0) (s 20 0) x k j = V → zG pP l eE (headSpec ws_Model_held ({ frames := 0, cells := 0, slots := 0, locals := 0 })).room U mM ([.ref (ad 0 0), .int x, .int k, .int m] : List Value).toArray bL mT cO 6 (MQ bL (zQ D zCl (rRL) ad (some (.int V)) (rC K ad s)) ([.ref (ad 0 0), .int x, .int k, .int m] : List Value).toArray U 0 0 (zw_A (rRL) ad)) (zI D zCl (rRL) ad U.heap (rC K ad s)) 0 0 5 [(4, .int z), (0, .ref (ad 0 0)), (1, .int x), (2, .int k), (3, .int m)] [] := by
    intro j
    induction j with
    | zero =>
      intro z hz hj hv
      refine z_iload S d_Model_held_5 0 rfl 7 rfl ?_
      refine z_if_lt S d_Model_held_7 50 (by decide) 10 rfl (fun h1 => ?_) (fun h1 => ?_)
      · refine z_iconst S d_Model_held_50 0 (by decide) 51 rfl ?_
        exact z_iret S hr hlk d_Model_held_51 (by rw [← hv]; simp only [hdF, if_pos h1]) rfl
      · exact absurd (by rw [hz]; decide) h1
    | succ j ih =>
      intro z hz hj hv
      rw [nI_pred] at hz
      subst hz
      refine z_iload S d_Model_held_5 0 rfl 7 rfl ?_
      refine z_if_lt S d_Model_held_7 50 (by decide) 10 rfl (fun h2 => ?_) (fun h2 => ?_)
      · exact absurd h2 (nI_pos (by omega))
      · refine z_aload_n S d_Model_held_10 rfl 1 rfl 11 rfl ?_
        refine z_get S hK hin_Model rm_0 rC_0 rfl 20 (Nat.le_of_ble_eq_true rfl) (ht _ w_560) (fun _ h => h) d_Model_held_11 14 rfl (.ref (ad 20 0)) rfl ?_
        refine z_sipush S d_Model_held_14 180 (by decide) 17 rfl ?_
        refine z_iload_n S d_Model_held_17 rfl 2 rfl 18 rfl ?_
        refine z_imul S d_Model_held_18 19 rfl ?_
        refine z_iload S d_Model_held_19 0 rfl 21 rfl ?_
        refine z_iadd S d_Model_held_21 22 rfl ?_
        refine z_sald S hK rm_20 2 rC_20 rfl (vp_180 (a := 5) hx (nI_in (by omega) (by omega)) (by omega)) d_Model_held_22 23 rfl (s 20 0 (((180 * x) + (nI j)).toNatClampNeg)) rfl ?_
        refine z_istore S d_Model_held_23 (Nat.le_of_ble_eq_true rfl) [(5, .int (s 20 0 (((180 * x) + (nI j)).toNatClampNeg))), (4, .int (nI j)), (0, .ref (ad 0 0)), (1, .int x), (2, .int k), (3, .int m)] rfl 25 rfl ?_
        refine z_aload_n S d_Model_held_25 rfl 2 rfl 26 rfl ?_
        refine z_get S hK hin_Model rm_0 rC_0 rfl 5 (Nat.le_of_ble_eq_true rfl) (ht _ w_545) (fun _ h => h) d_Model_held_26 29 rfl (.ref (ad 5 0)) rfl ?_
        refine z_iload S d_Model_held_29 0 rfl 31 rfl ?_
        refine z_iald S hK rm_5 0 rC_5 rfl (hd _) d_Model_held_31 32 rfl (s 5 0 ((s 20 0 (((180 * x) + (nI j)).toNatClampNeg)).toNatClampNeg)) rfl ?_
        refine z_iload_n S d_Model_held_32 rfl 4 rfl 33 rfl ?_
        refine z_icmp_ne S d_Model_held_33 44 (by decide) 36 rfl (fun h3 => ?_) (fun h3 => ?_)
        · refine z_iinc S d_Model_held_44 1 rfl rfl (Nat.le_of_ble_eq_true rfl) [(4, .int ((nI j) + Int32.ofInt (-1))), (5, .int (s 20 0 (((180 * x) + (nI j)).toNatClampNeg))), (0, .ref (ad 0 0)), (1, .int x), (2, .int k), (3, .int m)] rfl 47 rfl ?_
          refine z_goto S d_Model_held_47 5 (by decide) ?_
          refine z_lv [0, 2, 3, 4, 5] rfl ?_
          exact ih _ (i32_m1 _) (by omega) (by rw [← hv]; simp only [hdF, if_neg h2, if_neg h3])
        · refine z_aload_n S d_Model_held_36 rfl 2 rfl 37 rfl ?_
          refine z_get S hK hin_Model rm_0 rC_0 rfl 6 (Nat.le_of_ble_eq_true rfl) (ht _ w_546) (fun _ h => h) d_Model_held_37 40 rfl (.ref (ad 6 0)) rfl ?_
          refine z_iload S d_Model_held_40 0 rfl 42 rfl ?_
          refine z_iald S hK rm_6 0 rC_6 rfl (hd _) d_Model_held_42 43 rfl (s 6 0 ((s 20 0 (((180 * x) + (nI j)).toNatClampNeg)).toNatClampNeg)) rfl ?_
          exact z_iret S hr hlk d_Model_held_43 (by rw [← hv]; simp only [hdF, if_neg h2, if_pos h3]) rfl
  exact loop m.toNatClampNeg _ (by rw [← vp_eq hm]) (by have := vp_lt hm; omega) hV
theorem c_Model_held {l : Launch} {D : va_G} {K : Nat → ClassId} {ad : Nat → Nat → Nat} {s : S3} {x k m : Int32} (hJ : zw_J (rRL) ad) (hx : vp_in x 5) (hm : vp_in m 181) (hd : ∀ j, vp_in (s 20 0 j) 512) : zM l y_Model_held ws_Model_held ({ frames := 0, cells := 0, slots := 0, locals := 0 }) D zCl (zTys K) rRL ad [.ref (ad 0 0), .int x, .int k, .int m] (rC K ad s) (some (.int (hdF (s 5 0) (s 6 0) (s 20 0) x k m.toNatClampNeg))) (rC K ad s) := c_Model_held_V rfl hJ hx hm hd
theorem d_Model_latest_0 : decode prog_11_method_10_code 0 = .ok (.aload_n 0, 1) := by decide +kernel
theorem d_Model_latest_1 : decode prog_11_method_10_code 1 = .ok (.getfield 56, 3) := by decide +kernel
theorem d_Model_latest_4 : decode prog_11_method_10_code 4 = .ok (.iload_n 1, 1) := by decide +kernel
theorem d_Model_latest_5 : decode prog_11_method_10_code 5 = .ok (.iaload, 1) := by decide +kernel
theorem d_Model_latest_6 : decode prog_11_method_10_code 6 = .ok (.iconst 1, 1) := by decide +kernel
theorem d_Model_latest_7 : decode prog_11_method_10_code 7 = .ok (.isub, 1) := by decide +kernel
theorem d_Model_latest_8 : decode prog_11_method_10_code 8 = .ok (.istore_n 3, 1) := by decide +kernel
theorem d_Model_latest_9 : decode prog_11_method_10_code 9 = .ok (.iload_n 3, 1) := by decide +kernel
theorem d_Model_latest_10 : decode prog_11_method_10_code 10 = .ok (.ifCond .lt 32, 3) := by decide +kernel
theorem d_Model_latest_13 : decode prog_11_method_10_code 13 = .ok (.aload_n 0, 1) := by decide +kernel
theorem d_Model_latest_14 : decode prog_11_method_10_code 14 = .ok (.getfield 7, 3) := by decide +kernel
theorem d_Model_latest_17 : decode prog_11_method_10_code 17 = .ok (.aload_n 0, 1) := by decide +kernel
theorem d_Model_latest_18 : decode prog_11_method_10_code 18 = .ok (.getfield 59, 3) := by decide +kernel
theorem d_Model_latest_21 : decode prog_11_method_10_code 21 = .ok (.sipush 180, 3) := by decide +kernel
theorem d_Model_latest_24 : decode prog_11_method_10_code 24 = .ok (.iload_n 1, 1) := by decide +kernel
theorem d_Model_latest_25 : decode prog_11_method_10_code 25 = .ok (.imul, 1) := by decide +kernel
theorem d_Model_latest_26 : decode prog_11_method_10_code 26 = .ok (.iload_n 3, 1) := by decide +kernel
theorem d_Model_latest_27 : decode prog_11_method_10_code 27 = .ok (.iadd, 1) := by decide +kernel
theorem d_Model_latest_28 : decode prog_11_method_10_code 28 = .ok (.saload, 1) := by decide +kernel
theorem d_Model_latest_29 : decode prog_11_method_10_code 29 = .ok (.iaload, 1) := by decide +kernel
theorem d_Model_latest_30 : decode prog_11_method_10_code 30 = .ok (.iload_n 2, 1) := by decide +kernel
theorem d_Model_latest_31 : decode prog_11_method_10_code 31 = .ok (.if_icmp .ne 5, 3) := by decide +kernel
theorem d_Model_latest_34 : decode prog_11_method_10_code 34 = .ok (.iload_n 3, 1) := by decide +kernel
theorem d_Model_latest_35 : decode prog_11_method_10_code 35 = .ok (.ireturn, 1) := by decide +kernel
theorem d_Model_latest_36 : decode prog_11_method_10_code 36 = .ok (.iinc 3 (-1), 3) := by decide +kernel
theorem d_Model_latest_39 : decode prog_11_method_10_code 39 = .ok (.goto (-30), 3) := by decide +kernel
theorem d_Model_latest_42 : decode prog_11_method_10_code 42 = .ok (.iconst (-1), 1) := by decide +kernel
theorem d_Model_latest_43 : decode prog_11_method_10_code 43 = .ok (.ireturn, 1) := by decide +kernel
set_option maxHeartbeats 4000000 in
set_option maxRecDepth 100000 in
theorem c_Model_latest_V {l : Launch} {D : va_G} {K : Nat → ClassId} {ad : Nat → Nat → Nat} {s : S3} {x c : Int32} {V : Int32} (hV : laF (s 3 0) (s 20 0) x c (s 19 0 x.toNatClampNeg).toNatClampNeg = V) (hJ : zw_J (rRL) ad) (hx : vp_in x 5) (hl : vp_in (s 19 0 x.toNatClampNeg) 181) (hd : ∀ j, vp_in (s 20 0 j) 512) : zM l y_Model_latest ws_Model_latest ({ frames := 0, cells := 0, slots := 0, locals := 0 }) D zCl (zTys K) (rRL) ad [.ref (ad 0 0), .int x, .int c] (rC K ad s) (some (.int V)) (rC K ad s) := by
  refine zM.of (cc := prog_11_method_10_code) (maxL := 4) (ret := (Option.some Jvm.ClassFile.FieldType.int)) (by decide) rfl (Nat.le_of_ble_eq_true rfl) ?_
  intro pP eE U mM bL mT cO S hr hlk hK
  have hts := S.2.2.2.2
  have ht := fun w h => hts w (List.mem_cons_of_mem _ h)
  refine z_aload_n S d_Model_latest_0 rfl 0 rfl 1 rfl ?_
  refine z_get S hK hin_Model rm_0 rC_0 rfl 19 (Nat.le_of_ble_eq_true rfl) (ht _ w_559) (fun _ h => h) d_Model_latest_1 4 rfl (.ref (ad 19 0)) rfl ?_
  refine z_iload_n S d_Model_latest_4 rfl 1 rfl 5 rfl ?_
  refine z_iald S hK rm_19 0 rC_19 rfl hx d_Model_latest_5 6 rfl (s 19 0 x.toNatClampNeg) rfl ?_
  refine z_iconst S d_Model_latest_6 1 (by decide) 7 rfl ?_
  refine z_isub S d_Model_latest_7 8 rfl ?_
  refine z_istore_n S d_Model_latest_8 rfl (Nat.le_of_ble_eq_true rfl) [(3, .int ((s 19 0 x.toNatClampNeg) - 1)), (0, .ref (ad 0 0)), (1, .int x), (2, .int c)] rfl 9 rfl ?_
  have loop : ∀ (j : Nat) (z : Int32), z = nI j - 1 → j ≤ 180 → laF (s 3 0) (s 20 0) x c j = V → zG pP l eE (headSpec ws_Model_latest ({ frames := 0, cells := 0, slots := 0, locals := 0 })).room U mM ([.ref (ad 0 0), .int x, .int c] : List Value).toArray bL mT cO 4 (MQ bL (zQ D zCl (rRL) ad (some (.int V)) (rC K ad s)) ([.ref (ad 0 0), .int x, .int c] : List Value).toArray U 0 0 (zw_A (rRL) ad)) (zI D zCl (rRL) ad U.heap (rC K ad s)) 0 0 9 [(3, .int z), (0, .ref (ad 0 0)), (1, .int x), (2, .int c)] [] := by
    intro j
    induction j with
    | zero =>
      intro z hz hj hv
      refine z_iload_n S d_Model_latest_9 rfl 0 rfl 10 rfl ?_
      refine z_if_lt S d_Model_latest_10 42 (by decide) 13 rfl (fun h1 => ?_) (fun h1 => ?_)
      · refine z_iconst S d_Model_latest_42 (-1) (by decide) 43 rfl ?_
        exact z_iret S hr hlk d_Model_latest_43 (by rw [← hv]; simp only [laF, if_pos h1]) rfl
      · exact absurd (by rw [hz]; decide) h1
    | succ j ih =>
      intro z hz hj hv
      rw [nI_pred] at hz
      subst hz
      refine z_iload_n S d_Model_latest_9 rfl 0 rfl 10 rfl ?_
      refine z_if_lt S d_Model_latest_10 42 (by decide) 13 rfl (fun h2 => ?_) (fun h2 => ?_)
      · exact absurd h2 (nI_pos (by omega))
      · refine z_aload_n S d_Model_latest_13 rfl 1 rfl 14 rfl ?_
        refine z_get S hK hin_Model rm_0 rC_0 rfl 3 (Nat.le_of_ble_eq_true rfl) (ht _ w_543) (fun _ h => h) d_Model_latest_14 17 rfl (.ref (ad 3 0)) rfl ?_
        refine z_aload_n S d_Model_latest_17 rfl 1 rfl 18 rfl ?_
        refine z_get S hK hin_Model rm_0 rC_0 rfl 20 (Nat.le_of_ble_eq_true rfl) (ht _ w_560) (fun _ h => h) d_Model_latest_18 21 rfl (.ref (ad 20 0)) rfl ?_
        refine z_sipush S d_Model_latest_21 180 (by decide) 24 rfl ?_
        refine z_iload_n S d_Model_latest_24 rfl 2 rfl 25 rfl ?_
        refine z_imul S d_Model_latest_25 26 rfl ?_
        refine z_iload_n S d_Model_latest_26 rfl 0 rfl 27 rfl ?_
        refine z_iadd S d_Model_latest_27 28 rfl ?_
        refine z_sald S hK rm_20 2 rC_20 rfl (vp_180 (a := 5) hx (nI_in (by omega) (by omega)) (by omega)) d_Model_latest_28 29 rfl (s 20 0 (((180 * x) + (nI j)).toNatClampNeg)) rfl ?_
        refine z_iald S hK rm_3 0 rC_3 rfl (hd _) d_Model_latest_29 30 rfl (s 3 0 ((s 20 0 (((180 * x) + (nI j)).toNatClampNeg)).toNatClampNeg)) rfl ?_
        refine z_iload_n S d_Model_latest_30 rfl 3 rfl 31 rfl ?_
        refine z_icmp_ne S d_Model_latest_31 36 (by decide) 34 rfl (fun h3 => ?_) (fun h3 => ?_)
        · refine z_iinc S d_Model_latest_36 0 rfl rfl (Nat.le_of_ble_eq_true rfl) [(3, .int ((nI j) + Int32.ofInt (-1))), (0, .ref (ad 0 0)), (1, .int x), (2, .int c)] rfl 39 rfl ?_
          refine z_goto S d_Model_latest_39 9 (by decide) ?_
          exact ih _ (i32_m1 _) (by omega) (by rw [← hv]; simp only [laF, if_neg h2, if_neg h3])
        · refine z_iload_n S d_Model_latest_34 rfl 0 rfl 35 rfl ?_
          exact z_iret S hr hlk d_Model_latest_35 (by rw [← hv]; simp only [laF, if_neg h2, if_pos h3]) rfl
  exact loop (s 19 0 x.toNatClampNeg).toNatClampNeg _ (by rw [← vp_eq hl]) (by have := vp_lt hl; omega) hV
theorem c_Model_latest {l : Launch} {D : va_G} {K : Nat → ClassId} {ad : Nat → Nat → Nat} {s : S3} {x c : Int32} (hJ : zw_J (rRL) ad) (hx : vp_in x 5) (hl : vp_in (s 19 0 x.toNatClampNeg) 181) (hd : ∀ j, vp_in (s 20 0 j) 512) : zM l y_Model_latest ws_Model_latest ({ frames := 0, cells := 0, slots := 0, locals := 0 }) D zCl (zTys K) rRL ad [.ref (ad 0 0), .int x, .int c] (rC K ad s) (some (.int (laF (s 3 0) (s 20 0) x c (s 19 0 x.toNatClampNeg).toNatClampNeg))) (rC K ad s) := c_Model_latest_V rfl hJ hx hl hd
theorem d_Model_perform_0 : decode prog_11_method_11_code 0 = .ok (.aload_n 0, 1) := by decide +kernel
theorem d_Model_perform_1 : decode prog_11_method_11_code 1 = .ok (.iload_n 1, 1) := by decide +kernel
theorem d_Model_perform_2 : decode prog_11_method_11_code 2 = .ok (.aload_n 0, 1) := by decide +kernel
theorem d_Model_perform_3 : decode prog_11_method_11_code 3 = .ok (.getfield 16, 3) := by decide +kernel
theorem d_Model_perform_6 : decode prog_11_method_11_code 6 = .ok (.iload_n 2, 1) := by decide +kernel
theorem d_Model_perform_7 : decode prog_11_method_11_code 7 = .ok (.iaload, 1) := by decide +kernel
theorem d_Model_perform_8 : decode prog_11_method_11_code 8 = .ok (.aload_n 0, 1) := by decide +kernel
theorem d_Model_perform_9 : decode prog_11_method_11_code 9 = .ok (.getfield 56, 3) := by decide +kernel
theorem d_Model_perform_12 : decode prog_11_method_11_code 12 = .ok (.iload_n 1, 1) := by decide +kernel
theorem d_Model_perform_13 : decode prog_11_method_11_code 13 = .ok (.iaload, 1) := by decide +kernel
theorem d_Model_perform_14 : decode prog_11_method_11_code 14 = .ok (.invokevirtual 119, 3) := by decide +kernel
theorem d_Model_perform_17 : decode prog_11_method_11_code 17 = .ok (.istore_n 3, 1) := by decide +kernel
theorem d_Model_perform_18 : decode prog_11_method_11_code 18 = .ok (.aload_n 0, 1) := by decide +kernel
theorem d_Model_perform_19 : decode prog_11_method_11_code 19 = .ok (.getfield 59, 3) := by decide +kernel
theorem d_Model_perform_22 : decode prog_11_method_11_code 22 = .ok (.sipush 180, 3) := by decide +kernel
theorem d_Model_perform_25 : decode prog_11_method_11_code 25 = .ok (.iload_n 1, 1) := by decide +kernel
theorem d_Model_perform_26 : decode prog_11_method_11_code 26 = .ok (.imul, 1) := by decide +kernel
theorem d_Model_perform_27 : decode prog_11_method_11_code 27 = .ok (.aload_n 0, 1) := by decide +kernel
theorem d_Model_perform_28 : decode prog_11_method_11_code 28 = .ok (.getfield 56, 3) := by decide +kernel
theorem d_Model_perform_31 : decode prog_11_method_11_code 31 = .ok (.iload_n 1, 1) := by decide +kernel
theorem d_Model_perform_32 : decode prog_11_method_11_code 32 = .ok (.iaload, 1) := by decide +kernel
theorem d_Model_perform_33 : decode prog_11_method_11_code 33 = .ok (.iadd, 1) := by decide +kernel
theorem d_Model_perform_34 : decode prog_11_method_11_code 34 = .ok (.iload_n 2, 1) := by decide +kernel
theorem d_Model_perform_35 : decode prog_11_method_11_code 35 = .ok (.i2s, 1) := by decide +kernel
theorem d_Model_perform_36 : decode prog_11_method_11_code 36 = .ok (.sastore, 1) := by decide +kernel
theorem d_Model_perform_37 : decode prog_11_method_11_code 37 = .ok (.aload_n 0, 1) := by decide +kernel
theorem d_Model_perform_38 : decode prog_11_method_11_code 38 = .ok (.getfield 56, 3) := by decide +kernel
theorem d_Model_perform_41 : decode prog_11_method_11_code 41 = .ok (.iload_n 1, 1) := by decide +kernel
theorem d_Model_perform_42 : decode prog_11_method_11_code 42 = .ok (.dup2, 1) := by decide +kernel
theorem d_Model_perform_43 : decode prog_11_method_11_code 43 = .ok (.iaload, 1) := by decide +kernel
theorem d_Model_perform_44 : decode prog_11_method_11_code 44 = .ok (.iconst 1, 1) := by decide +kernel
theorem d_Model_perform_45 : decode prog_11_method_11_code 45 = .ok (.iadd, 1) := by decide +kernel
theorem d_Model_perform_46 : decode prog_11_method_11_code 46 = .ok (.iastore, 1) := by decide +kernel
theorem d_Model_perform_47 : decode prog_11_method_11_code 47 = .ok (.iload_n 3, 1) := by decide +kernel
theorem d_Model_perform_48 : decode prog_11_method_11_code 48 = .ok (.ireturn, 1) := by decide +kernel
def S_Model_perform (s : S3) (x : Int32) (o : Int32) : S3 := u3 (u3 s 20 0 (((180 * x) + (s 19 0 x.toNatClampNeg)).toNatClampNeg) (vp_nar .short ((o).toInt16.toInt32))) 19 0 x.toNatClampNeg ((s 19 0 x.toNatClampNeg) + 1)
set_option maxHeartbeats 4000000 in
set_option maxRecDepth 100000 in
theorem c_Model_perform {l : Launch} {D : va_G} {K : Nat → ClassId} {ad : Nat → Nat → Nat} {s : S3} {x o : Int32} (hJ : zw_J (rRL) ad) (hx : vp_in x 5) (ho : vp_in o 512) (hl : vp_in (s 19 0 x.toNatClampNeg) 180) (hd : ∀ j, vp_in (s 20 0 j) 512) : zM l y_Model_perform ws_Model_perform ({ frames := 1, cells := 0, slots := 0, locals := 25 }) D zCl (zTys K) (rRL) ad [.ref (ad 0 0), .int x, .int o] (rC K ad s) (some (.int (hdF (s 5 0) (s 6 0) (s 20 0) x (s 5 0 o.toNatClampNeg) ((s 19 0 x.toNatClampNeg).toNatClampNeg)))) (rC K ad (S_Model_perform s x o)) := by
  refine zM.of (cc := prog_11_method_11_code) (maxL := 4) (ret := (Option.some Jvm.ClassFile.FieldType.int)) (by decide) rfl (Nat.le_of_ble_eq_true rfl) ?_
  intro pP eE U mM bL mT cO S hr hlk hK
  have hts := S.2.2.2.2
  have ht := fun w h => hts w (List.mem_cons_of_mem _ h)
  refine z_aload_n S d_Model_perform_0 rfl 0 rfl 1 rfl ?_
  refine z_iload_n S d_Model_perform_1 rfl 1 rfl 2 rfl ?_
  refine z_aload_n S d_Model_perform_2 rfl 0 rfl 3 rfl ?_
  refine z_get S hK hin_Model rm_0 rC_0 rfl 5 (Nat.le_of_ble_eq_true rfl) (ht _ w_545) (fun _ h => h) d_Model_perform_3 6 rfl (.ref (ad 5 0)) rfl ?_
  refine z_iload_n S d_Model_perform_6 rfl 2 rfl 7 rfl ?_
  refine z_iald S hK rm_5 0 rC_5 rfl ho d_Model_perform_7 8 rfl (s 5 0 o.toNatClampNeg) rfl ?_
  refine z_aload_n S d_Model_perform_8 rfl 0 rfl 9 rfl ?_
  refine z_get S hK hin_Model rm_0 rC_0 rfl 19 (Nat.le_of_ble_eq_true rfl) (ht _ w_559) (fun _ h => h) d_Model_perform_9 12 rfl (.ref (ad 19 0)) rfl ?_
  refine z_iload_n S d_Model_perform_12 rfl 1 rfl 13 rfl ?_
  refine z_iald S hK rm_19 0 rC_19 rfl hx d_Model_perform_13 14 rfl (s 19 0 x.toNatClampNeg) rfl ?_
  refine z_callV S hK (As := [.int x, .int (s 5 0 o.toNatClampNeg), .int (s 19 0 x.toNatClampNeg)]) (rest := []) (c_Model_held (x := x) (k := s 5 0 o.toNatClampNeg) (m := s 19 0 x.toNatClampNeg) hJ hx (vp_mono hl (by omega)) hd) (cw_Model_held hts w_758 rfl rfl ⟨(Nat.le_of_ble_eq_true rfl), (Nat.le_of_ble_eq_true rfl)⟩) rm_0 rC_0 rfl rfl rfl (Nat.le_of_ble_eq_true rfl) d_Model_perform_14 17 rfl [.int (hdF (s 5 0) (s 6 0) (s 20 0) x (s 5 0 o.toNatClampNeg) ((s 19 0 x.toNatClampNeg).toNatClampNeg))] rfl ?_
  refine z_istore_n S d_Model_perform_17 rfl (Nat.le_of_ble_eq_true rfl) [(3, .int (hdF (s 5 0) (s 6 0) (s 20 0) x (s 5 0 o.toNatClampNeg) ((s 19 0 x.toNatClampNeg).toNatClampNeg))), (0, .ref (ad 0 0)), (1, .int x), (2, .int o)] rfl 18 rfl ?_
  refine z_aload_n S d_Model_perform_18 rfl 1 rfl 19 rfl ?_
  refine z_get S hK hin_Model rm_0 rC_0 rfl 20 (Nat.le_of_ble_eq_true rfl) (ht _ w_560) (fun _ h => h) d_Model_perform_19 22 rfl (.ref (ad 20 0)) rfl ?_
  refine z_sipush S d_Model_perform_22 180 (by decide) 25 rfl ?_
  refine z_iload_n S d_Model_perform_25 rfl 2 rfl 26 rfl ?_
  refine z_imul S d_Model_perform_26 27 rfl ?_
  refine z_aload_n S d_Model_perform_27 rfl 1 rfl 28 rfl ?_
  refine z_get S hK hin_Model rm_0 rC_0 rfl 19 (Nat.le_of_ble_eq_true rfl) (ht _ w_559) (fun _ h => h) d_Model_perform_28 31 rfl (.ref (ad 19 0)) rfl ?_
  refine z_iload_n S d_Model_perform_31 rfl 2 rfl 32 rfl ?_
  refine z_iald S hK rm_19 0 rC_19 rfl hx d_Model_perform_32 33 rfl (s 19 0 x.toNatClampNeg) rfl ?_
  refine z_iadd S d_Model_perform_33 34 rfl ?_
  refine z_iload_n S d_Model_perform_34 rfl 3 rfl 35 rfl ?_
  refine z_i2s S d_Model_perform_35 _ rfl 36 rfl ?_
  refine z_sast S hJ hK rm_20 2 rC_20 rfl (vp_180 (a := 5) hx hl (by omega)) rfl rupI_20 d_Model_perform_36 37 rfl ?_
  refine z_aload_n S d_Model_perform_37 rfl 1 rfl 38 rfl ?_
  refine z_get S hK hin_Model rm_0 rC_0 rfl 19 (Nat.le_of_ble_eq_true rfl) (ht _ w_559) (fun _ h => h) d_Model_perform_38 41 rfl (.ref (ad 19 0)) rfl ?_
  refine z_iload_n S d_Model_perform_41 rfl 2 rfl 42 rfl ?_
  refine z_dup2_11 S d_Model_perform_42 rfl rfl 43 rfl ?_
  refine z_iald S hK rm_19 0 rC_19 rfl hx d_Model_perform_43 44 rfl (s 19 0 x.toNatClampNeg) rfl ?_
  refine z_iconst S d_Model_perform_44 1 (by decide) 45 rfl ?_
  refine z_iadd S d_Model_perform_45 46 rfl ?_
  refine z_iast S hJ hK rm_19 0 rC_19 rfl hx rfl rupI_19 d_Model_perform_46 47 rfl ?_
  refine z_iload_n S d_Model_perform_47 rfl 0 rfl 48 rfl ?_
  exact z_iret S hr hlk d_Model_perform_48 rfl (rC_eq rfl)
theorem d_Model_sendFill_0 : decode prog_11_method_7_code 0 = .ok (.aload_n 0, 1) := by decide +kernel
theorem d_Model_sendFill_1 : decode prog_11_method_7_code 1 = .ok (.iconst 3, 1) := by decide +kernel
theorem d_Model_sendFill_2 : decode prog_11_method_7_code 2 = .ok (.aload_n 0, 1) := by decide +kernel
theorem d_Model_sendFill_3 : decode prog_11_method_7_code 3 = .ok (.getfield 32, 3) := by decide +kernel
theorem d_Model_sendFill_6 : decode prog_11_method_7_code 6 = .ok (.iload_n 1, 1) := by decide +kernel
theorem d_Model_sendFill_7 : decode prog_11_method_7_code 7 = .ok (.iaload, 1) := by decide +kernel
theorem d_Model_sendFill_8 : decode prog_11_method_7_code 8 = .ok (.invokevirtual 115, 3) := by decide +kernel
theorem d_Model_sendFill_11 : decode prog_11_method_7_code 11 = .ok (.istore_n 2, 1) := by decide +kernel
theorem d_Model_sendFill_12 : decode prog_11_method_7_code 12 = .ok (.aload_n 0, 1) := by decide +kernel
theorem d_Model_sendFill_13 : decode prog_11_method_7_code 13 = .ok (.getfield 87, 3) := by decide +kernel
theorem d_Model_sendFill_16 : decode prog_11_method_7_code 16 = .ok (.iload_n 2, 1) := by decide +kernel
theorem d_Model_sendFill_17 : decode prog_11_method_7_code 17 = .ok (.aload_n 0, 1) := by decide +kernel
theorem d_Model_sendFill_18 : decode prog_11_method_7_code 18 = .ok (.getfield 26, 3) := by decide +kernel
theorem d_Model_sendFill_21 : decode prog_11_method_7_code 21 = .ok (.iload_n 1, 1) := by decide +kernel
theorem d_Model_sendFill_22 : decode prog_11_method_7_code 22 = .ok (.iaload, 1) := by decide +kernel
theorem d_Model_sendFill_23 : decode prog_11_method_7_code 23 = .ok (.iastore, 1) := by decide +kernel
theorem d_Model_sendFill_24 : decode prog_11_method_7_code 24 = .ok (.aload_n 0, 1) := by decide +kernel
theorem d_Model_sendFill_25 : decode prog_11_method_7_code 25 = .ok (.getfield 90, 3) := by decide +kernel
theorem d_Model_sendFill_28 : decode prog_11_method_7_code 28 = .ok (.iload_n 2, 1) := by decide +kernel
theorem d_Model_sendFill_29 : decode prog_11_method_7_code 29 = .ok (.aload_n 0, 1) := by decide +kernel
theorem d_Model_sendFill_30 : decode prog_11_method_7_code 30 = .ok (.getfield 29, 3) := by decide +kernel
theorem d_Model_sendFill_33 : decode prog_11_method_7_code 33 = .ok (.iload_n 1, 1) := by decide +kernel
theorem d_Model_sendFill_34 : decode prog_11_method_7_code 34 = .ok (.iaload, 1) := by decide +kernel
theorem d_Model_sendFill_35 : decode prog_11_method_7_code 35 = .ok (.iastore, 1) := by decide +kernel
theorem d_Model_sendFill_36 : decode prog_11_method_7_code 36 = .ok (.aload_n 0, 1) := by decide +kernel
theorem d_Model_sendFill_37 : decode prog_11_method_7_code 37 = .ok (.getfield 93, 3) := by decide +kernel
theorem d_Model_sendFill_40 : decode prog_11_method_7_code 40 = .ok (.iload_n 2, 1) := by decide +kernel
theorem d_Model_sendFill_41 : decode prog_11_method_7_code 41 = .ok (.aload_n 0, 1) := by decide +kernel
theorem d_Model_sendFill_42 : decode prog_11_method_7_code 42 = .ok (.getfield 32, 3) := by decide +kernel
theorem d_Model_sendFill_45 : decode prog_11_method_7_code 45 = .ok (.iload_n 1, 1) := by decide +kernel
theorem d_Model_sendFill_46 : decode prog_11_method_7_code 46 = .ok (.iaload, 1) := by decide +kernel
theorem d_Model_sendFill_47 : decode prog_11_method_7_code 47 = .ok (.iastore, 1) := by decide +kernel
theorem d_Model_sendFill_48 : decode prog_11_method_7_code 48 = .ok (.aload_n 0, 1) := by decide +kernel
theorem d_Model_sendFill_49 : decode prog_11_method_7_code 49 = .ok (.getfield 99, 3) := by decide +kernel
theorem d_Model_sendFill_52 : decode prog_11_method_7_code 52 = .ok (.iload_n 2, 1) := by decide +kernel
theorem d_Model_sendFill_53 : decode prog_11_method_7_code 53 = .ok (.aload_n 0, 1) := by decide +kernel
theorem d_Model_sendFill_54 : decode prog_11_method_7_code 54 = .ok (.getfield 56, 3) := by decide +kernel
theorem d_Model_sendFill_57 : decode prog_11_method_7_code 57 = .ok (.iload_n 1, 1) := by decide +kernel
theorem d_Model_sendFill_58 : decode prog_11_method_7_code 58 = .ok (.iaload, 1) := by decide +kernel
theorem d_Model_sendFill_59 : decode prog_11_method_7_code 59 = .ok (.iastore, 1) := by decide +kernel
theorem d_Model_sendFill_60 : decode prog_11_method_7_code 60 = .ok (.iconst 0, 1) := by decide +kernel
theorem d_Model_sendFill_61 : decode prog_11_method_7_code 61 = .ok (.istore_n 3, 1) := by decide +kernel
theorem d_Model_sendFill_62 : decode prog_11_method_7_code 62 = .ok (.iload_n 3, 1) := by decide +kernel
theorem d_Model_sendFill_63 : decode prog_11_method_7_code 63 = .ok (.aload_n 0, 1) := by decide +kernel
theorem d_Model_sendFill_64 : decode prog_11_method_7_code 64 = .ok (.getfield 56, 3) := by decide +kernel
theorem d_Model_sendFill_67 : decode prog_11_method_7_code 67 = .ok (.iload_n 1, 1) := by decide +kernel
theorem d_Model_sendFill_68 : decode prog_11_method_7_code 68 = .ok (.iaload, 1) := by decide +kernel
theorem d_Model_sendFill_69 : decode prog_11_method_7_code 69 = .ok (.if_icmp .ge 33, 3) := by decide +kernel
theorem d_Model_sendFill_72 : decode prog_11_method_7_code 72 = .ok (.aload_n 0, 1) := by decide +kernel
theorem d_Model_sendFill_73 : decode prog_11_method_7_code 73 = .ok (.getfield 105, 3) := by decide +kernel
theorem d_Model_sendFill_76 : decode prog_11_method_7_code 76 = .ok (.sipush 180, 3) := by decide +kernel
theorem d_Model_sendFill_79 : decode prog_11_method_7_code 79 = .ok (.iload_n 2, 1) := by decide +kernel
theorem d_Model_sendFill_80 : decode prog_11_method_7_code 80 = .ok (.imul, 1) := by decide +kernel
theorem d_Model_sendFill_81 : decode prog_11_method_7_code 81 = .ok (.iload_n 3, 1) := by decide +kernel
theorem d_Model_sendFill_82 : decode prog_11_method_7_code 82 = .ok (.iadd, 1) := by decide +kernel
theorem d_Model_sendFill_83 : decode prog_11_method_7_code 83 = .ok (.aload_n 0, 1) := by decide +kernel
theorem d_Model_sendFill_84 : decode prog_11_method_7_code 84 = .ok (.getfield 59, 3) := by decide +kernel
theorem d_Model_sendFill_87 : decode prog_11_method_7_code 87 = .ok (.sipush 180, 3) := by decide +kernel
theorem d_Model_sendFill_90 : decode prog_11_method_7_code 90 = .ok (.iload_n 1, 1) := by decide +kernel
theorem d_Model_sendFill_91 : decode prog_11_method_7_code 91 = .ok (.imul, 1) := by decide +kernel
theorem d_Model_sendFill_92 : decode prog_11_method_7_code 92 = .ok (.iload_n 3, 1) := by decide +kernel
theorem d_Model_sendFill_93 : decode prog_11_method_7_code 93 = .ok (.iadd, 1) := by decide +kernel
theorem d_Model_sendFill_94 : decode prog_11_method_7_code 94 = .ok (.saload, 1) := by decide +kernel
theorem d_Model_sendFill_95 : decode prog_11_method_7_code 95 = .ok (.sastore, 1) := by decide +kernel
theorem d_Model_sendFill_96 : decode prog_11_method_7_code 96 = .ok (.iinc 3 1, 3) := by decide +kernel
theorem d_Model_sendFill_99 : decode prog_11_method_7_code 99 = .ok (.goto (-37), 3) := by decide +kernel
theorem d_Model_sendFill_102 : decode prog_11_method_7_code 102 = .ok (.return_, 1) := by decide +kernel
def S_Model_sendFill (s : S3) (x : Int32) : S3 := uA (u3 (u3 (u3 (u3 (S_Model_post s 3 (s 10 0 x.toNatClampNeg)) 30 0 (ppF (s 0 25 0) (s 27 0)).toNatClampNeg (s 8 0 x.toNatClampNeg)) 31 0 (ppF (s 0 25 0) (s 27 0)).toNatClampNeg (s 9 0 x.toNatClampNeg)) 32 0 (ppF (s 0 25 0) (s 27 0)).toNatClampNeg (s 10 0 x.toNatClampNeg)) 34 0 (ppF (s 0 25 0) (s 27 0)).toNatClampNeg (s 19 0 x.toNatClampNeg)) 36 0 (cpR (s 20 0) x (ppF (s 0 25 0) (s 27 0)) (s 19 0 x.toNatClampNeg).toNatClampNeg 0 (s 36 0))
set_option maxHeartbeats 4000000 in
set_option maxRecDepth 100000 in
theorem c_Model_sendFill {l : Launch} {D : va_G} {K : Nat → ClassId} {ad : Nat → Nat → Nat} {s : S3} {x : Int32}  (hJ : zw_J (rRL) ad) (hW : vp_in (s 0 25 0) 33) (hB : fB s) (hx : vp_in x 5) (hl : vp_in (s 19 0 x.toNatClampNeg) 181) : zM l y_Model_sendFill ws_Model_sendFill ({ frames := 1, cells := 0, slots := 0, locals := 23 }) D zCl (zTys K) (rRL) ad [.ref (ad 0 0), .int x] (rC K ad s) (none) (rC K ad (S_Model_sendFill s x)) := by
  refine zM.of (cc := prog_11_method_7_code) (maxL := 4) (ret := (Option.none : Option Jvm.ClassFile.FieldType)) (by decide) rfl (Nat.le_of_ble_eq_true rfl) ?_
  intro pP eE U mM bL mT cO S hr hlk hK
  have hts := S.2.2.2.2
  have ht := fun w h => hts w (List.mem_cons_of_mem _ h)
  refine z_aload_n S d_Model_sendFill_0 rfl 0 rfl 1 rfl ?_
  refine z_iconst S d_Model_sendFill_1 3 (by decide) 2 rfl ?_
  refine z_aload_n S d_Model_sendFill_2 rfl 0 rfl 3 rfl ?_
  refine z_get S hK hin_Model rm_0 rC_0 rfl 10 (Nat.le_of_ble_eq_true rfl) (ht _ w_550) (fun _ h => h) d_Model_sendFill_3 6 rfl (.ref (ad 10 0)) rfl ?_
  refine z_iload_n S d_Model_sendFill_6 rfl 1 rfl 7 rfl ?_
  refine z_iald S hK rm_10 0 rC_10 rfl (vp_mono hx (by omega)) d_Model_sendFill_7 8 rfl (s 10 0 x.toNatClampNeg) rfl ?_
  refine z_callV S hK (As := [.int 3, .int (s 10 0 x.toNatClampNeg)]) (rest := []) (c_Model_post (k := 3) (a := s 10 0 x.toNatClampNeg) hJ hW hB) (cw_Model_post hts w_678 rfl rfl ⟨(Nat.le_of_ble_eq_true rfl), (Nat.le_of_ble_eq_true rfl)⟩) rm_0 rC_0 rfl rfl rfl (Nat.le_of_ble_eq_true rfl) d_Model_sendFill_8 11 rfl [.int (ppF (s 0 25 0) (s 27 0))] rfl ?_
  refine z_istore_n S d_Model_sendFill_11 rfl (Nat.le_of_ble_eq_true rfl) [(2, .int (ppF (s 0 25 0) (s 27 0))), (0, .ref (ad 0 0)), (1, .int x)] rfl 12 rfl ?_
  refine z_aload_n S d_Model_sendFill_12 rfl 1 rfl 13 rfl ?_
  refine z_get S hK hin_Model rm_0 rC_0 rfl 30 (Nat.le_of_ble_eq_true rfl) (ht _ w_570) (fun _ h => h) d_Model_sendFill_13 16 rfl (.ref (ad 30 0)) rfl ?_
  refine z_iload_n S d_Model_sendFill_16 rfl 0 rfl 17 rfl ?_
  refine z_aload_n S d_Model_sendFill_17 rfl 1 rfl 18 rfl ?_
  refine z_get S hK hin_Model rm_0 rC_0 rfl 8 (Nat.le_of_ble_eq_true rfl) (ht _ w_548) (fun _ h => h) d_Model_sendFill_18 21 rfl (.ref (ad 8 0)) rfl ?_
  refine z_iload_n S d_Model_sendFill_21 rfl 2 rfl 22 rfl ?_
  refine z_iald S hK rm_8 0 rC_8 rfl (vp_mono hx (by omega)) d_Model_sendFill_22 23 rfl (s 8 0 x.toNatClampNeg) rfl ?_
  refine z_iast S hJ hK rm_30 0 rC_30 rfl (pp_in hB) rfl rupI_30 d_Model_sendFill_23 24 rfl ?_
  refine z_aload_n S d_Model_sendFill_24 rfl 1 rfl 25 rfl ?_
  refine z_get S hK hin_Model rm_0 rC_0 rfl 31 (Nat.le_of_ble_eq_true rfl) (ht _ w_571) (fun _ h => h) d_Model_sendFill_25 28 rfl (.ref (ad 31 0)) rfl ?_
  refine z_iload_n S d_Model_sendFill_28 rfl 0 rfl 29 rfl ?_
  refine z_aload_n S d_Model_sendFill_29 rfl 1 rfl 30 rfl ?_
  refine z_get S hK hin_Model rm_0 rC_0 rfl 9 (Nat.le_of_ble_eq_true rfl) (ht _ w_549) (fun _ h => h) d_Model_sendFill_30 33 rfl (.ref (ad 9 0)) rfl ?_
  refine z_iload_n S d_Model_sendFill_33 rfl 2 rfl 34 rfl ?_
  refine z_iald S hK rm_9 0 rC_9 rfl (vp_mono hx (by omega)) d_Model_sendFill_34 35 rfl (s 9 0 x.toNatClampNeg) rfl ?_
  refine z_iast S hJ hK rm_31 0 rC_31 rfl (pp_in hB) rfl rupI_31 d_Model_sendFill_35 36 rfl ?_
  refine z_aload_n S d_Model_sendFill_36 rfl 1 rfl 37 rfl ?_
  refine z_get S hK hin_Model rm_0 rC_0 rfl 32 (Nat.le_of_ble_eq_true rfl) (ht _ w_572) (fun _ h => h) d_Model_sendFill_37 40 rfl (.ref (ad 32 0)) rfl ?_
  refine z_iload_n S d_Model_sendFill_40 rfl 0 rfl 41 rfl ?_
  refine z_aload_n S d_Model_sendFill_41 rfl 1 rfl 42 rfl ?_
  refine z_get S hK hin_Model rm_0 rC_0 rfl 10 (Nat.le_of_ble_eq_true rfl) (ht _ w_550) (fun _ h => h) d_Model_sendFill_42 45 rfl (.ref (ad 10 0)) rfl ?_
  refine z_iload_n S d_Model_sendFill_45 rfl 2 rfl 46 rfl ?_
  refine z_iald S hK rm_10 0 rC_10 rfl (vp_mono hx (by omega)) d_Model_sendFill_46 47 rfl (s 10 0 x.toNatClampNeg) rfl ?_
  refine z_iast S hJ hK rm_32 0 rC_32 rfl (pp_in hB) rfl rupI_32 d_Model_sendFill_47 48 rfl ?_
  refine z_aload_n S d_Model_sendFill_48 rfl 1 rfl 49 rfl ?_
  refine z_get S hK hin_Model rm_0 rC_0 rfl 34 (Nat.le_of_ble_eq_true rfl) (ht _ w_574) (fun _ h => h) d_Model_sendFill_49 52 rfl (.ref (ad 34 0)) rfl ?_
  refine z_iload_n S d_Model_sendFill_52 rfl 0 rfl 53 rfl ?_
  refine z_aload_n S d_Model_sendFill_53 rfl 1 rfl 54 rfl ?_
  refine z_get S hK hin_Model rm_0 rC_0 rfl 19 (Nat.le_of_ble_eq_true rfl) (ht _ w_559) (fun _ h => h) d_Model_sendFill_54 57 rfl (.ref (ad 19 0)) rfl ?_
  refine z_iload_n S d_Model_sendFill_57 rfl 2 rfl 58 rfl ?_
  refine z_iald S hK rm_19 0 rC_19 rfl hx d_Model_sendFill_58 59 rfl (s 19 0 x.toNatClampNeg) rfl ?_
  refine z_iast S hJ hK rm_34 0 rC_34 rfl (pp_in hB) rfl rupI_34 d_Model_sendFill_59 60 rfl ?_
  refine z_iconst S d_Model_sendFill_60 0 (by decide) 61 rfl ?_
  refine z_istore_n S d_Model_sendFill_61 rfl (Nat.le_of_ble_eq_true rfl) [(3, .int 0), (2, .int (ppF (s 0 25 0) (s 27 0))), (0, .ref (ad 0 0)), (1, .int x)] rfl 62 rfl ?_
  have hlt := vp_lt hl
  have loop : ∀ (k j : Nat) (g : Nat → Int32), j + k = (s 19 0 x.toNatClampNeg).toNatClampNeg → cpR (s 20 0) x (ppF (s 0 25 0) (s 27 0)) k j g = cpR (s 20 0) x (ppF (s 0 25 0) (s 27 0)) (s 19 0 x.toNatClampNeg).toNatClampNeg 0 (s 36 0) → zG pP l eE (headSpec ws_Model_sendFill ({ frames := 1, cells := 0, slots := 0, locals := 23 })).room U mM ([.ref (ad 0 0), .int x] : List Value).toArray bL mT cO 4 (MQ bL (zQ D zCl (rRL) ad (none) (rC K ad (S_Model_sendFill s x))) ([.ref (ad 0 0), .int x] : List Value).toArray U 0 0 (zw_A (rRL) ad)) (zI D zCl (rRL) ad U.heap (rC K ad (uA (u3 (u3 (u3 (u3 (S_Model_post s 3 (s 10 0 x.toNatClampNeg)) 30 0 ((ppF (s 0 25 0) (s 27 0)).toNatClampNeg) (s 8 0 x.toNatClampNeg)) 31 0 ((ppF (s 0 25 0) (s 27 0)).toNatClampNeg) (s 9 0 x.toNatClampNeg)) 32 0 ((ppF (s 0 25 0) (s 27 0)).toNatClampNeg) (s 10 0 x.toNatClampNeg)) 34 0 ((ppF (s 0 25 0) (s 27 0)).toNatClampNeg) (s 19 0 x.toNatClampNeg)) 36 0 g))) 0 0 62 [(3, .int (nI j)), (2, .int (ppF (s 0 25 0) (s 27 0))), (0, .ref (ad 0 0)), (1, .int x)] [] := by
    intro k
    induction k with
    | zero =>
      intro j g hj hT
      refine z_iload_n S d_Model_sendFill_62 rfl 0 rfl 63 rfl ?_
      refine z_aload_n S d_Model_sendFill_63 rfl 2 rfl 64 rfl ?_
      refine z_get S hK hin_Model rm_0 rC_0 rfl 19 (Nat.le_of_ble_eq_true rfl) (ht _ w_559) (fun _ h => h) d_Model_sendFill_64 67 rfl (.ref (ad 19 0)) rfl ?_
      refine z_iload_n S d_Model_sendFill_67 rfl 3 rfl 68 rfl ?_
      refine z_iald S hK rm_19 0 rC_19 rfl hx d_Model_sendFill_68 69 rfl (s 19 0 x.toNatClampNeg) rfl ?_
      refine z_icmp_ge S d_Model_sendFill_69 102 (by decide) 72 rfl (fun h1 => ?_) (fun h1 => ?_)
      · exact z_vret S hr hlk d_Model_sendFill_102 (rC_eq (by rw [S_Model_sendFill, ← hT]; rfl))
      · exact absurd (by rw [vp_eq hl]; exact nI_le (by omega) (by omega)) h1
    | succ k ih =>
      intro j g hj hT
      refine z_iload_n S d_Model_sendFill_62 rfl 0 rfl 63 rfl ?_
      refine z_aload_n S d_Model_sendFill_63 rfl 2 rfl 64 rfl ?_
      refine z_get S hK hin_Model rm_0 rC_0 rfl 19 (Nat.le_of_ble_eq_true rfl) (ht _ w_559) (fun _ h => h) d_Model_sendFill_64 67 rfl (.ref (ad 19 0)) rfl ?_
      refine z_iload_n S d_Model_sendFill_67 rfl 3 rfl 68 rfl ?_
      refine z_iald S hK rm_19 0 rC_19 rfl hx d_Model_sendFill_68 69 rfl (s 19 0 x.toNatClampNeg) rfl ?_
      refine z_icmp_ge S d_Model_sendFill_69 102 (by decide) 72 rfl (fun h2 => ?_) (fun h2 => ?_)
      · exact absurd h2 (by rw [vp_eq hl]; exact nI_ge (by omega) (by omega))
      · refine z_aload_n S d_Model_sendFill_72 rfl 2 rfl 73 rfl ?_
        refine z_get S hK hin_Model rm_0 rC_0 rfl 36 (Nat.le_of_ble_eq_true rfl) (ht _ w_576) (fun _ h => h) d_Model_sendFill_73 76 rfl (.ref (ad 36 0)) rfl ?_
        refine z_sipush S d_Model_sendFill_76 180 (by decide) 79 rfl ?_
        refine z_iload_n S d_Model_sendFill_79 rfl 1 rfl 80 rfl ?_
        refine z_imul S d_Model_sendFill_80 81 rfl ?_
        refine z_iload_n S d_Model_sendFill_81 rfl 0 rfl 82 rfl ?_
        refine z_iadd S d_Model_sendFill_82 83 rfl ?_
        refine z_aload_n S d_Model_sendFill_83 rfl 2 rfl 84 rfl ?_
        refine z_get S hK hin_Model rm_0 rC_0 rfl 20 (Nat.le_of_ble_eq_true rfl) (ht _ w_560) (fun _ h => h) d_Model_sendFill_84 87 rfl (.ref (ad 20 0)) rfl ?_
        refine z_sipush S d_Model_sendFill_87 180 (by decide) 90 rfl ?_
        refine z_iload_n S d_Model_sendFill_90 rfl 3 rfl 91 rfl ?_
        refine z_imul S d_Model_sendFill_91 92 rfl ?_
        refine z_iload_n S d_Model_sendFill_92 rfl 0 rfl 93 rfl ?_
        refine z_iadd S d_Model_sendFill_93 94 rfl ?_
        refine z_sald S hK rm_20 2 rC_20 rfl (vp_180 (a := 5) hx (nI_in (by omega) (by omega)) (by omega)) d_Model_sendFill_94 95 rfl (s 20 0 (((180 * x) + (nI j)).toNatClampNeg)) rfl ?_
        refine z_sast S hJ hK rm_36 2 rC_36 rfl (vp_180 (a := 34) (pp_in hB) (nI_in (by omega) (by omega)) (by omega)) rfl rupI_36 d_Model_sendFill_95 96 rfl ?_
        refine z_iinc S d_Model_sendFill_96 0 rfl (nI_i1 _) (Nat.le_of_ble_eq_true rfl) [(3, .int (nI (j + 1))), (2, .int (ppF (s 0 25 0) (s 27 0))), (0, .ref (ad 0 0)), (1, .int x)] rfl 99 rfl ?_
        refine z_goto S d_Model_sendFill_99 62 (by decide) ?_
        refine z_to (rC_eq u3_uA) ?_
        exact ih (j + 1) _ (by omega) hT
  refine z_to (C2 := rC K ad (uA (u3 (u3 (u3 (u3 (S_Model_post s 3 (s 10 0 x.toNatClampNeg)) 30 0 ((ppF (s 0 25 0) (s 27 0)).toNatClampNeg) (s 8 0 x.toNatClampNeg)) 31 0 ((ppF (s 0 25 0) (s 27 0)).toNatClampNeg) (s 9 0 x.toNatClampNeg)) 32 0 ((ppF (s 0 25 0) (s 27 0)).toNatClampNeg) (s 10 0 x.toNatClampNeg)) 34 0 ((ppF (s 0 25 0) (s 27 0)).toNatClampNeg) (s 19 0 x.toNatClampNeg)) 36 0 (s 36 0))) (rC_eq (uA_id (u3 (u3 (u3 (u3 (S_Model_post s 3 (s 10 0 x.toNatClampNeg)) 30 0 ((ppF (s 0 25 0) (s 27 0)).toNatClampNeg) (s 8 0 x.toNatClampNeg)) 31 0 ((ppF (s 0 25 0) (s 27 0)).toNatClampNeg) (s 9 0 x.toNatClampNeg)) 32 0 ((ppF (s 0 25 0) (s 27 0)).toNatClampNeg) (s 10 0 x.toNatClampNeg)) 34 0 ((ppF (s 0 25 0) (s 27 0)).toNatClampNeg) (s 19 0 x.toNatClampNeg)) 36 0).symm) ?_
  exact loop _ 0 _ (by omega) rfl
theorem d_Model_enter_0 : decode prog_11_method_13_code 0 = .ok (.aload_n 0, 1) := by decide +kernel
theorem d_Model_enter_1 : decode prog_11_method_13_code 1 = .ok (.getfield 26, 3) := by decide +kernel
theorem d_Model_enter_4 : decode prog_11_method_13_code 4 = .ok (.iload_n 1, 1) := by decide +kernel
theorem d_Model_enter_5 : decode prog_11_method_13_code 5 = .ok (.iload_n 2, 1) := by decide +kernel
theorem d_Model_enter_6 : decode prog_11_method_13_code 6 = .ok (.iastore, 1) := by decide +kernel
theorem d_Model_enter_7 : decode prog_11_method_13_code 7 = .ok (.aload_n 0, 1) := by decide +kernel
theorem d_Model_enter_8 : decode prog_11_method_13_code 8 = .ok (.getfield 29, 3) := by decide +kernel
theorem d_Model_enter_11 : decode prog_11_method_13_code 11 = .ok (.iload_n 1, 1) := by decide +kernel
theorem d_Model_enter_12 : decode prog_11_method_13_code 12 = .ok (.iload_n 3, 1) := by decide +kernel
theorem d_Model_enter_13 : decode prog_11_method_13_code 13 = .ok (.iastore, 1) := by decide +kernel
theorem d_Model_enter_14 : decode prog_11_method_13_code 14 = .ok (.aload_n 0, 1) := by decide +kernel
theorem d_Model_enter_15 : decode prog_11_method_13_code 15 = .ok (.getfield 32, 3) := by decide +kernel
theorem d_Model_enter_18 : decode prog_11_method_13_code 18 = .ok (.iload_n 1, 1) := by decide +kernel
theorem d_Model_enter_19 : decode prog_11_method_13_code 19 = .ok (.iload 4, 2) := by decide +kernel
theorem d_Model_enter_21 : decode prog_11_method_13_code 21 = .ok (.iastore, 1) := by decide +kernel
theorem d_Model_enter_22 : decode prog_11_method_13_code 22 = .ok (.aload_n 0, 1) := by decide +kernel
theorem d_Model_enter_23 : decode prog_11_method_13_code 23 = .ok (.getfield 53, 3) := by decide +kernel
theorem d_Model_enter_26 : decode prog_11_method_13_code 26 = .ok (.iload_n 1, 1) := by decide +kernel
theorem d_Model_enter_27 : decode prog_11_method_13_code 27 = .ok (.iconst (-1), 1) := by decide +kernel
theorem d_Model_enter_28 : decode prog_11_method_13_code 28 = .ok (.iastore, 1) := by decide +kernel
theorem d_Model_enter_29 : decode prog_11_method_13_code 29 = .ok (.aload_n 0, 1) := by decide +kernel
theorem d_Model_enter_30 : decode prog_11_method_13_code 30 = .ok (.getfield 47, 3) := by decide +kernel
theorem d_Model_enter_33 : decode prog_11_method_13_code 33 = .ok (.iload_n 1, 1) := by decide +kernel
theorem d_Model_enter_34 : decode prog_11_method_13_code 34 = .ok (.iconst 0, 1) := by decide +kernel
theorem d_Model_enter_35 : decode prog_11_method_13_code 35 = .ok (.bastore, 1) := by decide +kernel
theorem d_Model_enter_36 : decode prog_11_method_13_code 36 = .ok (.iload_n 3, 1) := by decide +kernel
theorem d_Model_enter_37 : decode prog_11_method_13_code 37 = .ok (.iload_n 1, 1) := by decide +kernel
theorem d_Model_enter_38 : decode prog_11_method_13_code 38 = .ok (.if_icmp .ne 29, 3) := by decide +kernel
theorem d_Model_enter_41 : decode prog_11_method_13_code 41 = .ok (.aload_n 0, 1) := by decide +kernel
theorem d_Model_enter_42 : decode prog_11_method_13_code 42 = .ok (.getfield 44, 3) := by decide +kernel
theorem d_Model_enter_45 : decode prog_11_method_13_code 45 = .ok (.iload_n 1, 1) := by decide +kernel
theorem d_Model_enter_46 : decode prog_11_method_13_code 46 = .ok (.iload 4, 2) := by decide +kernel
theorem d_Model_enter_48 : decode prog_11_method_13_code 48 = .ok (.ifCond .ge 7, 3) := by decide +kernel
theorem d_Model_enter_51 : decode prog_11_method_13_code 51 = .ok (.iconst 1, 1) := by decide +kernel
theorem d_Model_enter_52 : decode prog_11_method_13_code 52 = .ok (.goto 4, 3) := by decide +kernel
theorem d_Model_enter_55 : decode prog_11_method_13_code 55 = .ok (.iconst 0, 1) := by decide +kernel
theorem d_Model_enter_56 : decode prog_11_method_13_code 56 = .ok (.bastore, 1) := by decide +kernel
theorem d_Model_enter_57 : decode prog_11_method_13_code 57 = .ok (.iload 4, 2) := by decide +kernel
theorem d_Model_enter_59 : decode prog_11_method_13_code 59 = .ok (.ifCond .lt 8, 3) := by decide +kernel
theorem d_Model_enter_62 : decode prog_11_method_13_code 62 = .ok (.aload_n 0, 1) := by decide +kernel
theorem d_Model_enter_63 : decode prog_11_method_13_code 63 = .ok (.iload_n 1, 1) := by decide +kernel
theorem d_Model_enter_64 : decode prog_11_method_13_code 64 = .ok (.invokevirtual 123, 3) := by decide +kernel
theorem d_Model_enter_67 : decode prog_11_method_13_code 67 = .ok (.return_, 1) := by decide +kernel
def S_Model_enter (s : S3) (x : Int32) (v : Int32) (p : Int32) (b : Int32) : S3 := if p = x then (if 0 ≤ b then (if b < 0 then (u3 (u3 (u3 (u3 (u3 (u3 s 8 0 x.toNatClampNeg v) 9 0 x.toNatClampNeg p) 10 0 x.toNatClampNeg b) 18 0 x.toNatClampNeg (-1)) 16 0 x.toNatClampNeg 0) 15 0 x.toNatClampNeg 0) else S_Model_sendFill (u3 (u3 (u3 (u3 (u3 (u3 s 8 0 x.toNatClampNeg v) 9 0 x.toNatClampNeg p) 10 0 x.toNatClampNeg b) 18 0 x.toNatClampNeg (-1)) 16 0 x.toNatClampNeg 0) 15 0 x.toNatClampNeg 0) x) else if b < 0 then (u3 (u3 (u3 (u3 (u3 (u3 s 8 0 x.toNatClampNeg v) 9 0 x.toNatClampNeg p) 10 0 x.toNatClampNeg b) 18 0 x.toNatClampNeg (-1)) 16 0 x.toNatClampNeg 0) 15 0 x.toNatClampNeg 1) else S_Model_sendFill (u3 (u3 (u3 (u3 (u3 (u3 s 8 0 x.toNatClampNeg v) 9 0 x.toNatClampNeg p) 10 0 x.toNatClampNeg b) 18 0 x.toNatClampNeg (-1)) 16 0 x.toNatClampNeg 0) 15 0 x.toNatClampNeg 1) x) else u3 (u3 (u3 (u3 (u3 s 8 0 x.toNatClampNeg v) 9 0 x.toNatClampNeg p) 10 0 x.toNatClampNeg b) 18 0 x.toNatClampNeg (-1)) 16 0 x.toNatClampNeg 0
set_option maxHeartbeats 4000000 in
set_option maxRecDepth 100000 in
theorem c_Model_enter {l : Launch} {D : va_G} {K : Nat → ClassId} {ad : Nat → Nat → Nat} {s : S3} {x v p b : Int32} (hJ : zw_J (rRL) ad) (hW : vp_in (s 0 25 0) 33) (hB : fB s) (hx : vp_in x 5) (hl : vp_in (s 19 0 x.toNatClampNeg) 181) : zM l y_Model_enter ws_Model_enter ({ frames := 2, cells := 0, slots := 0, locals := 46 }) D zCl (zTys K) (rRL) ad [.ref (ad 0 0), .int x, .int v, .int p, .int b] (rC K ad s) (none) (rC K ad (S_Model_enter s x v p b)) := by
  refine zM.of (cc := prog_11_method_13_code) (maxL := 5) (ret := (Option.none : Option Jvm.ClassFile.FieldType)) (by decide) rfl (Nat.le_of_ble_eq_true rfl) ?_
  intro pP eE U mM bL mT cO S hr hlk hK
  have hts := S.2.2.2.2
  have ht := fun w h => hts w (List.mem_cons_of_mem _ h)
  refine z_aload_n S d_Model_enter_0 rfl 0 rfl 1 rfl ?_
  refine z_get S hK hin_Model rm_0 rC_0 rfl 8 (Nat.le_of_ble_eq_true rfl) (ht _ w_548) (fun _ h => h) d_Model_enter_1 4 rfl (.ref (ad 8 0)) rfl ?_
  refine z_iload_n S d_Model_enter_4 rfl 1 rfl 5 rfl ?_
  refine z_iload_n S d_Model_enter_5 rfl 2 rfl 6 rfl ?_
  refine z_iast S hJ hK rm_8 0 rC_8 rfl (vp_mono hx (by omega)) rfl rupI_8 d_Model_enter_6 7 rfl ?_
  refine z_aload_n S d_Model_enter_7 rfl 0 rfl 8 rfl ?_
  refine z_get S hK hin_Model rm_0 rC_0 rfl 9 (Nat.le_of_ble_eq_true rfl) (ht _ w_549) (fun _ h => h) d_Model_enter_8 11 rfl (.ref (ad 9 0)) rfl ?_
  refine z_iload_n S d_Model_enter_11 rfl 1 rfl 12 rfl ?_
  refine z_iload_n S d_Model_enter_12 rfl 3 rfl 13 rfl ?_
  refine z_iast S hJ hK rm_9 0 rC_9 rfl (vp_mono hx (by omega)) rfl rupI_9 d_Model_enter_13 14 rfl ?_
  refine z_aload_n S d_Model_enter_14 rfl 0 rfl 15 rfl ?_
  refine z_get S hK hin_Model rm_0 rC_0 rfl 10 (Nat.le_of_ble_eq_true rfl) (ht _ w_550) (fun _ h => h) d_Model_enter_15 18 rfl (.ref (ad 10 0)) rfl ?_
  refine z_iload_n S d_Model_enter_18 rfl 1 rfl 19 rfl ?_
  refine z_iload S d_Model_enter_19 4 rfl 21 rfl ?_
  refine z_iast S hJ hK rm_10 0 rC_10 rfl (vp_mono hx (by omega)) rfl rupI_10 d_Model_enter_21 22 rfl ?_
  refine z_aload_n S d_Model_enter_22 rfl 0 rfl 23 rfl ?_
  refine z_get S hK hin_Model rm_0 rC_0 rfl 18 (Nat.le_of_ble_eq_true rfl) (ht _ w_558) (fun _ h => h) d_Model_enter_23 26 rfl (.ref (ad 18 0)) rfl ?_
  refine z_iload_n S d_Model_enter_26 rfl 1 rfl 27 rfl ?_
  refine z_iconst S d_Model_enter_27 (-1) (by decide) 28 rfl ?_
  refine z_iast S hJ hK rm_18 0 rC_18 rfl hx rfl rupI_18 d_Model_enter_28 29 rfl ?_
  refine z_aload_n S d_Model_enter_29 rfl 0 rfl 30 rfl ?_
  refine z_get S hK hin_Model rm_0 rC_0 rfl 16 (Nat.le_of_ble_eq_true rfl) (ht _ w_556) (fun _ h => h) d_Model_enter_30 33 rfl (.ref (ad 16 0)) rfl ?_
  refine z_iload_n S d_Model_enter_33 rfl 1 rfl 34 rfl ?_
  refine z_iconst S d_Model_enter_34 0 (by decide) 35 rfl ?_
  refine z_zast S hJ hK rm_16 1 rC_16 rfl hx (zb_v zb_0) rupI_16 d_Model_enter_35 36 rfl ?_
  refine z_iload_n S d_Model_enter_36 rfl 3 rfl 37 rfl ?_
  refine z_iload_n S d_Model_enter_37 rfl 1 rfl 38 rfl ?_
  refine z_icmp_ne S d_Model_enter_38 67 (by decide) 41 rfl (fun h1 => ?_) (fun h1 => ?_)
  · exact z_vret S hr hlk d_Model_enter_67 (rC_eq (by unfold S_Model_enter; simp only [if_neg h1]))
  · refine z_aload_n S d_Model_enter_41 rfl 0 rfl 42 rfl ?_
    refine z_get S hK hin_Model rm_0 rC_0 rfl 15 (Nat.le_of_ble_eq_true rfl) (ht _ w_555) (fun _ h => h) d_Model_enter_42 45 rfl (.ref (ad 15 0)) rfl ?_
    refine z_iload_n S d_Model_enter_45 rfl 1 rfl 46 rfl ?_
    refine z_iload S d_Model_enter_46 4 rfl 48 rfl ?_
    refine z_if_ge S d_Model_enter_48 55 (by decide) 51 rfl (fun h2 => ?_) (fun h2 => ?_)
    · refine z_iconst S d_Model_enter_55 0 (by decide) 56 rfl ?_
      refine z_zast S hJ hK rm_15 1 rC_15 rfl hx (zb_v zb_0) rupI_15 d_Model_enter_56 57 rfl ?_
      refine z_iload S d_Model_enter_57 4 rfl 59 rfl ?_
      refine z_if_lt S d_Model_enter_59 67 (by decide) 62 rfl (fun h3 => ?_) (fun h3 => ?_)
      · exact z_vret S hr hlk d_Model_enter_67 (rC_eq (by unfold S_Model_enter; simp only [if_pos h1, if_pos h2, if_pos h3]))
      · refine z_aload_n S d_Model_enter_62 rfl 0 rfl 63 rfl ?_
        refine z_iload_n S d_Model_enter_63 rfl 1 rfl 64 rfl ?_
        refine z_callV S hK (As := [.int x]) (rest := []) (c_Model_sendFill (x := x) hJ hW hB hx hl) (cw_Model_sendFill hts w_690 rfl rfl ⟨(Nat.le_of_ble_eq_true rfl), (Nat.le_of_ble_eq_true rfl)⟩) rm_0 rC_0 rfl rfl rfl (Nat.le_of_ble_eq_true rfl) d_Model_enter_64 67 rfl [] rfl ?_
        exact z_vret S hr hlk d_Model_enter_67 (rC_eq (by unfold S_Model_enter; simp only [if_pos h1, if_pos h2, if_neg h3]))
    · refine z_iconst S d_Model_enter_51 1 (by decide) 52 rfl ?_
      refine z_goto S d_Model_enter_52 56 (by decide) ?_
      refine z_zast S hJ hK rm_15 1 rC_15 rfl hx (zb_v zb_1) rupI_15 d_Model_enter_56 57 rfl ?_
      refine z_iload S d_Model_enter_57 4 rfl 59 rfl ?_
      refine z_if_lt S d_Model_enter_59 67 (by decide) 62 rfl (fun h4 => ?_) (fun h4 => ?_)
      · exact z_vret S hr hlk d_Model_enter_67 (rC_eq (by unfold S_Model_enter; simp only [if_pos h1, if_neg h2, if_pos h4]))
      · refine z_aload_n S d_Model_enter_62 rfl 0 rfl 63 rfl ?_
        refine z_iload_n S d_Model_enter_63 rfl 1 rfl 64 rfl ?_
        refine z_callV S hK (As := [.int x]) (rest := []) (c_Model_sendFill (x := x) hJ hW hB hx hl) (cw_Model_sendFill hts w_690 rfl rfl ⟨(Nat.le_of_ble_eq_true rfl), (Nat.le_of_ble_eq_true rfl)⟩) rm_0 rC_0 rfl rfl rfl (Nat.le_of_ble_eq_true rfl) d_Model_enter_64 67 rfl [] rfl ?_
        exact z_vret S hr hlk d_Model_enter_67 (rC_eq (by unfold S_Model_enter; simp only [if_pos h1, if_neg h2, if_neg h4]))
theorem in_srvR {m x : Int32} (hN : vp_in m 6) (h : v_Model_noServer m x = 0) : vp_in x 5 := by
  unfold v_Model_noServer at h
  by_cases h1 : x < 0
  · simp [h1] at h
  · obtain ⟨j, hj, rfl⟩ := nI_of h1
    obtain ⟨k, hk, hk2, rfl⟩ := vp_nI hN
    by_cases h2 : nI j < nI k
    · rw [nI_ltI hj hk2] at h2
      exact nI_in (by omega) (by omega)
    · simp [h1, h2] at h
theorem in_cliR {x : Int32} (h : v_Model_noClient x = 0) : vp_in x 3 := by
  unfold v_Model_noClient at h
  by_cases h1 : x < 0
  · simp [h1] at h
  · obtain ⟨j, hj, rfl⟩ := nI_of h1
    by_cases h2 : nI j ≤ 2
    · rw [show (2 : Int32) = nI 2 from rfl, nI_leI hj (by omega)] at h2
      exact nI_in (by omega) (by omega)
    · simp [h1, h2] at h
theorem d_Model_advance_0 : decode prog_11_method_16_code 0 = .ok (.iload_n 1, 1) := by decide +kernel
theorem d_Model_advance_1 : decode prog_11_method_16_code 1 = .ok (.ifCond .lt 10, 3) := by decide +kernel
theorem d_Model_advance_4 : decode prog_11_method_16_code 4 = .ok (.iload_n 1, 1) := by decide +kernel
theorem d_Model_advance_5 : decode prog_11_method_16_code 5 = .ok (.sipush 1000, 3) := by decide +kernel
theorem d_Model_advance_8 : decode prog_11_method_16_code 8 = .ok (.if_icmp .le 5, 3) := by decide +kernel
theorem d_Model_advance_11 : decode prog_11_method_16_code 11 = .ok (.iconst (-1), 1) := by decide +kernel
theorem d_Model_advance_12 : decode prog_11_method_16_code 12 = .ok (.ireturn, 1) := by decide +kernel
theorem d_Model_advance_13 : decode prog_11_method_16_code 13 = .ok (.aload_n 0, 1) := by decide +kernel
theorem d_Model_advance_14 : decode prog_11_method_16_code 14 = .ok (.dup, 1) := by decide +kernel
theorem d_Model_advance_15 : decode prog_11_method_16_code 15 = .ok (.getfield 127, 3) := by decide +kernel
theorem d_Model_advance_18 : decode prog_11_method_16_code 18 = .ok (.iload_n 1, 1) := by decide +kernel
theorem d_Model_advance_19 : decode prog_11_method_16_code 19 = .ok (.iadd, 1) := by decide +kernel
theorem d_Model_advance_20 : decode prog_11_method_16_code 20 = .ok (.putfield 127, 3) := by decide +kernel
theorem d_Model_advance_23 : decode prog_11_method_16_code 23 = .ok (.aload_n 0, 1) := by decide +kernel
theorem d_Model_advance_24 : decode prog_11_method_16_code 24 = .ok (.getfield 127, 3) := by decide +kernel
theorem d_Model_advance_27 : decode prog_11_method_16_code 27 = .ok (.ireturn, 1) := by decide +kernel
def S_Model_advance (s : S3) (d : Int32) : S3 := if d < 0 then s else if d ≤ 1000 then (u3 s 0 1 0 ((s 0 1 0) + d)) else s
def v_Model_advance (s : S3) (d : Int32) : Int32 := if d < 0 then (-1) else if d ≤ 1000 then ((s 0 1 0) + d) else (-1)
set_option maxHeartbeats 4000000 in
set_option maxRecDepth 100000 in
theorem c_Model_advance {l : Launch} {D : va_G} {K : Nat → ClassId} {ad : Nat → Nat → Nat} {s : S3} {d : Int32} (hJ : zw_J (rRL) ad) : zM l y_Model_advance ws_Model_advance ({ frames := 0, cells := 0, slots := 0, locals := 0 }) D zCl (zTys K) (rRL) ad [.ref (ad 0 0), .int d] (rC K ad s) (some (.int (v_Model_advance s d))) (rC K ad (S_Model_advance s d)) := by
  refine zM.of (cc := prog_11_method_16_code) (maxL := 2) (ret := (Option.some Jvm.ClassFile.FieldType.int)) (by decide) rfl (Nat.le_of_ble_eq_true rfl) ?_
  intro pP eE U mM bL mT cO S hr hlk hK
  have hts := S.2.2.2.2
  have ht := fun w h => hts w (List.mem_cons_of_mem _ h)
  refine z_iload_n S d_Model_advance_0 rfl 1 rfl 1 rfl ?_
  refine z_if_lt S d_Model_advance_1 11 (by decide) 4 rfl (fun h1 => ?_) (fun h1 => ?_)
  · refine z_iconst S d_Model_advance_11 (-1) (by decide) 12 rfl ?_
    exact z_iret S hr hlk d_Model_advance_12 (by unfold v_Model_advance; simp only [if_pos h1]) (rC_eq (by unfold S_Model_advance; simp only [if_pos h1]))
  · refine z_iload_n S d_Model_advance_4 rfl 1 rfl 5 rfl ?_
    refine z_sipush S d_Model_advance_5 1000 (by decide) 8 rfl ?_
    refine z_icmp_le S d_Model_advance_8 13 (by decide) 11 rfl (fun h2 => ?_) (fun h2 => ?_)
    · refine z_aload_n S d_Model_advance_13 rfl 0 rfl 14 rfl ?_
      refine z_dup S d_Model_advance_14 rfl 15 rfl ?_
      refine z_get S hK hin_Model rm_0 rC_0 rfl 1 (Nat.le_of_ble_eq_true rfl) (ht _ w_541) (fun _ h => h) d_Model_advance_15 18 rfl (.int (s 0 1 0)) rfl ?_
      refine z_iload_n S d_Model_advance_18 rfl 1 rfl 19 rfl ?_
      refine z_iadd S d_Model_advance_19 20 rfl ?_
      refine z_put S hJ hK hin_Model t_Model ok_Model nm_Model rm_0 rC_0 rfl 1 (Nat.le_of_ble_eq_true rfl) (ht _ w_541) (fun _ h => h) rfl rfl rfl (Nat.le_of_ble_eq_true rfl) rup_1 d_Model_advance_20 23 rfl ?_
      refine z_aload_n S d_Model_advance_23 rfl 0 rfl 24 rfl ?_
      refine z_get S hK hin_Model rm_0 rC_0 rfl 1 (Nat.le_of_ble_eq_true rfl) (ht _ w_541) (fun _ h => h) d_Model_advance_24 27 rfl (.int ((s 0 1 0) + d)) rfl ?_
      exact z_iret S hr hlk d_Model_advance_27 (by unfold v_Model_advance; simp only [if_neg h1, if_pos h2]) (rC_eq (by unfold S_Model_advance; simp only [if_neg h1, if_pos h2]))
    · refine z_iconst S d_Model_advance_11 (-1) (by decide) 12 rfl ?_
      exact z_iret S hr hlk d_Model_advance_12 (by unfold v_Model_advance; simp only [if_neg h1, if_neg h2]) (rC_eq (by unfold S_Model_advance; simp only [if_neg h1, if_neg h2]))
theorem d_Model_skew_0 : decode prog_11_method_17_code 0 = .ok (.aload_n 0, 1) := by decide +kernel
theorem d_Model_skew_1 : decode prog_11_method_17_code 1 = .ok (.iload_n 1, 1) := by decide +kernel
theorem d_Model_skew_2 : decode prog_11_method_17_code 2 = .ok (.invokevirtual 138, 3) := by decide +kernel
theorem d_Model_skew_5 : decode prog_11_method_17_code 5 = .ok (.ifCond .ne 15, 3) := by decide +kernel
theorem d_Model_skew_8 : decode prog_11_method_17_code 8 = .ok (.iload_n 2, 1) := by decide +kernel
theorem d_Model_skew_9 : decode prog_11_method_17_code 9 = .ok (.bipush (-10), 2) := by decide +kernel
theorem d_Model_skew_11 : decode prog_11_method_17_code 11 = .ok (.if_icmp .lt 9, 3) := by decide +kernel
theorem d_Model_skew_14 : decode prog_11_method_17_code 14 = .ok (.iload_n 2, 1) := by decide +kernel
theorem d_Model_skew_15 : decode prog_11_method_17_code 15 = .ok (.bipush 10, 2) := by decide +kernel
theorem d_Model_skew_17 : decode prog_11_method_17_code 17 = .ok (.if_icmp .le 5, 3) := by decide +kernel
theorem d_Model_skew_20 : decode prog_11_method_17_code 20 = .ok (.iconst 0, 1) := by decide +kernel
theorem d_Model_skew_21 : decode prog_11_method_17_code 21 = .ok (.ireturn, 1) := by decide +kernel
theorem d_Model_skew_22 : decode prog_11_method_17_code 22 = .ok (.aload_n 0, 1) := by decide +kernel
theorem d_Model_skew_23 : decode prog_11_method_17_code 23 = .ok (.getfield 38, 3) := by decide +kernel
theorem d_Model_skew_26 : decode prog_11_method_17_code 26 = .ok (.iload_n 1, 1) := by decide +kernel
theorem d_Model_skew_27 : decode prog_11_method_17_code 27 = .ok (.iload_n 2, 1) := by decide +kernel
theorem d_Model_skew_28 : decode prog_11_method_17_code 28 = .ok (.iastore, 1) := by decide +kernel
theorem d_Model_skew_29 : decode prog_11_method_17_code 29 = .ok (.iconst 1, 1) := by decide +kernel
theorem d_Model_skew_30 : decode prog_11_method_17_code 30 = .ok (.ireturn, 1) := by decide +kernel
def S_Model_skew (s : S3) (x : Int32) (o : Int32) : S3 := if (v_Model_noServer (s 0 0 0) x) = 0 then (if o < (-10) then s else if o ≤ 10 then (u3 s 13 0 x.toNatClampNeg o) else s) else s
def v_Model_skew (s : S3) (x : Int32) (o : Int32) : Int32 := if (v_Model_noServer (s 0 0 0) x) = 0 then (if o < (-10) then 0 else if o ≤ 10 then 1 else 0) else 0
theorem zbv_Model_skew {s : S3} {x : Int32} {o : Int32} : zb (v_Model_skew s x o) := by
  unfold v_Model_skew
  repeat' split
  all_goals first | with_reducible exact zb_0 | with_reducible exact zb_1 | with_reducible exact zbv_Model_noServer | with_reducible exact zbv_Model_noClient | with_reducible exact zbv_Model_leads | with_reducible exact zbv_Model_fresh
set_option maxHeartbeats 4000000 in
set_option maxRecDepth 100000 in
theorem c_Model_skew {l : Launch} {D : va_G} {K : Nat → ClassId} {ad : Nat → Nat → Nat} {s : S3} {x o : Int32} (hJ : zw_J (rRL) ad) (hN : vp_in (s 0 0 0) 6) : zM l y_Model_skew ws_Model_skew ({ frames := 1, cells := 0, slots := 0, locals := 21 }) D zCl (zTys K) (rRL) ad [.ref (ad 0 0), .int x, .int o] (rC K ad s) (some (.int (v_Model_skew s x o))) (rC K ad (S_Model_skew s x o)) := by
  refine zM.of (cc := prog_11_method_17_code) (maxL := 3) (ret := (Option.some Jvm.ClassFile.FieldType.boolean)) (by decide) rfl (Nat.le_of_ble_eq_true rfl) ?_
  intro pP eE U mM bL mT cO S hr hlk hK
  have hts := S.2.2.2.2
  have ht := fun w h => hts w (List.mem_cons_of_mem _ h)
  refine z_aload_n S d_Model_skew_0 rfl 0 rfl 1 rfl ?_
  refine z_iload_n S d_Model_skew_1 rfl 1 rfl 2 rfl ?_
  refine z_callV S hK (As := [.int x]) (rest := []) (c_Model_noServer (x := x) hJ) (cw_Model_noServer hts w_670 rfl rfl ⟨(Nat.le_of_ble_eq_true rfl), (Nat.le_of_ble_eq_true rfl)⟩) rm_0 rC_0 rfl rfl rfl (Nat.le_of_ble_eq_true rfl) d_Model_skew_2 5 rfl [.int (v_Model_noServer (s 0 0 0) x)] rfl ?_
  refine z_if_ne S d_Model_skew_5 20 (by decide) 8 rfl (fun h1 => ?_) (fun h1 => ?_)
  · refine z_iconst S d_Model_skew_20 0 (by decide) 21 rfl ?_
    exact z_zret S hr (zb_n zb_0) hlk d_Model_skew_21 (by unfold v_Model_skew; simp only [if_neg h1]) (rC_eq (by unfold S_Model_skew; simp only [if_neg h1]))
  · refine z_iload_n S d_Model_skew_8 rfl 2 rfl 9 rfl ?_
    refine z_bipush S d_Model_skew_9 (-10) (by decide) 11 rfl ?_
    refine z_icmp_lt S d_Model_skew_11 20 (by decide) 14 rfl (fun h2 => ?_) (fun h2 => ?_)
    · refine z_iconst S d_Model_skew_20 0 (by decide) 21 rfl ?_
      exact z_zret S hr (zb_n zb_0) hlk d_Model_skew_21 (by unfold v_Model_skew; simp only [if_pos h1, if_pos h2]) (rC_eq (by unfold S_Model_skew; simp only [if_pos h1, if_pos h2]))
    · refine z_iload_n S d_Model_skew_14 rfl 2 rfl 15 rfl ?_
      refine z_bipush S d_Model_skew_15 10 (by decide) 17 rfl ?_
      refine z_icmp_le S d_Model_skew_17 22 (by decide) 20 rfl (fun h3 => ?_) (fun h3 => ?_)
      · refine z_aload_n S d_Model_skew_22 rfl 0 rfl 23 rfl ?_
        refine z_get S hK hin_Model rm_0 rC_0 rfl 13 (Nat.le_of_ble_eq_true rfl) (ht _ w_553) (fun _ h => h) d_Model_skew_23 26 rfl (.ref (ad 13 0)) rfl ?_
        refine z_iload_n S d_Model_skew_26 rfl 1 rfl 27 rfl ?_
        refine z_iload_n S d_Model_skew_27 rfl 2 rfl 28 rfl ?_
        refine z_iast S hJ hK rm_13 0 rC_13 rfl (in_srvR hN h1) rfl rupI_13 d_Model_skew_28 29 rfl ?_
        refine z_iconst S d_Model_skew_29 1 (by decide) 30 rfl ?_
        exact z_zret S hr (zb_n zb_1) hlk d_Model_skew_30 (by unfold v_Model_skew; simp only [if_pos h1, if_neg h2, if_pos h3]) (rC_eq (by unfold S_Model_skew; simp only [if_pos h1, if_neg h2, if_pos h3]))
      · refine z_iconst S d_Model_skew_20 0 (by decide) 21 rfl ?_
        exact z_zret S hr (zb_n zb_0) hlk d_Model_skew_21 (by unfold v_Model_skew; simp only [if_pos h1, if_neg h2, if_neg h3]) (rC_eq (by unfold S_Model_skew; simp only [if_pos h1, if_neg h2, if_neg h3]))
theorem d_Model_crash_0 : decode prog_11_method_23_code 0 = .ok (.aload_n 0, 1) := by decide +kernel
theorem d_Model_crash_1 : decode prog_11_method_23_code 1 = .ok (.iload_n 1, 1) := by decide +kernel
theorem d_Model_crash_2 : decode prog_11_method_23_code 2 = .ok (.invokevirtual 138, 3) := by decide +kernel
theorem d_Model_crash_5 : decode prog_11_method_23_code 5 = .ok (.ifCond .ne 12, 3) := by decide +kernel
theorem d_Model_crash_8 : decode prog_11_method_23_code 8 = .ok (.aload_n 0, 1) := by decide +kernel
theorem d_Model_crash_9 : decode prog_11_method_23_code 9 = .ok (.getfield 50, 3) := by decide +kernel
theorem d_Model_crash_12 : decode prog_11_method_23_code 12 = .ok (.iload_n 1, 1) := by decide +kernel
theorem d_Model_crash_13 : decode prog_11_method_23_code 13 = .ok (.baload, 1) := by decide +kernel
theorem d_Model_crash_14 : decode prog_11_method_23_code 14 = .ok (.ifCond .eq 5, 3) := by decide +kernel
theorem d_Model_crash_17 : decode prog_11_method_23_code 17 = .ok (.iconst 0, 1) := by decide +kernel
theorem d_Model_crash_18 : decode prog_11_method_23_code 18 = .ok (.ireturn, 1) := by decide +kernel
theorem d_Model_crash_19 : decode prog_11_method_23_code 19 = .ok (.aload_n 0, 1) := by decide +kernel
theorem d_Model_crash_20 : decode prog_11_method_23_code 20 = .ok (.getfield 50, 3) := by decide +kernel
theorem d_Model_crash_23 : decode prog_11_method_23_code 23 = .ok (.iload_n 1, 1) := by decide +kernel
theorem d_Model_crash_24 : decode prog_11_method_23_code 24 = .ok (.iconst 1, 1) := by decide +kernel
theorem d_Model_crash_25 : decode prog_11_method_23_code 25 = .ok (.bastore, 1) := by decide +kernel
theorem d_Model_crash_26 : decode prog_11_method_23_code 26 = .ok (.iconst 1, 1) := by decide +kernel
theorem d_Model_crash_27 : decode prog_11_method_23_code 27 = .ok (.ireturn, 1) := by decide +kernel
def S_Model_crash (s : S3) (x : Int32) : S3 := if (v_Model_noServer (s 0 0 0) x) = 0 then (if (s 17 0 x.toNatClampNeg) = 0 then (u3 s 17 0 x.toNatClampNeg 1) else s) else s
def v_Model_crash (s : S3) (x : Int32) : Int32 := if (v_Model_noServer (s 0 0 0) x) = 0 then (if (s 17 0 x.toNatClampNeg) = 0 then 1 else 0) else 0
theorem zbv_Model_crash {s : S3} {x : Int32} : zb (v_Model_crash s x) := by
  unfold v_Model_crash
  repeat' split
  all_goals first | with_reducible exact zb_0 | with_reducible exact zb_1 | with_reducible exact zbv_Model_noServer | with_reducible exact zbv_Model_noClient | with_reducible exact zbv_Model_leads | with_reducible exact zbv_Model_fresh | with_reducible exact zbv_Model_skew
set_option maxHeartbeats 4000000 in
set_option maxRecDepth 100000 in
theorem c_Model_crash {l : Launch} {D : va_G} {K : Nat → ClassId} {ad : Nat → Nat → Nat} {s : S3} {x : Int32} (hJ : zw_J (rRL) ad) (hN : vp_in (s 0 0 0) 6) : zM l y_Model_crash ws_Model_crash ({ frames := 1, cells := 0, slots := 0, locals := 21 }) D zCl (zTys K) (rRL) ad [.ref (ad 0 0), .int x] (rC K ad s) (some (.int (v_Model_crash s x))) (rC K ad (S_Model_crash s x)) := by
  refine zM.of (cc := prog_11_method_23_code) (maxL := 2) (ret := (Option.some Jvm.ClassFile.FieldType.boolean)) (by decide) rfl (Nat.le_of_ble_eq_true rfl) ?_
  intro pP eE U mM bL mT cO S hr hlk hK
  have hts := S.2.2.2.2
  have ht := fun w h => hts w (List.mem_cons_of_mem _ h)
  refine z_aload_n S d_Model_crash_0 rfl 0 rfl 1 rfl ?_
  refine z_iload_n S d_Model_crash_1 rfl 1 rfl 2 rfl ?_
  refine z_callV S hK (As := [.int x]) (rest := []) (c_Model_noServer (x := x) hJ) (cw_Model_noServer hts w_670 rfl rfl ⟨(Nat.le_of_ble_eq_true rfl), (Nat.le_of_ble_eq_true rfl)⟩) rm_0 rC_0 rfl rfl rfl (Nat.le_of_ble_eq_true rfl) d_Model_crash_2 5 rfl [.int (v_Model_noServer (s 0 0 0) x)] rfl ?_
  refine z_if_ne S d_Model_crash_5 17 (by decide) 8 rfl (fun h1 => ?_) (fun h1 => ?_)
  · refine z_iconst S d_Model_crash_17 0 (by decide) 18 rfl ?_
    exact z_zret S hr (zb_n zb_0) hlk d_Model_crash_18 (by unfold v_Model_crash; simp only [if_neg h1]) (rC_eq (by unfold S_Model_crash; simp only [if_neg h1]))
  · refine z_aload_n S d_Model_crash_8 rfl 0 rfl 9 rfl ?_
    refine z_get S hK hin_Model rm_0 rC_0 rfl 17 (Nat.le_of_ble_eq_true rfl) (ht _ w_557) (fun _ h => h) d_Model_crash_9 12 rfl (.ref (ad 17 0)) rfl ?_
    refine z_iload_n S d_Model_crash_12 rfl 1 rfl 13 rfl ?_
    refine z_zald S hK rm_17 1 rC_17 rfl (in_srvR hN h1) d_Model_crash_13 14 rfl (s 17 0 x.toNatClampNeg) rfl ?_
    refine z_if_eq S d_Model_crash_14 19 (by decide) 17 rfl (fun h2 => ?_) (fun h2 => ?_)
    · refine z_aload_n S d_Model_crash_19 rfl 0 rfl 20 rfl ?_
      refine z_get S hK hin_Model rm_0 rC_0 rfl 17 (Nat.le_of_ble_eq_true rfl) (ht _ w_557) (fun _ h => h) d_Model_crash_20 23 rfl (.ref (ad 17 0)) rfl ?_
      refine z_iload_n S d_Model_crash_23 rfl 1 rfl 24 rfl ?_
      refine z_iconst S d_Model_crash_24 1 (by decide) 25 rfl ?_
      refine z_zast S hJ hK rm_17 1 rC_17 rfl (in_srvR hN h1) (zb_v zb_1) rupI_17 d_Model_crash_25 26 rfl ?_
      refine z_iconst S d_Model_crash_26 1 (by decide) 27 rfl ?_
      exact z_zret S hr (zb_n zb_1) hlk d_Model_crash_27 (by unfold v_Model_crash; simp only [if_pos h1, if_pos h2]) (rC_eq (by unfold S_Model_crash; simp only [if_pos h1, if_pos h2]))
    · refine z_iconst S d_Model_crash_17 0 (by decide) 18 rfl ?_
      exact z_zret S hr (zb_n zb_0) hlk d_Model_crash_18 (by unfold v_Model_crash; simp only [if_pos h1, if_neg h2]) (rC_eq (by unfold S_Model_crash; simp only [if_pos h1, if_neg h2]))
theorem d_Model_ping_0 : decode prog_11_method_18_code 0 = .ok (.aload_n 0, 1) := by decide +kernel
theorem d_Model_ping_1 : decode prog_11_method_18_code 1 = .ok (.iload_n 1, 1) := by decide +kernel
theorem d_Model_ping_2 : decode prog_11_method_18_code 2 = .ok (.invokevirtual 138, 3) := by decide +kernel
theorem d_Model_ping_5 : decode prog_11_method_18_code 5 = .ok (.ifCond .ne 12, 3) := by decide +kernel
theorem d_Model_ping_8 : decode prog_11_method_18_code 8 = .ok (.aload_n 0, 1) := by decide +kernel
theorem d_Model_ping_9 : decode prog_11_method_18_code 9 = .ok (.getfield 50, 3) := by decide +kernel
theorem d_Model_ping_12 : decode prog_11_method_18_code 12 = .ok (.iload_n 1, 1) := by decide +kernel
theorem d_Model_ping_13 : decode prog_11_method_18_code 13 = .ok (.baload, 1) := by decide +kernel
theorem d_Model_ping_14 : decode prog_11_method_18_code 14 = .ok (.ifCond .eq 5, 3) := by decide +kernel
theorem d_Model_ping_17 : decode prog_11_method_18_code 17 = .ok (.iconst 0, 1) := by decide +kernel
theorem d_Model_ping_18 : decode prog_11_method_18_code 18 = .ok (.ireturn, 1) := by decide +kernel
theorem d_Model_ping_19 : decode prog_11_method_18_code 19 = .ok (.aload_n 0, 1) := by decide +kernel
theorem d_Model_ping_20 : decode prog_11_method_18_code 20 = .ok (.iconst 1, 1) := by decide +kernel
theorem d_Model_ping_21 : decode prog_11_method_18_code 21 = .ok (.iload_n 1, 1) := by decide +kernel
theorem d_Model_ping_22 : decode prog_11_method_18_code 22 = .ok (.invokevirtual 115, 3) := by decide +kernel
theorem d_Model_ping_25 : decode prog_11_method_18_code 25 = .ok (.istore_n 2, 1) := by decide +kernel
theorem d_Model_ping_26 : decode prog_11_method_18_code 26 = .ok (.aload_n 0, 1) := by decide +kernel
theorem d_Model_ping_27 : decode prog_11_method_18_code 27 = .ok (.getfield 87, 3) := by decide +kernel
theorem d_Model_ping_30 : decode prog_11_method_18_code 30 = .ok (.iload_n 2, 1) := by decide +kernel
theorem d_Model_ping_31 : decode prog_11_method_18_code 31 = .ok (.aload_n 0, 1) := by decide +kernel
theorem d_Model_ping_32 : decode prog_11_method_18_code 32 = .ok (.iload_n 1, 1) := by decide +kernel
theorem d_Model_ping_33 : decode prog_11_method_18_code 33 = .ok (.invokevirtual 141, 3) := by decide +kernel
theorem d_Model_ping_36 : decode prog_11_method_18_code 36 = .ok (.ifCond .eq 16, 3) := by decide +kernel
theorem d_Model_ping_39 : decode prog_11_method_18_code 39 = .ok (.aload_n 0, 1) := by decide +kernel
theorem d_Model_ping_40 : decode prog_11_method_18_code 40 = .ok (.getfield 44, 3) := by decide +kernel
theorem d_Model_ping_43 : decode prog_11_method_18_code 43 = .ok (.iload_n 1, 1) := by decide +kernel
theorem d_Model_ping_44 : decode prog_11_method_18_code 44 = .ok (.baload, 1) := by decide +kernel
theorem d_Model_ping_45 : decode prog_11_method_18_code 45 = .ok (.ifCond .ne 7, 3) := by decide +kernel
theorem d_Model_ping_48 : decode prog_11_method_18_code 48 = .ok (.iconst 0, 1) := by decide +kernel
theorem d_Model_ping_49 : decode prog_11_method_18_code 49 = .ok (.goto 9, 3) := by decide +kernel
theorem d_Model_ping_52 : decode prog_11_method_18_code 52 = .ok (.aload_n 0, 1) := by decide +kernel
theorem d_Model_ping_53 : decode prog_11_method_18_code 53 = .ok (.getfield 26, 3) := by decide +kernel
theorem d_Model_ping_56 : decode prog_11_method_18_code 56 = .ok (.iload_n 1, 1) := by decide +kernel
theorem d_Model_ping_57 : decode prog_11_method_18_code 57 = .ok (.iaload, 1) := by decide +kernel
theorem d_Model_ping_58 : decode prog_11_method_18_code 58 = .ok (.iastore, 1) := by decide +kernel
theorem d_Model_ping_59 : decode prog_11_method_18_code 59 = .ok (.aload_n 0, 1) := by decide +kernel
theorem d_Model_ping_60 : decode prog_11_method_18_code 60 = .ok (.getfield 96, 3) := by decide +kernel
theorem d_Model_ping_63 : decode prog_11_method_18_code 63 = .ok (.iload_n 2, 1) := by decide +kernel
theorem d_Model_ping_64 : decode prog_11_method_18_code 64 = .ok (.aload_n 0, 1) := by decide +kernel
theorem d_Model_ping_65 : decode prog_11_method_18_code 65 = .ok (.getfield 127, 3) := by decide +kernel
theorem d_Model_ping_68 : decode prog_11_method_18_code 68 = .ok (.aload_n 0, 1) := by decide +kernel
theorem d_Model_ping_69 : decode prog_11_method_18_code 69 = .ok (.getfield 38, 3) := by decide +kernel
theorem d_Model_ping_72 : decode prog_11_method_18_code 72 = .ok (.iload_n 1, 1) := by decide +kernel
theorem d_Model_ping_73 : decode prog_11_method_18_code 73 = .ok (.iaload, 1) := by decide +kernel
theorem d_Model_ping_74 : decode prog_11_method_18_code 74 = .ok (.iadd, 1) := by decide +kernel
theorem d_Model_ping_75 : decode prog_11_method_18_code 75 = .ok (.iastore, 1) := by decide +kernel
theorem d_Model_ping_76 : decode prog_11_method_18_code 76 = .ok (.iconst 1, 1) := by decide +kernel
theorem d_Model_ping_77 : decode prog_11_method_18_code 77 = .ok (.ireturn, 1) := by decide +kernel
def S_Model_ping (s : S3) (x : Int32) : S3 := if (v_Model_noServer (s 0 0 0) x) = 0 then (if (s 17 0 x.toNatClampNeg) = 0 then (if (v_Model_leads (s 8 0 x.toNatClampNeg) (s 9 0 x.toNatClampNeg) x) = 0 then (u3 (u3 (S_Model_post s 1 x) 30 0 ((ppF (s 0 25 0) (s 27 0)).toNatClampNeg) (s 8 0 x.toNatClampNeg)) 33 0 ((ppF (s 0 25 0) (s 27 0)).toNatClampNeg) ((s 0 1 0) + (s 13 0 x.toNatClampNeg))) else if (s 15 0 x.toNatClampNeg) = 0 then (u3 (u3 (S_Model_post s 1 x) 30 0 ((ppF (s 0 25 0) (s 27 0)).toNatClampNeg) 0) 33 0 ((ppF (s 0 25 0) (s 27 0)).toNatClampNeg) ((s 0 1 0) + (s 13 0 x.toNatClampNeg))) else u3 (u3 (S_Model_post s 1 x) 30 0 ((ppF (s 0 25 0) (s 27 0)).toNatClampNeg) (s 8 0 x.toNatClampNeg)) 33 0 ((ppF (s 0 25 0) (s 27 0)).toNatClampNeg) ((s 0 1 0) + (s 13 0 x.toNatClampNeg))) else s) else s
def v_Model_ping (s : S3) (x : Int32) : Int32 := if (v_Model_noServer (s 0 0 0) x) = 0 then (if (s 17 0 x.toNatClampNeg) = 0 then (if (v_Model_leads (s 8 0 x.toNatClampNeg) (s 9 0 x.toNatClampNeg) x) = 0 then 1 else if (s 15 0 x.toNatClampNeg) = 0 then 1 else 1) else 0) else 0
theorem zbv_Model_ping {s : S3} {x : Int32} : zb (v_Model_ping s x) := by
  unfold v_Model_ping
  repeat' split
  all_goals first | with_reducible exact zb_0 | with_reducible exact zb_1 | with_reducible exact zbv_Model_noServer | with_reducible exact zbv_Model_noClient | with_reducible exact zbv_Model_leads | with_reducible exact zbv_Model_fresh | with_reducible exact zbv_Model_skew | with_reducible exact zbv_Model_crash
set_option maxHeartbeats 4000000 in
set_option maxRecDepth 100000 in
theorem c_Model_ping {l : Launch} {D : va_G} {K : Nat → ClassId} {ad : Nat → Nat → Nat} {s : S3} {x : Int32} (hJ : zw_J (rRL) ad) (hN : vp_in (s 0 0 0) 6) (hW : vp_in (s 0 25 0) 33) (hB : fB s) : zM l y_Model_ping ws_Model_ping ({ frames := 1, cells := 0, slots := 0, locals := 23 }) D zCl (zTys K) (rRL) ad [.ref (ad 0 0), .int x] (rC K ad s) (some (.int (v_Model_ping s x))) (rC K ad (S_Model_ping s x)) := by
  refine zM.of (cc := prog_11_method_18_code) (maxL := 3) (ret := (Option.some Jvm.ClassFile.FieldType.boolean)) (by decide) rfl (Nat.le_of_ble_eq_true rfl) ?_
  intro pP eE U mM bL mT cO S hr hlk hK
  have hts := S.2.2.2.2
  have ht := fun w h => hts w (List.mem_cons_of_mem _ h)
  refine z_aload_n S d_Model_ping_0 rfl 0 rfl 1 rfl ?_
  refine z_iload_n S d_Model_ping_1 rfl 1 rfl 2 rfl ?_
  refine z_callV S hK (As := [.int x]) (rest := []) (c_Model_noServer (x := x) hJ) (cw_Model_noServer hts w_670 rfl rfl ⟨(Nat.le_of_ble_eq_true rfl), (Nat.le_of_ble_eq_true rfl)⟩) rm_0 rC_0 rfl rfl rfl (Nat.le_of_ble_eq_true rfl) d_Model_ping_2 5 rfl [.int (v_Model_noServer (s 0 0 0) x)] rfl ?_
  refine z_if_ne S d_Model_ping_5 17 (by decide) 8 rfl (fun h1 => ?_) (fun h1 => ?_)
  · refine z_iconst S d_Model_ping_17 0 (by decide) 18 rfl ?_
    exact z_zret S hr (zb_n zb_0) hlk d_Model_ping_18 (by unfold v_Model_ping; simp only [if_neg h1]) (rC_eq (by unfold S_Model_ping; simp only [if_neg h1]))
  · refine z_aload_n S d_Model_ping_8 rfl 0 rfl 9 rfl ?_
    refine z_get S hK hin_Model rm_0 rC_0 rfl 17 (Nat.le_of_ble_eq_true rfl) (ht _ w_557) (fun _ h => h) d_Model_ping_9 12 rfl (.ref (ad 17 0)) rfl ?_
    refine z_iload_n S d_Model_ping_12 rfl 1 rfl 13 rfl ?_
    refine z_zald S hK rm_17 1 rC_17 rfl (in_srvR hN h1) d_Model_ping_13 14 rfl (s 17 0 x.toNatClampNeg) rfl ?_
    refine z_if_eq S d_Model_ping_14 19 (by decide) 17 rfl (fun h2 => ?_) (fun h2 => ?_)
    · refine z_aload_n S d_Model_ping_19 rfl 0 rfl 20 rfl ?_
      refine z_iconst S d_Model_ping_20 1 (by decide) 21 rfl ?_
      refine z_iload_n S d_Model_ping_21 rfl 1 rfl 22 rfl ?_
      refine z_callV S hK (As := [.int 1, .int x]) (rest := []) (c_Model_post (k := 1) (a := x) hJ hW hB) (cw_Model_post hts w_678 rfl rfl ⟨(Nat.le_of_ble_eq_true rfl), (Nat.le_of_ble_eq_true rfl)⟩) rm_0 rC_0 rfl rfl rfl (Nat.le_of_ble_eq_true rfl) d_Model_ping_22 25 rfl [.int (ppF (s 0 25 0) (s 27 0))] rfl ?_
      refine z_istore_n S d_Model_ping_25 rfl (Nat.le_of_ble_eq_true rfl) [(2, .int (ppF (s 0 25 0) (s 27 0))), (0, .ref (ad 0 0)), (1, .int x)] rfl 26 rfl ?_
      refine z_aload_n S d_Model_ping_26 rfl 1 rfl 27 rfl ?_
      refine z_get S hK hin_Model rm_0 rC_0 rfl 30 (Nat.le_of_ble_eq_true rfl) (ht _ w_570) (fun _ h => h) d_Model_ping_27 30 rfl (.ref (ad 30 0)) rfl ?_
      refine z_iload_n S d_Model_ping_30 rfl 0 rfl 31 rfl ?_
      refine z_aload_n S d_Model_ping_31 rfl 1 rfl 32 rfl ?_
      refine z_iload_n S d_Model_ping_32 rfl 2 rfl 33 rfl ?_
      refine z_callV S hK (As := [.int x]) (rest := [.int (ppF (s 0 25 0) (s 27 0)), .ref (ad 30 0)]) (c_Model_leads (x := x) hJ (in_srvR hN h1)) (cw_Model_leads hts w_682 rfl rfl ⟨(Nat.le_of_ble_eq_true rfl), (Nat.le_of_ble_eq_true rfl)⟩) rm_0 rC_0 rfl rfl rfl (Nat.le_of_ble_eq_true rfl) d_Model_ping_33 36 rfl [.int (v_Model_leads (s 8 0 x.toNatClampNeg) (s 9 0 x.toNatClampNeg) x), .int (ppF (s 0 25 0) (s 27 0)), .ref (ad 30 0)] rfl ?_
      refine z_if_eq S d_Model_ping_36 52 (by decide) 39 rfl (fun h3 => ?_) (fun h3 => ?_)
      · refine z_aload_n S d_Model_ping_52 rfl 1 rfl 53 rfl ?_
        refine z_get S hK hin_Model rm_0 rC_0 rfl 8 (Nat.le_of_ble_eq_true rfl) (ht _ w_548) (fun _ h => h) d_Model_ping_53 56 rfl (.ref (ad 8 0)) rfl ?_
        refine z_iload_n S d_Model_ping_56 rfl 2 rfl 57 rfl ?_
        refine z_iald S hK rm_8 0 rC_8 rfl (vp_mono (in_srvR hN h1) (by omega)) d_Model_ping_57 58 rfl (s 8 0 x.toNatClampNeg) rfl ?_
        refine z_iast S hJ hK rm_30 0 rC_30 rfl (pp_in hB) rfl rupI_30 d_Model_ping_58 59 rfl ?_
        refine z_aload_n S d_Model_ping_59 rfl 1 rfl 60 rfl ?_
        refine z_get S hK hin_Model rm_0 rC_0 rfl 33 (Nat.le_of_ble_eq_true rfl) (ht _ w_573) (fun _ h => h) d_Model_ping_60 63 rfl (.ref (ad 33 0)) rfl ?_
        refine z_iload_n S d_Model_ping_63 rfl 0 rfl 64 rfl ?_
        refine z_aload_n S d_Model_ping_64 rfl 1 rfl 65 rfl ?_
        refine z_get S hK hin_Model rm_0 rC_0 rfl 1 (Nat.le_of_ble_eq_true rfl) (ht _ w_541) (fun _ h => h) d_Model_ping_65 68 rfl (.int (s 0 1 0)) rfl ?_
        refine z_aload_n S d_Model_ping_68 rfl 1 rfl 69 rfl ?_
        refine z_get S hK hin_Model rm_0 rC_0 rfl 13 (Nat.le_of_ble_eq_true rfl) (ht _ w_553) (fun _ h => h) d_Model_ping_69 72 rfl (.ref (ad 13 0)) rfl ?_
        refine z_iload_n S d_Model_ping_72 rfl 2 rfl 73 rfl ?_
        refine z_iald S hK rm_13 0 rC_13 rfl (in_srvR hN h1) d_Model_ping_73 74 rfl (s 13 0 x.toNatClampNeg) rfl ?_
        refine z_iadd S d_Model_ping_74 75 rfl ?_
        refine z_iast S hJ hK rm_33 0 rC_33 rfl (pp_in hB) rfl rupI_33 d_Model_ping_75 76 rfl ?_
        refine z_iconst S d_Model_ping_76 1 (by decide) 77 rfl ?_
        exact z_zret S hr (zb_n zb_1) hlk d_Model_ping_77 (by unfold v_Model_ping; simp only [if_pos h1, if_pos h2, if_pos h3]) (rC_eq (by unfold S_Model_ping; simp only [if_pos h1, if_pos h2, if_pos h3]))
      · refine z_aload_n S d_Model_ping_39 rfl 1 rfl 40 rfl ?_
        refine z_get S hK hin_Model rm_0 rC_0 rfl 15 (Nat.le_of_ble_eq_true rfl) (ht _ w_555) (fun _ h => h) d_Model_ping_40 43 rfl (.ref (ad 15 0)) rfl ?_
        refine z_iload_n S d_Model_ping_43 rfl 2 rfl 44 rfl ?_
        refine z_zald S hK rm_15 1 rC_15 rfl (in_srvR hN h1) d_Model_ping_44 45 rfl (s 15 0 x.toNatClampNeg) rfl ?_
        refine z_if_ne S d_Model_ping_45 52 (by decide) 48 rfl (fun h4 => ?_) (fun h4 => ?_)
        · refine z_aload_n S d_Model_ping_52 rfl 1 rfl 53 rfl ?_
          refine z_get S hK hin_Model rm_0 rC_0 rfl 8 (Nat.le_of_ble_eq_true rfl) (ht _ w_548) (fun _ h => h) d_Model_ping_53 56 rfl (.ref (ad 8 0)) rfl ?_
          refine z_iload_n S d_Model_ping_56 rfl 2 rfl 57 rfl ?_
          refine z_iald S hK rm_8 0 rC_8 rfl (vp_mono (in_srvR hN h1) (by omega)) d_Model_ping_57 58 rfl (s 8 0 x.toNatClampNeg) rfl ?_
          refine z_iast S hJ hK rm_30 0 rC_30 rfl (pp_in hB) rfl rupI_30 d_Model_ping_58 59 rfl ?_
          refine z_aload_n S d_Model_ping_59 rfl 1 rfl 60 rfl ?_
          refine z_get S hK hin_Model rm_0 rC_0 rfl 33 (Nat.le_of_ble_eq_true rfl) (ht _ w_573) (fun _ h => h) d_Model_ping_60 63 rfl (.ref (ad 33 0)) rfl ?_
          refine z_iload_n S d_Model_ping_63 rfl 0 rfl 64 rfl ?_
          refine z_aload_n S d_Model_ping_64 rfl 1 rfl 65 rfl ?_
          refine z_get S hK hin_Model rm_0 rC_0 rfl 1 (Nat.le_of_ble_eq_true rfl) (ht _ w_541) (fun _ h => h) d_Model_ping_65 68 rfl (.int (s 0 1 0)) rfl ?_
          refine z_aload_n S d_Model_ping_68 rfl 1 rfl 69 rfl ?_
          refine z_get S hK hin_Model rm_0 rC_0 rfl 13 (Nat.le_of_ble_eq_true rfl) (ht _ w_553) (fun _ h => h) d_Model_ping_69 72 rfl (.ref (ad 13 0)) rfl ?_
          refine z_iload_n S d_Model_ping_72 rfl 2 rfl 73 rfl ?_
          refine z_iald S hK rm_13 0 rC_13 rfl (in_srvR hN h1) d_Model_ping_73 74 rfl (s 13 0 x.toNatClampNeg) rfl ?_
          refine z_iadd S d_Model_ping_74 75 rfl ?_
          refine z_iast S hJ hK rm_33 0 rC_33 rfl (pp_in hB) rfl rupI_33 d_Model_ping_75 76 rfl ?_
          refine z_iconst S d_Model_ping_76 1 (by decide) 77 rfl ?_
          exact z_zret S hr (zb_n zb_1) hlk d_Model_ping_77 (by unfold v_Model_ping; simp only [if_pos h1, if_pos h2, if_neg h3, if_neg h4]) (rC_eq (by unfold S_Model_ping; simp only [if_pos h1, if_pos h2, if_neg h3, if_neg h4]))
        · refine z_iconst S d_Model_ping_48 0 (by decide) 49 rfl ?_
          refine z_goto S d_Model_ping_49 58 (by decide) ?_
          refine z_iast S hJ hK rm_30 0 rC_30 rfl (pp_in hB) rfl rupI_30 d_Model_ping_58 59 rfl ?_
          refine z_aload_n S d_Model_ping_59 rfl 1 rfl 60 rfl ?_
          refine z_get S hK hin_Model rm_0 rC_0 rfl 33 (Nat.le_of_ble_eq_true rfl) (ht _ w_573) (fun _ h => h) d_Model_ping_60 63 rfl (.ref (ad 33 0)) rfl ?_
          refine z_iload_n S d_Model_ping_63 rfl 0 rfl 64 rfl ?_
          refine z_aload_n S d_Model_ping_64 rfl 1 rfl 65 rfl ?_
          refine z_get S hK hin_Model rm_0 rC_0 rfl 1 (Nat.le_of_ble_eq_true rfl) (ht _ w_541) (fun _ h => h) d_Model_ping_65 68 rfl (.int (s 0 1 0)) rfl ?_
          refine z_aload_n S d_Model_ping_68 rfl 1 rfl 69 rfl ?_
          refine z_get S hK hin_Model rm_0 rC_0 rfl 13 (Nat.le_of_ble_eq_true rfl) (ht _ w_553) (fun _ h => h) d_Model_ping_69 72 rfl (.ref (ad 13 0)) rfl ?_
          refine z_iload_n S d_Model_ping_72 rfl 2 rfl 73 rfl ?_
          refine z_iald S hK rm_13 0 rC_13 rfl (in_srvR hN h1) d_Model_ping_73 74 rfl (s 13 0 x.toNatClampNeg) rfl ?_
          refine z_iadd S d_Model_ping_74 75 rfl ?_
          refine z_iast S hJ hK rm_33 0 rC_33 rfl (pp_in hB) rfl rupI_33 d_Model_ping_75 76 rfl ?_
          refine z_iconst S d_Model_ping_76 1 (by decide) 77 rfl ?_
          exact z_zret S hr (zb_n zb_1) hlk d_Model_ping_77 (by unfold v_Model_ping; simp only [if_pos h1, if_pos h2, if_neg h3, if_pos h4]) (rC_eq (by unfold S_Model_ping; simp only [if_pos h1, if_pos h2, if_neg h3, if_pos h4]))
    · refine z_iconst S d_Model_ping_17 0 (by decide) 18 rfl ?_
      exact z_zret S hr (zb_n zb_0) hlk d_Model_ping_18 (by unfold v_Model_ping; simp only [if_pos h1, if_neg h2]) (rC_eq (by unfold S_Model_ping; simp only [if_pos h1, if_neg h2]))
theorem d_Model_letters_0 : decode prog_11_method_33_code 0 = .ok (.aload_n 0, 1) := by decide +kernel
theorem d_Model_letters_1 : decode prog_11_method_33_code 1 = .ok (.getfield 112, 3) := by decide +kernel
theorem d_Model_letters_4 : decode prog_11_method_33_code 4 = .ok (.ireturn, 1) := by decide +kernel
set_option maxHeartbeats 4000000 in
set_option maxRecDepth 100000 in
theorem c_Model_letters {l : Launch} {D : va_G} {K : Nat → ClassId} {ad : Nat → Nat → Nat} {s : S3} (hJ : zw_J (rRL) ad) : zM l y_Model_letters ws_Model_letters ({ frames := 0, cells := 0, slots := 0, locals := 0 }) D zCl (zTys K) (rRL) ad [.ref (ad 0 0)] (rC K ad s) (some (.int (s 0 25 0))) (rC K ad s) := by
  refine zM.of (cc := prog_11_method_33_code) (maxL := 1) (ret := (Option.some Jvm.ClassFile.FieldType.int)) (by decide) rfl (Nat.le_of_ble_eq_true rfl) ?_
  intro pP eE U mM bL mT cO S hr hlk hK
  have hts := S.2.2.2.2
  have ht := fun w h => hts w (List.mem_cons_of_mem _ h)
  refine z_aload_n S d_Model_letters_0 rfl 0 rfl 1 rfl ?_
  refine z_get S hK hin_Model rm_0 rC_0 rfl 25 (Nat.le_of_ble_eq_true rfl) (ht _ w_565) (fun _ h => h) d_Model_letters_1 4 rfl (.int (s 0 25 0)) rfl ?_
  exact z_iret S hr hlk d_Model_letters_4 rfl rfl
theorem d_Model_count_0 : decode prog_11_method_38_code 0 = .ok (.aload_n 0, 1) := by decide +kernel
theorem d_Model_count_1 : decode prog_11_method_38_code 1 = .ok (.iload_n 1, 1) := by decide +kernel
theorem d_Model_count_2 : decode prog_11_method_38_code 2 = .ok (.invokevirtual 138, 3) := by decide +kernel
theorem d_Model_count_5 : decode prog_11_method_38_code 5 = .ok (.ifCond .eq 7, 3) := by decide +kernel
theorem d_Model_count_8 : decode prog_11_method_38_code 8 = .ok (.iconst (-1), 1) := by decide +kernel
theorem d_Model_count_9 : decode prog_11_method_38_code 9 = .ok (.goto 9, 3) := by decide +kernel
theorem d_Model_count_12 : decode prog_11_method_38_code 12 = .ok (.aload_n 0, 1) := by decide +kernel
theorem d_Model_count_13 : decode prog_11_method_38_code 13 = .ok (.getfield 56, 3) := by decide +kernel
theorem d_Model_count_16 : decode prog_11_method_38_code 16 = .ok (.iload_n 1, 1) := by decide +kernel
theorem d_Model_count_17 : decode prog_11_method_38_code 17 = .ok (.iaload, 1) := by decide +kernel
theorem d_Model_count_18 : decode prog_11_method_38_code 18 = .ok (.ireturn, 1) := by decide +kernel
def v_Model_count (x0 : Int32) (x1 : Int32) (x : Int32) : Int32 := if (v_Model_noServer (x0) x) = 0 then (x1) else (-1)
set_option maxHeartbeats 4000000 in
set_option maxRecDepth 100000 in
theorem c_Model_count {l : Launch} {D : va_G} {K : Nat → ClassId} {ad : Nat → Nat → Nat} {s : S3} {x : Int32} (hJ : zw_J (rRL) ad) (hN : vp_in (s 0 0 0) 6) : zM l y_Model_count ws_Model_count ({ frames := 1, cells := 0, slots := 0, locals := 21 }) D zCl (zTys K) (rRL) ad [.ref (ad 0 0), .int x] (rC K ad s) (some (.int (v_Model_count (s 0 0 0) (s 19 0 x.toNatClampNeg) x))) (rC K ad s) := by
  refine zM.of (cc := prog_11_method_38_code) (maxL := 2) (ret := (Option.some Jvm.ClassFile.FieldType.int)) (by decide) rfl (Nat.le_of_ble_eq_true rfl) ?_
  intro pP eE U mM bL mT cO S hr hlk hK
  have hts := S.2.2.2.2
  have ht := fun w h => hts w (List.mem_cons_of_mem _ h)
  refine z_aload_n S d_Model_count_0 rfl 0 rfl 1 rfl ?_
  refine z_iload_n S d_Model_count_1 rfl 1 rfl 2 rfl ?_
  refine z_callV S hK (As := [.int x]) (rest := []) (c_Model_noServer (x := x) hJ) (cw_Model_noServer hts w_670 rfl rfl ⟨(Nat.le_of_ble_eq_true rfl), (Nat.le_of_ble_eq_true rfl)⟩) rm_0 rC_0 rfl rfl rfl (Nat.le_of_ble_eq_true rfl) d_Model_count_2 5 rfl [.int (v_Model_noServer (s 0 0 0) x)] rfl ?_
  refine z_if_eq S d_Model_count_5 12 (by decide) 8 rfl (fun h1 => ?_) (fun h1 => ?_)
  · refine z_aload_n S d_Model_count_12 rfl 0 rfl 13 rfl ?_
    refine z_get S hK hin_Model rm_0 rC_0 rfl 19 (Nat.le_of_ble_eq_true rfl) (ht _ w_559) (fun _ h => h) d_Model_count_13 16 rfl (.ref (ad 19 0)) rfl ?_
    refine z_iload_n S d_Model_count_16 rfl 1 rfl 17 rfl ?_
    refine z_iald S hK rm_19 0 rC_19 rfl (in_srvR hN h1) d_Model_count_17 18 rfl (s 19 0 x.toNatClampNeg) rfl ?_
    exact z_iret S hr hlk d_Model_count_18 (by unfold v_Model_count; simp only [if_pos h1]) rfl
  · refine z_iconst S d_Model_count_8 (-1) (by decide) 9 rfl ?_
    refine z_goto S d_Model_count_9 18 (by decide) ?_
    exact z_iret S hr hlk d_Model_count_18 (by unfold v_Model_count; simp only [if_neg h1]) rfl
theorem d_Model_finished_0 : decode prog_11_method_39_code 0 = .ok (.aload_n 0, 1) := by decide +kernel
theorem d_Model_finished_1 : decode prog_11_method_39_code 1 = .ok (.iload_n 1, 1) := by decide +kernel
theorem d_Model_finished_2 : decode prog_11_method_39_code 2 = .ok (.invokevirtual 147, 3) := by decide +kernel
theorem d_Model_finished_5 : decode prog_11_method_39_code 5 = .ok (.ifCond .eq 7, 3) := by decide +kernel
theorem d_Model_finished_8 : decode prog_11_method_39_code 8 = .ok (.iconst (-1), 1) := by decide +kernel
theorem d_Model_finished_9 : decode prog_11_method_39_code 9 = .ok (.goto 9, 3) := by decide +kernel
theorem d_Model_finished_12 : decode prog_11_method_39_code 12 = .ok (.aload_n 0, 1) := by decide +kernel
theorem d_Model_finished_13 : decode prog_11_method_39_code 13 = .ok (.getfield 69, 3) := by decide +kernel
theorem d_Model_finished_16 : decode prog_11_method_39_code 16 = .ok (.iload_n 1, 1) := by decide +kernel
theorem d_Model_finished_17 : decode prog_11_method_39_code 17 = .ok (.iaload, 1) := by decide +kernel
theorem d_Model_finished_18 : decode prog_11_method_39_code 18 = .ok (.ireturn, 1) := by decide +kernel
def v_Model_finished (x0 : Int32) (x : Int32) : Int32 := if (v_Model_noClient x) = 0 then (x0) else (-1)
set_option maxHeartbeats 4000000 in
set_option maxRecDepth 100000 in
theorem c_Model_finished {l : Launch} {D : va_G} {K : Nat → ClassId} {ad : Nat → Nat → Nat} {s : S3} {x : Int32} (hJ : zw_J (rRL) ad) : zM l y_Model_finished ws_Model_finished ({ frames := 1, cells := 0, slots := 0, locals := 21 }) D zCl (zTys K) (rRL) ad [.ref (ad 0 0), .int x] (rC K ad s) (some (.int (v_Model_finished (s 23 0 x.toNatClampNeg) x))) (rC K ad s) := by
  refine zM.of (cc := prog_11_method_39_code) (maxL := 2) (ret := (Option.some Jvm.ClassFile.FieldType.int)) (by decide) rfl (Nat.le_of_ble_eq_true rfl) ?_
  intro pP eE U mM bL mT cO S hr hlk hK
  have hts := S.2.2.2.2
  have ht := fun w h => hts w (List.mem_cons_of_mem _ h)
  refine z_aload_n S d_Model_finished_0 rfl 0 rfl 1 rfl ?_
  refine z_iload_n S d_Model_finished_1 rfl 1 rfl 2 rfl ?_
  refine z_callV S hK (As := [.int x]) (rest := []) (c_Model_noClient (x := x) hJ) (cw_Model_noClient hts w_702 rfl rfl ⟨(Nat.le_of_ble_eq_true rfl), (Nat.le_of_ble_eq_true rfl)⟩) rm_0 rC_0 rfl rfl rfl (Nat.le_of_ble_eq_true rfl) d_Model_finished_2 5 rfl [.int (v_Model_noClient x)] rfl ?_
  refine z_if_eq S d_Model_finished_5 12 (by decide) 8 rfl (fun h1 => ?_) (fun h1 => ?_)
  · refine z_aload_n S d_Model_finished_12 rfl 0 rfl 13 rfl ?_
    refine z_get S hK hin_Model rm_0 rC_0 rfl 23 (Nat.le_of_ble_eq_true rfl) (ht _ w_563) (fun _ h => h) d_Model_finished_13 16 rfl (.ref (ad 23 0)) rfl ?_
    refine z_iload_n S d_Model_finished_16 rfl 1 rfl 17 rfl ?_
    refine z_iald S hK rm_23 0 rC_23 rfl (in_cliR h1) d_Model_finished_17 18 rfl (s 23 0 x.toNatClampNeg) rfl ?_
    exact z_iret S hr hlk d_Model_finished_18 (by unfold v_Model_finished; simp only [if_pos h1]) rfl
  · refine z_iconst S d_Model_finished_8 (-1) (by decide) 9 rfl ?_
    refine z_goto S d_Model_finished_9 18 (by decide) ?_
    exact z_iret S hr hlk d_Model_finished_18 (by unfold v_Model_finished; simp only [if_neg h1]) rfl
theorem d_Model_result_0 : decode prog_11_method_40_code 0 = .ok (.aload_n 0, 1) := by decide +kernel
theorem d_Model_result_1 : decode prog_11_method_40_code 1 = .ok (.iload_n 1, 1) := by decide +kernel
theorem d_Model_result_2 : decode prog_11_method_40_code 2 = .ok (.invokevirtual 147, 3) := by decide +kernel
theorem d_Model_result_5 : decode prog_11_method_40_code 5 = .ok (.ifCond .eq 7, 3) := by decide +kernel
theorem d_Model_result_8 : decode prog_11_method_40_code 8 = .ok (.iconst 0, 1) := by decide +kernel
theorem d_Model_result_9 : decode prog_11_method_40_code 9 = .ok (.goto 9, 3) := by decide +kernel
theorem d_Model_result_12 : decode prog_11_method_40_code 12 = .ok (.aload_n 0, 1) := by decide +kernel
theorem d_Model_result_13 : decode prog_11_method_40_code 13 = .ok (.getfield 72, 3) := by decide +kernel
theorem d_Model_result_16 : decode prog_11_method_40_code 16 = .ok (.iload_n 1, 1) := by decide +kernel
theorem d_Model_result_17 : decode prog_11_method_40_code 17 = .ok (.iaload, 1) := by decide +kernel
theorem d_Model_result_18 : decode prog_11_method_40_code 18 = .ok (.ireturn, 1) := by decide +kernel
def v_Model_result (x0 : Int32) (x : Int32) : Int32 := if (v_Model_noClient x) = 0 then (x0) else 0
set_option maxHeartbeats 4000000 in
set_option maxRecDepth 100000 in
theorem c_Model_result {l : Launch} {D : va_G} {K : Nat → ClassId} {ad : Nat → Nat → Nat} {s : S3} {x : Int32} (hJ : zw_J (rRL) ad) : zM l y_Model_result ws_Model_result ({ frames := 1, cells := 0, slots := 0, locals := 21 }) D zCl (zTys K) (rRL) ad [.ref (ad 0 0), .int x] (rC K ad s) (some (.int (v_Model_result (s 24 0 x.toNatClampNeg) x))) (rC K ad s) := by
  refine zM.of (cc := prog_11_method_40_code) (maxL := 2) (ret := (Option.some Jvm.ClassFile.FieldType.int)) (by decide) rfl (Nat.le_of_ble_eq_true rfl) ?_
  intro pP eE U mM bL mT cO S hr hlk hK
  have hts := S.2.2.2.2
  have ht := fun w h => hts w (List.mem_cons_of_mem _ h)
  refine z_aload_n S d_Model_result_0 rfl 0 rfl 1 rfl ?_
  refine z_iload_n S d_Model_result_1 rfl 1 rfl 2 rfl ?_
  refine z_callV S hK (As := [.int x]) (rest := []) (c_Model_noClient (x := x) hJ) (cw_Model_noClient hts w_702 rfl rfl ⟨(Nat.le_of_ble_eq_true rfl), (Nat.le_of_ble_eq_true rfl)⟩) rm_0 rC_0 rfl rfl rfl (Nat.le_of_ble_eq_true rfl) d_Model_result_2 5 rfl [.int (v_Model_noClient x)] rfl ?_
  refine z_if_eq S d_Model_result_5 12 (by decide) 8 rfl (fun h1 => ?_) (fun h1 => ?_)
  · refine z_aload_n S d_Model_result_12 rfl 0 rfl 13 rfl ?_
    refine z_get S hK hin_Model rm_0 rC_0 rfl 24 (Nat.le_of_ble_eq_true rfl) (ht _ w_564) (fun _ h => h) d_Model_result_13 16 rfl (.ref (ad 24 0)) rfl ?_
    refine z_iload_n S d_Model_result_16 rfl 1 rfl 17 rfl ?_
    refine z_iald S hK rm_24 0 rC_24 rfl (in_cliR h1) d_Model_result_17 18 rfl (s 24 0 x.toNatClampNeg) rfl ?_
    exact z_iret S hr hlk d_Model_result_18 (by unfold v_Model_result; simp only [if_pos h1]) rfl
  · refine z_iconst S d_Model_result_8 0 (by decide) 9 rfl ?_
    refine z_goto S d_Model_result_9 18 (by decide) ?_
    exact z_iret S hr hlk d_Model_result_18 (by unfold v_Model_result; simp only [if_neg h1]) rfl
theorem d_Model_cell_0 : decode prog_11_method_37_code 0 = .ok (.aload_n 0, 1) := by decide +kernel
theorem d_Model_cell_1 : decode prog_11_method_37_code 1 = .ok (.iload_n 1, 1) := by decide +kernel
theorem d_Model_cell_2 : decode prog_11_method_37_code 2 = .ok (.invokevirtual 138, 3) := by decide +kernel
theorem d_Model_cell_5 : decode prog_11_method_37_code 5 = .ok (.ifCond .ne 12, 3) := by decide +kernel
theorem d_Model_cell_8 : decode prog_11_method_37_code 8 = .ok (.iload_n 2, 1) := by decide +kernel
theorem d_Model_cell_9 : decode prog_11_method_37_code 9 = .ok (.ifCond .lt 8, 3) := by decide +kernel
theorem d_Model_cell_12 : decode prog_11_method_37_code 12 = .ok (.iload_n 2, 1) := by decide +kernel
theorem d_Model_cell_13 : decode prog_11_method_37_code 13 = .ok (.iconst 3, 1) := by decide +kernel
theorem d_Model_cell_14 : decode prog_11_method_37_code 14 = .ok (.if_icmp .le 7, 3) := by decide +kernel
theorem d_Model_cell_17 : decode prog_11_method_37_code 17 = .ok (.iconst 0, 1) := by decide +kernel
theorem d_Model_cell_18 : decode prog_11_method_37_code 18 = .ok (.goto 15, 3) := by decide +kernel
theorem d_Model_cell_21 : decode prog_11_method_37_code 21 = .ok (.aload_n 0, 1) := by decide +kernel
theorem d_Model_cell_22 : decode prog_11_method_37_code 22 = .ok (.iload_n 1, 1) := by decide +kernel
theorem d_Model_cell_23 : decode prog_11_method_37_code 23 = .ok (.iload_n 2, 1) := by decide +kernel
theorem d_Model_cell_24 : decode prog_11_method_37_code 24 = .ok (.aload_n 0, 1) := by decide +kernel
theorem d_Model_cell_25 : decode prog_11_method_37_code 25 = .ok (.getfield 56, 3) := by decide +kernel
theorem d_Model_cell_28 : decode prog_11_method_37_code 28 = .ok (.iload_n 1, 1) := by decide +kernel
theorem d_Model_cell_29 : decode prog_11_method_37_code 29 = .ok (.iaload, 1) := by decide +kernel
theorem d_Model_cell_30 : decode prog_11_method_37_code 30 = .ok (.invokevirtual 119, 3) := by decide +kernel
theorem d_Model_cell_33 : decode prog_11_method_37_code 33 = .ok (.ireturn, 1) := by decide +kernel
def v_Model_cell (s : S3) (x : Int32) (k : Int32) : Int32 := if (v_Model_noServer (s 0 0 0) x) = 0 then (if k < 0 then 0 else if k ≤ 3 then (hdF (s 5 0) (s 6 0) (s 20 0) x k ((s 19 0 x.toNatClampNeg).toNatClampNeg)) else 0) else 0
set_option maxHeartbeats 4000000 in
set_option maxRecDepth 100000 in
theorem c_Model_cell {l : Launch} {D : va_G} {K : Nat → ClassId} {ad : Nat → Nat → Nat} {s : S3} {x k : Int32} (hJ : zw_J (rRL) ad) (hN : vp_in (s 0 0 0) 6) (hla : ∀ j, vp_in (s 19 0 j) 180) (hd : ∀ j, vp_in (s 20 0 j) 512) : zM l y_Model_cell ws_Model_cell ({ frames := 1, cells := 0, slots := 0, locals := 25 }) D zCl (zTys K) (rRL) ad [.ref (ad 0 0), .int x, .int k] (rC K ad s) (some (.int (v_Model_cell s x k))) (rC K ad s) := by
  refine zM.of (cc := prog_11_method_37_code) (maxL := 3) (ret := (Option.some Jvm.ClassFile.FieldType.int)) (by decide) rfl (Nat.le_of_ble_eq_true rfl) ?_
  intro pP eE U mM bL mT cO S hr hlk hK
  have hts := S.2.2.2.2
  have ht := fun w h => hts w (List.mem_cons_of_mem _ h)
  refine z_aload_n S d_Model_cell_0 rfl 0 rfl 1 rfl ?_
  refine z_iload_n S d_Model_cell_1 rfl 1 rfl 2 rfl ?_
  refine z_callV S hK (As := [.int x]) (rest := []) (c_Model_noServer (x := x) hJ) (cw_Model_noServer hts w_670 rfl rfl ⟨(Nat.le_of_ble_eq_true rfl), (Nat.le_of_ble_eq_true rfl)⟩) rm_0 rC_0 rfl rfl rfl (Nat.le_of_ble_eq_true rfl) d_Model_cell_2 5 rfl [.int (v_Model_noServer (s 0 0 0) x)] rfl ?_
  refine z_if_ne S d_Model_cell_5 17 (by decide) 8 rfl (fun h1 => ?_) (fun h1 => ?_)
  · refine z_iconst S d_Model_cell_17 0 (by decide) 18 rfl ?_
    refine z_goto S d_Model_cell_18 33 (by decide) ?_
    exact z_iret S hr hlk d_Model_cell_33 (by unfold v_Model_cell; simp only [if_neg h1]) rfl
  · refine z_iload_n S d_Model_cell_8 rfl 2 rfl 9 rfl ?_
    refine z_if_lt S d_Model_cell_9 17 (by decide) 12 rfl (fun h2 => ?_) (fun h2 => ?_)
    · refine z_iconst S d_Model_cell_17 0 (by decide) 18 rfl ?_
      refine z_goto S d_Model_cell_18 33 (by decide) ?_
      exact z_iret S hr hlk d_Model_cell_33 (by unfold v_Model_cell; simp only [if_pos h1, if_pos h2]) rfl
    · refine z_iload_n S d_Model_cell_12 rfl 2 rfl 13 rfl ?_
      refine z_iconst S d_Model_cell_13 3 (by decide) 14 rfl ?_
      refine z_icmp_le S d_Model_cell_14 21 (by decide) 17 rfl (fun h3 => ?_) (fun h3 => ?_)
      · refine z_aload_n S d_Model_cell_21 rfl 0 rfl 22 rfl ?_
        refine z_iload_n S d_Model_cell_22 rfl 1 rfl 23 rfl ?_
        refine z_iload_n S d_Model_cell_23 rfl 2 rfl 24 rfl ?_
        refine z_aload_n S d_Model_cell_24 rfl 0 rfl 25 rfl ?_
        refine z_get S hK hin_Model rm_0 rC_0 rfl 19 (Nat.le_of_ble_eq_true rfl) (ht _ w_559) (fun _ h => h) d_Model_cell_25 28 rfl (.ref (ad 19 0)) rfl ?_
        refine z_iload_n S d_Model_cell_28 rfl 1 rfl 29 rfl ?_
        refine z_iald S hK rm_19 0 rC_19 rfl (in_srvR hN h1) d_Model_cell_29 30 rfl (s 19 0 x.toNatClampNeg) rfl ?_
        refine z_callV S hK (As := [.int x, .int k, .int (s 19 0 x.toNatClampNeg)]) (rest := []) (c_Model_held (x := x) (k := k) (m := s 19 0 x.toNatClampNeg) hJ (in_srvR hN h1) (vp_mono (hla _) (by omega)) hd) (cw_Model_held hts w_758 rfl rfl ⟨(Nat.le_of_ble_eq_true rfl), (Nat.le_of_ble_eq_true rfl)⟩) rm_0 rC_0 rfl rfl rfl (Nat.le_of_ble_eq_true rfl) d_Model_cell_30 33 rfl [.int (hdF (s 5 0) (s 6 0) (s 20 0) x k ((s 19 0 x.toNatClampNeg).toNatClampNeg))] rfl ?_
        exact z_iret S hr hlk d_Model_cell_33 (by unfold v_Model_cell; simp only [if_pos h1, if_neg h2, if_pos h3]) rfl
      · refine z_iconst S d_Model_cell_17 0 (by decide) 18 rfl ?_
        refine z_goto S d_Model_cell_18 33 (by decide) ?_
        exact z_iret S hr hlk d_Model_cell_33 (by unfold v_Model_cell; simp only [if_pos h1, if_neg h2, if_neg h3]) rfl
theorem d_Model_role_0 : decode prog_11_method_36_code 0 = .ok (.aload_n 0, 1) := by decide +kernel
theorem d_Model_role_1 : decode prog_11_method_36_code 1 = .ok (.iload_n 1, 1) := by decide +kernel
theorem d_Model_role_2 : decode prog_11_method_36_code 2 = .ok (.invokevirtual 138, 3) := by decide +kernel
theorem d_Model_role_5 : decode prog_11_method_36_code 5 = .ok (.ifCond .eq 5, 3) := by decide +kernel
theorem d_Model_role_8 : decode prog_11_method_36_code 8 = .ok (.iconst (-1), 1) := by decide +kernel
theorem d_Model_role_9 : decode prog_11_method_36_code 9 = .ok (.ireturn, 1) := by decide +kernel
theorem d_Model_role_10 : decode prog_11_method_36_code 10 = .ok (.bipush 6, 2) := by decide +kernel
theorem d_Model_role_12 : decode prog_11_method_36_code 12 = .ok (.istore_n 2, 1) := by decide +kernel
theorem d_Model_role_13 : decode prog_11_method_36_code 13 = .ok (.aload_n 0, 1) := by decide +kernel
theorem d_Model_role_14 : decode prog_11_method_36_code 14 = .ok (.getfield 26, 3) := by decide +kernel
theorem d_Model_role_17 : decode prog_11_method_36_code 17 = .ok (.iload_n 1, 1) := by decide +kernel
theorem d_Model_role_18 : decode prog_11_method_36_code 18 = .ok (.iaload, 1) := by decide +kernel
theorem d_Model_role_19 : decode prog_11_method_36_code 19 = .ok (.ifCond .ne 8, 3) := by decide +kernel
theorem d_Model_role_22 : decode prog_11_method_36_code 22 = .ok (.iconst 0, 1) := by decide +kernel
theorem d_Model_role_23 : decode prog_11_method_36_code 23 = .ok (.istore_n 2, 1) := by decide +kernel
theorem d_Model_role_24 : decode prog_11_method_36_code 24 = .ok (.goto 69, 3) := by decide +kernel
theorem d_Model_role_27 : decode prog_11_method_36_code 27 = .ok (.aload_n 0, 1) := by decide +kernel
theorem d_Model_role_28 : decode prog_11_method_36_code 28 = .ok (.getfield 29, 3) := by decide +kernel
theorem d_Model_role_31 : decode prog_11_method_36_code 31 = .ok (.iload_n 1, 1) := by decide +kernel
theorem d_Model_role_32 : decode prog_11_method_36_code 32 = .ok (.iaload, 1) := by decide +kernel
theorem d_Model_role_33 : decode prog_11_method_36_code 33 = .ok (.iload_n 1, 1) := by decide +kernel
theorem d_Model_role_34 : decode prog_11_method_36_code 34 = .ok (.if_icmp .ne 34, 3) := by decide +kernel
theorem d_Model_role_37 : decode prog_11_method_36_code 37 = .ok (.aload_n 0, 1) := by decide +kernel
theorem d_Model_role_38 : decode prog_11_method_36_code 38 = .ok (.getfield 53, 3) := by decide +kernel
theorem d_Model_role_41 : decode prog_11_method_36_code 41 = .ok (.iload_n 1, 1) := by decide +kernel
theorem d_Model_role_42 : decode prog_11_method_36_code 42 = .ok (.iaload, 1) := by decide +kernel
theorem d_Model_role_43 : decode prog_11_method_36_code 43 = .ok (.ifCond .lt 7, 3) := by decide +kernel
theorem d_Model_role_46 : decode prog_11_method_36_code 46 = .ok (.iconst 3, 1) := by decide +kernel
theorem d_Model_role_47 : decode prog_11_method_36_code 47 = .ok (.goto 17, 3) := by decide +kernel
theorem d_Model_role_50 : decode prog_11_method_36_code 50 = .ok (.aload_n 0, 1) := by decide +kernel
theorem d_Model_role_51 : decode prog_11_method_36_code 51 = .ok (.getfield 44, 3) := by decide +kernel
theorem d_Model_role_54 : decode prog_11_method_36_code 54 = .ok (.iload_n 1, 1) := by decide +kernel
theorem d_Model_role_55 : decode prog_11_method_36_code 55 = .ok (.baload, 1) := by decide +kernel
theorem d_Model_role_56 : decode prog_11_method_36_code 56 = .ok (.ifCond .eq 7, 3) := by decide +kernel
theorem d_Model_role_59 : decode prog_11_method_36_code 59 = .ok (.iconst 1, 1) := by decide +kernel
theorem d_Model_role_60 : decode prog_11_method_36_code 60 = .ok (.goto 4, 3) := by decide +kernel
theorem d_Model_role_63 : decode prog_11_method_36_code 63 = .ok (.iconst 2, 1) := by decide +kernel
theorem d_Model_role_64 : decode prog_11_method_36_code 64 = .ok (.istore_n 2, 1) := by decide +kernel
theorem d_Model_role_65 : decode prog_11_method_36_code 65 = .ok (.goto 28, 3) := by decide +kernel
theorem d_Model_role_68 : decode prog_11_method_36_code 68 = .ok (.aload_n 0, 1) := by decide +kernel
theorem d_Model_role_69 : decode prog_11_method_36_code 69 = .ok (.getfield 32, 3) := by decide +kernel
theorem d_Model_role_72 : decode prog_11_method_36_code 72 = .ok (.iload_n 1, 1) := by decide +kernel
theorem d_Model_role_73 : decode prog_11_method_36_code 73 = .ok (.iaload, 1) := by decide +kernel
theorem d_Model_role_74 : decode prog_11_method_36_code 74 = .ok (.iload_n 1, 1) := by decide +kernel
theorem d_Model_role_75 : decode prog_11_method_36_code 75 = .ok (.if_icmp .ne 18, 3) := by decide +kernel
theorem d_Model_role_78 : decode prog_11_method_36_code 78 = .ok (.aload_n 0, 1) := by decide +kernel
theorem d_Model_role_79 : decode prog_11_method_36_code 79 = .ok (.getfield 47, 3) := by decide +kernel
theorem d_Model_role_82 : decode prog_11_method_36_code 82 = .ok (.iload_n 1, 1) := by decide +kernel
theorem d_Model_role_83 : decode prog_11_method_36_code 83 = .ok (.baload, 1) := by decide +kernel
theorem d_Model_role_84 : decode prog_11_method_36_code 84 = .ok (.ifCond .eq 7, 3) := by decide +kernel
theorem d_Model_role_87 : decode prog_11_method_36_code 87 = .ok (.iconst 4, 1) := by decide +kernel
theorem d_Model_role_88 : decode prog_11_method_36_code 88 = .ok (.goto 4, 3) := by decide +kernel
theorem d_Model_role_91 : decode prog_11_method_36_code 91 = .ok (.iconst 5, 1) := by decide +kernel
theorem d_Model_role_92 : decode prog_11_method_36_code 92 = .ok (.istore_n 2, 1) := by decide +kernel
theorem d_Model_role_93 : decode prog_11_method_36_code 93 = .ok (.aload_n 0, 1) := by decide +kernel
theorem d_Model_role_94 : decode prog_11_method_36_code 94 = .ok (.getfield 50, 3) := by decide +kernel
theorem d_Model_role_97 : decode prog_11_method_36_code 97 = .ok (.iload_n 1, 1) := by decide +kernel
theorem d_Model_role_98 : decode prog_11_method_36_code 98 = .ok (.baload, 1) := by decide +kernel
theorem d_Model_role_99 : decode prog_11_method_36_code 99 = .ok (.ifCond .eq 10, 3) := by decide +kernel
theorem d_Model_role_102 : decode prog_11_method_36_code 102 = .ok (.iload_n 2, 1) := by decide +kernel
theorem d_Model_role_103 : decode prog_11_method_36_code 103 = .ok (.bipush 8, 2) := by decide +kernel
theorem d_Model_role_105 : decode prog_11_method_36_code 105 = .ok (.iadd, 1) := by decide +kernel
theorem d_Model_role_106 : decode prog_11_method_36_code 106 = .ok (.goto 4, 3) := by decide +kernel
theorem d_Model_role_109 : decode prog_11_method_36_code 109 = .ok (.iload_n 2, 1) := by decide +kernel
theorem d_Model_role_110 : decode prog_11_method_36_code 110 = .ok (.ireturn, 1) := by decide +kernel
def v_Model_role (x0 : Int32) (x1 : Int32) (x2 : Int32) (x3 : Int32) (x4 : Int32) (x5 : Int32) (x6 : Int32) (x7 : Int32) (x : Int32) : Int32 := if (v_Model_noServer (x0) x) = 0 then (if (x1) = 0 then (if (x2) = 0 then 0 else 0 + 8) else if (x3) = x then (if (x4) < 0 then (if (x5) = 0 then (if (x2) = 0 then 2 else 2 + 8) else if (x2) = 0 then 1 else 1 + 8) else if (x2) = 0 then 3 else 3 + 8) else if (x6) = x then (if (x7) = 0 then (if (x2) = 0 then 5 else 5 + 8) else if (x2) = 0 then 4 else 4 + 8) else if (x2) = 0 then 6 else 6 + 8) else (-1)
set_option maxHeartbeats 4000000 in
set_option maxRecDepth 100000 in
theorem c_Model_role {l : Launch} {D : va_G} {K : Nat → ClassId} {ad : Nat → Nat → Nat} {s : S3} {x : Int32} (hJ : zw_J (rRL) ad) (hN : vp_in (s 0 0 0) 6) : zM l y_Model_role ws_Model_role ({ frames := 1, cells := 0, slots := 0, locals := 21 }) D zCl (zTys K) (rRL) ad [.ref (ad 0 0), .int x] (rC K ad s) (some (.int (v_Model_role (s 0 0 0) (s 8 0 x.toNatClampNeg) (s 17 0 x.toNatClampNeg) (s 9 0 x.toNatClampNeg) (s 18 0 x.toNatClampNeg) (s 15 0 x.toNatClampNeg) (s 10 0 x.toNatClampNeg) (s 16 0 x.toNatClampNeg) x))) (rC K ad s) := by
  refine zM.of (cc := prog_11_method_36_code) (maxL := 3) (ret := (Option.some Jvm.ClassFile.FieldType.int)) (by decide) rfl (Nat.le_of_ble_eq_true rfl) ?_
  intro pP eE U mM bL mT cO S hr hlk hK
  have hts := S.2.2.2.2
  have ht := fun w h => hts w (List.mem_cons_of_mem _ h)
  refine z_aload_n S d_Model_role_0 rfl 0 rfl 1 rfl ?_
  refine z_iload_n S d_Model_role_1 rfl 1 rfl 2 rfl ?_
  refine z_callV S hK (As := [.int x]) (rest := []) (c_Model_noServer (x := x) hJ) (cw_Model_noServer hts w_670 rfl rfl ⟨(Nat.le_of_ble_eq_true rfl), (Nat.le_of_ble_eq_true rfl)⟩) rm_0 rC_0 rfl rfl rfl (Nat.le_of_ble_eq_true rfl) d_Model_role_2 5 rfl [.int (v_Model_noServer (s 0 0 0) x)] rfl ?_
  refine z_if_eq S d_Model_role_5 10 (by decide) 8 rfl (fun h1 => ?_) (fun h1 => ?_)
  · refine z_bipush S d_Model_role_10 6 (by decide) 12 rfl ?_
    refine z_istore_n S d_Model_role_12 rfl (Nat.le_of_ble_eq_true rfl) [(2, .int 6), (0, .ref (ad 0 0)), (1, .int x)] rfl 13 rfl ?_
    refine z_aload_n S d_Model_role_13 rfl 1 rfl 14 rfl ?_
    refine z_get S hK hin_Model rm_0 rC_0 rfl 8 (Nat.le_of_ble_eq_true rfl) (ht _ w_548) (fun _ h => h) d_Model_role_14 17 rfl (.ref (ad 8 0)) rfl ?_
    refine z_iload_n S d_Model_role_17 rfl 2 rfl 18 rfl ?_
    refine z_iald S hK rm_8 0 rC_8 rfl (vp_mono (in_srvR hN h1) (by omega)) d_Model_role_18 19 rfl (s 8 0 x.toNatClampNeg) rfl ?_
    refine z_if_ne S d_Model_role_19 27 (by decide) 22 rfl (fun h2 => ?_) (fun h2 => ?_)
    · refine z_aload_n S d_Model_role_27 rfl 1 rfl 28 rfl ?_
      refine z_get S hK hin_Model rm_0 rC_0 rfl 9 (Nat.le_of_ble_eq_true rfl) (ht _ w_549) (fun _ h => h) d_Model_role_28 31 rfl (.ref (ad 9 0)) rfl ?_
      refine z_iload_n S d_Model_role_31 rfl 2 rfl 32 rfl ?_
      refine z_iald S hK rm_9 0 rC_9 rfl (vp_mono (in_srvR hN h1) (by omega)) d_Model_role_32 33 rfl (s 9 0 x.toNatClampNeg) rfl ?_
      refine z_iload_n S d_Model_role_33 rfl 2 rfl 34 rfl ?_
      refine z_icmp_ne S d_Model_role_34 68 (by decide) 37 rfl (fun h3 => ?_) (fun h3 => ?_)
      · refine z_aload_n S d_Model_role_68 rfl 1 rfl 69 rfl ?_
        refine z_get S hK hin_Model rm_0 rC_0 rfl 10 (Nat.le_of_ble_eq_true rfl) (ht _ w_550) (fun _ h => h) d_Model_role_69 72 rfl (.ref (ad 10 0)) rfl ?_
        refine z_iload_n S d_Model_role_72 rfl 2 rfl 73 rfl ?_
        refine z_iald S hK rm_10 0 rC_10 rfl (vp_mono (in_srvR hN h1) (by omega)) d_Model_role_73 74 rfl (s 10 0 x.toNatClampNeg) rfl ?_
        refine z_iload_n S d_Model_role_74 rfl 2 rfl 75 rfl ?_
        refine z_icmp_ne S d_Model_role_75 93 (by decide) 78 rfl (fun h4 => ?_) (fun h4 => ?_)
        · refine z_aload_n S d_Model_role_93 rfl 1 rfl 94 rfl ?_
          refine z_get S hK hin_Model rm_0 rC_0 rfl 17 (Nat.le_of_ble_eq_true rfl) (ht _ w_557) (fun _ h => h) d_Model_role_94 97 rfl (.ref (ad 17 0)) rfl ?_
          refine z_iload_n S d_Model_role_97 rfl 2 rfl 98 rfl ?_
          refine z_zald S hK rm_17 1 rC_17 rfl (in_srvR hN h1) d_Model_role_98 99 rfl (s 17 0 x.toNatClampNeg) rfl ?_
          refine z_if_eq S d_Model_role_99 109 (by decide) 102 rfl (fun h5 => ?_) (fun h5 => ?_)
          · refine z_iload_n S d_Model_role_109 rfl 0 rfl 110 rfl ?_
            exact z_iret S hr hlk d_Model_role_110 (by unfold v_Model_role; simp only [if_pos h1, if_neg h2, if_neg h3, if_neg h4, if_pos h5]) rfl
          · refine z_iload_n S d_Model_role_102 rfl 0 rfl 103 rfl ?_
            refine z_bipush S d_Model_role_103 8 (by decide) 105 rfl ?_
            refine z_iadd S d_Model_role_105 106 rfl ?_
            refine z_goto S d_Model_role_106 110 (by decide) ?_
            exact z_iret S hr hlk d_Model_role_110 (by unfold v_Model_role; simp only [if_pos h1, if_neg h2, if_neg h3, if_neg h4, if_neg h5]) rfl
        · refine z_aload_n S d_Model_role_78 rfl 1 rfl 79 rfl ?_
          refine z_get S hK hin_Model rm_0 rC_0 rfl 16 (Nat.le_of_ble_eq_true rfl) (ht _ w_556) (fun _ h => h) d_Model_role_79 82 rfl (.ref (ad 16 0)) rfl ?_
          refine z_iload_n S d_Model_role_82 rfl 2 rfl 83 rfl ?_
          refine z_zald S hK rm_16 1 rC_16 rfl (in_srvR hN h1) d_Model_role_83 84 rfl (s 16 0 x.toNatClampNeg) rfl ?_
          refine z_if_eq S d_Model_role_84 91 (by decide) 87 rfl (fun h6 => ?_) (fun h6 => ?_)
          · refine z_iconst S d_Model_role_91 5 (by decide) 92 rfl ?_
            refine z_istore_n S d_Model_role_92 rfl (Nat.le_of_ble_eq_true rfl) [(2, .int 5), (0, .ref (ad 0 0)), (1, .int x)] rfl 93 rfl ?_
            refine z_aload_n S d_Model_role_93 rfl 1 rfl 94 rfl ?_
            refine z_get S hK hin_Model rm_0 rC_0 rfl 17 (Nat.le_of_ble_eq_true rfl) (ht _ w_557) (fun _ h => h) d_Model_role_94 97 rfl (.ref (ad 17 0)) rfl ?_
            refine z_iload_n S d_Model_role_97 rfl 2 rfl 98 rfl ?_
            refine z_zald S hK rm_17 1 rC_17 rfl (in_srvR hN h1) d_Model_role_98 99 rfl (s 17 0 x.toNatClampNeg) rfl ?_
            refine z_if_eq S d_Model_role_99 109 (by decide) 102 rfl (fun h7 => ?_) (fun h7 => ?_)
            · refine z_iload_n S d_Model_role_109 rfl 0 rfl 110 rfl ?_
              exact z_iret S hr hlk d_Model_role_110 (by unfold v_Model_role; simp only [if_pos h1, if_neg h2, if_neg h3, if_pos h4, if_pos h6, if_pos h7]) rfl
            · refine z_iload_n S d_Model_role_102 rfl 0 rfl 103 rfl ?_
              refine z_bipush S d_Model_role_103 8 (by decide) 105 rfl ?_
              refine z_iadd S d_Model_role_105 106 rfl ?_
              refine z_goto S d_Model_role_106 110 (by decide) ?_
              exact z_iret S hr hlk d_Model_role_110 (by unfold v_Model_role; simp only [if_pos h1, if_neg h2, if_neg h3, if_pos h4, if_pos h6, if_neg h7]) rfl
          · refine z_iconst S d_Model_role_87 4 (by decide) 88 rfl ?_
            refine z_goto S d_Model_role_88 92 (by decide) ?_
            refine z_istore_n S d_Model_role_92 rfl (Nat.le_of_ble_eq_true rfl) [(2, .int 4), (0, .ref (ad 0 0)), (1, .int x)] rfl 93 rfl ?_
            refine z_aload_n S d_Model_role_93 rfl 1 rfl 94 rfl ?_
            refine z_get S hK hin_Model rm_0 rC_0 rfl 17 (Nat.le_of_ble_eq_true rfl) (ht _ w_557) (fun _ h => h) d_Model_role_94 97 rfl (.ref (ad 17 0)) rfl ?_
            refine z_iload_n S d_Model_role_97 rfl 2 rfl 98 rfl ?_
            refine z_zald S hK rm_17 1 rC_17 rfl (in_srvR hN h1) d_Model_role_98 99 rfl (s 17 0 x.toNatClampNeg) rfl ?_
            refine z_if_eq S d_Model_role_99 109 (by decide) 102 rfl (fun h8 => ?_) (fun h8 => ?_)
            · refine z_iload_n S d_Model_role_109 rfl 0 rfl 110 rfl ?_
              exact z_iret S hr hlk d_Model_role_110 (by unfold v_Model_role; simp only [if_pos h1, if_neg h2, if_neg h3, if_pos h4, if_neg h6, if_pos h8]) rfl
            · refine z_iload_n S d_Model_role_102 rfl 0 rfl 103 rfl ?_
              refine z_bipush S d_Model_role_103 8 (by decide) 105 rfl ?_
              refine z_iadd S d_Model_role_105 106 rfl ?_
              refine z_goto S d_Model_role_106 110 (by decide) ?_
              exact z_iret S hr hlk d_Model_role_110 (by unfold v_Model_role; simp only [if_pos h1, if_neg h2, if_neg h3, if_pos h4, if_neg h6, if_neg h8]) rfl
      · refine z_aload_n S d_Model_role_37 rfl 1 rfl 38 rfl ?_
        refine z_get S hK hin_Model rm_0 rC_0 rfl 18 (Nat.le_of_ble_eq_true rfl) (ht _ w_558) (fun _ h => h) d_Model_role_38 41 rfl (.ref (ad 18 0)) rfl ?_
        refine z_iload_n S d_Model_role_41 rfl 2 rfl 42 rfl ?_
        refine z_iald S hK rm_18 0 rC_18 rfl (in_srvR hN h1) d_Model_role_42 43 rfl (s 18 0 x.toNatClampNeg) rfl ?_
        refine z_if_lt S d_Model_role_43 50 (by decide) 46 rfl (fun h9 => ?_) (fun h9 => ?_)
        · refine z_aload_n S d_Model_role_50 rfl 1 rfl 51 rfl ?_
          refine z_get S hK hin_Model rm_0 rC_0 rfl 15 (Nat.le_of_ble_eq_true rfl) (ht _ w_555) (fun _ h => h) d_Model_role_51 54 rfl (.ref (ad 15 0)) rfl ?_
          refine z_iload_n S d_Model_role_54 rfl 2 rfl 55 rfl ?_
          refine z_zald S hK rm_15 1 rC_15 rfl (in_srvR hN h1) d_Model_role_55 56 rfl (s 15 0 x.toNatClampNeg) rfl ?_
          refine z_if_eq S d_Model_role_56 63 (by decide) 59 rfl (fun h10 => ?_) (fun h10 => ?_)
          · refine z_iconst S d_Model_role_63 2 (by decide) 64 rfl ?_
            refine z_istore_n S d_Model_role_64 rfl (Nat.le_of_ble_eq_true rfl) [(2, .int 2), (0, .ref (ad 0 0)), (1, .int x)] rfl 65 rfl ?_
            refine z_goto S d_Model_role_65 93 (by decide) ?_
            refine z_aload_n S d_Model_role_93 rfl 1 rfl 94 rfl ?_
            refine z_get S hK hin_Model rm_0 rC_0 rfl 17 (Nat.le_of_ble_eq_true rfl) (ht _ w_557) (fun _ h => h) d_Model_role_94 97 rfl (.ref (ad 17 0)) rfl ?_
            refine z_iload_n S d_Model_role_97 rfl 2 rfl 98 rfl ?_
            refine z_zald S hK rm_17 1 rC_17 rfl (in_srvR hN h1) d_Model_role_98 99 rfl (s 17 0 x.toNatClampNeg) rfl ?_
            refine z_if_eq S d_Model_role_99 109 (by decide) 102 rfl (fun h11 => ?_) (fun h11 => ?_)
            · refine z_iload_n S d_Model_role_109 rfl 0 rfl 110 rfl ?_
              exact z_iret S hr hlk d_Model_role_110 (by unfold v_Model_role; simp only [if_pos h1, if_neg h2, if_pos h3, if_pos h9, if_pos h10, if_pos h11]) rfl
            · refine z_iload_n S d_Model_role_102 rfl 0 rfl 103 rfl ?_
              refine z_bipush S d_Model_role_103 8 (by decide) 105 rfl ?_
              refine z_iadd S d_Model_role_105 106 rfl ?_
              refine z_goto S d_Model_role_106 110 (by decide) ?_
              exact z_iret S hr hlk d_Model_role_110 (by unfold v_Model_role; simp only [if_pos h1, if_neg h2, if_pos h3, if_pos h9, if_pos h10, if_neg h11]) rfl
          · refine z_iconst S d_Model_role_59 1 (by decide) 60 rfl ?_
            refine z_goto S d_Model_role_60 64 (by decide) ?_
            refine z_istore_n S d_Model_role_64 rfl (Nat.le_of_ble_eq_true rfl) [(2, .int 1), (0, .ref (ad 0 0)), (1, .int x)] rfl 65 rfl ?_
            refine z_goto S d_Model_role_65 93 (by decide) ?_
            refine z_aload_n S d_Model_role_93 rfl 1 rfl 94 rfl ?_
            refine z_get S hK hin_Model rm_0 rC_0 rfl 17 (Nat.le_of_ble_eq_true rfl) (ht _ w_557) (fun _ h => h) d_Model_role_94 97 rfl (.ref (ad 17 0)) rfl ?_
            refine z_iload_n S d_Model_role_97 rfl 2 rfl 98 rfl ?_
            refine z_zald S hK rm_17 1 rC_17 rfl (in_srvR hN h1) d_Model_role_98 99 rfl (s 17 0 x.toNatClampNeg) rfl ?_
            refine z_if_eq S d_Model_role_99 109 (by decide) 102 rfl (fun h12 => ?_) (fun h12 => ?_)
            · refine z_iload_n S d_Model_role_109 rfl 0 rfl 110 rfl ?_
              exact z_iret S hr hlk d_Model_role_110 (by unfold v_Model_role; simp only [if_pos h1, if_neg h2, if_pos h3, if_pos h9, if_neg h10, if_pos h12]) rfl
            · refine z_iload_n S d_Model_role_102 rfl 0 rfl 103 rfl ?_
              refine z_bipush S d_Model_role_103 8 (by decide) 105 rfl ?_
              refine z_iadd S d_Model_role_105 106 rfl ?_
              refine z_goto S d_Model_role_106 110 (by decide) ?_
              exact z_iret S hr hlk d_Model_role_110 (by unfold v_Model_role; simp only [if_pos h1, if_neg h2, if_pos h3, if_pos h9, if_neg h10, if_neg h12]) rfl
        · refine z_iconst S d_Model_role_46 3 (by decide) 47 rfl ?_
          refine z_goto S d_Model_role_47 64 (by decide) ?_
          refine z_istore_n S d_Model_role_64 rfl (Nat.le_of_ble_eq_true rfl) [(2, .int 3), (0, .ref (ad 0 0)), (1, .int x)] rfl 65 rfl ?_
          refine z_goto S d_Model_role_65 93 (by decide) ?_
          refine z_aload_n S d_Model_role_93 rfl 1 rfl 94 rfl ?_
          refine z_get S hK hin_Model rm_0 rC_0 rfl 17 (Nat.le_of_ble_eq_true rfl) (ht _ w_557) (fun _ h => h) d_Model_role_94 97 rfl (.ref (ad 17 0)) rfl ?_
          refine z_iload_n S d_Model_role_97 rfl 2 rfl 98 rfl ?_
          refine z_zald S hK rm_17 1 rC_17 rfl (in_srvR hN h1) d_Model_role_98 99 rfl (s 17 0 x.toNatClampNeg) rfl ?_
          refine z_if_eq S d_Model_role_99 109 (by decide) 102 rfl (fun h13 => ?_) (fun h13 => ?_)
          · refine z_iload_n S d_Model_role_109 rfl 0 rfl 110 rfl ?_
            exact z_iret S hr hlk d_Model_role_110 (by unfold v_Model_role; simp only [if_pos h1, if_neg h2, if_pos h3, if_neg h9, if_pos h13]) rfl
          · refine z_iload_n S d_Model_role_102 rfl 0 rfl 103 rfl ?_
            refine z_bipush S d_Model_role_103 8 (by decide) 105 rfl ?_
            refine z_iadd S d_Model_role_105 106 rfl ?_
            refine z_goto S d_Model_role_106 110 (by decide) ?_
            exact z_iret S hr hlk d_Model_role_110 (by unfold v_Model_role; simp only [if_pos h1, if_neg h2, if_pos h3, if_neg h9, if_neg h13]) rfl
    · refine z_iconst S d_Model_role_22 0 (by decide) 23 rfl ?_
      refine z_istore_n S d_Model_role_23 rfl (Nat.le_of_ble_eq_true rfl) [(2, .int 0), (0, .ref (ad 0 0)), (1, .int x)] rfl 24 rfl ?_
      refine z_goto S d_Model_role_24 93 (by decide) ?_
      refine z_aload_n S d_Model_role_93 rfl 1 rfl 94 rfl ?_
      refine z_get S hK hin_Model rm_0 rC_0 rfl 17 (Nat.le_of_ble_eq_true rfl) (ht _ w_557) (fun _ h => h) d_Model_role_94 97 rfl (.ref (ad 17 0)) rfl ?_
      refine z_iload_n S d_Model_role_97 rfl 2 rfl 98 rfl ?_
      refine z_zald S hK rm_17 1 rC_17 rfl (in_srvR hN h1) d_Model_role_98 99 rfl (s 17 0 x.toNatClampNeg) rfl ?_
      refine z_if_eq S d_Model_role_99 109 (by decide) 102 rfl (fun h14 => ?_) (fun h14 => ?_)
      · refine z_iload_n S d_Model_role_109 rfl 0 rfl 110 rfl ?_
        exact z_iret S hr hlk d_Model_role_110 (by unfold v_Model_role; simp only [if_pos h1, if_pos h2, if_pos h14]) rfl
      · refine z_iload_n S d_Model_role_102 rfl 0 rfl 103 rfl ?_
        refine z_bipush S d_Model_role_103 8 (by decide) 105 rfl ?_
        refine z_iadd S d_Model_role_105 106 rfl ?_
        refine z_goto S d_Model_role_106 110 (by decide) ?_
        exact z_iret S hr hlk d_Model_role_110 (by unfold v_Model_role; simp only [if_pos h1, if_pos h2, if_neg h14]) rfl
  · refine z_iconst S d_Model_role_8 (-1) (by decide) 9 rfl ?_
    exact z_iret S hr hlk d_Model_role_9 (by unfold v_Model_role; simp only [if_neg h1]) rfl
